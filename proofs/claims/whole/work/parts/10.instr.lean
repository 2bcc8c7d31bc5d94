theorem up_uu {f : Nat → Int32} {k : Nat} {a b : Int32} : upd (upd f k a) k b = upd f k b := by
  funext i
  unfold upd
  split <;> rfl
theorem sp_rd8 (c : Int64) (i : Int32) : vp_in (sp_rm (sp_dg c i) 8) 8 := by
  obtain ⟨k, hk, e⟩ := sp_dg16 c i
  rw [e]
  exact sp_rm8 k hk
theorem sp_rd6 (c : Int64) (i : Int32) : vp_in (sp_rm (sp_dg c i) 6) 6 := by
  obtain ⟨k, hk, e⟩ := sp_dg16 c i
  rw [e]
  exact sp_rm6 k hk
theorem d_ms_loadSecret_0 : decode b_ms_loadSecret 0 = .ok (.aload_n 0, 1) := by decide +kernel
theorem d_ms_loadSecret_1 : decode b_ms_loadSecret 1 = .ok (.getfield 30, 3) := by decide +kernel
theorem d_ms_loadSecret_4 : decode b_ms_loadSecret 4 = .ok (.iload_n 1, 1) := by decide +kernel
theorem d_ms_loadSecret_5 : decode b_ms_loadSecret 5 = .ok (.invokevirtual 141, 3) := by decide +kernel
theorem d_ms_loadSecret_8 : decode b_ms_loadSecret 8 = .ok (.ifCond .ne 6, 3) := by decide +kernel
theorem d_ms_loadSecret_11 : decode b_ms_loadSecret 11 = .ok (.bipush 6, 2) := by decide +kernel
theorem d_ms_loadSecret_13 : decode b_ms_loadSecret 13 = .ok (.ireturn, 1) := by decide +kernel
theorem d_ms_loadSecret_14 : decode b_ms_loadSecret 14 = .ok (.aload_n 0, 1) := by decide +kernel
theorem d_ms_loadSecret_15 : decode b_ms_loadSecret 15 = .ok (.iload_n 1, 1) := by decide +kernel
theorem d_ms_loadSecret_16 : decode b_ms_loadSecret 16 = .ok (.invokevirtual 146, 3) := by decide +kernel
theorem d_ms_loadSecret_19 : decode b_ms_loadSecret 19 = .ok (.ifCond .ne 6, 3) := by decide +kernel
theorem d_ms_loadSecret_22 : decode b_ms_loadSecret 22 = .ok (.bipush 7, 2) := by decide +kernel
theorem d_ms_loadSecret_24 : decode b_ms_loadSecret 24 = .ok (.ireturn, 1) := by decide +kernel
theorem d_ms_loadSecret_25 : decode b_ms_loadSecret 25 = .ok (.aload_n 0, 1) := by decide +kernel
theorem d_ms_loadSecret_26 : decode b_ms_loadSecret 26 = .ok (.aload_n 0, 1) := by decide +kernel
theorem d_ms_loadSecret_27 : decode b_ms_loadSecret 27 = .ok (.getfield 30, 3) := by decide +kernel
theorem d_ms_loadSecret_30 : decode b_ms_loadSecret 30 = .ok (.getfield 151, 3) := by decide +kernel
theorem d_ms_loadSecret_33 : decode b_ms_loadSecret 33 = .ok (.iload_n 1, 1) := by decide +kernel
theorem d_ms_loadSecret_34 : decode b_ms_loadSecret 34 = .ok (.laload, 1) := by decide +kernel
theorem d_ms_loadSecret_35 : decode b_ms_loadSecret 35 = .ok (.putfield 81, 3) := by decide +kernel
theorem d_ms_loadSecret_38 : decode b_ms_loadSecret 38 = .ok (.iconst 0, 1) := by decide +kernel
theorem d_ms_loadSecret_39 : decode b_ms_loadSecret 39 = .ok (.ireturn, 1) := by decide +kernel
theorem d_ms_passOverIfZero_0 : decode b_ms_passOverIfZero 0 = .ok (.aload_n 0, 1) := by decide +kernel
theorem d_ms_passOverIfZero_1 : decode b_ms_passOverIfZero 1 = .ok (.getfield 81, 3) := by decide +kernel
theorem d_ms_passOverIfZero_4 : decode b_ms_passOverIfZero 4 = .ok (.lconst 0, 1) := by decide +kernel
theorem d_ms_passOverIfZero_5 : decode b_ms_passOverIfZero 5 = .ok (.lcmp, 1) := by decide +kernel
theorem d_ms_passOverIfZero_6 : decode b_ms_passOverIfZero 6 = .ok (.ifCond .ne 16, 3) := by decide +kernel
theorem d_ms_passOverIfZero_9 : decode b_ms_passOverIfZero 9 = .ok (.aload_n 0, 1) := by decide +kernel
theorem d_ms_passOverIfZero_10 : decode b_ms_passOverIfZero 10 = .ok (.getfield 37, 3) := by decide +kernel
theorem d_ms_passOverIfZero_13 : decode b_ms_passOverIfZero 13 = .ok (.aload_n 0, 1) := by decide +kernel
theorem d_ms_passOverIfZero_14 : decode b_ms_passOverIfZero 14 = .ok (.getfield 179, 3) := by decide +kernel
theorem d_ms_passOverIfZero_17 : decode b_ms_passOverIfZero 17 = .ok (.dup2, 1) := by decide +kernel
theorem d_ms_passOverIfZero_18 : decode b_ms_passOverIfZero 18 = .ok (.iaload, 1) := by decide +kernel
theorem d_ms_passOverIfZero_19 : decode b_ms_passOverIfZero 19 = .ok (.iload_n 1, 1) := by decide +kernel
theorem d_ms_passOverIfZero_20 : decode b_ms_passOverIfZero 20 = .ok (.iadd, 1) := by decide +kernel
theorem d_ms_passOverIfZero_21 : decode b_ms_passOverIfZero 21 = .ok (.iastore, 1) := by decide +kernel
theorem d_ms_passOverIfZero_22 : decode b_ms_passOverIfZero 22 = .ok (.return_, 1) := by decide +kernel
theorem d_ms_sealAcc_0 : decode b_ms_sealAcc 0 = .ok (.aload_n 0, 1) := by decide +kernel
theorem d_ms_sealAcc_1 : decode b_ms_sealAcc 1 = .ok (.getfield 30, 3) := by decide +kernel
theorem d_ms_sealAcc_4 : decode b_ms_sealAcc 4 = .ok (.invokevirtual 128, 3) := by decide +kernel
theorem d_ms_sealAcc_7 : decode b_ms_sealAcc 7 = .ok (.istore_n 2, 1) := by decide +kernel
theorem d_ms_sealAcc_8 : decode b_ms_sealAcc 8 = .ok (.iload_n 2, 1) := by decide +kernel
theorem d_ms_sealAcc_9 : decode b_ms_sealAcc 9 = .ok (.iconst (-1), 1) := by decide +kernel
theorem d_ms_sealAcc_10 : decode b_ms_sealAcc 10 = .ok (.if_icmp .ne 6, 3) := by decide +kernel
theorem d_ms_sealAcc_13 : decode b_ms_sealAcc 13 = .ok (.bipush 8, 2) := by decide +kernel
theorem d_ms_sealAcc_15 : decode b_ms_sealAcc 15 = .ok (.ireturn, 1) := by decide +kernel
theorem d_ms_sealAcc_16 : decode b_ms_sealAcc 16 = .ok (.aload_n 0, 1) := by decide +kernel
theorem d_ms_sealAcc_17 : decode b_ms_sealAcc 17 = .ok (.getfield 30, 3) := by decide +kernel
theorem d_ms_sealAcc_20 : decode b_ms_sealAcc 20 = .ok (.iload_n 2, 1) := by decide +kernel
theorem d_ms_sealAcc_21 : decode b_ms_sealAcc 21 = .ok (.iload_n 1, 1) := by decide +kernel
theorem d_ms_sealAcc_22 : decode b_ms_sealAcc 22 = .ok (.aload_n 0, 1) := by decide +kernel
theorem d_ms_sealAcc_23 : decode b_ms_sealAcc 23 = .ok (.getfield 23, 3) := by decide +kernel
theorem d_ms_sealAcc_26 : decode b_ms_sealAcc 26 = .ok (.iload_n 1, 1) := by decide +kernel
theorem d_ms_sealAcc_27 : decode b_ms_sealAcc 27 = .ok (.invokevirtual 134, 3) := by decide +kernel
theorem d_ms_sealAcc_30 : decode b_ms_sealAcc 30 = .ok (.aload_n 0, 1) := by decide +kernel
theorem d_ms_sealAcc_31 : decode b_ms_sealAcc 31 = .ok (.getfield 81, 3) := by decide +kernel
theorem d_ms_sealAcc_34 : decode b_ms_sealAcc 34 = .ok (.invokevirtual 137, 3) := by decide +kernel
theorem d_ms_sealAcc_37 : decode b_ms_sealAcc 37 = .ok (.iconst 0, 1) := by decide +kernel
theorem d_ms_sealAcc_38 : decode b_ms_sealAcc 38 = .ok (.ireturn, 1) := by decide +kernel
theorem d_ms_doInstruction_0 : decode b_ms_doInstruction 0 = .ok (.aload_n 0, 1) := by decide +kernel
theorem d_ms_doInstruction_1 : decode b_ms_doInstruction 1 = .ok (.getfield 78, 3) := by decide +kernel
theorem d_ms_doInstruction_4 : decode b_ms_doInstruction 4 = .ok (.bipush 100, 2) := by decide +kernel
theorem d_ms_doInstruction_6 : decode b_ms_doInstruction 6 = .ok (.if_icmp .lt 5, 3) := by decide +kernel
theorem d_ms_doInstruction_9 : decode b_ms_doInstruction 9 = .ok (.iconst 3, 1) := by decide +kernel
theorem d_ms_doInstruction_10 : decode b_ms_doInstruction 10 = .ok (.ireturn, 1) := by decide +kernel
theorem d_ms_doInstruction_11 : decode b_ms_doInstruction 11 = .ok (.aload_n 0, 1) := by decide +kernel
theorem d_ms_doInstruction_12 : decode b_ms_doInstruction 12 = .ok (.invokevirtual 185, 3) := by decide +kernel
theorem d_ms_doInstruction_15 : decode b_ms_doInstruction 15 = .ok (.tableswitch 171 0 8 #[49, 61, 76, 90, 107, 119, 137, 150, 160], 49) := by decide +kernel
theorem d_ms_doInstruction_64 : decode b_ms_doInstruction 64 = .ok (.aload_n 0, 1) := by decide +kernel
theorem d_ms_doInstruction_65 : decode b_ms_doInstruction 65 = .ok (.dup, 1) := by decide +kernel
theorem d_ms_doInstruction_66 : decode b_ms_doInstruction 66 = .ok (.getfield 179, 3) := by decide +kernel
theorem d_ms_doInstruction_69 : decode b_ms_doInstruction 69 = .ok (.iconst 1, 1) := by decide +kernel
theorem d_ms_doInstruction_70 : decode b_ms_doInstruction 70 = .ok (.isub, 1) := by decide +kernel
theorem d_ms_doInstruction_71 : decode b_ms_doInstruction 71 = .ok (.putfield 179, 3) := by decide +kernel
theorem d_ms_doInstruction_74 : decode b_ms_doInstruction 74 = .ok (.iconst 0, 1) := by decide +kernel
theorem d_ms_doInstruction_75 : decode b_ms_doInstruction 75 = .ok (.ireturn, 1) := by decide +kernel
theorem d_ms_doInstruction_76 : decode b_ms_doInstruction 76 = .ok (.aload_n 0, 1) := by decide +kernel
theorem d_ms_doInstruction_77 : decode b_ms_doInstruction 77 = .ok (.aload_n 0, 1) := by decide +kernel
theorem d_ms_doInstruction_78 : decode b_ms_doInstruction 78 = .ok (.getfield 179, 3) := by decide +kernel
theorem d_ms_doInstruction_81 : decode b_ms_doInstruction 81 = .ok (.iconst 1, 1) := by decide +kernel
theorem d_ms_doInstruction_82 : decode b_ms_doInstruction 82 = .ok (.iadd, 1) := by decide +kernel
theorem d_ms_doInstruction_83 : decode b_ms_doInstruction 83 = .ok (.aload_n 0, 1) := by decide +kernel
theorem d_ms_doInstruction_84 : decode b_ms_doInstruction 84 = .ok (.invokevirtual 188, 3) := by decide +kernel
theorem d_ms_doInstruction_87 : decode b_ms_doInstruction 87 = .ok (.invokevirtual 59, 3) := by decide +kernel
theorem d_ms_doInstruction_90 : decode b_ms_doInstruction 90 = .ok (.ireturn, 1) := by decide +kernel
theorem d_ms_doInstruction_91 : decode b_ms_doInstruction 91 = .ok (.aload_n 0, 1) := by decide +kernel
theorem d_ms_doInstruction_92 : decode b_ms_doInstruction 92 = .ok (.aload_n 0, 1) := by decide +kernel
theorem d_ms_doInstruction_93 : decode b_ms_doInstruction 93 = .ok (.invokevirtual 191, 3) := by decide +kernel
theorem d_ms_doInstruction_96 : decode b_ms_doInstruction 96 = .ok (.aload_n 0, 1) := by decide +kernel
theorem d_ms_doInstruction_97 : decode b_ms_doInstruction 97 = .ok (.invokevirtual 185, 3) := by decide +kernel
theorem d_ms_doInstruction_100 : decode b_ms_doInstruction 100 = .ok (.i2l, 1) := by decide +kernel
theorem d_ms_doInstruction_101 : decode b_ms_doInstruction 101 = .ok (.invokevirtual 194, 3) := by decide +kernel
theorem d_ms_doInstruction_104 : decode b_ms_doInstruction 104 = .ok (.ireturn, 1) := by decide +kernel
theorem d_ms_doInstruction_105 : decode b_ms_doInstruction 105 = .ok (.aload_n 0, 1) := by decide +kernel
theorem d_ms_doInstruction_106 : decode b_ms_doInstruction 106 = .ok (.aload_n 0, 1) := by decide +kernel
theorem d_ms_doInstruction_107 : decode b_ms_doInstruction 107 = .ok (.invokevirtual 188, 3) := by decide +kernel
theorem d_ms_doInstruction_110 : decode b_ms_doInstruction 110 = .ok (.invokevirtual 198, 3) := by decide +kernel
theorem d_ms_doInstruction_113 : decode b_ms_doInstruction 113 = .ok (.ifCond .eq 7, 3) := by decide +kernel
theorem d_ms_doInstruction_116 : decode b_ms_doInstruction 116 = .ok (.iconst 0, 1) := by decide +kernel
theorem d_ms_doInstruction_117 : decode b_ms_doInstruction 117 = .ok (.goto 4, 3) := by decide +kernel
theorem d_ms_doInstruction_120 : decode b_ms_doInstruction 120 = .ok (.iconst 5, 1) := by decide +kernel
theorem d_ms_doInstruction_121 : decode b_ms_doInstruction 121 = .ok (.ireturn, 1) := by decide +kernel
theorem d_ms_doInstruction_122 : decode b_ms_doInstruction 122 = .ok (.aload_n 0, 1) := by decide +kernel
theorem d_ms_doInstruction_123 : decode b_ms_doInstruction 123 = .ok (.aload_n 0, 1) := by decide +kernel
theorem d_ms_doInstruction_124 : decode b_ms_doInstruction 124 = .ok (.invokevirtual 185, 3) := by decide +kernel
theorem d_ms_doInstruction_127 : decode b_ms_doInstruction 127 = .ok (.bipush 8, 2) := by decide +kernel
theorem d_ms_doInstruction_129 : decode b_ms_doInstruction 129 = .ok (.irem, 1) := by decide +kernel
theorem d_ms_doInstruction_130 : decode b_ms_doInstruction 130 = .ok (.invokevirtual 201, 3) := by decide +kernel
theorem d_ms_doInstruction_133 : decode b_ms_doInstruction 133 = .ok (.ireturn, 1) := by decide +kernel
theorem d_ms_doInstruction_134 : decode b_ms_doInstruction 134 = .ok (.aload_n 0, 1) := by decide +kernel
theorem d_ms_doInstruction_135 : decode b_ms_doInstruction 135 = .ok (.aload_n 0, 1) := by decide +kernel
theorem d_ms_doInstruction_136 : decode b_ms_doInstruction 136 = .ok (.getfield 81, 3) := by decide +kernel
theorem d_ms_doInstruction_139 : decode b_ms_doInstruction 139 = .ok (.aload_n 0, 1) := by decide +kernel
theorem d_ms_doInstruction_140 : decode b_ms_doInstruction 140 = .ok (.invokevirtual 185, 3) := by decide +kernel
theorem d_ms_doInstruction_143 : decode b_ms_doInstruction 143 = .ok (.i2l, 1) := by decide +kernel
theorem d_ms_doInstruction_144 : decode b_ms_doInstruction 144 = .ok (.invokestatic 158, 3) := by decide +kernel
theorem d_ms_doInstruction_147 : decode b_ms_doInstruction 147 = .ok (.putfield 81, 3) := by decide +kernel
theorem d_ms_doInstruction_150 : decode b_ms_doInstruction 150 = .ok (.iconst 0, 1) := by decide +kernel
theorem d_ms_doInstruction_151 : decode b_ms_doInstruction 151 = .ok (.ireturn, 1) := by decide +kernel
theorem d_ms_doInstruction_152 : decode b_ms_doInstruction 152 = .ok (.aload_n 0, 1) := by decide +kernel
theorem d_ms_doInstruction_153 : decode b_ms_doInstruction 153 = .ok (.aload_n 0, 1) := by decide +kernel
theorem d_ms_doInstruction_154 : decode b_ms_doInstruction 154 = .ok (.invokevirtual 191, 3) := by decide +kernel
theorem d_ms_doInstruction_157 : decode b_ms_doInstruction 157 = .ok (.aload_n 0, 1) := by decide +kernel
theorem d_ms_doInstruction_158 : decode b_ms_doInstruction 158 = .ok (.getfield 81, 3) := by decide +kernel
theorem d_ms_doInstruction_161 : decode b_ms_doInstruction 161 = .ok (.invokevirtual 194, 3) := by decide +kernel
theorem d_ms_doInstruction_164 : decode b_ms_doInstruction 164 = .ok (.ireturn, 1) := by decide +kernel
theorem d_ms_doInstruction_165 : decode b_ms_doInstruction 165 = .ok (.aload_n 0, 1) := by decide +kernel
theorem d_ms_doInstruction_166 : decode b_ms_doInstruction 166 = .ok (.aload_n 0, 1) := by decide +kernel
theorem d_ms_doInstruction_167 : decode b_ms_doInstruction 167 = .ok (.invokevirtual 185, 3) := by decide +kernel
theorem d_ms_doInstruction_170 : decode b_ms_doInstruction 170 = .ok (.invokevirtual 205, 3) := by decide +kernel
theorem d_ms_doInstruction_173 : decode b_ms_doInstruction 173 = .ok (.iconst 0, 1) := by decide +kernel
theorem d_ms_doInstruction_174 : decode b_ms_doInstruction 174 = .ok (.ireturn, 1) := by decide +kernel
theorem d_ms_doInstruction_175 : decode b_ms_doInstruction 175 = .ok (.aload_n 0, 1) := by decide +kernel
theorem d_ms_doInstruction_176 : decode b_ms_doInstruction 176 = .ok (.aload_n 0, 1) := by decide +kernel
theorem d_ms_doInstruction_177 : decode b_ms_doInstruction 177 = .ok (.invokevirtual 185, 3) := by decide +kernel
theorem d_ms_doInstruction_180 : decode b_ms_doInstruction 180 = .ok (.iconst 1, 1) := by decide +kernel
theorem d_ms_doInstruction_181 : decode b_ms_doInstruction 181 = .ok (.iadd, 1) := by decide +kernel
theorem d_ms_doInstruction_182 : decode b_ms_doInstruction 182 = .ok (.invokevirtual 208, 3) := by decide +kernel
theorem d_ms_doInstruction_185 : decode b_ms_doInstruction 185 = .ok (.ireturn, 1) := by decide +kernel
theorem d_ms_doInstruction_186 : decode b_ms_doInstruction 186 = .ok (.iconst 1, 1) := by decide +kernel
theorem d_ms_doInstruction_187 : decode b_ms_doInstruction 187 = .ok (.ireturn, 1) := by decide +kernel
set_option maxHeartbeats 4000000 in
set_option maxRecDepth 100000 in
theorem c_ms_loadSecret_m (l : Launch) (D : va_G) (cs : Nat → ClassId) (ad : Nat → Nat) (sz : Nat) (u : Sg) (j : Jx) (k : Int32) (h0 : sp_tk (sg_ma u) k = 0) : Met l y_ms_loadSecret (Cond.code y_ms_loadSecret b_ms_loadSecret 2 (some .int) :: TB) { frames := 4, cells := 0, slots := 0, locals := 90 } (va_Pc [.ref (ad 0), .int k] (xw_Pre D cs ad u j sz)) (vp_Si (fun r => r = 6)) 0 0 (fun _ => False) := by
  refine Met.ofW (cc := b_ms_loadSecret) (maxL := 2) (ret := (some .int)) (by decide) rfl ?_
  intro p e s m args below meth c s₁ B hml hv
  obtain ⟨rfl, hsz, hP, hK, hD, hN⟩ := hv
  have hx := B.exec
  have hb := B.bytes
  have hret := B.returns
  have hts := atoms_spec (ws := Cond.code y_ms_loadSecret b_ms_loadSecret 2 (some .int) :: TB) B.pre
  have hT : ∀ w ∈ TB, w.before _ s = true := fun w h => hts w (List.mem_cons_of_mem _ h)
  have hown : s.vm.findClass "MeasuredStages" = some m.cls := findClass_of_methodNamed B.named
  have hlocks := B.notSynchronized
  subst hsz
  have hl := lv_entry ([.ref (ad 0), .int k]) (n := 2) (Nat.le_of_ble_eq_true rfl)
  rw [lg_entry_eq]
  generalize (lg_sl ([.ref (ad 0), .int k]) ++ List.replicate (2 - (lg_sl ([.ref (ad 0), .int k])).length) Slot.unset).toArray = ls at hl ⊢
  have hl : lv_has ls 2 [(0, .ref (ad 0)), (1, .int k)] := hl
  refine lv_aload_n hx hb d_ms_loadSecret_0 rfl (lv_at hl 0 rfl) ?_
  refine va_get (D := D) (ci := 0) (v := .ref (ad 5)) (C := "MeasuredStages") (T := F_ms) (N := 12) hx hb hts (fun w h => List.mem_cons_of_mem _ (i_ms w h)) hown hK hP 0 rfl rfl 4 (by decide) (hT _ tb_73) (fun _ h9 => h9) rfl d_ms_loadSecret_1 ?_
  refine lv_iload_n hx hb d_ms_loadSecret_4 rfl (lv_at hl 1 rfl) ?_
  refine xw_rdi (v := sp_tk (sg_ma u) k) (As := [.int k]) (rest := []) ⟨hx, hb, hml, hown, hts⟩ (c_bl_isTaken l D cs ad _ u j k) tb_292 tb_293 tb_294 tb_3 tb_295 ⟨rfl, hd_bl_isTaken⟩ ⟨Nat.le_of_ble_eq_true rfl, Nat.le_of_ble_eq_true rfl⟩ rfl rfl hK hP hD hN 5 2 rfl rfl hl.1 rfl (Nat.le_of_ble_eq_true rfl) d_ms_loadSecret_5 ⟨Nat.zero_le _, Nat.zero_le _⟩ ?_
  refine lv_if_ne hx hb d_ms_loadSecret_8 (tgt := 14) (by decide) (fun z => absurd h0 z) (fun _ => ?_)
  refine lv_bipush (v := 6) hx hb d_ms_loadSecret_11 (by decide) ?_
  exact W.iret (v := 6) hx hb hret (fun t ht hW => ⟨_, rfl, rfl, ht⟩) (fun q h => by cases h) d_ms_loadSecret_13
set_option maxHeartbeats 4000000 in
set_option maxRecDepth 100000 in
theorem c_ms_loadSecret_s (l : Launch) (D : va_G) (cs : Nat → ClassId) (ad : Nat → Nat) (sz : Nat) (u : Sg) (j : Jx) (k : Int32) (hk : vp_in k 8) (h0 : sp_tk (sg_ma u) k = 1) (h1 : sp_on u k = 0) : Met l y_ms_loadSecret (Cond.code y_ms_loadSecret b_ms_loadSecret 2 (some .int) :: TB) { frames := 4, cells := 0, slots := 0, locals := 90 } (va_Pc [.ref (ad 0), .int k] (xw_Pre D cs ad u j sz)) (vp_Si (fun r => r = 7)) 0 0 (fun _ => False) := by
  refine Met.ofW (cc := b_ms_loadSecret) (maxL := 2) (ret := (some .int)) (by decide) rfl ?_
  intro p e s m args below meth c s₁ B hml hv
  obtain ⟨rfl, hsz, hP, hK, hD, hN⟩ := hv
  have hx := B.exec
  have hb := B.bytes
  have hret := B.returns
  have hts := atoms_spec (ws := Cond.code y_ms_loadSecret b_ms_loadSecret 2 (some .int) :: TB) B.pre
  have hT : ∀ w ∈ TB, w.before _ s = true := fun w h => hts w (List.mem_cons_of_mem _ h)
  have hown : s.vm.findClass "MeasuredStages" = some m.cls := findClass_of_methodNamed B.named
  have hlocks := B.notSynchronized
  subst hsz
  have hl := lv_entry ([.ref (ad 0), .int k]) (n := 2) (Nat.le_of_ble_eq_true rfl)
  rw [lg_entry_eq]
  generalize (lg_sl ([.ref (ad 0), .int k]) ++ List.replicate (2 - (lg_sl ([.ref (ad 0), .int k])).length) Slot.unset).toArray = ls at hl ⊢
  have hl : lv_has ls 2 [(0, .ref (ad 0)), (1, .int k)] := hl
  refine lv_aload_n hx hb d_ms_loadSecret_0 rfl (lv_at hl 0 rfl) ?_
  refine va_get (D := D) (ci := 0) (v := .ref (ad 5)) (C := "MeasuredStages") (T := F_ms) (N := 12) hx hb hts (fun w h => List.mem_cons_of_mem _ (i_ms w h)) hown hK hP 0 rfl rfl 4 (by decide) (hT _ tb_73) (fun _ h9 => h9) rfl d_ms_loadSecret_1 ?_
  refine lv_iload_n hx hb d_ms_loadSecret_4 rfl (lv_at hl 1 rfl) ?_
  refine xw_rdi (v := sp_tk (sg_ma u) k) (As := [.int k]) (rest := []) ⟨hx, hb, hml, hown, hts⟩ (c_bl_isTaken l D cs ad _ u j k) tb_292 tb_293 tb_294 tb_3 tb_295 ⟨rfl, hd_bl_isTaken⟩ ⟨Nat.le_of_ble_eq_true rfl, Nat.le_of_ble_eq_true rfl⟩ rfl rfl hK hP hD hN 5 2 rfl rfl hl.1 rfl (Nat.le_of_ble_eq_true rfl) d_ms_loadSecret_5 ⟨Nat.zero_le _, Nat.zero_le _⟩ ?_
  refine lv_if_ne hx hb d_ms_loadSecret_8 (tgt := 14) (by decide) (fun _ => ?_) (fun z => absurd z (by rw [h0]; decide))
  refine lv_aload_n hx hb d_ms_loadSecret_14 rfl (lv_at hl 0 rfl) ?_
  refine lv_iload_n hx hb d_ms_loadSecret_15 rfl (lv_at hl 1 rfl) ?_
  refine xw_rdi (v := sp_on u k) (As := [.int k]) (rest := []) ⟨hx, hb, hml, hown, hts⟩ (c_ms_isOpen l D cs ad _ u j k hk) tb_296 tb_298 sl_12 tb_1 tb_299 ⟨rfl, hd_ms_isOpen⟩ ⟨Nat.le_of_ble_eq_true rfl, Nat.le_of_ble_eq_true rfl⟩ rfl rfl hK hP hD hN 0 0 rfl rfl hl.1 rfl (Nat.le_of_ble_eq_true rfl) d_ms_loadSecret_16 ⟨Nat.zero_le _, Nat.zero_le _⟩ ?_
  refine lv_if_ne hx hb d_ms_loadSecret_19 (tgt := 25) (by decide) (fun z => absurd h1 z) (fun _ => ?_)
  refine lv_bipush (v := 7) hx hb d_ms_loadSecret_22 (by decide) ?_
  exact W.iret (v := 7) hx hb hret (fun t ht hW => ⟨_, rfl, rfl, ht⟩) (fun q h => by cases h) d_ms_loadSecret_24
set_option maxHeartbeats 4000000 in
set_option maxRecDepth 100000 in
theorem c_ms_loadSecret (l : Launch) (D : va_G) (cs : Nat → ClassId) (ad : Nat → Nat) (sz : Nat) (u : Sg) (j : Jx) (k : Int32) (hk : vp_in k 8) (h0 : sp_tk (sg_ma u) k = 1) (h1 : sp_on u k = 1) : Met l y_ms_loadSecret (Cond.code y_ms_loadSecret b_ms_loadSecret 2 (some .int) :: TB) { frames := 4, cells := 0, slots := 0, locals := 90 } (va_Pc [.ref (ad 0), .int k] (xw_Pre D cs ad u j sz)) (va_Qi (fun (r : Int32) (j1 : Jx) => r = 0 ∧ j1 = j) (fun (j1 : Jx) t => xw_B D cs ad (va_A (xw ad cs u j) sz) (ss_ac u (sg_se u k.toNatClampNeg)) j1 t) (va_A (xw ad cs u j) sz)) 0 0 (va_A (xw ad cs u j) sz) := by
  refine Met.ofW (cc := b_ms_loadSecret) (maxL := 2) (ret := (some .int)) (by decide) rfl ?_
  intro p e s m args below meth c s₁ B hml hv
  obtain ⟨rfl, hsz, hP, hK, hD, hN⟩ := hv
  have hx := B.exec
  have hb := B.bytes
  have hret := B.returns
  have hts := atoms_spec (ws := Cond.code y_ms_loadSecret b_ms_loadSecret 2 (some .int) :: TB) B.pre
  have hT : ∀ w ∈ TB, w.before _ s = true := fun w h => hts w (List.mem_cons_of_mem _ h)
  have hown : s.vm.findClass "MeasuredStages" = some m.cls := findClass_of_methodNamed B.named
  have hlocks := B.notSynchronized
  subst hsz
  have hD := hD.self (sz := s.heap.size)
  generalize hAe : va_A (xw ad cs u j) s.heap.size = A at hD ⊢
  have hA : ∀ q : Nat, s.heap.size ≤ q → A q := fun q h => by rw [← hAe]; exact Or.inr h
  have hS : va_S A s.heap s.heap [] := va_S.rf
  have hl := lv_entry ([.ref (ad 0), .int k]) (n := 2) (Nat.le_of_ble_eq_true rfl)
  rw [lg_entry_eq]
  generalize (lg_sl ([.ref (ad 0), .int k]) ++ List.replicate (2 - (lg_sl ([.ref (ad 0), .int k])).length) Slot.unset).toArray = ls at hl ⊢
  have hl : lv_has ls 2 [(0, .ref (ad 0)), (1, .int k)] := hl
  skip
  refine lv_aload_n hx hb d_ms_loadSecret_0 rfl (lv_at hl 0 rfl) ?_
  refine va_get (D := D) (ci := 0) (v := .ref (ad 5)) (C := "MeasuredStages") (T := F_ms) (N := 12) hx hb hts (fun w h => List.mem_cons_of_mem _ (i_ms w h)) hown hK hP 0 rfl rfl 4 (by decide) (hT _ tb_73) (fun _ h9 => h9) rfl d_ms_loadSecret_1 ?_
  refine lv_iload_n hx hb d_ms_loadSecret_4 rfl (lv_at hl 1 rfl) ?_
  refine xw_rdi (v := sp_tk (sg_ma u) k) (As := [.int k]) (rest := []) ⟨hx, hb, hml, hown, hts⟩ (c_bl_isTaken l D cs ad _ u j k) tb_292 tb_293 tb_294 tb_3 tb_295 ⟨rfl, hd_bl_isTaken⟩ ⟨Nat.le_of_ble_eq_true rfl, Nat.le_of_ble_eq_true rfl⟩ rfl rfl hK hP hD hN 5 2 rfl rfl hl.1 rfl (Nat.le_of_ble_eq_true rfl) d_ms_loadSecret_5 ⟨Nat.zero_le _, Nat.zero_le _⟩ ?_
  refine lv_if_ne hx hb d_ms_loadSecret_8 (tgt := 14) (by decide) (fun _ => ?_) (fun z => absurd z (by rw [h0]; decide))
  refine lv_aload_n hx hb d_ms_loadSecret_14 rfl (lv_at hl 0 rfl) ?_
  refine lv_iload_n hx hb d_ms_loadSecret_15 rfl (lv_at hl 1 rfl) ?_
  refine xw_rdi (v := sp_on u k) (As := [.int k]) (rest := []) ⟨hx, hb, hml, hown, hts⟩ (c_ms_isOpen l D cs ad _ u j k hk) tb_296 tb_298 sl_12 tb_1 tb_299 ⟨rfl, hd_ms_isOpen⟩ ⟨Nat.le_of_ble_eq_true rfl, Nat.le_of_ble_eq_true rfl⟩ rfl rfl hK hP hD hN 0 0 rfl rfl hl.1 rfl (Nat.le_of_ble_eq_true rfl) d_ms_loadSecret_16 ⟨Nat.zero_le _, Nat.zero_le _⟩ ?_
  refine lv_if_ne hx hb d_ms_loadSecret_19 (tgt := 25) (by decide) (fun _ => ?_) (fun z => absurd z (by rw [h1]; decide))
  refine lv_aload_n hx hb d_ms_loadSecret_25 rfl (lv_at hl 0 rfl) ?_
  refine lv_aload_n hx hb d_ms_loadSecret_26 rfl (lv_at hl 0 rfl) ?_
  refine va_get (D := D) (ci := 0) (v := .ref (ad 5)) (C := "MeasuredStages") (T := F_ms) (N := 12) hx hb hts (fun w h => List.mem_cons_of_mem _ (i_ms w h)) hown hK hP 0 rfl rfl 4 (by decide) (hT _ tb_73) (fun _ h9 => h9) rfl d_ms_loadSecret_27 ?_
  refine va_get (D := D) (ci := 2) (v := .ref (ad 14)) (C := "MeasuredStages$Blobs") (T := F_bl) (N := 3) hx hb hts (fun w h => List.mem_cons_of_mem _ (i_bl w h)) hown hK hP 5 rfl rfl 2 (by decide) (hT _ tb_61) (fun _ h9 => h9) rfl d_ms_loadSecret_30 ?_
  refine lv_iload_n hx hb d_ms_loadSecret_33 rfl (lv_at hl 1 rfl) ?_
  refine va_lald hx hb hK hP 14 11 rfl rfl hk d_ms_loadSecret_34 ?_
  refine va_put (D := D) (ci := 0) (v := .long (sg_se u k.toNatClampNeg)) (ty := .long) (C := "MeasuredStages") (T := F_ms) (N := 12) hx hb hts (fun w h => List.mem_cons_of_mem _ (i_ms w h)) t_ms o_ms n_ms hown hK hP hD hS 0 rfl rfl 8 (by decide) (hT _ tb_77) (fun _ h9 => h9) rfl (by decide +kernel) rfl rfl (Nat.le_of_ble_eq_true rfl) d_ms_loadSecret_35 (fun H locs hP hD hS => ?_)
  have hP : va_P D cx (xv ad cs (sg_im u) (sg_ap u) (sg_ag u) (sg_he u) (sg_er u) (sg_ev u) (sg_en u) (sg_ma u) (sg_po u) (sg_se u) (sg_se u k.toNatClampNeg) (sg_fa u) (sg_la u) (sg_st u) (jx_ru j) (jx_nd j) (jx_de j) (jx_rp j)) H := hP
  have hD : va_D A (xv ad cs (sg_im u) (sg_ap u) (sg_ag u) (sg_he u) (sg_er u) (sg_ev u) (sg_en u) (sg_ma u) (sg_po u) (sg_se u) (sg_se u k.toNatClampNeg) (sg_fa u) (sg_la u) (sg_st u) (jx_ru j) (jx_nd j) (jx_de j) (jx_rp j)) := hD
  refine lv_iconst (v := 0) hx hb d_ms_loadSecret_38 (by decide) ?_
  obtain ⟨v1, ev1⟩ : ∃ z : Sg, z = (sg_im u, sg_ap u, sg_ag u, sg_he u, sg_er u, sg_ev u, sg_en u, sg_ma u, sg_po u, sg_se u, sg_se u k.toNatClampNeg, sg_fa u, sg_la u, sg_st u) := ⟨_, rfl⟩
  have hP : va_P D cx (xw ad cs v1 j) H := by rw [ev1, xw_u]; exact hP
  have hD : va_D A (xw ad cs v1 j) := by rw [ev1, xw_u]; exact hD
  subst ev1
  exact W.iret hx hb hret (fun t ht hW => ⟨⟨_, j, rfl, ⟨rfl, (by rfl)⟩, by rw [ht]; exact hP, va_K.moved hW.alike hK, hD⟩, hS.F ht⟩) hS.2.2 d_ms_loadSecret_39
set_option maxHeartbeats 4000000 in
set_option maxRecDepth 100000 in
theorem c_ms_passOverIfZero (l : Launch) (D : va_G) (cs : Nat → ClassId) (ad : Nat → Nat) (sz : Nat) (u : Sg) (j : Jx) (x : Int32) (hd : vp_in (jx_de j) 6) : Met l y_ms_passOverIfZero (Cond.code y_ms_passOverIfZero b_ms_passOverIfZero 2 none :: TB) { frames := 0, cells := 0, slots := 0, locals := 0 } (va_Pc [.ref (ad 0), .int x] (xw_Pre D cs ad u j sz)) (va_Qv (fun (j1 : Jx) => j1 = if sg_ac u = 0 then sx_nd j (upd (jx_nd j) (jx_de j).toNatClampNeg (jx_nd j (jx_de j).toNatClampNeg + x)) else j) (fun (j1 : Jx) t => xw_B D cs ad (va_A (xw ad cs u j) sz) u j1 t) (va_A (xw ad cs u j) sz)) 0 0 (va_A (xw ad cs u j) sz) := by
  refine Met.ofW (cc := b_ms_passOverIfZero) (maxL := 2) (ret := none) (by decide) rfl ?_
  intro p e s m args below meth c s₁ B hml hv
  obtain ⟨rfl, hsz, hP, hK, hD, hN⟩ := hv
  have hx := B.exec
  have hb := B.bytes
  have hret := B.returns
  have hts := atoms_spec (ws := Cond.code y_ms_passOverIfZero b_ms_passOverIfZero 2 none :: TB) B.pre
  have hT : ∀ w ∈ TB, w.before _ s = true := fun w h => hts w (List.mem_cons_of_mem _ h)
  have hown : s.vm.findClass "MeasuredStages" = some m.cls := findClass_of_methodNamed B.named
  have hlocks := B.notSynchronized
  subst hsz
  have hD := hD.self (sz := s.heap.size)
  generalize hAe : va_A (xw ad cs u j) s.heap.size = A at hD ⊢
  have hA : ∀ q : Nat, s.heap.size ≤ q → A q := fun q h => by rw [← hAe]; exact Or.inr h
  have hS : va_S A s.heap s.heap [] := va_S.rf
  have hl := lv_entry ([.ref (ad 0), .int x]) (n := 2) (Nat.le_of_ble_eq_true rfl)
  rw [lg_entry_eq]
  generalize (lg_sl ([.ref (ad 0), .int x]) ++ List.replicate (2 - (lg_sl ([.ref (ad 0), .int x])).length) Slot.unset).toArray = ls at hl ⊢
  have hl : lv_has ls 2 [(0, .ref (ad 0)), (1, .int x)] := hl
  skip
  refine lv_aload_n hx hb d_ms_passOverIfZero_0 rfl (lv_at hl 0 rfl) ?_
  refine va_get (D := D) (ci := 0) (v := .long (sg_ac u)) (C := "MeasuredStages") (T := F_ms) (N := 12) hx hb hts (fun w h => List.mem_cons_of_mem _ (i_ms w h)) hown hK hP 0 rfl rfl 8 (by decide) (hT _ tb_77) (fun _ h9 => h9) rfl d_ms_passOverIfZero_1 ?_
  refine lv_lconst (v := 0) hx hb d_ms_passOverIfZero_4 (by decide) ?_
  refine W.lcmp hx hb d_ms_passOverIfZero_5 ?_
  refine lv_if_ne hx hb d_ms_passOverIfZero_6 (tgt := 22) (by decide) (fun h1 => ?_) (fun h1 => ?_)
  · skip
    have h1 := mt sp_cmp.mpr h1
    exact W.vret hx hb hret (fun t ht hW => ⟨⟨j, rfl, (by rw [if_neg h1]), by rw [ht]; exact hP, va_K.moved hW.alike hK, hD⟩, hS.F ht⟩) hS.2.2 d_ms_passOverIfZero_22
  · skip
    have h1 := sp_cmp.mp h1
    refine lv_aload_n hx hb d_ms_passOverIfZero_9 rfl (lv_at hl 0 rfl) ?_
    refine va_get (D := D) (ci := 0) (v := .ref (ad 7)) (C := "MeasuredStages") (T := F_ms) (N := 12) hx hb hts (fun w h => List.mem_cons_of_mem _ (i_ms w h)) hown hK hP 0 rfl rfl 6 (by decide) (hT _ tb_75) (fun _ h9 => h9) rfl d_ms_passOverIfZero_10 ?_
    refine lv_aload_n hx hb d_ms_passOverIfZero_13 rfl (lv_at hl 0 rfl) ?_
    refine va_get (D := D) (ci := 0) (v := .int (jx_de j)) (C := "MeasuredStages") (T := F_ms) (N := 12) hx hb hts (fun w h => List.mem_cons_of_mem _ (i_ms w h)) hown hK hP 0 rfl rfl 7 (by decide) (hT _ tb_76) (fun _ h9 => h9) rfl d_ms_passOverIfZero_14 ?_
    refine lv_dup2_11 hx hb d_ms_passOverIfZero_17 rfl rfl ?_
    refine va_iald hx hb hK hP 7 4 rfl rfl hd d_ms_passOverIfZero_18 ?_
    refine lv_iload_n hx hb d_ms_passOverIfZero_19 rfl (lv_at hl 1 rfl) ?_
    refine lv_iadd hx hb d_ms_passOverIfZero_20 ?_
    refine va_iast hx hb hK hP hD hS 7 4 rfl rfl hd d_ms_passOverIfZero_21 (fun H locs hP hD hS => ?_)
    have hP : va_P D cx (xv ad cs (sg_im u) (sg_ap u) (sg_ag u) (sg_he u) (sg_er u) (sg_ev u) (sg_en u) (sg_ma u) (sg_po u) (sg_se u) (sg_ac u) (sg_fa u) (sg_la u) (sg_st u) (jx_ru j) (upd (jx_nd j) (jx_de j).toNatClampNeg ((jx_nd j (jx_de j).toNatClampNeg) + x)) (jx_de j) (jx_rp j)) H := hP
    have hD : va_D A (xv ad cs (sg_im u) (sg_ap u) (sg_ag u) (sg_he u) (sg_er u) (sg_ev u) (sg_en u) (sg_ma u) (sg_po u) (sg_se u) (sg_ac u) (sg_fa u) (sg_la u) (sg_st u) (jx_ru j) (upd (jx_nd j) (jx_de j).toNatClampNeg ((jx_nd j (jx_de j).toNatClampNeg) + x)) (jx_de j) (jx_rp j)) := hD
    obtain ⟨q2, eq2⟩ : ∃ z : Jx, z = (jx_ru j, upd (jx_nd j) (jx_de j).toNatClampNeg ((jx_nd j (jx_de j).toNatClampNeg) + x), jx_de j, jx_rp j) := ⟨_, rfl⟩
    have hP : va_P D cx (xw ad cs u q2) H := by rw [eq2, xw_j]; exact hP
    have hD : va_D A (xw ad cs u q2) := by rw [eq2, xw_j]; exact hD
    exact W.vret hx hb hret (fun t ht hW => ⟨⟨q2, rfl, (by subst eq2; rw [if_pos h1]; rfl), by rw [ht]; exact hP, va_K.moved hW.alike hK, hD⟩, hS.F ht⟩) hS.2.2 d_ms_passOverIfZero_22
set_option maxHeartbeats 4000000 in
set_option maxRecDepth 100000 in
theorem c_ms_sealAcc_c (l : Launch) (D : va_G) (cs : Nat → ClassId) (ad : Nat → Nat) (sz : Nat) (u : Sg) (j : Jx) (mask : Int32) (h : sp_lf (sg_ma u) = -1) : Met l y_ms_sealAcc (Cond.code y_ms_sealAcc b_ms_sealAcc 3 (some .int) :: TB) { frames := 3, cells := 0, slots := 0, locals := 80 } (va_Pc [.ref (ad 0), .int mask] (xw_Pre D cs ad u j sz)) (vp_Si (fun r => r = 8)) 0 0 (fun _ => False) := by
  refine Met.ofW (cc := b_ms_sealAcc) (maxL := 3) (ret := (some .int)) (by decide) rfl ?_
  intro p e s m args below meth c s₁ B hml hv
  obtain ⟨rfl, hsz, hP, hK, hD, hN⟩ := hv
  have hx := B.exec
  have hb := B.bytes
  have hret := B.returns
  have hts := atoms_spec (ws := Cond.code y_ms_sealAcc b_ms_sealAcc 3 (some .int) :: TB) B.pre
  have hT : ∀ w ∈ TB, w.before _ s = true := fun w h => hts w (List.mem_cons_of_mem _ h)
  have hown : s.vm.findClass "MeasuredStages" = some m.cls := findClass_of_methodNamed B.named
  have hlocks := B.notSynchronized
  subst hsz
  have hl := lv_entry ([.ref (ad 0), .int mask]) (n := 3) (Nat.le_of_ble_eq_true rfl)
  rw [lg_entry_eq]
  generalize (lg_sl ([.ref (ad 0), .int mask]) ++ List.replicate (3 - (lg_sl ([.ref (ad 0), .int mask])).length) Slot.unset).toArray = ls at hl ⊢
  have hl : lv_has ls 3 [(0, .ref (ad 0)), (1, .int mask)] := hl
  refine lv_aload_n hx hb d_ms_sealAcc_0 rfl (lv_at hl 0 rfl) ?_
  refine va_get (D := D) (ci := 0) (v := .ref (ad 5)) (C := "MeasuredStages") (T := F_ms) (N := 12) hx hb hts (fun w h => List.mem_cons_of_mem _ (i_ms w h)) hown hK hP 0 rfl rfl 4 (by decide) (hT _ tb_73) (fun _ h9 => h9) rfl d_ms_sealAcc_1 ?_
  refine xw_rdi (v := sp_lf (sg_ma u)) (As := []) (rest := []) ⟨hx, hb, hml, hown, hts⟩ (c_bl_leastFree l D cs ad _ u j ) tb_313 tb_314 tb_315 tb_3 tb_316 ⟨rfl, hd_bl_leastFree⟩ ⟨Nat.le_of_ble_eq_true rfl, Nat.le_of_ble_eq_true rfl⟩ rfl rfl hK hP hD hN 5 2 rfl rfl hl.1 rfl (Nat.le_of_ble_eq_true rfl) d_ms_sealAcc_4 ⟨Nat.zero_le _, Nat.zero_le _⟩ ?_
  refine lv_istore_n (nL := 3) (lv' := [(2, .int (sp_lf (sg_ma u))), (0, .ref (ad 0)), (1, .int mask)]) hx hb d_ms_sealAcc_7 rfl hl (by decide) rfl (fun ls hl => ?_)
  refine lv_iload_n hx hb d_ms_sealAcc_8 rfl (lv_at hl 0 rfl) ?_
  refine lv_iconst (v := (-1)) hx hb d_ms_sealAcc_9 (by decide) ?_
  refine lv_icmp_ne hx hb d_ms_sealAcc_10 (tgt := 16) (by decide) (fun z => absurd h z) (fun _ => ?_)
  refine lv_bipush (v := 8) hx hb d_ms_sealAcc_13 (by decide) ?_
  exact W.iret (v := 8) hx hb hret (fun t ht hW => ⟨_, rfl, rfl, ht⟩) (fun q h => by cases h) d_ms_sealAcc_15
set_option maxHeartbeats 4000000 in
set_option maxRecDepth 100000 in
theorem c_ms_sealAcc (l : Launch) (D : va_G) (cs : Nat → ClassId) (ad : Nat → Nat) (sz : Nat) (u : Sg) (j : Jx) (mask : Int32) (hk : vp_in (sp_lf (sg_ma u)) 8) : Met l y_ms_sealAcc (Cond.code y_ms_sealAcc b_ms_sealAcc 3 (some .int) :: TB) { frames := 3, cells := 0, slots := 0, locals := 80 } (va_Pc [.ref (ad 0), .int mask] (xw_Pre D cs ad u j sz)) (va_Qi (fun (r : Int32) (j1 : Jx) => r = 0 ∧ j1 = j) (fun (j1 : Jx) t => xw_B D cs ad (va_A (xw ad cs u j) sz) (sp_fi u (sp_lf (sg_ma u)) mask (sg_ac u)) j1 t) (va_A (xw ad cs u j) sz)) 0 0 (va_A (xw ad cs u j) sz) := by
  refine Met.ofW (cc := b_ms_sealAcc) (maxL := 3) (ret := (some .int)) (by decide) rfl ?_
  intro p e s m args below meth c s₁ B hml hv
  obtain ⟨rfl, hsz, hP, hK, hD, hN⟩ := hv
  have hx := B.exec
  have hb := B.bytes
  have hret := B.returns
  have hts := atoms_spec (ws := Cond.code y_ms_sealAcc b_ms_sealAcc 3 (some .int) :: TB) B.pre
  have hT : ∀ w ∈ TB, w.before _ s = true := fun w h => hts w (List.mem_cons_of_mem _ h)
  have hown : s.vm.findClass "MeasuredStages" = some m.cls := findClass_of_methodNamed B.named
  have hlocks := B.notSynchronized
  subst hsz
  have hD := hD.self (sz := s.heap.size)
  generalize hAe : va_A (xw ad cs u j) s.heap.size = A at hD ⊢
  have hA : ∀ q : Nat, s.heap.size ≤ q → A q := fun q h => by rw [← hAe]; exact Or.inr h
  have hS : va_S A s.heap s.heap [] := va_S.rf
  have hl := lv_entry ([.ref (ad 0), .int mask]) (n := 3) (Nat.le_of_ble_eq_true rfl)
  rw [lg_entry_eq]
  generalize (lg_sl ([.ref (ad 0), .int mask]) ++ List.replicate (3 - (lg_sl ([.ref (ad 0), .int mask])).length) Slot.unset).toArray = ls at hl ⊢
  have hl : lv_has ls 3 [(0, .ref (ad 0)), (1, .int mask)] := hl
  skip
  refine lv_aload_n hx hb d_ms_sealAcc_0 rfl (lv_at hl 0 rfl) ?_
  refine va_get (D := D) (ci := 0) (v := .ref (ad 5)) (C := "MeasuredStages") (T := F_ms) (N := 12) hx hb hts (fun w h => List.mem_cons_of_mem _ (i_ms w h)) hown hK hP 0 rfl rfl 4 (by decide) (hT _ tb_73) (fun _ h9 => h9) rfl d_ms_sealAcc_1 ?_
  refine xw_rdi (v := sp_lf (sg_ma u)) (As := []) (rest := []) ⟨hx, hb, hml, hown, hts⟩ (c_bl_leastFree l D cs ad _ u j ) tb_313 tb_314 tb_315 tb_3 tb_316 ⟨rfl, hd_bl_leastFree⟩ ⟨Nat.le_of_ble_eq_true rfl, Nat.le_of_ble_eq_true rfl⟩ rfl rfl hK hP hD hN 5 2 rfl rfl hl.1 rfl (Nat.le_of_ble_eq_true rfl) d_ms_sealAcc_4 ⟨Nat.zero_le _, Nat.zero_le _⟩ ?_
  refine lv_istore_n (nL := 3) (lv' := [(2, .int (sp_lf (sg_ma u))), (0, .ref (ad 0)), (1, .int mask)]) hx hb d_ms_sealAcc_7 rfl hl (by decide) rfl (fun ls hl => ?_)
  refine lv_iload_n hx hb d_ms_sealAcc_8 rfl (lv_at hl 0 rfl) ?_
  refine lv_iconst (v := (-1)) hx hb d_ms_sealAcc_9 (by decide) ?_
  refine lv_icmp_ne hx hb d_ms_sealAcc_10 (tgt := 16) (by decide) (fun _ => ?_) (fun z => absurd z (fun z => xn_ge hk (by rw [z]; decide)))
  refine lv_aload_n hx hb d_ms_sealAcc_16 rfl (lv_at hl 1 rfl) ?_
  refine va_get (D := D) (ci := 0) (v := .ref (ad 5)) (C := "MeasuredStages") (T := F_ms) (N := 12) hx hb hts (fun w h => List.mem_cons_of_mem _ (i_ms w h)) hown hK hP 0 rfl rfl 4 (by decide) (hT _ tb_73) (fun _ h9 => h9) rfl d_ms_sealAcc_17 ?_
  refine lv_iload_n hx hb d_ms_sealAcc_20 rfl (lv_at hl 0 rfl) ?_
  refine lv_iload_n hx hb d_ms_sealAcc_21 rfl (lv_at hl 2 rfl) ?_
  refine lv_aload_n hx hb d_ms_sealAcc_22 rfl (lv_at hl 1 rfl) ?_
  refine va_get (D := D) (ci := 0) (v := .ref (ad 4)) (C := "MeasuredStages") (T := F_ms) (N := 12) hx hb hts (fun w h => List.mem_cons_of_mem _ (i_ms w h)) hown hK hP 0 rfl rfl 3 (by decide) (hT _ tb_72) (fun _ h9 => h9) rfl d_ms_sealAcc_23 ?_
  refine lv_iload_n hx hb d_ms_sealAcc_26 rfl (lv_at hl 2 rfl) ?_
  refine xw_rdl (v := sp_po u mask) (As := [.int mask]) (rest := [.int mask, .int (sp_lf (sg_ma u)), .ref (ad 5)]) ⟨hx, hb, hml, hown, hts⟩ (c_rg_policyOf l D cs ad _ u j mask) tb_300 tb_301 tb_302 tb_2 tb_303 ⟨rfl, hd_rg_policyOf⟩ ⟨Nat.le_of_ble_eq_true rfl, Nat.le_of_ble_eq_true rfl⟩ rfl rfl hK hP hD hN 4 1 rfl rfl hl.1 rfl (Nat.le_of_ble_eq_true rfl) d_ms_sealAcc_27 ⟨Nat.zero_le _, Nat.zero_le _⟩ ?_
  refine lv_aload_n hx hb d_ms_sealAcc_30 rfl (lv_at hl 1 rfl) ?_
  refine va_get (D := D) (ci := 0) (v := .long (sg_ac u)) (C := "MeasuredStages") (T := F_ms) (N := 12) hx hb hts (fun w h => List.mem_cons_of_mem _ (i_ms w h)) hown hK hP 0 rfl rfl 8 (by decide) (hT _ tb_77) (fun _ h9 => h9) rfl d_ms_sealAcc_31 ?_
  refine xw_wrv (u' := ss_se (ss_po (ss_ma u (upd (sg_ma u) (sp_lf (sg_ma u)).toNatClampNeg mask)) (vp_updL (sg_po u) (sp_lf (sg_ma u)).toNatClampNeg (sp_po u mask))) (vp_updL (sg_se u) (sp_lf (sg_ma u)).toNatClampNeg (sg_ac u))) (As := [.int (sp_lf (sg_ma u)), .int mask, .long (sp_po u mask), .long (sg_ac u)]) (rest := []) ⟨hx, hb, hml, hown, hts⟩ (c_bl_fill l D cs ad _ u j (sp_lf (sg_ma u)) mask (sp_po u mask) (sg_ac u) hk) tb_317 tb_318 tb_319 tb_3 tb_320 ⟨rfl, hd_bl_fill⟩ ⟨Nat.le_of_ble_eq_true rfl, Nat.le_of_ble_eq_true rfl⟩ rfl rfl hK hP hD hN 5 2 rfl rfl hl.1 rfl (Nat.le_of_ble_eq_true rfl) d_ms_sealAcc_34 ⟨Nat.zero_le _, Nat.zero_le _⟩ hS hA (fun j1 H locs hj2 hP hD hS => ?_)
  obtain ⟨v3, ev3⟩ : ∃ z : Sg, z = ss_se (ss_po (ss_ma u (upd (sg_ma u) (sp_lf (sg_ma u)).toNatClampNeg mask)) (vp_updL (sg_po u) (sp_lf (sg_ma u)).toNatClampNeg (sp_po u mask))) (vp_updL (sg_se u) (sp_lf (sg_ma u)).toNatClampNeg (sg_ac u)) := ⟨_, rfl⟩
  rw [← ev3] at hP hD
  rw [hj2] at hP hD
  refine lv_iconst (v := 0) hx hb d_ms_sealAcc_37 (by decide) ?_
  subst ev3
  exact W.iret hx hb hret (fun t ht hW => ⟨⟨_, j, rfl, ⟨rfl, (by rfl)⟩, by rw [ht]; exact hP, va_K.moved hW.alike hK, hD⟩, hS.F ht⟩) hS.2.2 d_ms_sealAcc_38
set_option maxHeartbeats 4000000 in
set_option maxRecDepth 100000 in
theorem c_do_0 (l : Launch) (D : va_G) (cs : Nat → ClassId) (ad : Nat → Nat) (sz : Nat) (u : Sg) (j : Jx)  (hs : sg_st u < 100) (hd : vp_in (jx_de j) 6) (hc : sp_dg (jx_ru j (jx_de j).toNatClampNeg) (jx_nd j (jx_de j).toNatClampNeg) = 0)  : Met l y_ms_doInstruction (Cond.code y_ms_doInstruction b_ms_doInstruction 1 (some .int) :: TB) { frames := 5, cells := 0, slots := 0, locals := 120 } (va_Pc [.ref (ad 0)] (xw_Pre D cs ad u j sz)) (va_Qi (fun (r : Int32) (j1 : Jx) => r = 0 ∧ jx_de j1 = jx_de j - 1 ∧ jx_nd j1 = (upd (jx_nd j) (jx_de j).toNatClampNeg (jx_nd j (jx_de j).toNatClampNeg + 1)) ∧ jx_ru j1 = jx_ru j) (fun (j1 : Jx) t => xw_B D cs ad (va_A (xw ad cs u j) sz) u j1 t) (va_A (xw ad cs u j) sz)) 0 0 (va_A (xw ad cs u j) sz) := by
  refine Met.ofW (cc := b_ms_doInstruction) (maxL := 1) (ret := (some .int)) (by decide) rfl ?_
  intro p e s m args below meth c s₁ B hml hv
  obtain ⟨rfl, hsz, hP, hK, hD, hN⟩ := hv
  have hx := B.exec
  have hb := B.bytes
  have hret := B.returns
  have hts := atoms_spec (ws := Cond.code y_ms_doInstruction b_ms_doInstruction 1 (some .int) :: TB) B.pre
  have hT : ∀ w ∈ TB, w.before _ s = true := fun w h => hts w (List.mem_cons_of_mem _ h)
  have hown : s.vm.findClass "MeasuredStages" = some m.cls := findClass_of_methodNamed B.named
  have hlocks := B.notSynchronized
  subst hsz
  have hD := hD.self (sz := s.heap.size)
  generalize hAe : va_A (xw ad cs u j) s.heap.size = A at hD ⊢
  have hA : ∀ q : Nat, s.heap.size ≤ q → A q := fun q h => by rw [← hAe]; exact Or.inr h
  have hS : va_S A s.heap s.heap [] := va_S.rf
  have hl := lv_entry ([.ref (ad 0)]) (n := 1) (Nat.le_of_ble_eq_true rfl)
  rw [lg_entry_eq]
  generalize (lg_sl ([.ref (ad 0)]) ++ List.replicate (1 - (lg_sl ([.ref (ad 0)])).length) Slot.unset).toArray = ls at hl ⊢
  have hl : lv_has ls 1 [(0, .ref (ad 0))] := hl
  skip
  refine lv_aload_n hx hb d_ms_doInstruction_0 rfl (lv_at hl 0 rfl) ?_
  refine va_get (D := D) (ci := 0) (v := .int (sg_st u)) (C := "MeasuredStages") (T := F_ms) (N := 12) hx hb hts (fun w h => List.mem_cons_of_mem _ (i_ms w h)) hown hK hP 0 rfl rfl 11 (by decide) (hT _ tb_80) (fun _ h9 => h9) rfl d_ms_doInstruction_1 ?_
  refine lv_bipush (v := 100) hx hb d_ms_doInstruction_4 (by decide) ?_
  refine lv_icmp_lt hx hb d_ms_doInstruction_6 (tgt := 11) (by decide) (fun _ => ?_) (fun z => absurd hs z)
  refine lv_aload_n hx hb d_ms_doInstruction_11 rfl (lv_at hl 0 rfl) ?_
  refine xw_wri (v := sp_dg (jx_ru j (jx_de j).toNatClampNeg) (jx_nd j (jx_de j).toNatClampNeg)) (u' := u) (As := []) (rest := []) ⟨hx, hb, hml, hown, hts⟩ (c_ms_takeDigit l D cs ad _ u j  hd) tb_272 tb_274 sl_7 tb_1 tb_275 ⟨rfl, hd_ms_takeDigit⟩ ⟨Nat.le_of_ble_eq_true rfl, Nat.le_of_ble_eq_true rfl⟩ rfl rfl hK hP hD hN 0 0 rfl rfl hl.1 rfl (Nat.le_of_ble_eq_true rfl) d_ms_doInstruction_12 ⟨Nat.zero_le _, Nat.zero_le _⟩ hS hA (fun j1 H locs hj2 hP hD hS => ?_)
  refine W.eq (g2 := F0 m 15 ls (.int 0 :: [])) (by rw [hc]) ?_
  refine lv_tableIn hx hb d_ms_doInstruction_15 (off := 49) (tgt := 64) (by decide) (by decide) rfl (by decide) ?_
  refine lv_aload_n hx hb d_ms_doInstruction_64 rfl (lv_at hl 0 rfl) ?_
  refine lv_dup hx hb d_ms_doInstruction_65 rfl ?_
  refine va_get (D := D) (ci := 0) (v := .int (jx_de j1)) (C := "MeasuredStages") (T := F_ms) (N := 12) hx hb hts (fun w h => List.mem_cons_of_mem _ (i_ms w h)) hown hK hP 0 rfl rfl 7 (by decide) (hT _ tb_76) (fun _ h9 => h9) rfl d_ms_doInstruction_66 ?_
  refine lv_iconst (v := 1) hx hb d_ms_doInstruction_69 (by decide) ?_
  refine lv_isub hx hb d_ms_doInstruction_70 ?_
  refine va_put (D := D) (ci := 0) (v := .int ((jx_de j1) - (1))) (ty := .int) (C := "MeasuredStages") (T := F_ms) (N := 12) hx hb hts (fun w h => List.mem_cons_of_mem _ (i_ms w h)) t_ms o_ms n_ms hown hK hP hD hS 0 rfl rfl 7 (by decide) (hT _ tb_76) (fun _ h9 => h9) rfl (by decide +kernel) rfl rfl (Nat.le_of_ble_eq_true rfl) d_ms_doInstruction_71 (fun H locs hP hD hS => ?_)
  have hP : va_P D cx (xv ad cs (sg_im u) (sg_ap u) (sg_ag u) (sg_he u) (sg_er u) (sg_ev u) (sg_en u) (sg_ma u) (sg_po u) (sg_se u) (sg_ac u) (sg_fa u) (sg_la u) (sg_st u) (jx_ru j1) (jx_nd j1) ((jx_de j1) - (1)) (jx_rp j1)) H := hP
  have hD : va_D A (xv ad cs (sg_im u) (sg_ap u) (sg_ag u) (sg_he u) (sg_er u) (sg_ev u) (sg_en u) (sg_ma u) (sg_po u) (sg_se u) (sg_ac u) (sg_fa u) (sg_la u) (sg_st u) (jx_ru j1) (jx_nd j1) ((jx_de j1) - (1)) (jx_rp j1)) := hD
  refine lv_iconst (v := 0) hx hb d_ms_doInstruction_74 (by decide) ?_
  obtain ⟨q3, eq3⟩ : ∃ z : Jx, z = (jx_ru j1, jx_nd j1, (jx_de j1) - (1), jx_rp j1) := ⟨_, rfl⟩
  have hP : va_P D cx (xw ad cs u q3) H := by rw [eq3, xw_j]; exact hP
  have hD : va_D A (xw ad cs u q3) := by rw [eq3, xw_j]; exact hD
  exact W.iret hx hb hret (fun t ht hW => ⟨⟨_, q3, rfl, ⟨rfl, (by subst eq3; subst hj2; exact ⟨rfl, by first | rfl | simp only [jx_nd, sx_nd, jx_de, sx_de, jx_ru, sx_ru, pk_us, up_uu], rfl⟩)⟩, by rw [ht]; exact hP, va_K.moved hW.alike hK, hD⟩, hS.F ht⟩) hS.2.2 d_ms_doInstruction_75
set_option maxHeartbeats 4000000 in
set_option maxRecDepth 100000 in
theorem c_do_1d (l : Launch) (D : va_G) (cs : Nat → ClassId) (ad : Nat → Nat) (sz : Nat) (u : Sg) (j : Jx)  (hs : sg_st u < 100) (hd : vp_in (jx_de j) 6) (hc : sp_dg (jx_ru j (jx_de j).toNatClampNeg) (jx_nd j (jx_de j).toNatClampNeg) = 1) (h1 : 6 ≤ jx_de j + 1) : Met l y_ms_doInstruction (Cond.code y_ms_doInstruction b_ms_doInstruction 1 (some .int) :: TB) { frames := 5, cells := 0, slots := 0, locals := 120 } (va_Pc [.ref (ad 0)] (xw_Pre D cs ad u j sz)) (va_Qi (fun (r : Int32) (j1 : Jx) => r = 2 ∧ True) (fun (j1 : Jx) t => xw_B D cs ad (va_A (xw ad cs u j) sz) u j1 t) (va_A (xw ad cs u j) sz)) 0 0 (va_A (xw ad cs u j) sz) := by
  refine Met.ofW (cc := b_ms_doInstruction) (maxL := 1) (ret := (some .int)) (by decide) rfl ?_
  intro p e s m args below meth c s₁ B hml hv
  obtain ⟨rfl, hsz, hP, hK, hD, hN⟩ := hv
  have hx := B.exec
  have hb := B.bytes
  have hret := B.returns
  have hts := atoms_spec (ws := Cond.code y_ms_doInstruction b_ms_doInstruction 1 (some .int) :: TB) B.pre
  have hT : ∀ w ∈ TB, w.before _ s = true := fun w h => hts w (List.mem_cons_of_mem _ h)
  have hown : s.vm.findClass "MeasuredStages" = some m.cls := findClass_of_methodNamed B.named
  have hlocks := B.notSynchronized
  subst hsz
  have hD := hD.self (sz := s.heap.size)
  generalize hAe : va_A (xw ad cs u j) s.heap.size = A at hD ⊢
  have hA : ∀ q : Nat, s.heap.size ≤ q → A q := fun q h => by rw [← hAe]; exact Or.inr h
  have hS : va_S A s.heap s.heap [] := va_S.rf
  have hl := lv_entry ([.ref (ad 0)]) (n := 1) (Nat.le_of_ble_eq_true rfl)
  rw [lg_entry_eq]
  generalize (lg_sl ([.ref (ad 0)]) ++ List.replicate (1 - (lg_sl ([.ref (ad 0)])).length) Slot.unset).toArray = ls at hl ⊢
  have hl : lv_has ls 1 [(0, .ref (ad 0))] := hl
  skip
  refine lv_aload_n hx hb d_ms_doInstruction_0 rfl (lv_at hl 0 rfl) ?_
  refine va_get (D := D) (ci := 0) (v := .int (sg_st u)) (C := "MeasuredStages") (T := F_ms) (N := 12) hx hb hts (fun w h => List.mem_cons_of_mem _ (i_ms w h)) hown hK hP 0 rfl rfl 11 (by decide) (hT _ tb_80) (fun _ h9 => h9) rfl d_ms_doInstruction_1 ?_
  refine lv_bipush (v := 100) hx hb d_ms_doInstruction_4 (by decide) ?_
  refine lv_icmp_lt hx hb d_ms_doInstruction_6 (tgt := 11) (by decide) (fun _ => ?_) (fun z => absurd hs z)
  refine lv_aload_n hx hb d_ms_doInstruction_11 rfl (lv_at hl 0 rfl) ?_
  refine xw_wri (v := sp_dg (jx_ru j (jx_de j).toNatClampNeg) (jx_nd j (jx_de j).toNatClampNeg)) (u' := u) (As := []) (rest := []) ⟨hx, hb, hml, hown, hts⟩ (c_ms_takeDigit l D cs ad _ u j  hd) tb_272 tb_274 sl_7 tb_1 tb_275 ⟨rfl, hd_ms_takeDigit⟩ ⟨Nat.le_of_ble_eq_true rfl, Nat.le_of_ble_eq_true rfl⟩ rfl rfl hK hP hD hN 0 0 rfl rfl hl.1 rfl (Nat.le_of_ble_eq_true rfl) d_ms_doInstruction_12 ⟨Nat.zero_le _, Nat.zero_le _⟩ hS hA (fun j1 H locs hj2 hP hD hS => ?_)
  refine W.eq (g2 := F0 m 15 ls (.int 1 :: [])) (by rw [hc]) ?_
  refine lv_tableIn hx hb d_ms_doInstruction_15 (off := 61) (tgt := 76) (by decide) (by decide) rfl (by decide) ?_
  refine lv_aload_n hx hb d_ms_doInstruction_76 rfl (lv_at hl 0 rfl) ?_
  refine lv_aload_n hx hb d_ms_doInstruction_77 rfl (lv_at hl 0 rfl) ?_
  refine va_get (D := D) (ci := 0) (v := .int (jx_de j1)) (C := "MeasuredStages") (T := F_ms) (N := 12) hx hb hts (fun w h => List.mem_cons_of_mem _ (i_ms w h)) hown hK hP 0 rfl rfl 7 (by decide) (hT _ tb_76) (fun _ h9 => h9) rfl d_ms_doInstruction_78 ?_
  refine lv_iconst (v := 1) hx hb d_ms_doInstruction_81 (by decide) ?_
  refine lv_iadd hx hb d_ms_doInstruction_82 ?_
  refine lv_aload_n hx hb d_ms_doInstruction_83 rfl (lv_at hl 0 rfl) ?_
  refine xw_wri (v := sp_rm (sp_dg (jx_ru j1 (jx_de j1).toNatClampNeg) (jx_nd j1 (jx_de j1).toNatClampNeg)) 8) (u' := u) (As := []) (rest := [.int ((jx_de j1) + (1)), .ref (ad 0)]) ⟨hx, hb, hml, hown, hts⟩ (c_ms_takeImage l D cs ad _ u j1  (by subst hj2; exact hd)) tb_276 tb_278 sl_8 tb_1 tb_279 ⟨rfl, hd_ms_takeImage⟩ ⟨Nat.le_of_ble_eq_true rfl, Nat.le_of_ble_eq_true rfl⟩ rfl rfl hK hP hD hN 0 0 rfl rfl hl.1 rfl (Nat.le_of_ble_eq_true rfl) d_ms_doInstruction_84 ⟨Nat.zero_le _, Nat.zero_le _⟩ hS hA (fun j3 H locs hj4 hP hD hS => ?_)
  have hX5 : sp_dg (jx_ru j1 (jx_de j1).toNatClampNeg) (jx_nd j1 (jx_de j1).toNatClampNeg) = sp_dg (jx_ru j (jx_de j).toNatClampNeg) (jx_nd j (jx_de j).toNatClampNeg + 1) := by
    subst hj4
    subst hj2
    simp only [jx_nd, sx_nd, jx_de, sx_de, jx_ru, sx_ru, pk_us, up_uu]
  rw [hX5]
  rw [show jx_de j1 = jx_de j from (by subst hj4; subst hj2; rfl)]
  refine xw_rdi (v := 2) (As := [.int ((jx_de j) + (1)), .int (sp_rm (sp_dg (jx_ru j (jx_de j).toNatClampNeg) (jx_nd j (jx_de j).toNatClampNeg + 1)) 8)]) (rest := []) ⟨hx, hb, hml, hown, hts⟩ (c_ms_launchAt_d l D cs ad _ u j3 ((jx_de j) + (1)) (sp_rm (sp_dg (jx_ru j (jx_de j).toNatClampNeg) (jx_nd j (jx_de j).toNatClampNeg + 1)) 8) (by subst hj4; subst hj2; exact h1)) tb_252 tb_254 sl_3 tb_1 tb_255 ⟨rfl, hd_ms_launchAt⟩ ⟨Nat.le_of_ble_eq_true rfl, Nat.le_of_ble_eq_true rfl⟩ rfl rfl hK hP hD hN 0 0 rfl rfl hl.1 rfl (Nat.le_of_ble_eq_true rfl) d_ms_doInstruction_87 ⟨Nat.zero_le _, Nat.zero_le _⟩ ?_
  exact W.iret hx hb hret (fun t ht hW => ⟨⟨_, j3, rfl, ⟨rfl, (by subst hj4; subst hj2; trivial)⟩, by rw [ht]; exact hP, va_K.moved hW.alike hK, hD⟩, hS.F ht⟩) hS.2.2 d_ms_doInstruction_90
set_option maxHeartbeats 4000000 in
set_option maxRecDepth 100000 in
theorem c_do_1f (l : Launch) (D : va_G) (cs : Nat → ClassId) (ad : Nat → Nat) (sz : Nat) (u : Sg) (j : Jx)  (hs : sg_st u < 100) (hd : vp_in (jx_de j) 6) (hc : sp_dg (jx_ru j (jx_de j).toNatClampNeg) (jx_nd j (jx_de j).toNatClampNeg) = 1) (h1 : vp_in (jx_de j + 1) 6) (he : sg_en u = 32) : Met l y_ms_doInstruction (Cond.code y_ms_doInstruction b_ms_doInstruction 1 (some .int) :: TB) { frames := 5, cells := 0, slots := 0, locals := 120 } (va_Pc [.ref (ad 0)] (xw_Pre D cs ad u j sz)) (va_Qi (fun (r : Int32) (j1 : Jx) => r = 4 ∧ True) (fun (j1 : Jx) t => xw_B D cs ad (va_A (xw ad cs u j) sz) u j1 t) (va_A (xw ad cs u j) sz)) 0 0 (va_A (xw ad cs u j) sz) := by
  refine Met.ofW (cc := b_ms_doInstruction) (maxL := 1) (ret := (some .int)) (by decide) rfl ?_
  intro p e s m args below meth c s₁ B hml hv
  obtain ⟨rfl, hsz, hP, hK, hD, hN⟩ := hv
  have hx := B.exec
  have hb := B.bytes
  have hret := B.returns
  have hts := atoms_spec (ws := Cond.code y_ms_doInstruction b_ms_doInstruction 1 (some .int) :: TB) B.pre
  have hT : ∀ w ∈ TB, w.before _ s = true := fun w h => hts w (List.mem_cons_of_mem _ h)
  have hown : s.vm.findClass "MeasuredStages" = some m.cls := findClass_of_methodNamed B.named
  have hlocks := B.notSynchronized
  subst hsz
  have hD := hD.self (sz := s.heap.size)
  generalize hAe : va_A (xw ad cs u j) s.heap.size = A at hD ⊢
  have hA : ∀ q : Nat, s.heap.size ≤ q → A q := fun q h => by rw [← hAe]; exact Or.inr h
  have hS : va_S A s.heap s.heap [] := va_S.rf
  have hl := lv_entry ([.ref (ad 0)]) (n := 1) (Nat.le_of_ble_eq_true rfl)
  rw [lg_entry_eq]
  generalize (lg_sl ([.ref (ad 0)]) ++ List.replicate (1 - (lg_sl ([.ref (ad 0)])).length) Slot.unset).toArray = ls at hl ⊢
  have hl : lv_has ls 1 [(0, .ref (ad 0))] := hl
  skip
  refine lv_aload_n hx hb d_ms_doInstruction_0 rfl (lv_at hl 0 rfl) ?_
  refine va_get (D := D) (ci := 0) (v := .int (sg_st u)) (C := "MeasuredStages") (T := F_ms) (N := 12) hx hb hts (fun w h => List.mem_cons_of_mem _ (i_ms w h)) hown hK hP 0 rfl rfl 11 (by decide) (hT _ tb_80) (fun _ h9 => h9) rfl d_ms_doInstruction_1 ?_
  refine lv_bipush (v := 100) hx hb d_ms_doInstruction_4 (by decide) ?_
  refine lv_icmp_lt hx hb d_ms_doInstruction_6 (tgt := 11) (by decide) (fun _ => ?_) (fun z => absurd hs z)
  refine lv_aload_n hx hb d_ms_doInstruction_11 rfl (lv_at hl 0 rfl) ?_
  refine xw_wri (v := sp_dg (jx_ru j (jx_de j).toNatClampNeg) (jx_nd j (jx_de j).toNatClampNeg)) (u' := u) (As := []) (rest := []) ⟨hx, hb, hml, hown, hts⟩ (c_ms_takeDigit l D cs ad _ u j  hd) tb_272 tb_274 sl_7 tb_1 tb_275 ⟨rfl, hd_ms_takeDigit⟩ ⟨Nat.le_of_ble_eq_true rfl, Nat.le_of_ble_eq_true rfl⟩ rfl rfl hK hP hD hN 0 0 rfl rfl hl.1 rfl (Nat.le_of_ble_eq_true rfl) d_ms_doInstruction_12 ⟨Nat.zero_le _, Nat.zero_le _⟩ hS hA (fun j1 H locs hj2 hP hD hS => ?_)
  refine W.eq (g2 := F0 m 15 ls (.int 1 :: [])) (by rw [hc]) ?_
  refine lv_tableIn hx hb d_ms_doInstruction_15 (off := 61) (tgt := 76) (by decide) (by decide) rfl (by decide) ?_
  refine lv_aload_n hx hb d_ms_doInstruction_76 rfl (lv_at hl 0 rfl) ?_
  refine lv_aload_n hx hb d_ms_doInstruction_77 rfl (lv_at hl 0 rfl) ?_
  refine va_get (D := D) (ci := 0) (v := .int (jx_de j1)) (C := "MeasuredStages") (T := F_ms) (N := 12) hx hb hts (fun w h => List.mem_cons_of_mem _ (i_ms w h)) hown hK hP 0 rfl rfl 7 (by decide) (hT _ tb_76) (fun _ h9 => h9) rfl d_ms_doInstruction_78 ?_
  refine lv_iconst (v := 1) hx hb d_ms_doInstruction_81 (by decide) ?_
  refine lv_iadd hx hb d_ms_doInstruction_82 ?_
  refine lv_aload_n hx hb d_ms_doInstruction_83 rfl (lv_at hl 0 rfl) ?_
  refine xw_wri (v := sp_rm (sp_dg (jx_ru j1 (jx_de j1).toNatClampNeg) (jx_nd j1 (jx_de j1).toNatClampNeg)) 8) (u' := u) (As := []) (rest := [.int ((jx_de j1) + (1)), .ref (ad 0)]) ⟨hx, hb, hml, hown, hts⟩ (c_ms_takeImage l D cs ad _ u j1  (by subst hj2; exact hd)) tb_276 tb_278 sl_8 tb_1 tb_279 ⟨rfl, hd_ms_takeImage⟩ ⟨Nat.le_of_ble_eq_true rfl, Nat.le_of_ble_eq_true rfl⟩ rfl rfl hK hP hD hN 0 0 rfl rfl hl.1 rfl (Nat.le_of_ble_eq_true rfl) d_ms_doInstruction_84 ⟨Nat.zero_le _, Nat.zero_le _⟩ hS hA (fun j3 H locs hj4 hP hD hS => ?_)
  have hX5 : sp_dg (jx_ru j1 (jx_de j1).toNatClampNeg) (jx_nd j1 (jx_de j1).toNatClampNeg) = sp_dg (jx_ru j (jx_de j).toNatClampNeg) (jx_nd j (jx_de j).toNatClampNeg + 1) := by
    subst hj4
    subst hj2
    simp only [jx_nd, sx_nd, jx_de, sx_de, jx_ru, sx_ru, pk_us, up_uu]
  rw [hX5]
  rw [show jx_de j1 = jx_de j from (by subst hj4; subst hj2; rfl)]
  refine xw_rdi (v := 4) (As := [.int ((jx_de j) + (1)), .int (sp_rm (sp_dg (jx_ru j (jx_de j).toNatClampNeg) (jx_nd j (jx_de j).toNatClampNeg + 1)) 8)]) (rest := []) ⟨hx, hb, hml, hown, hts⟩ (c_ms_launchAt_f l D cs ad _ u j3 ((jx_de j) + (1)) (sp_rm (sp_dg (jx_ru j (jx_de j).toNatClampNeg) (jx_nd j (jx_de j).toNatClampNeg + 1)) 8) (by subst hj4; subst hj2; exact h1) (sp_rd8 _ _) (by subst hj4; subst hj2; exact he)) tb_252 tb_254 sl_3 tb_1 tb_255 ⟨rfl, hd_ms_launchAt⟩ ⟨Nat.le_of_ble_eq_true rfl, Nat.le_of_ble_eq_true rfl⟩ rfl rfl hK hP hD hN 0 0 rfl rfl hl.1 rfl (Nat.le_of_ble_eq_true rfl) d_ms_doInstruction_87 ⟨Nat.zero_le _, Nat.zero_le _⟩ ?_
  exact W.iret hx hb hret (fun t ht hW => ⟨⟨_, j3, rfl, ⟨rfl, (by subst hj4; subst hj2; trivial)⟩, by rw [ht]; exact hP, va_K.moved hW.alike hK, hD⟩, hS.F ht⟩) hS.2.2 d_ms_doInstruction_90
set_option maxHeartbeats 4000000 in
set_option maxRecDepth 100000 in
theorem c_do_1t (l : Launch) (D : va_G) (cs : Nat → ClassId) (ad : Nat → Nat) (sz : Nat) (u : Sg) (j : Jx)  (hs : sg_st u < 100) (hd : vp_in (jx_de j) 6) (hc : sp_dg (jx_ru j (jx_de j).toNatClampNeg) (jx_nd j (jx_de j).toNatClampNeg) = 1) (h1 : vp_in (jx_de j + 1) 6) (he : vp_in (sg_en u) 32) : Met l y_ms_doInstruction (Cond.code y_ms_doInstruction b_ms_doInstruction 1 (some .int) :: TB) { frames := 5, cells := 0, slots := 0, locals := 120 } (va_Pc [.ref (ad 0)] (xw_Pre D cs ad u j sz)) (va_Qi (fun (r : Int32) (j1 : Jx) => r = 0 ∧ jx_de j1 = jx_de j + 1 ∧ jx_nd j1 = (upd (upd (jx_nd j) (jx_de j).toNatClampNeg (jx_nd j (jx_de j).toNatClampNeg + 1 + 1)) (jx_de j + 1).toNatClampNeg 0) ∧ jx_ru j1 = vp_updL (jx_ru j) (jx_de j + 1).toNatClampNeg (sg_im u (sp_rm (sp_dg (jx_ru j (jx_de j).toNatClampNeg) (jx_nd j (jx_de j).toNatClampNeg + 1)) 8).toNatClampNeg)) (fun (j1 : Jx) t => xw_B D cs ad (va_A (xw ad cs u j) sz) ((fun v : Sg => ss_la v (sg_la v + 1)) (sp_no u (jx_de j + 1) (sp_di u (sp_rm (sp_dg (jx_ru j (jx_de j).toNatClampNeg) (jx_nd j (jx_de j).toNatClampNeg + 1)) 8)))) j1 t) (va_A (xw ad cs u j) sz)) 0 0 (va_A (xw ad cs u j) sz) := by
  refine Met.ofW (cc := b_ms_doInstruction) (maxL := 1) (ret := (some .int)) (by decide) rfl ?_
  intro p e s m args below meth c s₁ B hml hv
  obtain ⟨rfl, hsz, hP, hK, hD, hN⟩ := hv
  have hx := B.exec
  have hb := B.bytes
  have hret := B.returns
  have hts := atoms_spec (ws := Cond.code y_ms_doInstruction b_ms_doInstruction 1 (some .int) :: TB) B.pre
  have hT : ∀ w ∈ TB, w.before _ s = true := fun w h => hts w (List.mem_cons_of_mem _ h)
  have hown : s.vm.findClass "MeasuredStages" = some m.cls := findClass_of_methodNamed B.named
  have hlocks := B.notSynchronized
  subst hsz
  have hD := hD.self (sz := s.heap.size)
  generalize hAe : va_A (xw ad cs u j) s.heap.size = A at hD ⊢
  have hA : ∀ q : Nat, s.heap.size ≤ q → A q := fun q h => by rw [← hAe]; exact Or.inr h
  have hS : va_S A s.heap s.heap [] := va_S.rf
  have hl := lv_entry ([.ref (ad 0)]) (n := 1) (Nat.le_of_ble_eq_true rfl)
  rw [lg_entry_eq]
  generalize (lg_sl ([.ref (ad 0)]) ++ List.replicate (1 - (lg_sl ([.ref (ad 0)])).length) Slot.unset).toArray = ls at hl ⊢
  have hl : lv_has ls 1 [(0, .ref (ad 0))] := hl
  skip
  refine lv_aload_n hx hb d_ms_doInstruction_0 rfl (lv_at hl 0 rfl) ?_
  refine va_get (D := D) (ci := 0) (v := .int (sg_st u)) (C := "MeasuredStages") (T := F_ms) (N := 12) hx hb hts (fun w h => List.mem_cons_of_mem _ (i_ms w h)) hown hK hP 0 rfl rfl 11 (by decide) (hT _ tb_80) (fun _ h9 => h9) rfl d_ms_doInstruction_1 ?_
  refine lv_bipush (v := 100) hx hb d_ms_doInstruction_4 (by decide) ?_
  refine lv_icmp_lt hx hb d_ms_doInstruction_6 (tgt := 11) (by decide) (fun _ => ?_) (fun z => absurd hs z)
  refine lv_aload_n hx hb d_ms_doInstruction_11 rfl (lv_at hl 0 rfl) ?_
  refine xw_wri (v := sp_dg (jx_ru j (jx_de j).toNatClampNeg) (jx_nd j (jx_de j).toNatClampNeg)) (u' := u) (As := []) (rest := []) ⟨hx, hb, hml, hown, hts⟩ (c_ms_takeDigit l D cs ad _ u j  hd) tb_272 tb_274 sl_7 tb_1 tb_275 ⟨rfl, hd_ms_takeDigit⟩ ⟨Nat.le_of_ble_eq_true rfl, Nat.le_of_ble_eq_true rfl⟩ rfl rfl hK hP hD hN 0 0 rfl rfl hl.1 rfl (Nat.le_of_ble_eq_true rfl) d_ms_doInstruction_12 ⟨Nat.zero_le _, Nat.zero_le _⟩ hS hA (fun j1 H locs hj2 hP hD hS => ?_)
  refine W.eq (g2 := F0 m 15 ls (.int 1 :: [])) (by rw [hc]) ?_
  refine lv_tableIn hx hb d_ms_doInstruction_15 (off := 61) (tgt := 76) (by decide) (by decide) rfl (by decide) ?_
  refine lv_aload_n hx hb d_ms_doInstruction_76 rfl (lv_at hl 0 rfl) ?_
  refine lv_aload_n hx hb d_ms_doInstruction_77 rfl (lv_at hl 0 rfl) ?_
  refine va_get (D := D) (ci := 0) (v := .int (jx_de j1)) (C := "MeasuredStages") (T := F_ms) (N := 12) hx hb hts (fun w h => List.mem_cons_of_mem _ (i_ms w h)) hown hK hP 0 rfl rfl 7 (by decide) (hT _ tb_76) (fun _ h9 => h9) rfl d_ms_doInstruction_78 ?_
  refine lv_iconst (v := 1) hx hb d_ms_doInstruction_81 (by decide) ?_
  refine lv_iadd hx hb d_ms_doInstruction_82 ?_
  refine lv_aload_n hx hb d_ms_doInstruction_83 rfl (lv_at hl 0 rfl) ?_
  refine xw_wri (v := sp_rm (sp_dg (jx_ru j1 (jx_de j1).toNatClampNeg) (jx_nd j1 (jx_de j1).toNatClampNeg)) 8) (u' := u) (As := []) (rest := [.int ((jx_de j1) + (1)), .ref (ad 0)]) ⟨hx, hb, hml, hown, hts⟩ (c_ms_takeImage l D cs ad _ u j1  (by subst hj2; exact hd)) tb_276 tb_278 sl_8 tb_1 tb_279 ⟨rfl, hd_ms_takeImage⟩ ⟨Nat.le_of_ble_eq_true rfl, Nat.le_of_ble_eq_true rfl⟩ rfl rfl hK hP hD hN 0 0 rfl rfl hl.1 rfl (Nat.le_of_ble_eq_true rfl) d_ms_doInstruction_84 ⟨Nat.zero_le _, Nat.zero_le _⟩ hS hA (fun j3 H locs hj4 hP hD hS => ?_)
  have hX5 : sp_dg (jx_ru j1 (jx_de j1).toNatClampNeg) (jx_nd j1 (jx_de j1).toNatClampNeg) = sp_dg (jx_ru j (jx_de j).toNatClampNeg) (jx_nd j (jx_de j).toNatClampNeg + 1) := by
    subst hj4
    subst hj2
    simp only [jx_nd, sx_nd, jx_de, sx_de, jx_ru, sx_ru, pk_us, up_uu]
  rw [hX5]
  rw [show jx_de j1 = jx_de j from (by subst hj4; subst hj2; rfl)]
  refine xw_wri (v := 0) (u' := (fun v : Sg => ss_la v (sg_la v + 1)) (sp_no u ((jx_de j) + (1)) (sp_di u (sp_rm (sp_dg (jx_ru j (jx_de j).toNatClampNeg) (jx_nd j (jx_de j).toNatClampNeg + 1)) 8)))) (As := [.int ((jx_de j) + (1)), .int (sp_rm (sp_dg (jx_ru j (jx_de j).toNatClampNeg) (jx_nd j (jx_de j).toNatClampNeg + 1)) 8)]) (rest := []) ⟨hx, hb, hml, hown, hts⟩ (c_ms_launchAt l D cs ad _ u j3 ((jx_de j) + (1)) (sp_rm (sp_dg (jx_ru j (jx_de j).toNatClampNeg) (jx_nd j (jx_de j).toNatClampNeg + 1)) 8) (by subst hj4; subst hj2; exact h1) (sp_rd8 _ _) (by subst hj4; subst hj2; exact he)) tb_252 tb_254 sl_3 tb_1 tb_255 ⟨rfl, hd_ms_launchAt⟩ ⟨Nat.le_of_ble_eq_true rfl, Nat.le_of_ble_eq_true rfl⟩ rfl rfl hK hP hD hN 0 0 rfl rfl hl.1 rfl (Nat.le_of_ble_eq_true rfl) d_ms_doInstruction_87 ⟨Nat.zero_le _, Nat.zero_le _⟩ hS hA (fun j6 H locs hj7 hP hD hS => ?_)
  obtain ⟨v8, ev8⟩ : ∃ z : Sg, z = (fun v : Sg => ss_la v (sg_la v + 1)) (sp_no u ((jx_de j) + (1)) (sp_di u (sp_rm (sp_dg (jx_ru j (jx_de j).toNatClampNeg) (jx_nd j (jx_de j).toNatClampNeg + 1)) 8))) := ⟨_, rfl⟩
  rw [← ev8] at hP hD
  subst ev8
  exact W.iret hx hb hret (fun t ht hW => ⟨⟨_, j6, rfl, ⟨rfl, (by subst hj7; subst hj4; subst hj2; exact ⟨rfl, by first | rfl | simp only [jx_nd, sx_nd, jx_de, sx_de, jx_ru, sx_ru, pk_us, up_uu], rfl⟩)⟩, by rw [ht]; exact hP, va_K.moved hW.alike hK, hD⟩, hS.F ht⟩) hS.2.2 d_ms_doInstruction_90
set_option maxHeartbeats 4000000 in
set_option maxRecDepth 100000 in
theorem c_do_2f (l : Launch) (D : va_G) (cs : Nat → ClassId) (ad : Nat → Nat) (sz : Nat) (u : Sg) (j : Jx)  (hs : sg_st u < 100) (hd : vp_in (jx_de j) 6) (hc : sp_dg (jx_ru j (jx_de j).toNatClampNeg) (jx_nd j (jx_de j).toNatClampNeg) = 2) (he : sg_en u = 32) : Met l y_ms_doInstruction (Cond.code y_ms_doInstruction b_ms_doInstruction 1 (some .int) :: TB) { frames := 5, cells := 0, slots := 0, locals := 120 } (va_Pc [.ref (ad 0)] (xw_Pre D cs ad u j sz)) (va_Qi (fun (r : Int32) (j1 : Jx) => r = 4 ∧ True) (fun (j1 : Jx) t => xw_B D cs ad (va_A (xw ad cs u j) sz) u j1 t) (va_A (xw ad cs u j) sz)) 0 0 (va_A (xw ad cs u j) sz) := by
  refine Met.ofW (cc := b_ms_doInstruction) (maxL := 1) (ret := (some .int)) (by decide) rfl ?_
  intro p e s m args below meth c s₁ B hml hv
  obtain ⟨rfl, hsz, hP, hK, hD, hN⟩ := hv
  have hx := B.exec
  have hb := B.bytes
  have hret := B.returns
  have hts := atoms_spec (ws := Cond.code y_ms_doInstruction b_ms_doInstruction 1 (some .int) :: TB) B.pre
  have hT : ∀ w ∈ TB, w.before _ s = true := fun w h => hts w (List.mem_cons_of_mem _ h)
  have hown : s.vm.findClass "MeasuredStages" = some m.cls := findClass_of_methodNamed B.named
  have hlocks := B.notSynchronized
  subst hsz
  have hD := hD.self (sz := s.heap.size)
  generalize hAe : va_A (xw ad cs u j) s.heap.size = A at hD ⊢
  have hA : ∀ q : Nat, s.heap.size ≤ q → A q := fun q h => by rw [← hAe]; exact Or.inr h
  have hS : va_S A s.heap s.heap [] := va_S.rf
  have hl := lv_entry ([.ref (ad 0)]) (n := 1) (Nat.le_of_ble_eq_true rfl)
  rw [lg_entry_eq]
  generalize (lg_sl ([.ref (ad 0)]) ++ List.replicate (1 - (lg_sl ([.ref (ad 0)])).length) Slot.unset).toArray = ls at hl ⊢
  have hl : lv_has ls 1 [(0, .ref (ad 0))] := hl
  skip
  refine lv_aload_n hx hb d_ms_doInstruction_0 rfl (lv_at hl 0 rfl) ?_
  refine va_get (D := D) (ci := 0) (v := .int (sg_st u)) (C := "MeasuredStages") (T := F_ms) (N := 12) hx hb hts (fun w h => List.mem_cons_of_mem _ (i_ms w h)) hown hK hP 0 rfl rfl 11 (by decide) (hT _ tb_80) (fun _ h9 => h9) rfl d_ms_doInstruction_1 ?_
  refine lv_bipush (v := 100) hx hb d_ms_doInstruction_4 (by decide) ?_
  refine lv_icmp_lt hx hb d_ms_doInstruction_6 (tgt := 11) (by decide) (fun _ => ?_) (fun z => absurd hs z)
  refine lv_aload_n hx hb d_ms_doInstruction_11 rfl (lv_at hl 0 rfl) ?_
  refine xw_wri (v := sp_dg (jx_ru j (jx_de j).toNatClampNeg) (jx_nd j (jx_de j).toNatClampNeg)) (u' := u) (As := []) (rest := []) ⟨hx, hb, hml, hown, hts⟩ (c_ms_takeDigit l D cs ad _ u j  hd) tb_272 tb_274 sl_7 tb_1 tb_275 ⟨rfl, hd_ms_takeDigit⟩ ⟨Nat.le_of_ble_eq_true rfl, Nat.le_of_ble_eq_true rfl⟩ rfl rfl hK hP hD hN 0 0 rfl rfl hl.1 rfl (Nat.le_of_ble_eq_true rfl) d_ms_doInstruction_12 ⟨Nat.zero_le _, Nat.zero_le _⟩ hS hA (fun j1 H locs hj2 hP hD hS => ?_)
  refine W.eq (g2 := F0 m 15 ls (.int 2 :: [])) (by rw [hc]) ?_
  refine lv_tableIn hx hb d_ms_doInstruction_15 (off := 76) (tgt := 91) (by decide) (by decide) rfl (by decide) ?_
  refine lv_aload_n hx hb d_ms_doInstruction_91 rfl (lv_at hl 0 rfl) ?_
  refine lv_aload_n hx hb d_ms_doInstruction_92 rfl (lv_at hl 0 rfl) ?_
  refine xw_wri (v := sp_rm (sp_dg (jx_ru j1 (jx_de j1).toNatClampNeg) (jx_nd j1 (jx_de j1).toNatClampNeg)) 6) (u' := u) (As := []) (rest := [.ref (ad 0)]) ⟨hx, hb, hml, hown, hts⟩ (c_ms_takeRegister l D cs ad _ u j1  (by subst hj2; exact hd)) tb_280 tb_282 sl_9 tb_1 tb_283 ⟨rfl, hd_ms_takeRegister⟩ ⟨Nat.le_of_ble_eq_true rfl, Nat.le_of_ble_eq_true rfl⟩ rfl rfl hK hP hD hN 0 0 rfl rfl hl.1 rfl (Nat.le_of_ble_eq_true rfl) d_ms_doInstruction_93 ⟨Nat.zero_le _, Nat.zero_le _⟩ hS hA (fun j3 H locs hj4 hP hD hS => ?_)
  have hX5 : sp_dg (jx_ru j1 (jx_de j1).toNatClampNeg) (jx_nd j1 (jx_de j1).toNatClampNeg) = sp_dg (jx_ru j (jx_de j).toNatClampNeg) (jx_nd j (jx_de j).toNatClampNeg + 1) := by
    subst hj4
    subst hj2
    simp only [jx_nd, sx_nd, jx_de, sx_de, jx_ru, sx_ru, pk_us, up_uu]
  rw [hX5]
  refine lv_aload_n hx hb d_ms_doInstruction_96 rfl (lv_at hl 0 rfl) ?_
  refine xw_wri (v := sp_dg (jx_ru j3 (jx_de j3).toNatClampNeg) (jx_nd j3 (jx_de j3).toNatClampNeg)) (u' := u) (As := []) (rest := [.int (sp_rm (sp_dg (jx_ru j (jx_de j).toNatClampNeg) (jx_nd j (jx_de j).toNatClampNeg + 1)) 6), .ref (ad 0)]) ⟨hx, hb, hml, hown, hts⟩ (c_ms_takeDigit l D cs ad _ u j3  (by subst hj4; subst hj2; exact hd)) tb_272 tb_274 sl_7 tb_1 tb_275 ⟨rfl, hd_ms_takeDigit⟩ ⟨Nat.le_of_ble_eq_true rfl, Nat.le_of_ble_eq_true rfl⟩ rfl rfl hK hP hD hN 0 0 rfl rfl hl.1 rfl (Nat.le_of_ble_eq_true rfl) d_ms_doInstruction_97 ⟨Nat.zero_le _, Nat.zero_le _⟩ hS hA (fun j6 H locs hj7 hP hD hS => ?_)
  have hX8 : sp_dg (jx_ru j3 (jx_de j3).toNatClampNeg) (jx_nd j3 (jx_de j3).toNatClampNeg) = sp_dg (jx_ru j (jx_de j).toNatClampNeg) (jx_nd j (jx_de j).toNatClampNeg + 1 + 1) := by
    subst hj7
    subst hj4
    subst hj2
    simp only [jx_nd, sx_nd, jx_de, sx_de, jx_ru, sx_ru, pk_us, up_uu]
  rw [hX8]
  refine lv_i2l hx hb d_ms_doInstruction_100 rfl ?_
  refine xw_rdi (v := 4) (As := [.int (sp_rm (sp_dg (jx_ru j (jx_de j).toNatClampNeg) (jx_nd j (jx_de j).toNatClampNeg + 1)) 6), .long ((sp_dg (jx_ru j (jx_de j).toNatClampNeg) (jx_nd j (jx_de j).toNatClampNeg + 1 + 1)).toInt64)]) (rest := []) ⟨hx, hb, hml, hown, hts⟩ (c_ms_extendOrFault_f l D cs ad _ u j6 (sp_rm (sp_dg (jx_ru j (jx_de j).toNatClampNeg) (jx_nd j (jx_de j).toNatClampNeg + 1)) 6) ((sp_dg (jx_ru j (jx_de j).toNatClampNeg) (jx_nd j (jx_de j).toNatClampNeg + 1 + 1)).toInt64) (by subst hj7; subst hj4; subst hj2; exact he)) tb_256 tb_258 sl_4 tb_1 tb_259 ⟨rfl, hd_ms_extendOrFault⟩ ⟨Nat.le_of_ble_eq_true rfl, Nat.le_of_ble_eq_true rfl⟩ rfl rfl hK hP hD hN 0 0 rfl rfl hl.1 rfl (Nat.le_of_ble_eq_true rfl) d_ms_doInstruction_101 ⟨Nat.zero_le _, Nat.zero_le _⟩ ?_
  exact W.iret hx hb hret (fun t ht hW => ⟨⟨_, j6, rfl, ⟨rfl, (by subst hj7; subst hj4; subst hj2; trivial)⟩, by rw [ht]; exact hP, va_K.moved hW.alike hK, hD⟩, hS.F ht⟩) hS.2.2 d_ms_doInstruction_104
set_option maxHeartbeats 4000000 in
set_option maxRecDepth 100000 in
theorem c_do_2t (l : Launch) (D : va_G) (cs : Nat → ClassId) (ad : Nat → Nat) (sz : Nat) (u : Sg) (j : Jx)  (hs : sg_st u < 100) (hd : vp_in (jx_de j) 6) (hc : sp_dg (jx_ru j (jx_de j).toNatClampNeg) (jx_nd j (jx_de j).toNatClampNeg) = 2) (he : vp_in (sg_en u) 32) : Met l y_ms_doInstruction (Cond.code y_ms_doInstruction b_ms_doInstruction 1 (some .int) :: TB) { frames := 5, cells := 0, slots := 0, locals := 120 } (va_Pc [.ref (ad 0)] (xw_Pre D cs ad u j sz)) (va_Qi (fun (r : Int32) (j1 : Jx) => r = 0 ∧ jx_de j1 = jx_de j ∧ jx_nd j1 = (upd (jx_nd j) (jx_de j).toNatClampNeg (jx_nd j (jx_de j).toNatClampNeg + 1 + 1 + 1)) ∧ jx_ru j1 = jx_ru j) (fun (j1 : Jx) t => xw_B D cs ad (va_A (xw ad cs u j) sz) (sp_no u (sp_rm (sp_dg (jx_ru j (jx_de j).toNatClampNeg) (jx_nd j (jx_de j).toNatClampNeg + 1)) 6) (sp_dg (jx_ru j (jx_de j).toNatClampNeg) (jx_nd j (jx_de j).toNatClampNeg + 1 + 1)).toInt64) j1 t) (va_A (xw ad cs u j) sz)) 0 0 (va_A (xw ad cs u j) sz) := by
  refine Met.ofW (cc := b_ms_doInstruction) (maxL := 1) (ret := (some .int)) (by decide) rfl ?_
  intro p e s m args below meth c s₁ B hml hv
  obtain ⟨rfl, hsz, hP, hK, hD, hN⟩ := hv
  have hx := B.exec
  have hb := B.bytes
  have hret := B.returns
  have hts := atoms_spec (ws := Cond.code y_ms_doInstruction b_ms_doInstruction 1 (some .int) :: TB) B.pre
  have hT : ∀ w ∈ TB, w.before _ s = true := fun w h => hts w (List.mem_cons_of_mem _ h)
  have hown : s.vm.findClass "MeasuredStages" = some m.cls := findClass_of_methodNamed B.named
  have hlocks := B.notSynchronized
  subst hsz
  have hD := hD.self (sz := s.heap.size)
  generalize hAe : va_A (xw ad cs u j) s.heap.size = A at hD ⊢
  have hA : ∀ q : Nat, s.heap.size ≤ q → A q := fun q h => by rw [← hAe]; exact Or.inr h
  have hS : va_S A s.heap s.heap [] := va_S.rf
  have hl := lv_entry ([.ref (ad 0)]) (n := 1) (Nat.le_of_ble_eq_true rfl)
  rw [lg_entry_eq]
  generalize (lg_sl ([.ref (ad 0)]) ++ List.replicate (1 - (lg_sl ([.ref (ad 0)])).length) Slot.unset).toArray = ls at hl ⊢
  have hl : lv_has ls 1 [(0, .ref (ad 0))] := hl
  skip
  refine lv_aload_n hx hb d_ms_doInstruction_0 rfl (lv_at hl 0 rfl) ?_
  refine va_get (D := D) (ci := 0) (v := .int (sg_st u)) (C := "MeasuredStages") (T := F_ms) (N := 12) hx hb hts (fun w h => List.mem_cons_of_mem _ (i_ms w h)) hown hK hP 0 rfl rfl 11 (by decide) (hT _ tb_80) (fun _ h9 => h9) rfl d_ms_doInstruction_1 ?_
  refine lv_bipush (v := 100) hx hb d_ms_doInstruction_4 (by decide) ?_
  refine lv_icmp_lt hx hb d_ms_doInstruction_6 (tgt := 11) (by decide) (fun _ => ?_) (fun z => absurd hs z)
  refine lv_aload_n hx hb d_ms_doInstruction_11 rfl (lv_at hl 0 rfl) ?_
  refine xw_wri (v := sp_dg (jx_ru j (jx_de j).toNatClampNeg) (jx_nd j (jx_de j).toNatClampNeg)) (u' := u) (As := []) (rest := []) ⟨hx, hb, hml, hown, hts⟩ (c_ms_takeDigit l D cs ad _ u j  hd) tb_272 tb_274 sl_7 tb_1 tb_275 ⟨rfl, hd_ms_takeDigit⟩ ⟨Nat.le_of_ble_eq_true rfl, Nat.le_of_ble_eq_true rfl⟩ rfl rfl hK hP hD hN 0 0 rfl rfl hl.1 rfl (Nat.le_of_ble_eq_true rfl) d_ms_doInstruction_12 ⟨Nat.zero_le _, Nat.zero_le _⟩ hS hA (fun j1 H locs hj2 hP hD hS => ?_)
  refine W.eq (g2 := F0 m 15 ls (.int 2 :: [])) (by rw [hc]) ?_
  refine lv_tableIn hx hb d_ms_doInstruction_15 (off := 76) (tgt := 91) (by decide) (by decide) rfl (by decide) ?_
  refine lv_aload_n hx hb d_ms_doInstruction_91 rfl (lv_at hl 0 rfl) ?_
  refine lv_aload_n hx hb d_ms_doInstruction_92 rfl (lv_at hl 0 rfl) ?_
  refine xw_wri (v := sp_rm (sp_dg (jx_ru j1 (jx_de j1).toNatClampNeg) (jx_nd j1 (jx_de j1).toNatClampNeg)) 6) (u' := u) (As := []) (rest := [.ref (ad 0)]) ⟨hx, hb, hml, hown, hts⟩ (c_ms_takeRegister l D cs ad _ u j1  (by subst hj2; exact hd)) tb_280 tb_282 sl_9 tb_1 tb_283 ⟨rfl, hd_ms_takeRegister⟩ ⟨Nat.le_of_ble_eq_true rfl, Nat.le_of_ble_eq_true rfl⟩ rfl rfl hK hP hD hN 0 0 rfl rfl hl.1 rfl (Nat.le_of_ble_eq_true rfl) d_ms_doInstruction_93 ⟨Nat.zero_le _, Nat.zero_le _⟩ hS hA (fun j3 H locs hj4 hP hD hS => ?_)
  have hX5 : sp_dg (jx_ru j1 (jx_de j1).toNatClampNeg) (jx_nd j1 (jx_de j1).toNatClampNeg) = sp_dg (jx_ru j (jx_de j).toNatClampNeg) (jx_nd j (jx_de j).toNatClampNeg + 1) := by
    subst hj4
    subst hj2
    simp only [jx_nd, sx_nd, jx_de, sx_de, jx_ru, sx_ru, pk_us, up_uu]
  rw [hX5]
  refine lv_aload_n hx hb d_ms_doInstruction_96 rfl (lv_at hl 0 rfl) ?_
  refine xw_wri (v := sp_dg (jx_ru j3 (jx_de j3).toNatClampNeg) (jx_nd j3 (jx_de j3).toNatClampNeg)) (u' := u) (As := []) (rest := [.int (sp_rm (sp_dg (jx_ru j (jx_de j).toNatClampNeg) (jx_nd j (jx_de j).toNatClampNeg + 1)) 6), .ref (ad 0)]) ⟨hx, hb, hml, hown, hts⟩ (c_ms_takeDigit l D cs ad _ u j3  (by subst hj4; subst hj2; exact hd)) tb_272 tb_274 sl_7 tb_1 tb_275 ⟨rfl, hd_ms_takeDigit⟩ ⟨Nat.le_of_ble_eq_true rfl, Nat.le_of_ble_eq_true rfl⟩ rfl rfl hK hP hD hN 0 0 rfl rfl hl.1 rfl (Nat.le_of_ble_eq_true rfl) d_ms_doInstruction_97 ⟨Nat.zero_le _, Nat.zero_le _⟩ hS hA (fun j6 H locs hj7 hP hD hS => ?_)
  have hX8 : sp_dg (jx_ru j3 (jx_de j3).toNatClampNeg) (jx_nd j3 (jx_de j3).toNatClampNeg) = sp_dg (jx_ru j (jx_de j).toNatClampNeg) (jx_nd j (jx_de j).toNatClampNeg + 1 + 1) := by
    subst hj7
    subst hj4
    subst hj2
    simp only [jx_nd, sx_nd, jx_de, sx_de, jx_ru, sx_ru, pk_us, up_uu]
  rw [hX8]
  refine lv_i2l hx hb d_ms_doInstruction_100 rfl ?_
  refine xw_wri (v := 0) (u' := sp_no u (sp_rm (sp_dg (jx_ru j (jx_de j).toNatClampNeg) (jx_nd j (jx_de j).toNatClampNeg + 1)) 6) ((sp_dg (jx_ru j (jx_de j).toNatClampNeg) (jx_nd j (jx_de j).toNatClampNeg + 1 + 1)).toInt64)) (As := [.int (sp_rm (sp_dg (jx_ru j (jx_de j).toNatClampNeg) (jx_nd j (jx_de j).toNatClampNeg + 1)) 6), .long ((sp_dg (jx_ru j (jx_de j).toNatClampNeg) (jx_nd j (jx_de j).toNatClampNeg + 1 + 1)).toInt64)]) (rest := []) ⟨hx, hb, hml, hown, hts⟩ (c_ms_extendOrFault l D cs ad _ u j6 (sp_rm (sp_dg (jx_ru j (jx_de j).toNatClampNeg) (jx_nd j (jx_de j).toNatClampNeg + 1)) 6) ((sp_dg (jx_ru j (jx_de j).toNatClampNeg) (jx_nd j (jx_de j).toNatClampNeg + 1 + 1)).toInt64) (sp_rd6 _ _) (by subst hj7; subst hj4; subst hj2; exact he)) tb_256 tb_258 sl_4 tb_1 tb_259 ⟨rfl, hd_ms_extendOrFault⟩ ⟨Nat.le_of_ble_eq_true rfl, Nat.le_of_ble_eq_true rfl⟩ rfl rfl hK hP hD hN 0 0 rfl rfl hl.1 rfl (Nat.le_of_ble_eq_true rfl) d_ms_doInstruction_101 ⟨Nat.zero_le _, Nat.zero_le _⟩ hS hA (fun j9 H locs hj10 hP hD hS => ?_)
  obtain ⟨v11, ev11⟩ : ∃ z : Sg, z = sp_no u (sp_rm (sp_dg (jx_ru j (jx_de j).toNatClampNeg) (jx_nd j (jx_de j).toNatClampNeg + 1)) 6) ((sp_dg (jx_ru j (jx_de j).toNatClampNeg) (jx_nd j (jx_de j).toNatClampNeg + 1 + 1)).toInt64) := ⟨_, rfl⟩
  rw [← ev11] at hP hD
  rw [hj10] at hP hD
  subst ev11
  exact W.iret hx hb hret (fun t ht hW => ⟨⟨_, j6, rfl, ⟨rfl, (by subst hj7; subst hj4; subst hj2; exact ⟨rfl, by first | rfl | simp only [jx_nd, sx_nd, jx_de, sx_de, jx_ru, sx_ru, pk_us, up_uu], rfl⟩)⟩, by rw [ht]; exact hP, va_K.moved hW.alike hK, hD⟩, hS.F ht⟩) hS.2.2 d_ms_doInstruction_104
set_option maxHeartbeats 4000000 in
set_option maxRecDepth 100000 in
theorem c_do_3f (l : Launch) (D : va_G) (cs : Nat → ClassId) (ad : Nat → Nat) (sz : Nat) (u : Sg) (j : Jx)  (hs : sg_st u < 100) (hd : vp_in (jx_de j) 6) (hc : sp_dg (jx_ru j (jx_de j).toNatClampNeg) (jx_nd j (jx_de j).toNatClampNeg) = 3) (h : sp_ia u (sp_rm (sp_dg (jx_ru j (jx_de j).toNatClampNeg) (jx_nd j (jx_de j).toNatClampNeg + 1)) 8) = 0) : Met l y_ms_doInstruction (Cond.code y_ms_doInstruction b_ms_doInstruction 1 (some .int) :: TB) { frames := 5, cells := 0, slots := 0, locals := 120 } (va_Pc [.ref (ad 0)] (xw_Pre D cs ad u j sz)) (va_Qi (fun (r : Int32) (j1 : Jx) => r = 5 ∧ True) (fun (j1 : Jx) t => xw_B D cs ad (va_A (xw ad cs u j) sz) u j1 t) (va_A (xw ad cs u j) sz)) 0 0 (va_A (xw ad cs u j) sz) := by
  refine Met.ofW (cc := b_ms_doInstruction) (maxL := 1) (ret := (some .int)) (by decide) rfl ?_
  intro p e s m args below meth c s₁ B hml hv
  obtain ⟨rfl, hsz, hP, hK, hD, hN⟩ := hv
  have hx := B.exec
  have hb := B.bytes
  have hret := B.returns
  have hts := atoms_spec (ws := Cond.code y_ms_doInstruction b_ms_doInstruction 1 (some .int) :: TB) B.pre
  have hT : ∀ w ∈ TB, w.before _ s = true := fun w h => hts w (List.mem_cons_of_mem _ h)
  have hown : s.vm.findClass "MeasuredStages" = some m.cls := findClass_of_methodNamed B.named
  have hlocks := B.notSynchronized
  subst hsz
  have hD := hD.self (sz := s.heap.size)
  generalize hAe : va_A (xw ad cs u j) s.heap.size = A at hD ⊢
  have hA : ∀ q : Nat, s.heap.size ≤ q → A q := fun q h => by rw [← hAe]; exact Or.inr h
  have hS : va_S A s.heap s.heap [] := va_S.rf
  have hl := lv_entry ([.ref (ad 0)]) (n := 1) (Nat.le_of_ble_eq_true rfl)
  rw [lg_entry_eq]
  generalize (lg_sl ([.ref (ad 0)]) ++ List.replicate (1 - (lg_sl ([.ref (ad 0)])).length) Slot.unset).toArray = ls at hl ⊢
  have hl : lv_has ls 1 [(0, .ref (ad 0))] := hl
  skip
  refine lv_aload_n hx hb d_ms_doInstruction_0 rfl (lv_at hl 0 rfl) ?_
  refine va_get (D := D) (ci := 0) (v := .int (sg_st u)) (C := "MeasuredStages") (T := F_ms) (N := 12) hx hb hts (fun w h => List.mem_cons_of_mem _ (i_ms w h)) hown hK hP 0 rfl rfl 11 (by decide) (hT _ tb_80) (fun _ h9 => h9) rfl d_ms_doInstruction_1 ?_
  refine lv_bipush (v := 100) hx hb d_ms_doInstruction_4 (by decide) ?_
  refine lv_icmp_lt hx hb d_ms_doInstruction_6 (tgt := 11) (by decide) (fun _ => ?_) (fun z => absurd hs z)
  refine lv_aload_n hx hb d_ms_doInstruction_11 rfl (lv_at hl 0 rfl) ?_
  refine xw_wri (v := sp_dg (jx_ru j (jx_de j).toNatClampNeg) (jx_nd j (jx_de j).toNatClampNeg)) (u' := u) (As := []) (rest := []) ⟨hx, hb, hml, hown, hts⟩ (c_ms_takeDigit l D cs ad _ u j  hd) tb_272 tb_274 sl_7 tb_1 tb_275 ⟨rfl, hd_ms_takeDigit⟩ ⟨Nat.le_of_ble_eq_true rfl, Nat.le_of_ble_eq_true rfl⟩ rfl rfl hK hP hD hN 0 0 rfl rfl hl.1 rfl (Nat.le_of_ble_eq_true rfl) d_ms_doInstruction_12 ⟨Nat.zero_le _, Nat.zero_le _⟩ hS hA (fun j1 H locs hj2 hP hD hS => ?_)
  refine W.eq (g2 := F0 m 15 ls (.int 3 :: [])) (by rw [hc]) ?_
  refine lv_tableIn hx hb d_ms_doInstruction_15 (off := 90) (tgt := 105) (by decide) (by decide) rfl (by decide) ?_
  refine lv_aload_n hx hb d_ms_doInstruction_105 rfl (lv_at hl 0 rfl) ?_
  refine lv_aload_n hx hb d_ms_doInstruction_106 rfl (lv_at hl 0 rfl) ?_
  refine xw_wri (v := sp_rm (sp_dg (jx_ru j1 (jx_de j1).toNatClampNeg) (jx_nd j1 (jx_de j1).toNatClampNeg)) 8) (u' := u) (As := []) (rest := [.ref (ad 0)]) ⟨hx, hb, hml, hown, hts⟩ (c_ms_takeImage l D cs ad _ u j1  (by subst hj2; exact hd)) tb_276 tb_278 sl_8 tb_1 tb_279 ⟨rfl, hd_ms_takeImage⟩ ⟨Nat.le_of_ble_eq_true rfl, Nat.le_of_ble_eq_true rfl⟩ rfl rfl hK hP hD hN 0 0 rfl rfl hl.1 rfl (Nat.le_of_ble_eq_true rfl) d_ms_doInstruction_107 ⟨Nat.zero_le _, Nat.zero_le _⟩ hS hA (fun j3 H locs hj4 hP hD hS => ?_)
  have hX5 : sp_dg (jx_ru j1 (jx_de j1).toNatClampNeg) (jx_nd j1 (jx_de j1).toNatClampNeg) = sp_dg (jx_ru j (jx_de j).toNatClampNeg) (jx_nd j (jx_de j).toNatClampNeg + 1) := by
    subst hj4
    subst hj2
    simp only [jx_nd, sx_nd, jx_de, sx_de, jx_ru, sx_ru, pk_us, up_uu]
  rw [hX5]
  refine xw_rdi (v := sp_ia u (sp_rm (sp_dg (jx_ru j (jx_de j).toNatClampNeg) (jx_nd j (jx_de j).toNatClampNeg + 1)) 8)) (As := [.int (sp_rm (sp_dg (jx_ru j (jx_de j).toNatClampNeg) (jx_nd j (jx_de j).toNatClampNeg + 1)) 8)]) (rest := []) ⟨hx, hb, hml, hown, hts⟩ (c_ms_isApproved l D cs ad _ u j3 (sp_rm (sp_dg (jx_ru j (jx_de j).toNatClampNeg) (jx_nd j (jx_de j).toNatClampNeg + 1)) 8) (sp_rd8 _ _)) tb_284 tb_286 sl_10 tb_1 tb_287 ⟨rfl, hd_ms_isApproved⟩ ⟨Nat.le_of_ble_eq_true rfl, Nat.le_of_ble_eq_true rfl⟩ rfl rfl hK hP hD hN 0 0 rfl rfl hl.1 rfl (Nat.le_of_ble_eq_true rfl) d_ms_doInstruction_110 ⟨Nat.zero_le _, Nat.zero_le _⟩ ?_
  refine lv_if_eq hx hb d_ms_doInstruction_113 (tgt := 120) (by decide) (fun _ => ?_) (fun z => absurd h z)
  refine lv_iconst (v := 5) hx hb d_ms_doInstruction_120 (by decide) ?_
  exact W.iret hx hb hret (fun t ht hW => ⟨⟨_, j3, rfl, ⟨rfl, (by subst hj4; subst hj2; trivial)⟩, by rw [ht]; exact hP, va_K.moved hW.alike hK, hD⟩, hS.F ht⟩) hS.2.2 d_ms_doInstruction_121
set_option maxHeartbeats 4000000 in
set_option maxRecDepth 100000 in
theorem c_do_3t (l : Launch) (D : va_G) (cs : Nat → ClassId) (ad : Nat → Nat) (sz : Nat) (u : Sg) (j : Jx)  (hs : sg_st u < 100) (hd : vp_in (jx_de j) 6) (hc : sp_dg (jx_ru j (jx_de j).toNatClampNeg) (jx_nd j (jx_de j).toNatClampNeg) = 3) (h : sp_ia u (sp_rm (sp_dg (jx_ru j (jx_de j).toNatClampNeg) (jx_nd j (jx_de j).toNatClampNeg + 1)) 8) = 1) : Met l y_ms_doInstruction (Cond.code y_ms_doInstruction b_ms_doInstruction 1 (some .int) :: TB) { frames := 5, cells := 0, slots := 0, locals := 120 } (va_Pc [.ref (ad 0)] (xw_Pre D cs ad u j sz)) (va_Qi (fun (r : Int32) (j1 : Jx) => r = 0 ∧ jx_de j1 = jx_de j ∧ jx_nd j1 = (upd (jx_nd j) (jx_de j).toNatClampNeg (jx_nd j (jx_de j).toNatClampNeg + 1 + 1)) ∧ jx_ru j1 = jx_ru j) (fun (j1 : Jx) t => xw_B D cs ad (va_A (xw ad cs u j) sz) u j1 t) (va_A (xw ad cs u j) sz)) 0 0 (va_A (xw ad cs u j) sz) := by
  refine Met.ofW (cc := b_ms_doInstruction) (maxL := 1) (ret := (some .int)) (by decide) rfl ?_
  intro p e s m args below meth c s₁ B hml hv
  obtain ⟨rfl, hsz, hP, hK, hD, hN⟩ := hv
  have hx := B.exec
  have hb := B.bytes
  have hret := B.returns
  have hts := atoms_spec (ws := Cond.code y_ms_doInstruction b_ms_doInstruction 1 (some .int) :: TB) B.pre
  have hT : ∀ w ∈ TB, w.before _ s = true := fun w h => hts w (List.mem_cons_of_mem _ h)
  have hown : s.vm.findClass "MeasuredStages" = some m.cls := findClass_of_methodNamed B.named
  have hlocks := B.notSynchronized
  subst hsz
  have hD := hD.self (sz := s.heap.size)
  generalize hAe : va_A (xw ad cs u j) s.heap.size = A at hD ⊢
  have hA : ∀ q : Nat, s.heap.size ≤ q → A q := fun q h => by rw [← hAe]; exact Or.inr h
  have hS : va_S A s.heap s.heap [] := va_S.rf
  have hl := lv_entry ([.ref (ad 0)]) (n := 1) (Nat.le_of_ble_eq_true rfl)
  rw [lg_entry_eq]
  generalize (lg_sl ([.ref (ad 0)]) ++ List.replicate (1 - (lg_sl ([.ref (ad 0)])).length) Slot.unset).toArray = ls at hl ⊢
  have hl : lv_has ls 1 [(0, .ref (ad 0))] := hl
  skip
  refine lv_aload_n hx hb d_ms_doInstruction_0 rfl (lv_at hl 0 rfl) ?_
  refine va_get (D := D) (ci := 0) (v := .int (sg_st u)) (C := "MeasuredStages") (T := F_ms) (N := 12) hx hb hts (fun w h => List.mem_cons_of_mem _ (i_ms w h)) hown hK hP 0 rfl rfl 11 (by decide) (hT _ tb_80) (fun _ h9 => h9) rfl d_ms_doInstruction_1 ?_
  refine lv_bipush (v := 100) hx hb d_ms_doInstruction_4 (by decide) ?_
  refine lv_icmp_lt hx hb d_ms_doInstruction_6 (tgt := 11) (by decide) (fun _ => ?_) (fun z => absurd hs z)
  refine lv_aload_n hx hb d_ms_doInstruction_11 rfl (lv_at hl 0 rfl) ?_
  refine xw_wri (v := sp_dg (jx_ru j (jx_de j).toNatClampNeg) (jx_nd j (jx_de j).toNatClampNeg)) (u' := u) (As := []) (rest := []) ⟨hx, hb, hml, hown, hts⟩ (c_ms_takeDigit l D cs ad _ u j  hd) tb_272 tb_274 sl_7 tb_1 tb_275 ⟨rfl, hd_ms_takeDigit⟩ ⟨Nat.le_of_ble_eq_true rfl, Nat.le_of_ble_eq_true rfl⟩ rfl rfl hK hP hD hN 0 0 rfl rfl hl.1 rfl (Nat.le_of_ble_eq_true rfl) d_ms_doInstruction_12 ⟨Nat.zero_le _, Nat.zero_le _⟩ hS hA (fun j1 H locs hj2 hP hD hS => ?_)
  refine W.eq (g2 := F0 m 15 ls (.int 3 :: [])) (by rw [hc]) ?_
  refine lv_tableIn hx hb d_ms_doInstruction_15 (off := 90) (tgt := 105) (by decide) (by decide) rfl (by decide) ?_
  refine lv_aload_n hx hb d_ms_doInstruction_105 rfl (lv_at hl 0 rfl) ?_
  refine lv_aload_n hx hb d_ms_doInstruction_106 rfl (lv_at hl 0 rfl) ?_
  refine xw_wri (v := sp_rm (sp_dg (jx_ru j1 (jx_de j1).toNatClampNeg) (jx_nd j1 (jx_de j1).toNatClampNeg)) 8) (u' := u) (As := []) (rest := [.ref (ad 0)]) ⟨hx, hb, hml, hown, hts⟩ (c_ms_takeImage l D cs ad _ u j1  (by subst hj2; exact hd)) tb_276 tb_278 sl_8 tb_1 tb_279 ⟨rfl, hd_ms_takeImage⟩ ⟨Nat.le_of_ble_eq_true rfl, Nat.le_of_ble_eq_true rfl⟩ rfl rfl hK hP hD hN 0 0 rfl rfl hl.1 rfl (Nat.le_of_ble_eq_true rfl) d_ms_doInstruction_107 ⟨Nat.zero_le _, Nat.zero_le _⟩ hS hA (fun j3 H locs hj4 hP hD hS => ?_)
  have hX5 : sp_dg (jx_ru j1 (jx_de j1).toNatClampNeg) (jx_nd j1 (jx_de j1).toNatClampNeg) = sp_dg (jx_ru j (jx_de j).toNatClampNeg) (jx_nd j (jx_de j).toNatClampNeg + 1) := by
    subst hj4
    subst hj2
    simp only [jx_nd, sx_nd, jx_de, sx_de, jx_ru, sx_ru, pk_us, up_uu]
  rw [hX5]
  refine xw_rdi (v := sp_ia u (sp_rm (sp_dg (jx_ru j (jx_de j).toNatClampNeg) (jx_nd j (jx_de j).toNatClampNeg + 1)) 8)) (As := [.int (sp_rm (sp_dg (jx_ru j (jx_de j).toNatClampNeg) (jx_nd j (jx_de j).toNatClampNeg + 1)) 8)]) (rest := []) ⟨hx, hb, hml, hown, hts⟩ (c_ms_isApproved l D cs ad _ u j3 (sp_rm (sp_dg (jx_ru j (jx_de j).toNatClampNeg) (jx_nd j (jx_de j).toNatClampNeg + 1)) 8) (sp_rd8 _ _)) tb_284 tb_286 sl_10 tb_1 tb_287 ⟨rfl, hd_ms_isApproved⟩ ⟨Nat.le_of_ble_eq_true rfl, Nat.le_of_ble_eq_true rfl⟩ rfl rfl hK hP hD hN 0 0 rfl rfl hl.1 rfl (Nat.le_of_ble_eq_true rfl) d_ms_doInstruction_110 ⟨Nat.zero_le _, Nat.zero_le _⟩ ?_
  refine lv_if_eq hx hb d_ms_doInstruction_113 (tgt := 120) (by decide) (fun z => absurd z (by rw [h]; decide)) (fun _ => ?_)
  refine lv_iconst (v := 0) hx hb d_ms_doInstruction_116 (by decide) ?_
  refine lv_goto hx hb d_ms_doInstruction_117 (tgt := 121) (by decide) ?_
  exact W.iret hx hb hret (fun t ht hW => ⟨⟨_, j3, rfl, ⟨rfl, (by subst hj4; subst hj2; exact ⟨rfl, by first | rfl | simp only [jx_nd, sx_nd, jx_de, sx_de, jx_ru, sx_ru, pk_us, up_uu], rfl⟩)⟩, by rw [ht]; exact hP, va_K.moved hW.alike hK, hD⟩, hS.F ht⟩) hS.2.2 d_ms_doInstruction_121
set_option maxHeartbeats 4000000 in
set_option maxRecDepth 100000 in
theorem c_do_4m (l : Launch) (D : va_G) (cs : Nat → ClassId) (ad : Nat → Nat) (sz : Nat) (u : Sg) (j : Jx)  (hs : sg_st u < 100) (hd : vp_in (jx_de j) 6) (hc : sp_dg (jx_ru j (jx_de j).toNatClampNeg) (jx_nd j (jx_de j).toNatClampNeg) = 4) (h0 : sp_tk (sg_ma u) (sp_rm (sp_dg (jx_ru j (jx_de j).toNatClampNeg) (jx_nd j (jx_de j).toNatClampNeg + 1)) 8) = 0) : Met l y_ms_doInstruction (Cond.code y_ms_doInstruction b_ms_doInstruction 1 (some .int) :: TB) { frames := 5, cells := 0, slots := 0, locals := 120 } (va_Pc [.ref (ad 0)] (xw_Pre D cs ad u j sz)) (va_Qi (fun (r : Int32) (j1 : Jx) => r = 6 ∧ True) (fun (j1 : Jx) t => xw_B D cs ad (va_A (xw ad cs u j) sz) u j1 t) (va_A (xw ad cs u j) sz)) 0 0 (va_A (xw ad cs u j) sz) := by
  refine Met.ofW (cc := b_ms_doInstruction) (maxL := 1) (ret := (some .int)) (by decide) rfl ?_
  intro p e s m args below meth c s₁ B hml hv
  obtain ⟨rfl, hsz, hP, hK, hD, hN⟩ := hv
  have hx := B.exec
  have hb := B.bytes
  have hret := B.returns
  have hts := atoms_spec (ws := Cond.code y_ms_doInstruction b_ms_doInstruction 1 (some .int) :: TB) B.pre
  have hT : ∀ w ∈ TB, w.before _ s = true := fun w h => hts w (List.mem_cons_of_mem _ h)
  have hown : s.vm.findClass "MeasuredStages" = some m.cls := findClass_of_methodNamed B.named
  have hlocks := B.notSynchronized
  subst hsz
  have hD := hD.self (sz := s.heap.size)
  generalize hAe : va_A (xw ad cs u j) s.heap.size = A at hD ⊢
  have hA : ∀ q : Nat, s.heap.size ≤ q → A q := fun q h => by rw [← hAe]; exact Or.inr h
  have hS : va_S A s.heap s.heap [] := va_S.rf
  have hl := lv_entry ([.ref (ad 0)]) (n := 1) (Nat.le_of_ble_eq_true rfl)
  rw [lg_entry_eq]
  generalize (lg_sl ([.ref (ad 0)]) ++ List.replicate (1 - (lg_sl ([.ref (ad 0)])).length) Slot.unset).toArray = ls at hl ⊢
  have hl : lv_has ls 1 [(0, .ref (ad 0))] := hl
  skip
  refine lv_aload_n hx hb d_ms_doInstruction_0 rfl (lv_at hl 0 rfl) ?_
  refine va_get (D := D) (ci := 0) (v := .int (sg_st u)) (C := "MeasuredStages") (T := F_ms) (N := 12) hx hb hts (fun w h => List.mem_cons_of_mem _ (i_ms w h)) hown hK hP 0 rfl rfl 11 (by decide) (hT _ tb_80) (fun _ h9 => h9) rfl d_ms_doInstruction_1 ?_
  refine lv_bipush (v := 100) hx hb d_ms_doInstruction_4 (by decide) ?_
  refine lv_icmp_lt hx hb d_ms_doInstruction_6 (tgt := 11) (by decide) (fun _ => ?_) (fun z => absurd hs z)
  refine lv_aload_n hx hb d_ms_doInstruction_11 rfl (lv_at hl 0 rfl) ?_
  refine xw_wri (v := sp_dg (jx_ru j (jx_de j).toNatClampNeg) (jx_nd j (jx_de j).toNatClampNeg)) (u' := u) (As := []) (rest := []) ⟨hx, hb, hml, hown, hts⟩ (c_ms_takeDigit l D cs ad _ u j  hd) tb_272 tb_274 sl_7 tb_1 tb_275 ⟨rfl, hd_ms_takeDigit⟩ ⟨Nat.le_of_ble_eq_true rfl, Nat.le_of_ble_eq_true rfl⟩ rfl rfl hK hP hD hN 0 0 rfl rfl hl.1 rfl (Nat.le_of_ble_eq_true rfl) d_ms_doInstruction_12 ⟨Nat.zero_le _, Nat.zero_le _⟩ hS hA (fun j1 H locs hj2 hP hD hS => ?_)
  refine W.eq (g2 := F0 m 15 ls (.int 4 :: [])) (by rw [hc]) ?_
  refine lv_tableIn hx hb d_ms_doInstruction_15 (off := 107) (tgt := 122) (by decide) (by decide) rfl (by decide) ?_
  refine lv_aload_n hx hb d_ms_doInstruction_122 rfl (lv_at hl 0 rfl) ?_
  refine lv_aload_n hx hb d_ms_doInstruction_123 rfl (lv_at hl 0 rfl) ?_
  refine xw_wri (v := sp_dg (jx_ru j1 (jx_de j1).toNatClampNeg) (jx_nd j1 (jx_de j1).toNatClampNeg)) (u' := u) (As := []) (rest := [.ref (ad 0)]) ⟨hx, hb, hml, hown, hts⟩ (c_ms_takeDigit l D cs ad _ u j1  (by subst hj2; exact hd)) tb_272 tb_274 sl_7 tb_1 tb_275 ⟨rfl, hd_ms_takeDigit⟩ ⟨Nat.le_of_ble_eq_true rfl, Nat.le_of_ble_eq_true rfl⟩ rfl rfl hK hP hD hN 0 0 rfl rfl hl.1 rfl (Nat.le_of_ble_eq_true rfl) d_ms_doInstruction_124 ⟨Nat.zero_le _, Nat.zero_le _⟩ hS hA (fun j3 H locs hj4 hP hD hS => ?_)
  have hX5 : sp_dg (jx_ru j1 (jx_de j1).toNatClampNeg) (jx_nd j1 (jx_de j1).toNatClampNeg) = sp_dg (jx_ru j (jx_de j).toNatClampNeg) (jx_nd j (jx_de j).toNatClampNeg + 1) := by
    subst hj4
    subst hj2
    simp only [jx_nd, sx_nd, jx_de, sx_de, jx_ru, sx_ru, pk_us, up_uu]
  rw [hX5]
  refine lv_bipush (v := 8) hx hb d_ms_doInstruction_127 (by decide) ?_
  refine lv_irem hx hb d_ms_doInstruction_129 (by decide) ?_
  refine xw_rdi (v := 6) (As := [.int (sp_rm (sp_dg (jx_ru j (jx_de j).toNatClampNeg) (jx_nd j (jx_de j).toNatClampNeg + 1)) (8))]) (rest := []) ⟨hx, hb, hml, hown, hts⟩ (c_ms_loadSecret_m l D cs ad _ u j3 (sp_rm (sp_dg (jx_ru j (jx_de j).toNatClampNeg) (jx_nd j (jx_de j).toNatClampNeg + 1)) (8)) h0) tb_288 tb_290 sl_11 tb_1 tb_291 ⟨rfl, hd_ms_loadSecret⟩ ⟨Nat.le_of_ble_eq_true rfl, Nat.le_of_ble_eq_true rfl⟩ rfl rfl hK hP hD hN 0 0 rfl rfl hl.1 rfl (Nat.le_of_ble_eq_true rfl) d_ms_doInstruction_130 ⟨Nat.zero_le _, Nat.zero_le _⟩ ?_
  exact W.iret hx hb hret (fun t ht hW => ⟨⟨_, j3, rfl, ⟨rfl, (by subst hj4; subst hj2; trivial)⟩, by rw [ht]; exact hP, va_K.moved hW.alike hK, hD⟩, hS.F ht⟩) hS.2.2 d_ms_doInstruction_133
set_option maxHeartbeats 4000000 in
set_option maxRecDepth 100000 in
theorem c_do_4s (l : Launch) (D : va_G) (cs : Nat → ClassId) (ad : Nat → Nat) (sz : Nat) (u : Sg) (j : Jx)  (hs : sg_st u < 100) (hd : vp_in (jx_de j) 6) (hc : sp_dg (jx_ru j (jx_de j).toNatClampNeg) (jx_nd j (jx_de j).toNatClampNeg) = 4) (h0 : sp_tk (sg_ma u) (sp_rm (sp_dg (jx_ru j (jx_de j).toNatClampNeg) (jx_nd j (jx_de j).toNatClampNeg + 1)) 8) = 1) (h1 : sp_on u (sp_rm (sp_dg (jx_ru j (jx_de j).toNatClampNeg) (jx_nd j (jx_de j).toNatClampNeg + 1)) 8) = 0) : Met l y_ms_doInstruction (Cond.code y_ms_doInstruction b_ms_doInstruction 1 (some .int) :: TB) { frames := 5, cells := 0, slots := 0, locals := 120 } (va_Pc [.ref (ad 0)] (xw_Pre D cs ad u j sz)) (va_Qi (fun (r : Int32) (j1 : Jx) => r = 7 ∧ True) (fun (j1 : Jx) t => xw_B D cs ad (va_A (xw ad cs u j) sz) u j1 t) (va_A (xw ad cs u j) sz)) 0 0 (va_A (xw ad cs u j) sz) := by
  refine Met.ofW (cc := b_ms_doInstruction) (maxL := 1) (ret := (some .int)) (by decide) rfl ?_
  intro p e s m args below meth c s₁ B hml hv
  obtain ⟨rfl, hsz, hP, hK, hD, hN⟩ := hv
  have hx := B.exec
  have hb := B.bytes
  have hret := B.returns
  have hts := atoms_spec (ws := Cond.code y_ms_doInstruction b_ms_doInstruction 1 (some .int) :: TB) B.pre
  have hT : ∀ w ∈ TB, w.before _ s = true := fun w h => hts w (List.mem_cons_of_mem _ h)
  have hown : s.vm.findClass "MeasuredStages" = some m.cls := findClass_of_methodNamed B.named
  have hlocks := B.notSynchronized
  subst hsz
  have hD := hD.self (sz := s.heap.size)
  generalize hAe : va_A (xw ad cs u j) s.heap.size = A at hD ⊢
  have hA : ∀ q : Nat, s.heap.size ≤ q → A q := fun q h => by rw [← hAe]; exact Or.inr h
  have hS : va_S A s.heap s.heap [] := va_S.rf
  have hl := lv_entry ([.ref (ad 0)]) (n := 1) (Nat.le_of_ble_eq_true rfl)
  rw [lg_entry_eq]
  generalize (lg_sl ([.ref (ad 0)]) ++ List.replicate (1 - (lg_sl ([.ref (ad 0)])).length) Slot.unset).toArray = ls at hl ⊢
  have hl : lv_has ls 1 [(0, .ref (ad 0))] := hl
  skip
  refine lv_aload_n hx hb d_ms_doInstruction_0 rfl (lv_at hl 0 rfl) ?_
  refine va_get (D := D) (ci := 0) (v := .int (sg_st u)) (C := "MeasuredStages") (T := F_ms) (N := 12) hx hb hts (fun w h => List.mem_cons_of_mem _ (i_ms w h)) hown hK hP 0 rfl rfl 11 (by decide) (hT _ tb_80) (fun _ h9 => h9) rfl d_ms_doInstruction_1 ?_
  refine lv_bipush (v := 100) hx hb d_ms_doInstruction_4 (by decide) ?_
  refine lv_icmp_lt hx hb d_ms_doInstruction_6 (tgt := 11) (by decide) (fun _ => ?_) (fun z => absurd hs z)
  refine lv_aload_n hx hb d_ms_doInstruction_11 rfl (lv_at hl 0 rfl) ?_
  refine xw_wri (v := sp_dg (jx_ru j (jx_de j).toNatClampNeg) (jx_nd j (jx_de j).toNatClampNeg)) (u' := u) (As := []) (rest := []) ⟨hx, hb, hml, hown, hts⟩ (c_ms_takeDigit l D cs ad _ u j  hd) tb_272 tb_274 sl_7 tb_1 tb_275 ⟨rfl, hd_ms_takeDigit⟩ ⟨Nat.le_of_ble_eq_true rfl, Nat.le_of_ble_eq_true rfl⟩ rfl rfl hK hP hD hN 0 0 rfl rfl hl.1 rfl (Nat.le_of_ble_eq_true rfl) d_ms_doInstruction_12 ⟨Nat.zero_le _, Nat.zero_le _⟩ hS hA (fun j1 H locs hj2 hP hD hS => ?_)
  refine W.eq (g2 := F0 m 15 ls (.int 4 :: [])) (by rw [hc]) ?_
  refine lv_tableIn hx hb d_ms_doInstruction_15 (off := 107) (tgt := 122) (by decide) (by decide) rfl (by decide) ?_
  refine lv_aload_n hx hb d_ms_doInstruction_122 rfl (lv_at hl 0 rfl) ?_
  refine lv_aload_n hx hb d_ms_doInstruction_123 rfl (lv_at hl 0 rfl) ?_
  refine xw_wri (v := sp_dg (jx_ru j1 (jx_de j1).toNatClampNeg) (jx_nd j1 (jx_de j1).toNatClampNeg)) (u' := u) (As := []) (rest := [.ref (ad 0)]) ⟨hx, hb, hml, hown, hts⟩ (c_ms_takeDigit l D cs ad _ u j1  (by subst hj2; exact hd)) tb_272 tb_274 sl_7 tb_1 tb_275 ⟨rfl, hd_ms_takeDigit⟩ ⟨Nat.le_of_ble_eq_true rfl, Nat.le_of_ble_eq_true rfl⟩ rfl rfl hK hP hD hN 0 0 rfl rfl hl.1 rfl (Nat.le_of_ble_eq_true rfl) d_ms_doInstruction_124 ⟨Nat.zero_le _, Nat.zero_le _⟩ hS hA (fun j3 H locs hj4 hP hD hS => ?_)
  have hX5 : sp_dg (jx_ru j1 (jx_de j1).toNatClampNeg) (jx_nd j1 (jx_de j1).toNatClampNeg) = sp_dg (jx_ru j (jx_de j).toNatClampNeg) (jx_nd j (jx_de j).toNatClampNeg + 1) := by
    subst hj4
    subst hj2
    simp only [jx_nd, sx_nd, jx_de, sx_de, jx_ru, sx_ru, pk_us, up_uu]
  rw [hX5]
  refine lv_bipush (v := 8) hx hb d_ms_doInstruction_127 (by decide) ?_
  refine lv_irem hx hb d_ms_doInstruction_129 (by decide) ?_
  refine xw_rdi (v := 7) (As := [.int (sp_rm (sp_dg (jx_ru j (jx_de j).toNatClampNeg) (jx_nd j (jx_de j).toNatClampNeg + 1)) (8))]) (rest := []) ⟨hx, hb, hml, hown, hts⟩ (c_ms_loadSecret_s l D cs ad _ u j3 (sp_rm (sp_dg (jx_ru j (jx_de j).toNatClampNeg) (jx_nd j (jx_de j).toNatClampNeg + 1)) (8)) (sp_rd8 _ _) h0 h1) tb_288 tb_290 sl_11 tb_1 tb_291 ⟨rfl, hd_ms_loadSecret⟩ ⟨Nat.le_of_ble_eq_true rfl, Nat.le_of_ble_eq_true rfl⟩ rfl rfl hK hP hD hN 0 0 rfl rfl hl.1 rfl (Nat.le_of_ble_eq_true rfl) d_ms_doInstruction_130 ⟨Nat.zero_le _, Nat.zero_le _⟩ ?_
  exact W.iret hx hb hret (fun t ht hW => ⟨⟨_, j3, rfl, ⟨rfl, (by subst hj4; subst hj2; trivial)⟩, by rw [ht]; exact hP, va_K.moved hW.alike hK, hD⟩, hS.F ht⟩) hS.2.2 d_ms_doInstruction_133
set_option maxHeartbeats 4000000 in
set_option maxRecDepth 100000 in
theorem c_do_4t (l : Launch) (D : va_G) (cs : Nat → ClassId) (ad : Nat → Nat) (sz : Nat) (u : Sg) (j : Jx)  (hs : sg_st u < 100) (hd : vp_in (jx_de j) 6) (hc : sp_dg (jx_ru j (jx_de j).toNatClampNeg) (jx_nd j (jx_de j).toNatClampNeg) = 4) (h0 : sp_tk (sg_ma u) (sp_rm (sp_dg (jx_ru j (jx_de j).toNatClampNeg) (jx_nd j (jx_de j).toNatClampNeg + 1)) 8) = 1) (h1 : sp_on u (sp_rm (sp_dg (jx_ru j (jx_de j).toNatClampNeg) (jx_nd j (jx_de j).toNatClampNeg + 1)) 8) = 1) : Met l y_ms_doInstruction (Cond.code y_ms_doInstruction b_ms_doInstruction 1 (some .int) :: TB) { frames := 5, cells := 0, slots := 0, locals := 120 } (va_Pc [.ref (ad 0)] (xw_Pre D cs ad u j sz)) (va_Qi (fun (r : Int32) (j1 : Jx) => r = 0 ∧ jx_de j1 = jx_de j ∧ jx_nd j1 = (upd (jx_nd j) (jx_de j).toNatClampNeg (jx_nd j (jx_de j).toNatClampNeg + 1 + 1)) ∧ jx_ru j1 = jx_ru j) (fun (j1 : Jx) t => xw_B D cs ad (va_A (xw ad cs u j) sz) (ss_ac u (sg_se u (sp_rm (sp_dg (jx_ru j (jx_de j).toNatClampNeg) (jx_nd j (jx_de j).toNatClampNeg + 1)) 8).toNatClampNeg)) j1 t) (va_A (xw ad cs u j) sz)) 0 0 (va_A (xw ad cs u j) sz) := by
  refine Met.ofW (cc := b_ms_doInstruction) (maxL := 1) (ret := (some .int)) (by decide) rfl ?_
  intro p e s m args below meth c s₁ B hml hv
  obtain ⟨rfl, hsz, hP, hK, hD, hN⟩ := hv
  have hx := B.exec
  have hb := B.bytes
  have hret := B.returns
  have hts := atoms_spec (ws := Cond.code y_ms_doInstruction b_ms_doInstruction 1 (some .int) :: TB) B.pre
  have hT : ∀ w ∈ TB, w.before _ s = true := fun w h => hts w (List.mem_cons_of_mem _ h)
  have hown : s.vm.findClass "MeasuredStages" = some m.cls := findClass_of_methodNamed B.named
  have hlocks := B.notSynchronized
  subst hsz
  have hD := hD.self (sz := s.heap.size)
  generalize hAe : va_A (xw ad cs u j) s.heap.size = A at hD ⊢
  have hA : ∀ q : Nat, s.heap.size ≤ q → A q := fun q h => by rw [← hAe]; exact Or.inr h
  have hS : va_S A s.heap s.heap [] := va_S.rf
  have hl := lv_entry ([.ref (ad 0)]) (n := 1) (Nat.le_of_ble_eq_true rfl)
  rw [lg_entry_eq]
  generalize (lg_sl ([.ref (ad 0)]) ++ List.replicate (1 - (lg_sl ([.ref (ad 0)])).length) Slot.unset).toArray = ls at hl ⊢
  have hl : lv_has ls 1 [(0, .ref (ad 0))] := hl
  skip
  refine lv_aload_n hx hb d_ms_doInstruction_0 rfl (lv_at hl 0 rfl) ?_
  refine va_get (D := D) (ci := 0) (v := .int (sg_st u)) (C := "MeasuredStages") (T := F_ms) (N := 12) hx hb hts (fun w h => List.mem_cons_of_mem _ (i_ms w h)) hown hK hP 0 rfl rfl 11 (by decide) (hT _ tb_80) (fun _ h9 => h9) rfl d_ms_doInstruction_1 ?_
  refine lv_bipush (v := 100) hx hb d_ms_doInstruction_4 (by decide) ?_
  refine lv_icmp_lt hx hb d_ms_doInstruction_6 (tgt := 11) (by decide) (fun _ => ?_) (fun z => absurd hs z)
  refine lv_aload_n hx hb d_ms_doInstruction_11 rfl (lv_at hl 0 rfl) ?_
  refine xw_wri (v := sp_dg (jx_ru j (jx_de j).toNatClampNeg) (jx_nd j (jx_de j).toNatClampNeg)) (u' := u) (As := []) (rest := []) ⟨hx, hb, hml, hown, hts⟩ (c_ms_takeDigit l D cs ad _ u j  hd) tb_272 tb_274 sl_7 tb_1 tb_275 ⟨rfl, hd_ms_takeDigit⟩ ⟨Nat.le_of_ble_eq_true rfl, Nat.le_of_ble_eq_true rfl⟩ rfl rfl hK hP hD hN 0 0 rfl rfl hl.1 rfl (Nat.le_of_ble_eq_true rfl) d_ms_doInstruction_12 ⟨Nat.zero_le _, Nat.zero_le _⟩ hS hA (fun j1 H locs hj2 hP hD hS => ?_)
  refine W.eq (g2 := F0 m 15 ls (.int 4 :: [])) (by rw [hc]) ?_
  refine lv_tableIn hx hb d_ms_doInstruction_15 (off := 107) (tgt := 122) (by decide) (by decide) rfl (by decide) ?_
  refine lv_aload_n hx hb d_ms_doInstruction_122 rfl (lv_at hl 0 rfl) ?_
  refine lv_aload_n hx hb d_ms_doInstruction_123 rfl (lv_at hl 0 rfl) ?_
  refine xw_wri (v := sp_dg (jx_ru j1 (jx_de j1).toNatClampNeg) (jx_nd j1 (jx_de j1).toNatClampNeg)) (u' := u) (As := []) (rest := [.ref (ad 0)]) ⟨hx, hb, hml, hown, hts⟩ (c_ms_takeDigit l D cs ad _ u j1  (by subst hj2; exact hd)) tb_272 tb_274 sl_7 tb_1 tb_275 ⟨rfl, hd_ms_takeDigit⟩ ⟨Nat.le_of_ble_eq_true rfl, Nat.le_of_ble_eq_true rfl⟩ rfl rfl hK hP hD hN 0 0 rfl rfl hl.1 rfl (Nat.le_of_ble_eq_true rfl) d_ms_doInstruction_124 ⟨Nat.zero_le _, Nat.zero_le _⟩ hS hA (fun j3 H locs hj4 hP hD hS => ?_)
  have hX5 : sp_dg (jx_ru j1 (jx_de j1).toNatClampNeg) (jx_nd j1 (jx_de j1).toNatClampNeg) = sp_dg (jx_ru j (jx_de j).toNatClampNeg) (jx_nd j (jx_de j).toNatClampNeg + 1) := by
    subst hj4
    subst hj2
    simp only [jx_nd, sx_nd, jx_de, sx_de, jx_ru, sx_ru, pk_us, up_uu]
  rw [hX5]
  refine lv_bipush (v := 8) hx hb d_ms_doInstruction_127 (by decide) ?_
  refine lv_irem hx hb d_ms_doInstruction_129 (by decide) ?_
  refine xw_wri (v := 0) (u' := ss_ac u (sg_se u (sp_rm (sp_dg (jx_ru j (jx_de j).toNatClampNeg) (jx_nd j (jx_de j).toNatClampNeg + 1)) (8)).toNatClampNeg)) (As := [.int (sp_rm (sp_dg (jx_ru j (jx_de j).toNatClampNeg) (jx_nd j (jx_de j).toNatClampNeg + 1)) (8))]) (rest := []) ⟨hx, hb, hml, hown, hts⟩ (c_ms_loadSecret l D cs ad _ u j3 (sp_rm (sp_dg (jx_ru j (jx_de j).toNatClampNeg) (jx_nd j (jx_de j).toNatClampNeg + 1)) (8)) (sp_rd8 _ _) h0 h1) tb_288 tb_290 sl_11 tb_1 tb_291 ⟨rfl, hd_ms_loadSecret⟩ ⟨Nat.le_of_ble_eq_true rfl, Nat.le_of_ble_eq_true rfl⟩ rfl rfl hK hP hD hN 0 0 rfl rfl hl.1 rfl (Nat.le_of_ble_eq_true rfl) d_ms_doInstruction_130 ⟨Nat.zero_le _, Nat.zero_le _⟩ hS hA (fun j6 H locs hj7 hP hD hS => ?_)
  obtain ⟨v8, ev8⟩ : ∃ z : Sg, z = ss_ac u (sg_se u (sp_rm (sp_dg (jx_ru j (jx_de j).toNatClampNeg) (jx_nd j (jx_de j).toNatClampNeg + 1)) (8)).toNatClampNeg) := ⟨_, rfl⟩
  rw [← ev8] at hP hD
  rw [hj7] at hP hD
  subst ev8
  exact W.iret hx hb hret (fun t ht hW => ⟨⟨_, j3, rfl, ⟨rfl, (by subst hj4; subst hj2; exact ⟨rfl, by first | rfl | simp only [jx_nd, sx_nd, jx_de, sx_de, jx_ru, sx_ru, pk_us, up_uu], rfl⟩)⟩, by rw [ht]; exact hP, va_K.moved hW.alike hK, hD⟩, hS.F ht⟩) hS.2.2 d_ms_doInstruction_133
set_option maxHeartbeats 4000000 in
set_option maxRecDepth 100000 in
theorem c_do_5 (l : Launch) (D : va_G) (cs : Nat → ClassId) (ad : Nat → Nat) (sz : Nat) (u : Sg) (j : Jx)  (hs : sg_st u < 100) (hd : vp_in (jx_de j) 6) (hc : sp_dg (jx_ru j (jx_de j).toNatClampNeg) (jx_nd j (jx_de j).toNatClampNeg) = 5)  : Met l y_ms_doInstruction (Cond.code y_ms_doInstruction b_ms_doInstruction 1 (some .int) :: TB) { frames := 5, cells := 0, slots := 0, locals := 120 } (va_Pc [.ref (ad 0)] (xw_Pre D cs ad u j sz)) (va_Qi (fun (r : Int32) (j1 : Jx) => r = 0 ∧ jx_de j1 = jx_de j ∧ jx_nd j1 = (upd (jx_nd j) (jx_de j).toNatClampNeg (jx_nd j (jx_de j).toNatClampNeg + 1 + 1)) ∧ jx_ru j1 = jx_ru j) (fun (j1 : Jx) t => xw_B D cs ad (va_A (xw ad cs u j) sz) (ss_ac u (sp_h (sg_ac u) (sp_dg (jx_ru j (jx_de j).toNatClampNeg) (jx_nd j (jx_de j).toNatClampNeg + 1)).toInt64)) j1 t) (va_A (xw ad cs u j) sz)) 0 0 (va_A (xw ad cs u j) sz) := by
  refine Met.ofW (cc := b_ms_doInstruction) (maxL := 1) (ret := (some .int)) (by decide) rfl ?_
  intro p e s m args below meth c s₁ B hml hv
  obtain ⟨rfl, hsz, hP, hK, hD, hN⟩ := hv
  have hx := B.exec
  have hb := B.bytes
  have hret := B.returns
  have hts := atoms_spec (ws := Cond.code y_ms_doInstruction b_ms_doInstruction 1 (some .int) :: TB) B.pre
  have hT : ∀ w ∈ TB, w.before _ s = true := fun w h => hts w (List.mem_cons_of_mem _ h)
  have hown : s.vm.findClass "MeasuredStages" = some m.cls := findClass_of_methodNamed B.named
  have hlocks := B.notSynchronized
  subst hsz
  have hD := hD.self (sz := s.heap.size)
  generalize hAe : va_A (xw ad cs u j) s.heap.size = A at hD ⊢
  have hA : ∀ q : Nat, s.heap.size ≤ q → A q := fun q h => by rw [← hAe]; exact Or.inr h
  have hS : va_S A s.heap s.heap [] := va_S.rf
  have hl := lv_entry ([.ref (ad 0)]) (n := 1) (Nat.le_of_ble_eq_true rfl)
  rw [lg_entry_eq]
  generalize (lg_sl ([.ref (ad 0)]) ++ List.replicate (1 - (lg_sl ([.ref (ad 0)])).length) Slot.unset).toArray = ls at hl ⊢
  have hl : lv_has ls 1 [(0, .ref (ad 0))] := hl
  skip
  refine lv_aload_n hx hb d_ms_doInstruction_0 rfl (lv_at hl 0 rfl) ?_
  refine va_get (D := D) (ci := 0) (v := .int (sg_st u)) (C := "MeasuredStages") (T := F_ms) (N := 12) hx hb hts (fun w h => List.mem_cons_of_mem _ (i_ms w h)) hown hK hP 0 rfl rfl 11 (by decide) (hT _ tb_80) (fun _ h9 => h9) rfl d_ms_doInstruction_1 ?_
  refine lv_bipush (v := 100) hx hb d_ms_doInstruction_4 (by decide) ?_
  refine lv_icmp_lt hx hb d_ms_doInstruction_6 (tgt := 11) (by decide) (fun _ => ?_) (fun z => absurd hs z)
  refine lv_aload_n hx hb d_ms_doInstruction_11 rfl (lv_at hl 0 rfl) ?_
  refine xw_wri (v := sp_dg (jx_ru j (jx_de j).toNatClampNeg) (jx_nd j (jx_de j).toNatClampNeg)) (u' := u) (As := []) (rest := []) ⟨hx, hb, hml, hown, hts⟩ (c_ms_takeDigit l D cs ad _ u j  hd) tb_272 tb_274 sl_7 tb_1 tb_275 ⟨rfl, hd_ms_takeDigit⟩ ⟨Nat.le_of_ble_eq_true rfl, Nat.le_of_ble_eq_true rfl⟩ rfl rfl hK hP hD hN 0 0 rfl rfl hl.1 rfl (Nat.le_of_ble_eq_true rfl) d_ms_doInstruction_12 ⟨Nat.zero_le _, Nat.zero_le _⟩ hS hA (fun j1 H locs hj2 hP hD hS => ?_)
  refine W.eq (g2 := F0 m 15 ls (.int 5 :: [])) (by rw [hc]) ?_
  refine lv_tableIn hx hb d_ms_doInstruction_15 (off := 119) (tgt := 134) (by decide) (by decide) rfl (by decide) ?_
  refine lv_aload_n hx hb d_ms_doInstruction_134 rfl (lv_at hl 0 rfl) ?_
  refine lv_aload_n hx hb d_ms_doInstruction_135 rfl (lv_at hl 0 rfl) ?_
  refine va_get (D := D) (ci := 0) (v := .long (sg_ac u)) (C := "MeasuredStages") (T := F_ms) (N := 12) hx hb hts (fun w h => List.mem_cons_of_mem _ (i_ms w h)) hown hK hP 0 rfl rfl 8 (by decide) (hT _ tb_77) (fun _ h9 => h9) rfl d_ms_doInstruction_136 ?_
  refine lv_aload_n hx hb d_ms_doInstruction_139 rfl (lv_at hl 0 rfl) ?_
  refine xw_wri (v := sp_dg (jx_ru j1 (jx_de j1).toNatClampNeg) (jx_nd j1 (jx_de j1).toNatClampNeg)) (u' := u) (As := []) (rest := [.long (sg_ac u), .ref (ad 0)]) ⟨hx, hb, hml, hown, hts⟩ (c_ms_takeDigit l D cs ad _ u j1  (by subst hj2; exact hd)) tb_272 tb_274 sl_7 tb_1 tb_275 ⟨rfl, hd_ms_takeDigit⟩ ⟨Nat.le_of_ble_eq_true rfl, Nat.le_of_ble_eq_true rfl⟩ rfl rfl hK hP hD hN 0 0 rfl rfl hl.1 rfl (Nat.le_of_ble_eq_true rfl) d_ms_doInstruction_140 ⟨Nat.zero_le _, Nat.zero_le _⟩ hS hA (fun j3 H locs hj4 hP hD hS => ?_)
  have hX5 : sp_dg (jx_ru j1 (jx_de j1).toNatClampNeg) (jx_nd j1 (jx_de j1).toNatClampNeg) = sp_dg (jx_ru j (jx_de j).toNatClampNeg) (jx_nd j (jx_de j).toNatClampNeg + 1) := by
    subst hj4
    subst hj2
    simp only [jx_nd, sx_nd, jx_de, sx_de, jx_ru, sx_ru, pk_us, up_uu]
  rw [hX5]
  refine lv_i2l hx hb d_ms_doInstruction_143 rfl ?_
  refine st_l (v := sp_h (sg_ac u) ((sp_dg (jx_ru j (jx_de j).toNatClampNeg) (jx_nd j (jx_de j).toNatClampNeg + 1)).toInt64)) (As := [.long (sg_ac u), .long ((sp_dg (jx_ru j (jx_de j).toNatClampNeg) (jx_nd j (jx_de j).toNatClampNeg + 1)).toInt64)]) (rest := [.ref (ad 0)]) ⟨hx, hb, hml, hown, hts⟩ (c_ms_hash l (sg_ac u) ((sp_dg (jx_ru j (jx_de j).toNatClampNeg) (jx_nd j (jx_de j).toNatClampNeg + 1)).toInt64)) tb_235 tb_138 tb_1 tb_139 hd_ms_hash ⟨Nat.le_of_ble_eq_true rfl, Nat.le_of_ble_eq_true rfl⟩ rfl rfl hl.1 rfl (Nat.le_of_ble_eq_true rfl) d_ms_doInstruction_144 ⟨Nat.zero_le _, Nat.zero_le _⟩ ?_
  refine va_put (D := D) (ci := 0) (v := .long (sp_h (sg_ac u) ((sp_dg (jx_ru j (jx_de j).toNatClampNeg) (jx_nd j (jx_de j).toNatClampNeg + 1)).toInt64))) (ty := .long) (C := "MeasuredStages") (T := F_ms) (N := 12) hx hb hts (fun w h => List.mem_cons_of_mem _ (i_ms w h)) t_ms o_ms n_ms hown hK hP hD hS 0 rfl rfl 8 (by decide) (hT _ tb_77) (fun _ h9 => h9) rfl (by decide +kernel) rfl rfl (Nat.le_of_ble_eq_true rfl) d_ms_doInstruction_147 (fun H locs hP hD hS => ?_)
  have hP : va_P D cx (xv ad cs (sg_im u) (sg_ap u) (sg_ag u) (sg_he u) (sg_er u) (sg_ev u) (sg_en u) (sg_ma u) (sg_po u) (sg_se u) (sp_h (sg_ac u) ((sp_dg (jx_ru j (jx_de j).toNatClampNeg) (jx_nd j (jx_de j).toNatClampNeg + 1)).toInt64)) (sg_fa u) (sg_la u) (sg_st u) (jx_ru j3) (jx_nd j3) (jx_de j3) (jx_rp j3)) H := hP
  have hD : va_D A (xv ad cs (sg_im u) (sg_ap u) (sg_ag u) (sg_he u) (sg_er u) (sg_ev u) (sg_en u) (sg_ma u) (sg_po u) (sg_se u) (sp_h (sg_ac u) ((sp_dg (jx_ru j (jx_de j).toNatClampNeg) (jx_nd j (jx_de j).toNatClampNeg + 1)).toInt64)) (sg_fa u) (sg_la u) (sg_st u) (jx_ru j3) (jx_nd j3) (jx_de j3) (jx_rp j3)) := hD
  refine lv_iconst (v := 0) hx hb d_ms_doInstruction_150 (by decide) ?_
  obtain ⟨v6, ev6⟩ : ∃ z : Sg, z = (sg_im u, sg_ap u, sg_ag u, sg_he u, sg_er u, sg_ev u, sg_en u, sg_ma u, sg_po u, sg_se u, sp_h (sg_ac u) ((sp_dg (jx_ru j (jx_de j).toNatClampNeg) (jx_nd j (jx_de j).toNatClampNeg + 1)).toInt64), sg_fa u, sg_la u, sg_st u) := ⟨_, rfl⟩
  have hP : va_P D cx (xw ad cs v6 j3) H := by rw [ev6, xw_u]; exact hP
  have hD : va_D A (xw ad cs v6 j3) := by rw [ev6, xw_u]; exact hD
  subst ev6
  exact W.iret hx hb hret (fun t ht hW => ⟨⟨_, j3, rfl, ⟨rfl, (by subst hj4; subst hj2; exact ⟨rfl, by first | rfl | simp only [jx_nd, sx_nd, jx_de, sx_de, jx_ru, sx_ru, pk_us, up_uu], rfl⟩)⟩, by rw [ht]; exact hP, va_K.moved hW.alike hK, hD⟩, hS.F ht⟩) hS.2.2 d_ms_doInstruction_151
set_option maxHeartbeats 4000000 in
set_option maxRecDepth 100000 in
theorem c_do_6f (l : Launch) (D : va_G) (cs : Nat → ClassId) (ad : Nat → Nat) (sz : Nat) (u : Sg) (j : Jx)  (hs : sg_st u < 100) (hd : vp_in (jx_de j) 6) (hc : sp_dg (jx_ru j (jx_de j).toNatClampNeg) (jx_nd j (jx_de j).toNatClampNeg) = 6) (he : sg_en u = 32) : Met l y_ms_doInstruction (Cond.code y_ms_doInstruction b_ms_doInstruction 1 (some .int) :: TB) { frames := 5, cells := 0, slots := 0, locals := 120 } (va_Pc [.ref (ad 0)] (xw_Pre D cs ad u j sz)) (va_Qi (fun (r : Int32) (j1 : Jx) => r = 4 ∧ True) (fun (j1 : Jx) t => xw_B D cs ad (va_A (xw ad cs u j) sz) u j1 t) (va_A (xw ad cs u j) sz)) 0 0 (va_A (xw ad cs u j) sz) := by
  refine Met.ofW (cc := b_ms_doInstruction) (maxL := 1) (ret := (some .int)) (by decide) rfl ?_
  intro p e s m args below meth c s₁ B hml hv
  obtain ⟨rfl, hsz, hP, hK, hD, hN⟩ := hv
  have hx := B.exec
  have hb := B.bytes
  have hret := B.returns
  have hts := atoms_spec (ws := Cond.code y_ms_doInstruction b_ms_doInstruction 1 (some .int) :: TB) B.pre
  have hT : ∀ w ∈ TB, w.before _ s = true := fun w h => hts w (List.mem_cons_of_mem _ h)
  have hown : s.vm.findClass "MeasuredStages" = some m.cls := findClass_of_methodNamed B.named
  have hlocks := B.notSynchronized
  subst hsz
  have hD := hD.self (sz := s.heap.size)
  generalize hAe : va_A (xw ad cs u j) s.heap.size = A at hD ⊢
  have hA : ∀ q : Nat, s.heap.size ≤ q → A q := fun q h => by rw [← hAe]; exact Or.inr h
  have hS : va_S A s.heap s.heap [] := va_S.rf
  have hl := lv_entry ([.ref (ad 0)]) (n := 1) (Nat.le_of_ble_eq_true rfl)
  rw [lg_entry_eq]
  generalize (lg_sl ([.ref (ad 0)]) ++ List.replicate (1 - (lg_sl ([.ref (ad 0)])).length) Slot.unset).toArray = ls at hl ⊢
  have hl : lv_has ls 1 [(0, .ref (ad 0))] := hl
  skip
  refine lv_aload_n hx hb d_ms_doInstruction_0 rfl (lv_at hl 0 rfl) ?_
  refine va_get (D := D) (ci := 0) (v := .int (sg_st u)) (C := "MeasuredStages") (T := F_ms) (N := 12) hx hb hts (fun w h => List.mem_cons_of_mem _ (i_ms w h)) hown hK hP 0 rfl rfl 11 (by decide) (hT _ tb_80) (fun _ h9 => h9) rfl d_ms_doInstruction_1 ?_
  refine lv_bipush (v := 100) hx hb d_ms_doInstruction_4 (by decide) ?_
  refine lv_icmp_lt hx hb d_ms_doInstruction_6 (tgt := 11) (by decide) (fun _ => ?_) (fun z => absurd hs z)
  refine lv_aload_n hx hb d_ms_doInstruction_11 rfl (lv_at hl 0 rfl) ?_
  refine xw_wri (v := sp_dg (jx_ru j (jx_de j).toNatClampNeg) (jx_nd j (jx_de j).toNatClampNeg)) (u' := u) (As := []) (rest := []) ⟨hx, hb, hml, hown, hts⟩ (c_ms_takeDigit l D cs ad _ u j  hd) tb_272 tb_274 sl_7 tb_1 tb_275 ⟨rfl, hd_ms_takeDigit⟩ ⟨Nat.le_of_ble_eq_true rfl, Nat.le_of_ble_eq_true rfl⟩ rfl rfl hK hP hD hN 0 0 rfl rfl hl.1 rfl (Nat.le_of_ble_eq_true rfl) d_ms_doInstruction_12 ⟨Nat.zero_le _, Nat.zero_le _⟩ hS hA (fun j1 H locs hj2 hP hD hS => ?_)
  refine W.eq (g2 := F0 m 15 ls (.int 6 :: [])) (by rw [hc]) ?_
  refine lv_tableIn hx hb d_ms_doInstruction_15 (off := 137) (tgt := 152) (by decide) (by decide) rfl (by decide) ?_
  refine lv_aload_n hx hb d_ms_doInstruction_152 rfl (lv_at hl 0 rfl) ?_
  refine lv_aload_n hx hb d_ms_doInstruction_153 rfl (lv_at hl 0 rfl) ?_
  refine xw_wri (v := sp_rm (sp_dg (jx_ru j1 (jx_de j1).toNatClampNeg) (jx_nd j1 (jx_de j1).toNatClampNeg)) 6) (u' := u) (As := []) (rest := [.ref (ad 0)]) ⟨hx, hb, hml, hown, hts⟩ (c_ms_takeRegister l D cs ad _ u j1  (by subst hj2; exact hd)) tb_280 tb_282 sl_9 tb_1 tb_283 ⟨rfl, hd_ms_takeRegister⟩ ⟨Nat.le_of_ble_eq_true rfl, Nat.le_of_ble_eq_true rfl⟩ rfl rfl hK hP hD hN 0 0 rfl rfl hl.1 rfl (Nat.le_of_ble_eq_true rfl) d_ms_doInstruction_154 ⟨Nat.zero_le _, Nat.zero_le _⟩ hS hA (fun j3 H locs hj4 hP hD hS => ?_)
  have hX5 : sp_dg (jx_ru j1 (jx_de j1).toNatClampNeg) (jx_nd j1 (jx_de j1).toNatClampNeg) = sp_dg (jx_ru j (jx_de j).toNatClampNeg) (jx_nd j (jx_de j).toNatClampNeg + 1) := by
    subst hj4
    subst hj2
    simp only [jx_nd, sx_nd, jx_de, sx_de, jx_ru, sx_ru, pk_us, up_uu]
  rw [hX5]
  refine lv_aload_n hx hb d_ms_doInstruction_157 rfl (lv_at hl 0 rfl) ?_
  refine va_get (D := D) (ci := 0) (v := .long (sg_ac u)) (C := "MeasuredStages") (T := F_ms) (N := 12) hx hb hts (fun w h => List.mem_cons_of_mem _ (i_ms w h)) hown hK hP 0 rfl rfl 8 (by decide) (hT _ tb_77) (fun _ h9 => h9) rfl d_ms_doInstruction_158 ?_
  refine xw_rdi (v := 4) (As := [.int (sp_rm (sp_dg (jx_ru j (jx_de j).toNatClampNeg) (jx_nd j (jx_de j).toNatClampNeg + 1)) 6), .long (sg_ac u)]) (rest := []) ⟨hx, hb, hml, hown, hts⟩ (c_ms_extendOrFault_f l D cs ad _ u j3 (sp_rm (sp_dg (jx_ru j (jx_de j).toNatClampNeg) (jx_nd j (jx_de j).toNatClampNeg + 1)) 6) (sg_ac u) (by subst hj4; subst hj2; exact he)) tb_256 tb_258 sl_4 tb_1 tb_259 ⟨rfl, hd_ms_extendOrFault⟩ ⟨Nat.le_of_ble_eq_true rfl, Nat.le_of_ble_eq_true rfl⟩ rfl rfl hK hP hD hN 0 0 rfl rfl hl.1 rfl (Nat.le_of_ble_eq_true rfl) d_ms_doInstruction_161 ⟨Nat.zero_le _, Nat.zero_le _⟩ ?_
  exact W.iret hx hb hret (fun t ht hW => ⟨⟨_, j3, rfl, ⟨rfl, (by subst hj4; subst hj2; trivial)⟩, by rw [ht]; exact hP, va_K.moved hW.alike hK, hD⟩, hS.F ht⟩) hS.2.2 d_ms_doInstruction_164
set_option maxHeartbeats 4000000 in
set_option maxRecDepth 100000 in
theorem c_do_6t (l : Launch) (D : va_G) (cs : Nat → ClassId) (ad : Nat → Nat) (sz : Nat) (u : Sg) (j : Jx)  (hs : sg_st u < 100) (hd : vp_in (jx_de j) 6) (hc : sp_dg (jx_ru j (jx_de j).toNatClampNeg) (jx_nd j (jx_de j).toNatClampNeg) = 6) (he : vp_in (sg_en u) 32) : Met l y_ms_doInstruction (Cond.code y_ms_doInstruction b_ms_doInstruction 1 (some .int) :: TB) { frames := 5, cells := 0, slots := 0, locals := 120 } (va_Pc [.ref (ad 0)] (xw_Pre D cs ad u j sz)) (va_Qi (fun (r : Int32) (j1 : Jx) => r = 0 ∧ jx_de j1 = jx_de j ∧ jx_nd j1 = (upd (jx_nd j) (jx_de j).toNatClampNeg (jx_nd j (jx_de j).toNatClampNeg + 1 + 1)) ∧ jx_ru j1 = jx_ru j) (fun (j1 : Jx) t => xw_B D cs ad (va_A (xw ad cs u j) sz) (sp_no u (sp_rm (sp_dg (jx_ru j (jx_de j).toNatClampNeg) (jx_nd j (jx_de j).toNatClampNeg + 1)) 6) (sg_ac u)) j1 t) (va_A (xw ad cs u j) sz)) 0 0 (va_A (xw ad cs u j) sz) := by
  refine Met.ofW (cc := b_ms_doInstruction) (maxL := 1) (ret := (some .int)) (by decide) rfl ?_
  intro p e s m args below meth c s₁ B hml hv
  obtain ⟨rfl, hsz, hP, hK, hD, hN⟩ := hv
  have hx := B.exec
  have hb := B.bytes
  have hret := B.returns
  have hts := atoms_spec (ws := Cond.code y_ms_doInstruction b_ms_doInstruction 1 (some .int) :: TB) B.pre
  have hT : ∀ w ∈ TB, w.before _ s = true := fun w h => hts w (List.mem_cons_of_mem _ h)
  have hown : s.vm.findClass "MeasuredStages" = some m.cls := findClass_of_methodNamed B.named
  have hlocks := B.notSynchronized
  subst hsz
  have hD := hD.self (sz := s.heap.size)
  generalize hAe : va_A (xw ad cs u j) s.heap.size = A at hD ⊢
  have hA : ∀ q : Nat, s.heap.size ≤ q → A q := fun q h => by rw [← hAe]; exact Or.inr h
  have hS : va_S A s.heap s.heap [] := va_S.rf
  have hl := lv_entry ([.ref (ad 0)]) (n := 1) (Nat.le_of_ble_eq_true rfl)
  rw [lg_entry_eq]
  generalize (lg_sl ([.ref (ad 0)]) ++ List.replicate (1 - (lg_sl ([.ref (ad 0)])).length) Slot.unset).toArray = ls at hl ⊢
  have hl : lv_has ls 1 [(0, .ref (ad 0))] := hl
  skip
  refine lv_aload_n hx hb d_ms_doInstruction_0 rfl (lv_at hl 0 rfl) ?_
  refine va_get (D := D) (ci := 0) (v := .int (sg_st u)) (C := "MeasuredStages") (T := F_ms) (N := 12) hx hb hts (fun w h => List.mem_cons_of_mem _ (i_ms w h)) hown hK hP 0 rfl rfl 11 (by decide) (hT _ tb_80) (fun _ h9 => h9) rfl d_ms_doInstruction_1 ?_
  refine lv_bipush (v := 100) hx hb d_ms_doInstruction_4 (by decide) ?_
  refine lv_icmp_lt hx hb d_ms_doInstruction_6 (tgt := 11) (by decide) (fun _ => ?_) (fun z => absurd hs z)
  refine lv_aload_n hx hb d_ms_doInstruction_11 rfl (lv_at hl 0 rfl) ?_
  refine xw_wri (v := sp_dg (jx_ru j (jx_de j).toNatClampNeg) (jx_nd j (jx_de j).toNatClampNeg)) (u' := u) (As := []) (rest := []) ⟨hx, hb, hml, hown, hts⟩ (c_ms_takeDigit l D cs ad _ u j  hd) tb_272 tb_274 sl_7 tb_1 tb_275 ⟨rfl, hd_ms_takeDigit⟩ ⟨Nat.le_of_ble_eq_true rfl, Nat.le_of_ble_eq_true rfl⟩ rfl rfl hK hP hD hN 0 0 rfl rfl hl.1 rfl (Nat.le_of_ble_eq_true rfl) d_ms_doInstruction_12 ⟨Nat.zero_le _, Nat.zero_le _⟩ hS hA (fun j1 H locs hj2 hP hD hS => ?_)
  refine W.eq (g2 := F0 m 15 ls (.int 6 :: [])) (by rw [hc]) ?_
  refine lv_tableIn hx hb d_ms_doInstruction_15 (off := 137) (tgt := 152) (by decide) (by decide) rfl (by decide) ?_
  refine lv_aload_n hx hb d_ms_doInstruction_152 rfl (lv_at hl 0 rfl) ?_
  refine lv_aload_n hx hb d_ms_doInstruction_153 rfl (lv_at hl 0 rfl) ?_
  refine xw_wri (v := sp_rm (sp_dg (jx_ru j1 (jx_de j1).toNatClampNeg) (jx_nd j1 (jx_de j1).toNatClampNeg)) 6) (u' := u) (As := []) (rest := [.ref (ad 0)]) ⟨hx, hb, hml, hown, hts⟩ (c_ms_takeRegister l D cs ad _ u j1  (by subst hj2; exact hd)) tb_280 tb_282 sl_9 tb_1 tb_283 ⟨rfl, hd_ms_takeRegister⟩ ⟨Nat.le_of_ble_eq_true rfl, Nat.le_of_ble_eq_true rfl⟩ rfl rfl hK hP hD hN 0 0 rfl rfl hl.1 rfl (Nat.le_of_ble_eq_true rfl) d_ms_doInstruction_154 ⟨Nat.zero_le _, Nat.zero_le _⟩ hS hA (fun j3 H locs hj4 hP hD hS => ?_)
  have hX5 : sp_dg (jx_ru j1 (jx_de j1).toNatClampNeg) (jx_nd j1 (jx_de j1).toNatClampNeg) = sp_dg (jx_ru j (jx_de j).toNatClampNeg) (jx_nd j (jx_de j).toNatClampNeg + 1) := by
    subst hj4
    subst hj2
    simp only [jx_nd, sx_nd, jx_de, sx_de, jx_ru, sx_ru, pk_us, up_uu]
  rw [hX5]
  refine lv_aload_n hx hb d_ms_doInstruction_157 rfl (lv_at hl 0 rfl) ?_
  refine va_get (D := D) (ci := 0) (v := .long (sg_ac u)) (C := "MeasuredStages") (T := F_ms) (N := 12) hx hb hts (fun w h => List.mem_cons_of_mem _ (i_ms w h)) hown hK hP 0 rfl rfl 8 (by decide) (hT _ tb_77) (fun _ h9 => h9) rfl d_ms_doInstruction_158 ?_
  refine xw_wri (v := 0) (u' := sp_no u (sp_rm (sp_dg (jx_ru j (jx_de j).toNatClampNeg) (jx_nd j (jx_de j).toNatClampNeg + 1)) 6) (sg_ac u)) (As := [.int (sp_rm (sp_dg (jx_ru j (jx_de j).toNatClampNeg) (jx_nd j (jx_de j).toNatClampNeg + 1)) 6), .long (sg_ac u)]) (rest := []) ⟨hx, hb, hml, hown, hts⟩ (c_ms_extendOrFault l D cs ad _ u j3 (sp_rm (sp_dg (jx_ru j (jx_de j).toNatClampNeg) (jx_nd j (jx_de j).toNatClampNeg + 1)) 6) (sg_ac u) (sp_rd6 _ _) (by subst hj4; subst hj2; exact he)) tb_256 tb_258 sl_4 tb_1 tb_259 ⟨rfl, hd_ms_extendOrFault⟩ ⟨Nat.le_of_ble_eq_true rfl, Nat.le_of_ble_eq_true rfl⟩ rfl rfl hK hP hD hN 0 0 rfl rfl hl.1 rfl (Nat.le_of_ble_eq_true rfl) d_ms_doInstruction_161 ⟨Nat.zero_le _, Nat.zero_le _⟩ hS hA (fun j6 H locs hj7 hP hD hS => ?_)
  obtain ⟨v8, ev8⟩ : ∃ z : Sg, z = sp_no u (sp_rm (sp_dg (jx_ru j (jx_de j).toNatClampNeg) (jx_nd j (jx_de j).toNatClampNeg + 1)) 6) (sg_ac u) := ⟨_, rfl⟩
  rw [← ev8] at hP hD
  rw [hj7] at hP hD
  subst ev8
  exact W.iret hx hb hret (fun t ht hW => ⟨⟨_, j3, rfl, ⟨rfl, (by subst hj4; subst hj2; exact ⟨rfl, by first | rfl | simp only [jx_nd, sx_nd, jx_de, sx_de, jx_ru, sx_ru, pk_us, up_uu], rfl⟩)⟩, by rw [ht]; exact hP, va_K.moved hW.alike hK, hD⟩, hS.F ht⟩) hS.2.2 d_ms_doInstruction_164
set_option maxHeartbeats 4000000 in
set_option maxRecDepth 100000 in
theorem c_do_7 (l : Launch) (D : va_G) (cs : Nat → ClassId) (ad : Nat → Nat) (sz : Nat) (u : Sg) (j : Jx)  (hs : sg_st u < 100) (hd : vp_in (jx_de j) 6) (hc : sp_dg (jx_ru j (jx_de j).toNatClampNeg) (jx_nd j (jx_de j).toNatClampNeg) = 7)  : Met l y_ms_doInstruction (Cond.code y_ms_doInstruction b_ms_doInstruction 1 (some .int) :: TB) { frames := 5, cells := 0, slots := 0, locals := 120 } (va_Pc [.ref (ad 0)] (xw_Pre D cs ad u j sz)) (va_Qi (fun (r : Int32) (j1 : Jx) => r = 0 ∧ jx_de j1 = jx_de j ∧ jx_nd j1 = (if sg_ac u = 0 then upd (upd (jx_nd j) (jx_de j).toNatClampNeg (jx_nd j (jx_de j).toNatClampNeg + 1 + 1)) (jx_de j).toNatClampNeg ((upd (jx_nd j) (jx_de j).toNatClampNeg (jx_nd j (jx_de j).toNatClampNeg + 1 + 1)) (jx_de j).toNatClampNeg + sp_dg (jx_ru j (jx_de j).toNatClampNeg) (jx_nd j (jx_de j).toNatClampNeg + 1)) else upd (jx_nd j) (jx_de j).toNatClampNeg (jx_nd j (jx_de j).toNatClampNeg + 1 + 1)) ∧ jx_ru j1 = jx_ru j) (fun (j1 : Jx) t => xw_B D cs ad (va_A (xw ad cs u j) sz) u j1 t) (va_A (xw ad cs u j) sz)) 0 0 (va_A (xw ad cs u j) sz) := by
  refine Met.ofW (cc := b_ms_doInstruction) (maxL := 1) (ret := (some .int)) (by decide) rfl ?_
  intro p e s m args below meth c s₁ B hml hv
  obtain ⟨rfl, hsz, hP, hK, hD, hN⟩ := hv
  have hx := B.exec
  have hb := B.bytes
  have hret := B.returns
  have hts := atoms_spec (ws := Cond.code y_ms_doInstruction b_ms_doInstruction 1 (some .int) :: TB) B.pre
  have hT : ∀ w ∈ TB, w.before _ s = true := fun w h => hts w (List.mem_cons_of_mem _ h)
  have hown : s.vm.findClass "MeasuredStages" = some m.cls := findClass_of_methodNamed B.named
  have hlocks := B.notSynchronized
  subst hsz
  have hD := hD.self (sz := s.heap.size)
  generalize hAe : va_A (xw ad cs u j) s.heap.size = A at hD ⊢
  have hA : ∀ q : Nat, s.heap.size ≤ q → A q := fun q h => by rw [← hAe]; exact Or.inr h
  have hS : va_S A s.heap s.heap [] := va_S.rf
  have hl := lv_entry ([.ref (ad 0)]) (n := 1) (Nat.le_of_ble_eq_true rfl)
  rw [lg_entry_eq]
  generalize (lg_sl ([.ref (ad 0)]) ++ List.replicate (1 - (lg_sl ([.ref (ad 0)])).length) Slot.unset).toArray = ls at hl ⊢
  have hl : lv_has ls 1 [(0, .ref (ad 0))] := hl
  skip
  refine lv_aload_n hx hb d_ms_doInstruction_0 rfl (lv_at hl 0 rfl) ?_
  refine va_get (D := D) (ci := 0) (v := .int (sg_st u)) (C := "MeasuredStages") (T := F_ms) (N := 12) hx hb hts (fun w h => List.mem_cons_of_mem _ (i_ms w h)) hown hK hP 0 rfl rfl 11 (by decide) (hT _ tb_80) (fun _ h9 => h9) rfl d_ms_doInstruction_1 ?_
  refine lv_bipush (v := 100) hx hb d_ms_doInstruction_4 (by decide) ?_
  refine lv_icmp_lt hx hb d_ms_doInstruction_6 (tgt := 11) (by decide) (fun _ => ?_) (fun z => absurd hs z)
  refine lv_aload_n hx hb d_ms_doInstruction_11 rfl (lv_at hl 0 rfl) ?_
  refine xw_wri (v := sp_dg (jx_ru j (jx_de j).toNatClampNeg) (jx_nd j (jx_de j).toNatClampNeg)) (u' := u) (As := []) (rest := []) ⟨hx, hb, hml, hown, hts⟩ (c_ms_takeDigit l D cs ad _ u j  hd) tb_272 tb_274 sl_7 tb_1 tb_275 ⟨rfl, hd_ms_takeDigit⟩ ⟨Nat.le_of_ble_eq_true rfl, Nat.le_of_ble_eq_true rfl⟩ rfl rfl hK hP hD hN 0 0 rfl rfl hl.1 rfl (Nat.le_of_ble_eq_true rfl) d_ms_doInstruction_12 ⟨Nat.zero_le _, Nat.zero_le _⟩ hS hA (fun j1 H locs hj2 hP hD hS => ?_)
  refine W.eq (g2 := F0 m 15 ls (.int 7 :: [])) (by rw [hc]) ?_
  refine lv_tableIn hx hb d_ms_doInstruction_15 (off := 150) (tgt := 165) (by decide) (by decide) rfl (by decide) ?_
  refine lv_aload_n hx hb d_ms_doInstruction_165 rfl (lv_at hl 0 rfl) ?_
  refine lv_aload_n hx hb d_ms_doInstruction_166 rfl (lv_at hl 0 rfl) ?_
  refine xw_wri (v := sp_dg (jx_ru j1 (jx_de j1).toNatClampNeg) (jx_nd j1 (jx_de j1).toNatClampNeg)) (u' := u) (As := []) (rest := [.ref (ad 0)]) ⟨hx, hb, hml, hown, hts⟩ (c_ms_takeDigit l D cs ad _ u j1  (by subst hj2; exact hd)) tb_272 tb_274 sl_7 tb_1 tb_275 ⟨rfl, hd_ms_takeDigit⟩ ⟨Nat.le_of_ble_eq_true rfl, Nat.le_of_ble_eq_true rfl⟩ rfl rfl hK hP hD hN 0 0 rfl rfl hl.1 rfl (Nat.le_of_ble_eq_true rfl) d_ms_doInstruction_167 ⟨Nat.zero_le _, Nat.zero_le _⟩ hS hA (fun j3 H locs hj4 hP hD hS => ?_)
  have hX5 : sp_dg (jx_ru j1 (jx_de j1).toNatClampNeg) (jx_nd j1 (jx_de j1).toNatClampNeg) = sp_dg (jx_ru j (jx_de j).toNatClampNeg) (jx_nd j (jx_de j).toNatClampNeg + 1) := by
    subst hj4
    subst hj2
    simp only [jx_nd, sx_nd, jx_de, sx_de, jx_ru, sx_ru, pk_us, up_uu]
  rw [hX5]
  refine xw_wrv (u' := u) (As := [.int (sp_dg (jx_ru j (jx_de j).toNatClampNeg) (jx_nd j (jx_de j).toNatClampNeg + 1))]) (rest := []) ⟨hx, hb, hml, hown, hts⟩ (c_ms_passOverIfZero l D cs ad _ u j3 (sp_dg (jx_ru j (jx_de j).toNatClampNeg) (jx_nd j (jx_de j).toNatClampNeg + 1)) (by subst hj4; subst hj2; exact hd)) tb_305 tb_307 sl_13 tb_1 tb_308 ⟨rfl, hd_ms_passOverIfZero⟩ ⟨Nat.le_of_ble_eq_true rfl, Nat.le_of_ble_eq_true rfl⟩ rfl rfl hK hP hD hN 0 0 rfl rfl hl.1 rfl (Nat.le_of_ble_eq_true rfl) d_ms_doInstruction_170 ⟨Nat.zero_le _, Nat.zero_le _⟩ hS hA (fun j6 H locs hj7 hP hD hS => ?_)
  refine lv_iconst (v := 0) hx hb d_ms_doInstruction_173 (by decide) ?_
  exact W.iret hx hb hret (fun t ht hW => ⟨⟨_, j6, rfl, ⟨rfl, (by subst hj7; subst hj4; subst hj2; exact ⟨by split <;> rfl, by by_cases z : sg_ac u = 0 <;> simp only [z, ↓reduceIte, jx_nd, sx_nd, jx_de, sx_de, jx_ru, sx_ru, pk_us, up_uu], by split <;> rfl⟩)⟩, by rw [ht]; exact hP, va_K.moved hW.alike hK, hD⟩, hS.F ht⟩) hS.2.2 d_ms_doInstruction_174
set_option maxHeartbeats 4000000 in
set_option maxRecDepth 100000 in
theorem c_do_8c (l : Launch) (D : va_G) (cs : Nat → ClassId) (ad : Nat → Nat) (sz : Nat) (u : Sg) (j : Jx)  (hs : sg_st u < 100) (hd : vp_in (jx_de j) 6) (hc : sp_dg (jx_ru j (jx_de j).toNatClampNeg) (jx_nd j (jx_de j).toNatClampNeg) = 8) (h : sp_lf (sg_ma u) = -1) : Met l y_ms_doInstruction (Cond.code y_ms_doInstruction b_ms_doInstruction 1 (some .int) :: TB) { frames := 5, cells := 0, slots := 0, locals := 120 } (va_Pc [.ref (ad 0)] (xw_Pre D cs ad u j sz)) (va_Qi (fun (r : Int32) (j1 : Jx) => r = 8 ∧ True) (fun (j1 : Jx) t => xw_B D cs ad (va_A (xw ad cs u j) sz) u j1 t) (va_A (xw ad cs u j) sz)) 0 0 (va_A (xw ad cs u j) sz) := by
  refine Met.ofW (cc := b_ms_doInstruction) (maxL := 1) (ret := (some .int)) (by decide) rfl ?_
  intro p e s m args below meth c s₁ B hml hv
  obtain ⟨rfl, hsz, hP, hK, hD, hN⟩ := hv
  have hx := B.exec
  have hb := B.bytes
  have hret := B.returns
  have hts := atoms_spec (ws := Cond.code y_ms_doInstruction b_ms_doInstruction 1 (some .int) :: TB) B.pre
  have hT : ∀ w ∈ TB, w.before _ s = true := fun w h => hts w (List.mem_cons_of_mem _ h)
  have hown : s.vm.findClass "MeasuredStages" = some m.cls := findClass_of_methodNamed B.named
  have hlocks := B.notSynchronized
  subst hsz
  have hD := hD.self (sz := s.heap.size)
  generalize hAe : va_A (xw ad cs u j) s.heap.size = A at hD ⊢
  have hA : ∀ q : Nat, s.heap.size ≤ q → A q := fun q h => by rw [← hAe]; exact Or.inr h
  have hS : va_S A s.heap s.heap [] := va_S.rf
  have hl := lv_entry ([.ref (ad 0)]) (n := 1) (Nat.le_of_ble_eq_true rfl)
  rw [lg_entry_eq]
  generalize (lg_sl ([.ref (ad 0)]) ++ List.replicate (1 - (lg_sl ([.ref (ad 0)])).length) Slot.unset).toArray = ls at hl ⊢
  have hl : lv_has ls 1 [(0, .ref (ad 0))] := hl
  skip
  refine lv_aload_n hx hb d_ms_doInstruction_0 rfl (lv_at hl 0 rfl) ?_
  refine va_get (D := D) (ci := 0) (v := .int (sg_st u)) (C := "MeasuredStages") (T := F_ms) (N := 12) hx hb hts (fun w h => List.mem_cons_of_mem _ (i_ms w h)) hown hK hP 0 rfl rfl 11 (by decide) (hT _ tb_80) (fun _ h9 => h9) rfl d_ms_doInstruction_1 ?_
  refine lv_bipush (v := 100) hx hb d_ms_doInstruction_4 (by decide) ?_
  refine lv_icmp_lt hx hb d_ms_doInstruction_6 (tgt := 11) (by decide) (fun _ => ?_) (fun z => absurd hs z)
  refine lv_aload_n hx hb d_ms_doInstruction_11 rfl (lv_at hl 0 rfl) ?_
  refine xw_wri (v := sp_dg (jx_ru j (jx_de j).toNatClampNeg) (jx_nd j (jx_de j).toNatClampNeg)) (u' := u) (As := []) (rest := []) ⟨hx, hb, hml, hown, hts⟩ (c_ms_takeDigit l D cs ad _ u j  hd) tb_272 tb_274 sl_7 tb_1 tb_275 ⟨rfl, hd_ms_takeDigit⟩ ⟨Nat.le_of_ble_eq_true rfl, Nat.le_of_ble_eq_true rfl⟩ rfl rfl hK hP hD hN 0 0 rfl rfl hl.1 rfl (Nat.le_of_ble_eq_true rfl) d_ms_doInstruction_12 ⟨Nat.zero_le _, Nat.zero_le _⟩ hS hA (fun j1 H locs hj2 hP hD hS => ?_)
  refine W.eq (g2 := F0 m 15 ls (.int 8 :: [])) (by rw [hc]) ?_
  refine lv_tableIn hx hb d_ms_doInstruction_15 (off := 160) (tgt := 175) (by decide) (by decide) rfl (by decide) ?_
  refine lv_aload_n hx hb d_ms_doInstruction_175 rfl (lv_at hl 0 rfl) ?_
  refine lv_aload_n hx hb d_ms_doInstruction_176 rfl (lv_at hl 0 rfl) ?_
  refine xw_wri (v := sp_dg (jx_ru j1 (jx_de j1).toNatClampNeg) (jx_nd j1 (jx_de j1).toNatClampNeg)) (u' := u) (As := []) (rest := [.ref (ad 0)]) ⟨hx, hb, hml, hown, hts⟩ (c_ms_takeDigit l D cs ad _ u j1  (by subst hj2; exact hd)) tb_272 tb_274 sl_7 tb_1 tb_275 ⟨rfl, hd_ms_takeDigit⟩ ⟨Nat.le_of_ble_eq_true rfl, Nat.le_of_ble_eq_true rfl⟩ rfl rfl hK hP hD hN 0 0 rfl rfl hl.1 rfl (Nat.le_of_ble_eq_true rfl) d_ms_doInstruction_177 ⟨Nat.zero_le _, Nat.zero_le _⟩ hS hA (fun j3 H locs hj4 hP hD hS => ?_)
  have hX5 : sp_dg (jx_ru j1 (jx_de j1).toNatClampNeg) (jx_nd j1 (jx_de j1).toNatClampNeg) = sp_dg (jx_ru j (jx_de j).toNatClampNeg) (jx_nd j (jx_de j).toNatClampNeg + 1) := by
    subst hj4
    subst hj2
    simp only [jx_nd, sx_nd, jx_de, sx_de, jx_ru, sx_ru, pk_us, up_uu]
  rw [hX5]
  refine lv_iconst (v := 1) hx hb d_ms_doInstruction_180 (by decide) ?_
  refine lv_iadd hx hb d_ms_doInstruction_181 ?_
  refine xw_rdi (v := 8) (As := [.int ((sp_dg (jx_ru j (jx_de j).toNatClampNeg) (jx_nd j (jx_de j).toNatClampNeg + 1)) + (1))]) (rest := []) ⟨hx, hb, hml, hown, hts⟩ (c_ms_sealAcc_c l D cs ad _ u j3 ((sp_dg (jx_ru j (jx_de j).toNatClampNeg) (jx_nd j (jx_de j).toNatClampNeg + 1)) + (1)) h) tb_309 tb_311 sl_14 tb_1 tb_312 ⟨rfl, hd_ms_sealAcc⟩ ⟨Nat.le_of_ble_eq_true rfl, Nat.le_of_ble_eq_true rfl⟩ rfl rfl hK hP hD hN 0 0 rfl rfl hl.1 rfl (Nat.le_of_ble_eq_true rfl) d_ms_doInstruction_182 ⟨Nat.zero_le _, Nat.zero_le _⟩ ?_
  exact W.iret hx hb hret (fun t ht hW => ⟨⟨_, j3, rfl, ⟨rfl, (by subst hj4; subst hj2; trivial)⟩, by rw [ht]; exact hP, va_K.moved hW.alike hK, hD⟩, hS.F ht⟩) hS.2.2 d_ms_doInstruction_185
set_option maxHeartbeats 4000000 in
set_option maxRecDepth 100000 in
theorem c_do_8t (l : Launch) (D : va_G) (cs : Nat → ClassId) (ad : Nat → Nat) (sz : Nat) (u : Sg) (j : Jx)  (hs : sg_st u < 100) (hd : vp_in (jx_de j) 6) (hc : sp_dg (jx_ru j (jx_de j).toNatClampNeg) (jx_nd j (jx_de j).toNatClampNeg) = 8) (hk : vp_in (sp_lf (sg_ma u)) 8) : Met l y_ms_doInstruction (Cond.code y_ms_doInstruction b_ms_doInstruction 1 (some .int) :: TB) { frames := 5, cells := 0, slots := 0, locals := 120 } (va_Pc [.ref (ad 0)] (xw_Pre D cs ad u j sz)) (va_Qi (fun (r : Int32) (j1 : Jx) => r = 0 ∧ jx_de j1 = jx_de j ∧ jx_nd j1 = (upd (jx_nd j) (jx_de j).toNatClampNeg (jx_nd j (jx_de j).toNatClampNeg + 1 + 1)) ∧ jx_ru j1 = jx_ru j) (fun (j1 : Jx) t => xw_B D cs ad (va_A (xw ad cs u j) sz) (sp_fi u (sp_lf (sg_ma u)) (sp_dg (jx_ru j (jx_de j).toNatClampNeg) (jx_nd j (jx_de j).toNatClampNeg + 1) + 1) (sg_ac u)) j1 t) (va_A (xw ad cs u j) sz)) 0 0 (va_A (xw ad cs u j) sz) := by
  refine Met.ofW (cc := b_ms_doInstruction) (maxL := 1) (ret := (some .int)) (by decide) rfl ?_
  intro p e s m args below meth c s₁ B hml hv
  obtain ⟨rfl, hsz, hP, hK, hD, hN⟩ := hv
  have hx := B.exec
  have hb := B.bytes
  have hret := B.returns
  have hts := atoms_spec (ws := Cond.code y_ms_doInstruction b_ms_doInstruction 1 (some .int) :: TB) B.pre
  have hT : ∀ w ∈ TB, w.before _ s = true := fun w h => hts w (List.mem_cons_of_mem _ h)
  have hown : s.vm.findClass "MeasuredStages" = some m.cls := findClass_of_methodNamed B.named
  have hlocks := B.notSynchronized
  subst hsz
  have hD := hD.self (sz := s.heap.size)
  generalize hAe : va_A (xw ad cs u j) s.heap.size = A at hD ⊢
  have hA : ∀ q : Nat, s.heap.size ≤ q → A q := fun q h => by rw [← hAe]; exact Or.inr h
  have hS : va_S A s.heap s.heap [] := va_S.rf
  have hl := lv_entry ([.ref (ad 0)]) (n := 1) (Nat.le_of_ble_eq_true rfl)
  rw [lg_entry_eq]
  generalize (lg_sl ([.ref (ad 0)]) ++ List.replicate (1 - (lg_sl ([.ref (ad 0)])).length) Slot.unset).toArray = ls at hl ⊢
  have hl : lv_has ls 1 [(0, .ref (ad 0))] := hl
  skip
  refine lv_aload_n hx hb d_ms_doInstruction_0 rfl (lv_at hl 0 rfl) ?_
  refine va_get (D := D) (ci := 0) (v := .int (sg_st u)) (C := "MeasuredStages") (T := F_ms) (N := 12) hx hb hts (fun w h => List.mem_cons_of_mem _ (i_ms w h)) hown hK hP 0 rfl rfl 11 (by decide) (hT _ tb_80) (fun _ h9 => h9) rfl d_ms_doInstruction_1 ?_
  refine lv_bipush (v := 100) hx hb d_ms_doInstruction_4 (by decide) ?_
  refine lv_icmp_lt hx hb d_ms_doInstruction_6 (tgt := 11) (by decide) (fun _ => ?_) (fun z => absurd hs z)
  refine lv_aload_n hx hb d_ms_doInstruction_11 rfl (lv_at hl 0 rfl) ?_
  refine xw_wri (v := sp_dg (jx_ru j (jx_de j).toNatClampNeg) (jx_nd j (jx_de j).toNatClampNeg)) (u' := u) (As := []) (rest := []) ⟨hx, hb, hml, hown, hts⟩ (c_ms_takeDigit l D cs ad _ u j  hd) tb_272 tb_274 sl_7 tb_1 tb_275 ⟨rfl, hd_ms_takeDigit⟩ ⟨Nat.le_of_ble_eq_true rfl, Nat.le_of_ble_eq_true rfl⟩ rfl rfl hK hP hD hN 0 0 rfl rfl hl.1 rfl (Nat.le_of_ble_eq_true rfl) d_ms_doInstruction_12 ⟨Nat.zero_le _, Nat.zero_le _⟩ hS hA (fun j1 H locs hj2 hP hD hS => ?_)
  refine W.eq (g2 := F0 m 15 ls (.int 8 :: [])) (by rw [hc]) ?_
  refine lv_tableIn hx hb d_ms_doInstruction_15 (off := 160) (tgt := 175) (by decide) (by decide) rfl (by decide) ?_
  refine lv_aload_n hx hb d_ms_doInstruction_175 rfl (lv_at hl 0 rfl) ?_
  refine lv_aload_n hx hb d_ms_doInstruction_176 rfl (lv_at hl 0 rfl) ?_
  refine xw_wri (v := sp_dg (jx_ru j1 (jx_de j1).toNatClampNeg) (jx_nd j1 (jx_de j1).toNatClampNeg)) (u' := u) (As := []) (rest := [.ref (ad 0)]) ⟨hx, hb, hml, hown, hts⟩ (c_ms_takeDigit l D cs ad _ u j1  (by subst hj2; exact hd)) tb_272 tb_274 sl_7 tb_1 tb_275 ⟨rfl, hd_ms_takeDigit⟩ ⟨Nat.le_of_ble_eq_true rfl, Nat.le_of_ble_eq_true rfl⟩ rfl rfl hK hP hD hN 0 0 rfl rfl hl.1 rfl (Nat.le_of_ble_eq_true rfl) d_ms_doInstruction_177 ⟨Nat.zero_le _, Nat.zero_le _⟩ hS hA (fun j3 H locs hj4 hP hD hS => ?_)
  have hX5 : sp_dg (jx_ru j1 (jx_de j1).toNatClampNeg) (jx_nd j1 (jx_de j1).toNatClampNeg) = sp_dg (jx_ru j (jx_de j).toNatClampNeg) (jx_nd j (jx_de j).toNatClampNeg + 1) := by
    subst hj4
    subst hj2
    simp only [jx_nd, sx_nd, jx_de, sx_de, jx_ru, sx_ru, pk_us, up_uu]
  rw [hX5]
  refine lv_iconst (v := 1) hx hb d_ms_doInstruction_180 (by decide) ?_
  refine lv_iadd hx hb d_ms_doInstruction_181 ?_
  refine xw_wri (v := 0) (u' := sp_fi u (sp_lf (sg_ma u)) ((sp_dg (jx_ru j (jx_de j).toNatClampNeg) (jx_nd j (jx_de j).toNatClampNeg + 1)) + (1)) (sg_ac u)) (As := [.int ((sp_dg (jx_ru j (jx_de j).toNatClampNeg) (jx_nd j (jx_de j).toNatClampNeg + 1)) + (1))]) (rest := []) ⟨hx, hb, hml, hown, hts⟩ (c_ms_sealAcc l D cs ad _ u j3 ((sp_dg (jx_ru j (jx_de j).toNatClampNeg) (jx_nd j (jx_de j).toNatClampNeg + 1)) + (1)) hk) tb_309 tb_311 sl_14 tb_1 tb_312 ⟨rfl, hd_ms_sealAcc⟩ ⟨Nat.le_of_ble_eq_true rfl, Nat.le_of_ble_eq_true rfl⟩ rfl rfl hK hP hD hN 0 0 rfl rfl hl.1 rfl (Nat.le_of_ble_eq_true rfl) d_ms_doInstruction_182 ⟨Nat.zero_le _, Nat.zero_le _⟩ hS hA (fun j6 H locs hj7 hP hD hS => ?_)
  obtain ⟨v8, ev8⟩ : ∃ z : Sg, z = sp_fi u (sp_lf (sg_ma u)) ((sp_dg (jx_ru j (jx_de j).toNatClampNeg) (jx_nd j (jx_de j).toNatClampNeg + 1)) + (1)) (sg_ac u) := ⟨_, rfl⟩
  rw [← ev8] at hP hD
  rw [hj7] at hP hD
  subst ev8
  exact W.iret hx hb hret (fun t ht hW => ⟨⟨_, j3, rfl, ⟨rfl, (by subst hj4; subst hj2; exact ⟨rfl, by first | rfl | simp only [jx_nd, sx_nd, jx_de, sx_de, jx_ru, sx_ru, pk_us, up_uu], rfl⟩)⟩, by rw [ht]; exact hP, va_K.moved hW.alike hK, hD⟩, hS.F ht⟩) hS.2.2 d_ms_doInstruction_185
set_option maxHeartbeats 4000000 in
set_option maxRecDepth 100000 in
theorem c_do_9 (l : Launch) (D : va_G) (cs : Nat → ClassId) (ad : Nat → Nat) (sz : Nat) (u : Sg) (j : Jx)  (hs : sg_st u < 100) (hd : vp_in (jx_de j) 6) (h9 : 8 < sp_dg (jx_ru j (jx_de j).toNatClampNeg) (jx_nd j (jx_de j).toNatClampNeg))  : Met l y_ms_doInstruction (Cond.code y_ms_doInstruction b_ms_doInstruction 1 (some .int) :: TB) { frames := 5, cells := 0, slots := 0, locals := 120 } (va_Pc [.ref (ad 0)] (xw_Pre D cs ad u j sz)) (va_Qi (fun (r : Int32) (j1 : Jx) => r = 1 ∧ True) (fun (j1 : Jx) t => xw_B D cs ad (va_A (xw ad cs u j) sz) u j1 t) (va_A (xw ad cs u j) sz)) 0 0 (va_A (xw ad cs u j) sz) := by
  refine Met.ofW (cc := b_ms_doInstruction) (maxL := 1) (ret := (some .int)) (by decide) rfl ?_
  intro p e s m args below meth c s₁ B hml hv
  obtain ⟨rfl, hsz, hP, hK, hD, hN⟩ := hv
  have hx := B.exec
  have hb := B.bytes
  have hret := B.returns
  have hts := atoms_spec (ws := Cond.code y_ms_doInstruction b_ms_doInstruction 1 (some .int) :: TB) B.pre
  have hT : ∀ w ∈ TB, w.before _ s = true := fun w h => hts w (List.mem_cons_of_mem _ h)
  have hown : s.vm.findClass "MeasuredStages" = some m.cls := findClass_of_methodNamed B.named
  have hlocks := B.notSynchronized
  subst hsz
  have hD := hD.self (sz := s.heap.size)
  generalize hAe : va_A (xw ad cs u j) s.heap.size = A at hD ⊢
  have hA : ∀ q : Nat, s.heap.size ≤ q → A q := fun q h => by rw [← hAe]; exact Or.inr h
  have hS : va_S A s.heap s.heap [] := va_S.rf
  have hl := lv_entry ([.ref (ad 0)]) (n := 1) (Nat.le_of_ble_eq_true rfl)
  rw [lg_entry_eq]
  generalize (lg_sl ([.ref (ad 0)]) ++ List.replicate (1 - (lg_sl ([.ref (ad 0)])).length) Slot.unset).toArray = ls at hl ⊢
  have hl : lv_has ls 1 [(0, .ref (ad 0))] := hl
  skip
  refine lv_aload_n hx hb d_ms_doInstruction_0 rfl (lv_at hl 0 rfl) ?_
  refine va_get (D := D) (ci := 0) (v := .int (sg_st u)) (C := "MeasuredStages") (T := F_ms) (N := 12) hx hb hts (fun w h => List.mem_cons_of_mem _ (i_ms w h)) hown hK hP 0 rfl rfl 11 (by decide) (hT _ tb_80) (fun _ h9 => h9) rfl d_ms_doInstruction_1 ?_
  refine lv_bipush (v := 100) hx hb d_ms_doInstruction_4 (by decide) ?_
  refine lv_icmp_lt hx hb d_ms_doInstruction_6 (tgt := 11) (by decide) (fun _ => ?_) (fun z => absurd hs z)
  refine lv_aload_n hx hb d_ms_doInstruction_11 rfl (lv_at hl 0 rfl) ?_
  refine xw_wri (v := sp_dg (jx_ru j (jx_de j).toNatClampNeg) (jx_nd j (jx_de j).toNatClampNeg)) (u' := u) (As := []) (rest := []) ⟨hx, hb, hml, hown, hts⟩ (c_ms_takeDigit l D cs ad _ u j  hd) tb_272 tb_274 sl_7 tb_1 tb_275 ⟨rfl, hd_ms_takeDigit⟩ ⟨Nat.le_of_ble_eq_true rfl, Nat.le_of_ble_eq_true rfl⟩ rfl rfl hK hP hD hN 0 0 rfl rfl hl.1 rfl (Nat.le_of_ble_eq_true rfl) d_ms_doInstruction_12 ⟨Nat.zero_le _, Nat.zero_le _⟩ hS hA (fun j1 H locs hj2 hP hD hS => ?_)
  refine lv_tableOut hx hb d_ms_doInstruction_15 (tgt := 186) (Or.inr (Int32.lt_iff_toInt_lt.mp h9)) (by decide) ?_
  refine lv_iconst (v := 1) hx hb d_ms_doInstruction_186 (by decide) ?_
  exact W.iret hx hb hret (fun t ht hW => ⟨⟨_, j1, rfl, ⟨rfl, (by subst hj2; trivial)⟩, by rw [ht]; exact hP, va_K.moved hW.alike hK, hD⟩, hS.F ht⟩) hS.2.2 d_ms_doInstruction_187
set_option maxHeartbeats 4000000 in
set_option maxRecDepth 100000 in
theorem c_do_tired (l : Launch) (D : va_G) (cs : Nat → ClassId) (ad : Nat → Nat) (sz : Nat) (u : Sg) (j : Jx)  (hs : ¬ sg_st u < 100) : Met l y_ms_doInstruction (Cond.code y_ms_doInstruction b_ms_doInstruction 1 (some .int) :: TB) { frames := 5, cells := 0, slots := 0, locals := 120 } (va_Pc [.ref (ad 0)] (xw_Pre D cs ad u j sz)) (vp_Si (fun r => r = 3)) 0 0 (fun _ => False) := by
  refine Met.ofW (cc := b_ms_doInstruction) (maxL := 1) (ret := (some .int)) (by decide) rfl ?_
  intro p e s m args below meth c s₁ B hml hv
  obtain ⟨rfl, hsz, hP, hK, hD, hN⟩ := hv
  have hx := B.exec
  have hb := B.bytes
  have hret := B.returns
  have hts := atoms_spec (ws := Cond.code y_ms_doInstruction b_ms_doInstruction 1 (some .int) :: TB) B.pre
  have hT : ∀ w ∈ TB, w.before _ s = true := fun w h => hts w (List.mem_cons_of_mem _ h)
  have hown : s.vm.findClass "MeasuredStages" = some m.cls := findClass_of_methodNamed B.named
  have hlocks := B.notSynchronized
  subst hsz
  have hl := lv_entry ([.ref (ad 0)]) (n := 1) (Nat.le_of_ble_eq_true rfl)
  rw [lg_entry_eq]
  generalize (lg_sl ([.ref (ad 0)]) ++ List.replicate (1 - (lg_sl ([.ref (ad 0)])).length) Slot.unset).toArray = ls at hl ⊢
  have hl : lv_has ls 1 [(0, .ref (ad 0))] := hl
  refine lv_aload_n hx hb d_ms_doInstruction_0 rfl (lv_at hl 0 rfl) ?_
  refine va_get (D := D) (ci := 0) (v := .int (sg_st u)) (C := "MeasuredStages") (T := F_ms) (N := 12) hx hb hts (fun w h => List.mem_cons_of_mem _ (i_ms w h)) hown hK hP 0 rfl rfl 11 (by decide) (hT _ tb_80) (fun _ h9 => h9) rfl d_ms_doInstruction_1 ?_
  refine lv_bipush (v := 100) hx hb d_ms_doInstruction_4 (by decide) ?_
  refine lv_icmp_lt hx hb d_ms_doInstruction_6 (tgt := 11) (by decide) (fun z => absurd z hs) (fun _ => ?_)
  refine lv_iconst (v := 3) hx hb d_ms_doInstruction_9 (by decide) ?_
  exact W.iret (v := 3) hx hb hret (fun t ht hW => ⟨_, rfl, rfl, ht⟩) (fun q h => by cases h) d_ms_doInstruction_10
