theorem rg8f {n : Int32} (h : ¬ vp_in n 8) : sp_rg n 8 = 0 := sp_rg_f 8 (by decide) h
theorem rg6f {n : Int32} (h : ¬ vp_in n 6) : sp_rg n 6 = 0 := sp_rg_f 6 (by decide) h
set_option maxHeartbeats 4000000 in
set_option maxRecDepth 100000 in
theorem f_ms_image (l : Launch) (hl0 : l.stackTraces = false) (D : va_G) (cs : Nat → ClassId) (ad : Nat → Nat) (sz : Nat) (u : Sg) (j : Jx) (n : Int32) (x : Int64) (hn : ¬ vp_in n 8) : tk_Met l y_ms_image (Cond.code y_ms_image b_ms_image 4 none :: TB) { frames := 8, cells := 1, slots := 6, locals := 260 } (va_Pc [.ref (ad 0), .int n, .long x] (xw_PreT D cs ad u j sz)) (tk_Qt "java/lang/IllegalArgumentException" (fun t => ∃ j1 : Jx, xw_B D cs ad (va_A (xw ad cs u j) sz) u j1 t) (va_A (xw ad cs u j) sz)) 1 6 (va_A (xw ad cs u j) sz) := by
  refine tk_ofW (cc := b_ms_image) (maxL := 4) (ret := none) (by decide) rfl ?_
  intro p e s m args below meth c s₁ B hml hno hv
  obtain ⟨rfl, ⟨hsz, hP, hK, hD, hN⟩, hZ⟩ := hv
  have hx := B.exec
  have hb := B.bytes
  have hret := B.returns
  have hts := atoms_spec (ws := Cond.code y_ms_image b_ms_image 4 none :: TB) B.pre
  have hT : ∀ w ∈ TB, w.before _ s = true := fun w h => hts w (List.mem_cons_of_mem _ h)
  have hown : s.vm.findClass "MeasuredStages" = some m.cls := findClass_of_methodNamed B.named
  have hlocks := B.notSynchronized
  subst hsz
  have hD := hD.self (sz := s.heap.size)
  generalize hAe : va_A (xw ad cs u j) s.heap.size = A at hD ⊢
  have hA : ∀ q : Nat, s.heap.size ≤ q → A q := fun q h => by rw [← hAe]; exact Or.inr h
  have hS : va_S A s.heap s.heap [] := va_S.rf
  have hl := lv_entry ([.ref (ad 0), .int n, .long x]) (n := 4) (Nat.le_of_ble_eq_true rfl)
  rw [lg_entry_eq]
  generalize (lg_sl ([.ref (ad 0), .int n, .long x]) ++ List.replicate (4 - (lg_sl ([.ref (ad 0), .int n, .long x])).length) Slot.unset).toArray = ls at hl ⊢
  have hl : lv_has ls 4 [(0, .ref (ad 0)), (1, .int n), (2, .long x)] := hl
  have hP0 := hP
  refine lv_iload_n hx hb d_ms_image_0 rfl (lv_at hl 1 rfl) ?_
  refine st_i (v := sp_rg n 8) (As := [.int n]) (rest := []) ⟨hx, hb, hml, hown, hts⟩ (c_ms_isImage l n) tb_151 tb_152 tb_1 tb_153 hd_ms_isImage ⟨Nat.le_of_ble_eq_true rfl, Nat.le_of_ble_eq_true rfl⟩ rfl rfl hl.1 rfl (Nat.le_of_ble_eq_true rfl) d_ms_image_1 ⟨Nat.zero_le _, Nat.zero_le _⟩ ?_
  refine lv_if_ne hx hb d_ms_image_4 (tgt := 17) (by decide) (fun z => absurd (rg8f hn) z) (fun _ => ?_)
  obtain ⟨qs, hqs⟩ : ∃ a : Nat, vk_R "MeasuredStages" 47 "an image's number is 0 .. 7" a s := hZ.2.2.2.2.2.1
  exact tk_throw hx hb (hml.trans hl.1.symm) hno hlocks hl0 (own := "MeasuredStages") (X := "java/lang/IllegalArgumentException") (Y := "java/lang/RuntimeException") (text := "an image's number is 0 .. 7") (names := ["java/lang/Exception"]) (ix := 45) (is := 47) (ic := 49) (i1 := 7) (bytes := prog_7_method_2_code) (qs := qs) (rest := []) hown (by decide) (by decide) (by decide) xd_IAE_0 xd_IAE_1 xd_IAE_2 xd_IAE_5 (xt_w1 hT hZ) (xt_w2 hT) (xt_w3_IAE hT hZ) (xt_w4 hT hZ) (xt_w5_IAE hT) (vx_isRefq hZ.1.1) (vx_isRefq hZ.2.1.1) hqs (fun x hx9 cell hc9 => xt_st hP0 rfl (by rw [hAe]; exact hS.2.2 x hx9) hc9) hS.1 d_ms_image_7 d_ms_image_10 d_ms_image_11 d_ms_image_13 d_ms_image_16 (Nat.le_of_ble_eq_true rfl) (Nat.le_of_ble_eq_true rfl) (Nat.le_of_ble_eq_true rfl) (Nat.le_of_ble_eq_true rfl) hS.2.2 (fun t ce hW hz hk hce hvm hcl => ⟨⟨_, ce, rfl, hce, hvm, hcl, j, hP.kept (fun k q hq => hk _ (hP k q hq).lt), va_K.moved hW.alike hK, hD⟩, by rw [hz]; exact Nat.le_succ_of_le hS.1, fun q h1 h2 => (hk q (Nat.lt_of_lt_of_le h1 hS.1)).trans (hS.2.1 q h1 h2)⟩)
set_option maxHeartbeats 4000000 in
set_option maxRecDepth 100000 in
theorem f_ms_approve (l : Launch) (hl0 : l.stackTraces = false) (D : va_G) (cs : Nat → ClassId) (ad : Nat → Nat) (sz : Nat) (u : Sg) (j : Jx) (n : Int32) (hn : ¬ vp_in n 8) : tk_Met l y_ms_approve (Cond.code y_ms_approve b_ms_approve 2 none :: TB) { frames := 8, cells := 1, slots := 6, locals := 260 } (va_Pc [.ref (ad 0), .int n] (xw_PreT D cs ad u j sz)) (tk_Qt "java/lang/IllegalArgumentException" (fun t => ∃ j1 : Jx, xw_B D cs ad (va_A (xw ad cs u j) sz) u j1 t) (va_A (xw ad cs u j) sz)) 1 6 (va_A (xw ad cs u j) sz) := by
  refine tk_ofW (cc := b_ms_approve) (maxL := 2) (ret := none) (by decide) rfl ?_
  intro p e s m args below meth c s₁ B hml hno hv
  obtain ⟨rfl, ⟨hsz, hP, hK, hD, hN⟩, hZ⟩ := hv
  have hx := B.exec
  have hb := B.bytes
  have hret := B.returns
  have hts := atoms_spec (ws := Cond.code y_ms_approve b_ms_approve 2 none :: TB) B.pre
  have hT : ∀ w ∈ TB, w.before _ s = true := fun w h => hts w (List.mem_cons_of_mem _ h)
  have hown : s.vm.findClass "MeasuredStages" = some m.cls := findClass_of_methodNamed B.named
  have hlocks := B.notSynchronized
  subst hsz
  have hD := hD.self (sz := s.heap.size)
  generalize hAe : va_A (xw ad cs u j) s.heap.size = A at hD ⊢
  have hA : ∀ q : Nat, s.heap.size ≤ q → A q := fun q h => by rw [← hAe]; exact Or.inr h
  have hS : va_S A s.heap s.heap [] := va_S.rf
  have hl := lv_entry ([.ref (ad 0), .int n]) (n := 2) (Nat.le_of_ble_eq_true rfl)
  rw [lg_entry_eq]
  generalize (lg_sl ([.ref (ad 0), .int n]) ++ List.replicate (2 - (lg_sl ([.ref (ad 0), .int n])).length) Slot.unset).toArray = ls at hl ⊢
  have hl : lv_has ls 2 [(0, .ref (ad 0)), (1, .int n)] := hl
  have hP0 := hP
  refine lv_iload_n hx hb d_ms_approve_0 rfl (lv_at hl 1 rfl) ?_
  refine st_i (v := sp_rg n 8) (As := [.int n]) (rest := []) ⟨hx, hb, hml, hown, hts⟩ (c_ms_isImage l n) tb_151 tb_152 tb_1 tb_153 hd_ms_isImage ⟨Nat.le_of_ble_eq_true rfl, Nat.le_of_ble_eq_true rfl⟩ rfl rfl hl.1 rfl (Nat.le_of_ble_eq_true rfl) d_ms_approve_1 ⟨Nat.zero_le _, Nat.zero_le _⟩ ?_
  refine lv_if_ne hx hb d_ms_approve_4 (tgt := 17) (by decide) (fun z => absurd (rg8f hn) z) (fun _ => ?_)
  obtain ⟨qs, hqs⟩ : ∃ a : Nat, vk_R "MeasuredStages" 47 "an image's number is 0 .. 7" a s := hZ.2.2.2.2.2.1
  exact tk_throw hx hb (hml.trans hl.1.symm) hno hlocks hl0 (own := "MeasuredStages") (X := "java/lang/IllegalArgumentException") (Y := "java/lang/RuntimeException") (text := "an image's number is 0 .. 7") (names := ["java/lang/Exception"]) (ix := 45) (is := 47) (ic := 49) (i1 := 7) (bytes := prog_7_method_2_code) (qs := qs) (rest := []) hown (by decide) (by decide) (by decide) xd_IAE_0 xd_IAE_1 xd_IAE_2 xd_IAE_5 (xt_w1 hT hZ) (xt_w2 hT) (xt_w3_IAE hT hZ) (xt_w4 hT hZ) (xt_w5_IAE hT) (vx_isRefq hZ.1.1) (vx_isRefq hZ.2.1.1) hqs (fun x hx9 cell hc9 => xt_st hP0 rfl (by rw [hAe]; exact hS.2.2 x hx9) hc9) hS.1 d_ms_approve_7 d_ms_approve_10 d_ms_approve_11 d_ms_approve_13 d_ms_approve_16 (Nat.le_of_ble_eq_true rfl) (Nat.le_of_ble_eq_true rfl) (Nat.le_of_ble_eq_true rfl) (Nat.le_of_ble_eq_true rfl) hS.2.2 (fun t ce hW hz hk hce hvm hcl => ⟨⟨_, ce, rfl, hce, hvm, hcl, j, hP.kept (fun k q hq => hk _ (hP k q hq).lt), va_K.moved hW.alike hK, hD⟩, by rw [hz]; exact Nat.le_succ_of_le hS.1, fun q h1 h2 => (hk q (Nat.lt_of_lt_of_le h1 hS.1)).trans (hS.2.1 q h1 h2)⟩)
set_option maxHeartbeats 4000000 in
set_option maxRecDepth 100000 in
theorem f_ms_boot (l : Launch) (hl0 : l.stackTraces = false) (D : va_G) (cs : Nat → ClassId) (ad : Nat → Nat) (sz : Nat) (u : Sg) (j : Jx) (n : Int32) (hn : ¬ vp_in n 8) : tk_Met l y_ms_boot (Cond.code y_ms_boot b_ms_boot 2 (some .int) :: TB) { frames := 8, cells := 1, slots := 6, locals := 260 } (va_Pc [.ref (ad 0), .int n] (xw_PreT D cs ad u j sz)) (tk_Qt "java/lang/IllegalArgumentException" (fun t => ∃ j1 : Jx, xw_B D cs ad (va_A (xw ad cs u j) sz) u j1 t) (va_A (xw ad cs u j) sz)) 1 6 (va_A (xw ad cs u j) sz) := by
  refine tk_ofW (cc := b_ms_boot) (maxL := 2) (ret := (some .int)) (by decide) rfl ?_
  intro p e s m args below meth c s₁ B hml hno hv
  obtain ⟨rfl, ⟨hsz, hP, hK, hD, hN⟩, hZ⟩ := hv
  have hx := B.exec
  have hb := B.bytes
  have hret := B.returns
  have hts := atoms_spec (ws := Cond.code y_ms_boot b_ms_boot 2 (some .int) :: TB) B.pre
  have hT : ∀ w ∈ TB, w.before _ s = true := fun w h => hts w (List.mem_cons_of_mem _ h)
  have hown : s.vm.findClass "MeasuredStages" = some m.cls := findClass_of_methodNamed B.named
  have hlocks := B.notSynchronized
  subst hsz
  have hD := hD.self (sz := s.heap.size)
  generalize hAe : va_A (xw ad cs u j) s.heap.size = A at hD ⊢
  have hA : ∀ q : Nat, s.heap.size ≤ q → A q := fun q h => by rw [← hAe]; exact Or.inr h
  have hS : va_S A s.heap s.heap [] := va_S.rf
  have hl := lv_entry ([.ref (ad 0), .int n]) (n := 2) (Nat.le_of_ble_eq_true rfl)
  rw [lg_entry_eq]
  generalize (lg_sl ([.ref (ad 0), .int n]) ++ List.replicate (2 - (lg_sl ([.ref (ad 0), .int n])).length) Slot.unset).toArray = ls at hl ⊢
  have hl : lv_has ls 2 [(0, .ref (ad 0)), (1, .int n)] := hl
  have hP0 := hP
  refine lv_iload_n hx hb d_ms_boot_0 rfl (lv_at hl 1 rfl) ?_
  refine st_i (v := sp_rg n 8) (As := [.int n]) (rest := []) ⟨hx, hb, hml, hown, hts⟩ (c_ms_isImage l n) tb_151 tb_152 tb_1 tb_153 hd_ms_isImage ⟨Nat.le_of_ble_eq_true rfl, Nat.le_of_ble_eq_true rfl⟩ rfl rfl hl.1 rfl (Nat.le_of_ble_eq_true rfl) d_ms_boot_1 ⟨Nat.zero_le _, Nat.zero_le _⟩ ?_
  refine lv_if_ne hx hb d_ms_boot_4 (tgt := 17) (by decide) (fun z => absurd (rg8f hn) z) (fun _ => ?_)
  obtain ⟨qs, hqs⟩ : ∃ a : Nat, vk_R "MeasuredStages" 47 "an image's number is 0 .. 7" a s := hZ.2.2.2.2.2.1
  exact tk_throw hx hb (hml.trans hl.1.symm) hno hlocks hl0 (own := "MeasuredStages") (X := "java/lang/IllegalArgumentException") (Y := "java/lang/RuntimeException") (text := "an image's number is 0 .. 7") (names := ["java/lang/Exception"]) (ix := 45) (is := 47) (ic := 49) (i1 := 7) (bytes := prog_7_method_2_code) (qs := qs) (rest := []) hown (by decide) (by decide) (by decide) xd_IAE_0 xd_IAE_1 xd_IAE_2 xd_IAE_5 (xt_w1 hT hZ) (xt_w2 hT) (xt_w3_IAE hT hZ) (xt_w4 hT hZ) (xt_w5_IAE hT) (vx_isRefq hZ.1.1) (vx_isRefq hZ.2.1.1) hqs (fun x hx9 cell hc9 => xt_st hP0 rfl (by rw [hAe]; exact hS.2.2 x hx9) hc9) hS.1 d_ms_boot_7 d_ms_boot_10 d_ms_boot_11 d_ms_boot_13 d_ms_boot_16 (Nat.le_of_ble_eq_true rfl) (Nat.le_of_ble_eq_true rfl) (Nat.le_of_ble_eq_true rfl) (Nat.le_of_ble_eq_true rfl) hS.2.2 (fun t ce hW hz hk hce hvm hcl => ⟨⟨_, ce, rfl, hce, hvm, hcl, j, hP.kept (fun k q hq => hk _ (hP k q hq).lt), va_K.moved hW.alike hK, hD⟩, by rw [hz]; exact Nat.le_succ_of_le hS.1, fun q h1 h2 => (hk q (Nat.lt_of_lt_of_le h1 hS.1)).trans (hS.2.1 q h1 h2)⟩)
set_option maxHeartbeats 4000000 in
set_option maxRecDepth 100000 in
theorem f_ms_register (l : Launch) (hl0 : l.stackTraces = false) (D : va_G) (cs : Nat → ClassId) (ad : Nat → Nat) (sz : Nat) (u : Sg) (j : Jx) (n : Int32) (hr : ¬ vp_in n 6) : tk_Met l y_ms_register (Cond.code y_ms_register b_ms_register 2 (some .long) :: TB) { frames := 8, cells := 1, slots := 6, locals := 260 } (va_Pc [.ref (ad 0), .int n] (xw_PreT D cs ad u j sz)) (tk_Qt "java/lang/IndexOutOfBoundsException" (fun t => ∃ j1 : Jx, xw_B D cs ad (va_A (xw ad cs u j) sz) u j1 t) (va_A (xw ad cs u j) sz)) 1 6 (va_A (xw ad cs u j) sz) := by
  refine tk_ofW (cc := b_ms_register) (maxL := 2) (ret := (some .long)) (by decide) rfl ?_
  intro p e s m args below meth c s₁ B hml hno hv
  obtain ⟨rfl, ⟨hsz, hP, hK, hD, hN⟩, hZ⟩ := hv
  have hx := B.exec
  have hb := B.bytes
  have hret := B.returns
  have hts := atoms_spec (ws := Cond.code y_ms_register b_ms_register 2 (some .long) :: TB) B.pre
  have hT : ∀ w ∈ TB, w.before _ s = true := fun w h => hts w (List.mem_cons_of_mem _ h)
  have hown : s.vm.findClass "MeasuredStages" = some m.cls := findClass_of_methodNamed B.named
  have hlocks := B.notSynchronized
  subst hsz
  have hD := hD.self (sz := s.heap.size)
  generalize hAe : va_A (xw ad cs u j) s.heap.size = A at hD ⊢
  have hA : ∀ q : Nat, s.heap.size ≤ q → A q := fun q h => by rw [← hAe]; exact Or.inr h
  have hS : va_S A s.heap s.heap [] := va_S.rf
  have hl := lv_entry ([.ref (ad 0), .int n]) (n := 2) (Nat.le_of_ble_eq_true rfl)
  rw [lg_entry_eq]
  generalize (lg_sl ([.ref (ad 0), .int n]) ++ List.replicate (2 - (lg_sl ([.ref (ad 0), .int n])).length) Slot.unset).toArray = ls at hl ⊢
  have hl : lv_has ls 2 [(0, .ref (ad 0)), (1, .int n)] := hl
  have hP0 := hP
  refine lv_iload_n hx hb d_ms_register_0 rfl (lv_at hl 1 rfl) ?_
  refine st_i (v := sp_rg n 6) (As := [.int n]) (rest := []) ⟨hx, hb, hml, hown, hts⟩ (c_rg_isRegister l n) tb_345 tb_346 tb_2 tb_347 hd_rg_isRegister ⟨Nat.le_of_ble_eq_true rfl, Nat.le_of_ble_eq_true rfl⟩ rfl rfl hl.1 rfl (Nat.le_of_ble_eq_true rfl) d_ms_register_1 ⟨Nat.zero_le _, Nat.zero_le _⟩ ?_
  refine lv_if_ne hx hb d_ms_register_4 (tgt := 17) (by decide) (fun z => absurd (rg6f hr) z) (fun _ => ?_)
  obtain ⟨qs, hqs⟩ : ∃ a : Nat, vk_R "MeasuredStages" 90 "a register's number is 0 .. 5" a s := hZ.2.2.2.2.2.2.2.1
  exact tk_throw hx hb (hml.trans hl.1.symm) hno hlocks hl0 (own := "MeasuredStages") (X := "java/lang/IndexOutOfBoundsException") (Y := "java/lang/RuntimeException") (text := "a register's number is 0 .. 5") (names := ["java/lang/Exception"]) (ix := 88) (is := 90) (ic := 92) (i1 := 7) (bytes := prog_9_method_2_code) (qs := qs) (rest := []) hown (by decide) (by decide) (by decide) xd_IOOBE_0 xd_IOOBE_1 xd_IOOBE_2 xd_IOOBE_5 (xt_w1 hT hZ) (xt_w2 hT) (xt_w3_IOOBE hT hZ) (xt_w4 hT hZ) (xt_w5_IOOBE hT) (vx_isRefq hZ.1.1) (vx_isRefq hZ.2.1.1) hqs (fun x hx9 cell hc9 => xt_st hP0 rfl (by rw [hAe]; exact hS.2.2 x hx9) hc9) hS.1 d_ms_register_7 d_ms_register_10 d_ms_register_11 d_ms_register_13 d_ms_register_16 (Nat.le_of_ble_eq_true rfl) (Nat.le_of_ble_eq_true rfl) (Nat.le_of_ble_eq_true rfl) (Nat.le_of_ble_eq_true rfl) hS.2.2 (fun t ce hW hz hk hce hvm hcl => ⟨⟨_, ce, rfl, hce, hvm, hcl, j, hP.kept (fun k q hq => hk _ (hP k q hq).lt), va_K.moved hW.alike hK, hD⟩, by rw [hz]; exact Nat.le_succ_of_le hS.1, fun q h1 h2 => (hk q (Nat.lt_of_lt_of_le h1 hS.1)).trans (hS.2.1 q h1 h2)⟩)
set_option maxHeartbeats 4000000 in
set_option maxRecDepth 100000 in
theorem f_ms_extend (l : Launch) (hl0 : l.stackTraces = false) (D : va_G) (cs : Nat → ClassId) (ad : Nat → Nat) (sz : Nat) (u : Sg) (j : Jx) (r : Int32) (v : Int64) (hr : ¬ vp_in r 6) : tk_Met l y_ms_extend (Cond.code y_ms_extend b_ms_extend 4 none :: TB) { frames := 8, cells := 1, slots := 6, locals := 260 } (va_Pc [.ref (ad 0), .int r, .long v] (xw_PreT D cs ad u j sz)) (tk_Qt "java/lang/IndexOutOfBoundsException" (fun t => ∃ j1 : Jx, xw_B D cs ad (va_A (xw ad cs u j) sz) u j1 t) (va_A (xw ad cs u j) sz)) 1 6 (va_A (xw ad cs u j) sz) := by
  refine tk_ofW (cc := b_ms_extend) (maxL := 4) (ret := none) (by decide) rfl ?_
  intro p e s m args below meth c s₁ B hml hno hv
  obtain ⟨rfl, ⟨hsz, hP, hK, hD, hN⟩, hZ⟩ := hv
  have hx := B.exec
  have hb := B.bytes
  have hret := B.returns
  have hts := atoms_spec (ws := Cond.code y_ms_extend b_ms_extend 4 none :: TB) B.pre
  have hT : ∀ w ∈ TB, w.before _ s = true := fun w h => hts w (List.mem_cons_of_mem _ h)
  have hown : s.vm.findClass "MeasuredStages" = some m.cls := findClass_of_methodNamed B.named
  have hlocks := B.notSynchronized
  subst hsz
  have hD := hD.self (sz := s.heap.size)
  generalize hAe : va_A (xw ad cs u j) s.heap.size = A at hD ⊢
  have hA : ∀ q : Nat, s.heap.size ≤ q → A q := fun q h => by rw [← hAe]; exact Or.inr h
  have hS : va_S A s.heap s.heap [] := va_S.rf
  have hl := lv_entry ([.ref (ad 0), .int r, .long v]) (n := 4) (Nat.le_of_ble_eq_true rfl)
  rw [lg_entry_eq]
  generalize (lg_sl ([.ref (ad 0), .int r, .long v]) ++ List.replicate (4 - (lg_sl ([.ref (ad 0), .int r, .long v])).length) Slot.unset).toArray = ls at hl ⊢
  have hl : lv_has ls 4 [(0, .ref (ad 0)), (1, .int r), (2, .long v)] := hl
  have hP0 := hP
  refine lv_iload_n hx hb d_ms_extend_0 rfl (lv_at hl 1 rfl) ?_
  refine st_i (v := sp_rg r 6) (As := [.int r]) (rest := []) ⟨hx, hb, hml, hown, hts⟩ (c_rg_isRegister l r) tb_345 tb_346 tb_2 tb_347 hd_rg_isRegister ⟨Nat.le_of_ble_eq_true rfl, Nat.le_of_ble_eq_true rfl⟩ rfl rfl hl.1 rfl (Nat.le_of_ble_eq_true rfl) d_ms_extend_1 ⟨Nat.zero_le _, Nat.zero_le _⟩ ?_
  refine lv_if_ne hx hb d_ms_extend_4 (tgt := 17) (by decide) (fun z => absurd (rg6f hr) z) (fun _ => ?_)
  obtain ⟨qs, hqs⟩ : ∃ a : Nat, vk_R "MeasuredStages" 90 "a register's number is 0 .. 5" a s := hZ.2.2.2.2.2.2.2.1
  exact tk_throw hx hb (hml.trans hl.1.symm) hno hlocks hl0 (own := "MeasuredStages") (X := "java/lang/IndexOutOfBoundsException") (Y := "java/lang/RuntimeException") (text := "a register's number is 0 .. 5") (names := ["java/lang/Exception"]) (ix := 88) (is := 90) (ic := 92) (i1 := 7) (bytes := prog_9_method_2_code) (qs := qs) (rest := []) hown (by decide) (by decide) (by decide) xd_IOOBE_0 xd_IOOBE_1 xd_IOOBE_2 xd_IOOBE_5 (xt_w1 hT hZ) (xt_w2 hT) (xt_w3_IOOBE hT hZ) (xt_w4 hT hZ) (xt_w5_IOOBE hT) (vx_isRefq hZ.1.1) (vx_isRefq hZ.2.1.1) hqs (fun x hx9 cell hc9 => xt_st hP0 rfl (by rw [hAe]; exact hS.2.2 x hx9) hc9) hS.1 d_ms_extend_7 d_ms_extend_10 d_ms_extend_11 d_ms_extend_13 d_ms_extend_16 (Nat.le_of_ble_eq_true rfl) (Nat.le_of_ble_eq_true rfl) (Nat.le_of_ble_eq_true rfl) (Nat.le_of_ble_eq_true rfl) hS.2.2 (fun t ce hW hz hk hce hvm hcl => ⟨⟨_, ce, rfl, hce, hvm, hcl, j, hP.kept (fun k q hq => hk _ (hP k q hq).lt), va_K.moved hW.alike hK, hD⟩, by rw [hz]; exact Nat.le_succ_of_le hS.1, fun q h1 h2 => (hk q (Nat.lt_of_lt_of_le h1 hS.1)).trans (hS.2.1 q h1 h2)⟩)
set_option maxHeartbeats 4000000 in
set_option maxRecDepth 100000 in
theorem g_ms_extend (l : Launch) (hl0 : l.stackTraces = false) (D : va_G) (cs : Nat → ClassId) (ad : Nat → Nat) (sz : Nat) (u : Sg) (j : Jx) (r : Int32) (v : Int64) (hr : vp_in r 6) (he : sg_en u = 32) : tk_Met l y_ms_extend (Cond.code y_ms_extend b_ms_extend 4 none :: TB) { frames := 8, cells := 1, slots := 6, locals := 260 } (va_Pc [.ref (ad 0), .int r, .long v] (xw_PreT D cs ad u j sz)) (tk_Qt "java/lang/IllegalStateException" (fun t => ∃ j1 : Jx, xw_B D cs ad (va_A (xw ad cs u j) sz) u j1 t) (va_A (xw ad cs u j) sz)) 1 6 (va_A (xw ad cs u j) sz) := by
  refine tk_ofW (cc := b_ms_extend) (maxL := 4) (ret := none) (by decide) rfl ?_
  intro p e s m args below meth c s₁ B hml hno hv
  obtain ⟨rfl, ⟨hsz, hP, hK, hD, hN⟩, hZ⟩ := hv
  have hx := B.exec
  have hb := B.bytes
  have hret := B.returns
  have hts := atoms_spec (ws := Cond.code y_ms_extend b_ms_extend 4 none :: TB) B.pre
  have hT : ∀ w ∈ TB, w.before _ s = true := fun w h => hts w (List.mem_cons_of_mem _ h)
  have hown : s.vm.findClass "MeasuredStages" = some m.cls := findClass_of_methodNamed B.named
  have hlocks := B.notSynchronized
  subst hsz
  have hD := hD.self (sz := s.heap.size)
  generalize hAe : va_A (xw ad cs u j) s.heap.size = A at hD ⊢
  have hA : ∀ q : Nat, s.heap.size ≤ q → A q := fun q h => by rw [← hAe]; exact Or.inr h
  have hS : va_S A s.heap s.heap [] := va_S.rf
  have hl := lv_entry ([.ref (ad 0), .int r, .long v]) (n := 4) (Nat.le_of_ble_eq_true rfl)
  rw [lg_entry_eq]
  generalize (lg_sl ([.ref (ad 0), .int r, .long v]) ++ List.replicate (4 - (lg_sl ([.ref (ad 0), .int r, .long v])).length) Slot.unset).toArray = ls at hl ⊢
  have hl : lv_has ls 4 [(0, .ref (ad 0)), (1, .int r), (2, .long v)] := hl
  have hP0 := hP
  refine lv_iload_n hx hb d_ms_extend_0 rfl (lv_at hl 1 rfl) ?_
  refine st_i (v := sp_rg r 6) (As := [.int r]) (rest := []) ⟨hx, hb, hml, hown, hts⟩ (c_rg_isRegister l r) tb_345 tb_346 tb_2 tb_347 hd_rg_isRegister ⟨Nat.le_of_ble_eq_true rfl, Nat.le_of_ble_eq_true rfl⟩ rfl rfl hl.1 rfl (Nat.le_of_ble_eq_true rfl) d_ms_extend_1 ⟨Nat.zero_le _, Nat.zero_le _⟩ ?_
  refine lv_if_ne hx hb d_ms_extend_4 (tgt := 17) (by decide) (fun _ => ?_) (fun z => absurd z (rg6 hr))
  refine lv_aload_n hx hb d_ms_extend_17 rfl (lv_at hl 0 rfl) ?_
  refine va_get (D := D) (ci := 0) (v := .ref (ad 4)) (C := "MeasuredStages") (T := F_ms) (N := 12) hx hb hts (fun w h => List.mem_cons_of_mem _ (i_ms w h)) hown hK hP 0 rfl rfl 3 (by decide) (hT _ tb_72) (fun _ h9 => h9) rfl d_ms_extend_18 ?_
  refine lv_iload_n hx hb d_ms_extend_21 rfl (lv_at hl 1 rfl) ?_
  refine lv_lload_n hx hb d_ms_extend_22 rfl (lv_at hl 2 rfl) ?_
  refine xw_rdi (v := 0) (As := [.int r, .long v]) (rest := []) ⟨hx, hb, hml, hown, hts⟩ (c_rg_measure_f l D cs ad _ u j r v he) tb_260 tb_261 tb_262 tb_2 tb_263 ⟨rfl, hd_rg_measure⟩ ⟨Nat.le_of_ble_eq_true rfl, Nat.le_of_ble_eq_true rfl⟩ rfl rfl hK hP hD hN 4 1 rfl rfl hl.1 rfl (Nat.le_of_ble_eq_true rfl) d_ms_extend_23 ⟨Nat.zero_le _, Nat.zero_le _⟩ ?_
  refine lv_if_ne hx hb d_ms_extend_26 (tgt := 39) (by decide) (fun z => absurd (by decide) z) (fun _ => ?_)
  obtain ⟨qs, hqs⟩ : ∃ a : Nat, vk_R "MeasuredStages" 100 "the log is full" a s := hZ.2.2.2.2.2.2.2.2.1
  exact tk_throw hx hb (hml.trans hl.1.symm) hno hlocks hl0 (own := "MeasuredStages") (X := "java/lang/IllegalStateException") (Y := "java/lang/RuntimeException") (text := "the log is full") (names := ["java/lang/Exception"]) (ix := 70) (is := 100) (ic := 74) (i1 := 7) (bytes := prog_8_method_2_code) (qs := qs) (rest := []) hown (by decide) (by decide) (by decide) xd_ISE_0 xd_ISE_1 xd_ISE_2 xd_ISE_5 (xt_w1 hT hZ) (xt_w2 hT) (xt_w3_ISE hT hZ) (xt_w4 hT hZ) (xt_w5_ISE hT) (vx_isRefq hZ.1.1) (vx_isRefq hZ.2.1.1) hqs (fun x hx9 cell hc9 => xt_st hP0 rfl (by rw [hAe]; exact hS.2.2 x hx9) hc9) hS.1 d_ms_extend_29 d_ms_extend_32 d_ms_extend_33 d_ms_extend_35 d_ms_extend_38 (Nat.le_of_ble_eq_true rfl) (Nat.le_of_ble_eq_true rfl) (Nat.le_of_ble_eq_true rfl) (Nat.le_of_ble_eq_true rfl) hS.2.2 (fun t ce hW hz hk hce hvm hcl => ⟨⟨_, ce, rfl, hce, hvm, hcl, j, hP.kept (fun k q hq => hk _ (hP k q hq).lt), va_K.moved hW.alike hK, hD⟩, by rw [hz]; exact Nat.le_succ_of_le hS.1, fun q h1 h2 => (hk q (Nat.lt_of_lt_of_le h1 hS.1)).trans (hS.2.1 q h1 h2)⟩)
set_option maxHeartbeats 4000000 in
set_option maxRecDepth 100000 in
theorem f_ms_eventRegister (l : Launch) (hl0 : l.stackTraces = false) (D : va_G) (cs : Nat → ClassId) (ad : Nat → Nat) (sz : Nat) (u : Sg) (j : Jx) (k : Int32) (hk : sp_rg k (sg_en u) = 0) : tk_Met l y_ms_eventRegister (Cond.code y_ms_eventRegister b_ms_eventRegister 2 (some .int) :: TB) { frames := 8, cells := 1, slots := 6, locals := 260 } (va_Pc [.ref (ad 0), .int k] (xw_PreT D cs ad u j sz)) (tk_Qt "java/util/NoSuchElementException" (fun t => ∃ j1 : Jx, xw_B D cs ad (va_A (xw ad cs u j) sz) u j1 t) (va_A (xw ad cs u j) sz)) 1 6 (va_A (xw ad cs u j) sz) := by
  refine tk_ofW (cc := b_ms_eventRegister) (maxL := 2) (ret := (some .int)) (by decide) rfl ?_
  intro p e s m args below meth c s₁ B hml hno hv
  obtain ⟨rfl, ⟨hsz, hP, hK, hD, hN⟩, hZ⟩ := hv
  have hx := B.exec
  have hb := B.bytes
  have hret := B.returns
  have hts := atoms_spec (ws := Cond.code y_ms_eventRegister b_ms_eventRegister 2 (some .int) :: TB) B.pre
  have hT : ∀ w ∈ TB, w.before _ s = true := fun w h => hts w (List.mem_cons_of_mem _ h)
  have hown : s.vm.findClass "MeasuredStages" = some m.cls := findClass_of_methodNamed B.named
  have hlocks := B.notSynchronized
  subst hsz
  have hD := hD.self (sz := s.heap.size)
  generalize hAe : va_A (xw ad cs u j) s.heap.size = A at hD ⊢
  have hA : ∀ q : Nat, s.heap.size ≤ q → A q := fun q h => by rw [← hAe]; exact Or.inr h
  have hS : va_S A s.heap s.heap [] := va_S.rf
  have hl := lv_entry ([.ref (ad 0), .int k]) (n := 2) (Nat.le_of_ble_eq_true rfl)
  rw [lg_entry_eq]
  generalize (lg_sl ([.ref (ad 0), .int k]) ++ List.replicate (2 - (lg_sl ([.ref (ad 0), .int k])).length) Slot.unset).toArray = ls at hl ⊢
  have hl : lv_has ls 2 [(0, .ref (ad 0)), (1, .int k)] := hl
  have hP0 := hP
  refine lv_aload_n hx hb d_ms_eventRegister_0 rfl (lv_at hl 0 rfl) ?_
  refine va_get (D := D) (ci := 0) (v := .ref (ad 4)) (C := "MeasuredStages") (T := F_ms) (N := 12) hx hb hts (fun w h => List.mem_cons_of_mem _ (i_ms w h)) hown hK hP 0 rfl rfl 3 (by decide) (hT _ tb_72) (fun _ h9 => h9) rfl d_ms_eventRegister_1 ?_
  refine lv_iload_n hx hb d_ms_eventRegister_4 rfl (lv_at hl 1 rfl) ?_
  refine xw_rdi (v := sp_rg k (sg_en u)) (As := [.int k]) (rest := []) ⟨hx, hb, hml, hown, hts⟩ (c_rg_hasEvent l D cs ad _ u j k) tb_380 tb_381 tb_382 tb_2 tb_383 ⟨rfl, hd_rg_hasEvent⟩ ⟨Nat.le_of_ble_eq_true rfl, Nat.le_of_ble_eq_true rfl⟩ rfl rfl hK hP hD hN 4 1 rfl rfl hl.1 rfl (Nat.le_of_ble_eq_true rfl) d_ms_eventRegister_5 ⟨Nat.zero_le _, Nat.zero_le _⟩ ?_
  refine lv_if_ne hx hb d_ms_eventRegister_8 (tgt := 21) (by decide) (fun z => absurd hk z) (fun _ => ?_)
  obtain ⟨qs, hqs⟩ : ∃ a : Nat, vk_R "MeasuredStages" 110 "the log has no such event" a s := hZ.2.2.2.2.2.2.2.2.2.1
  exact tk_throw hx hb (hml.trans hl.1.symm) hno hlocks hl0 (own := "MeasuredStages") (X := "java/util/NoSuchElementException") (Y := "java/lang/RuntimeException") (text := "the log has no such event") (names := ["java/lang/Exception"]) (ix := 108) (is := 110) (ic := 112) (i1 := 13) (bytes := prog_14_method_4_code) (qs := qs) (rest := []) hown (by decide) (by decide) (by decide) xd_NSEE_0 xd_NSEE_1 xd_NSEE_2 xd_NSEE_5 (xt_w1 hT hZ) (xt_w2 hT) (xt_w3_NSEE hT hZ) (xt_w4 hT hZ) (xt_w5_NSEE hT) (vx_isRefq hZ.1.1) (vx_isRefq hZ.2.1.1) hqs (fun x hx9 cell hc9 => xt_st hP0 rfl (by rw [hAe]; exact hS.2.2 x hx9) hc9) hS.1 d_ms_eventRegister_11 d_ms_eventRegister_14 d_ms_eventRegister_15 d_ms_eventRegister_17 d_ms_eventRegister_20 (Nat.le_of_ble_eq_true rfl) (Nat.le_of_ble_eq_true rfl) (Nat.le_of_ble_eq_true rfl) (Nat.le_of_ble_eq_true rfl) hS.2.2 (fun t ce hW hz hk hce hvm hcl => ⟨⟨_, ce, rfl, hce, hvm, hcl, j, hP.kept (fun k q hq => hk _ (hP k q hq).lt), va_K.moved hW.alike hK, hD⟩, by rw [hz]; exact Nat.le_succ_of_le hS.1, fun q h1 h2 => (hk q (Nat.lt_of_lt_of_le h1 hS.1)).trans (hS.2.1 q h1 h2)⟩)
set_option maxHeartbeats 4000000 in
set_option maxRecDepth 100000 in
theorem f_ms_eventValue (l : Launch) (hl0 : l.stackTraces = false) (D : va_G) (cs : Nat → ClassId) (ad : Nat → Nat) (sz : Nat) (u : Sg) (j : Jx) (k : Int32) (hk : sp_rg k (sg_en u) = 0) : tk_Met l y_ms_eventValue (Cond.code y_ms_eventValue b_ms_eventValue 2 (some .long) :: TB) { frames := 8, cells := 1, slots := 6, locals := 260 } (va_Pc [.ref (ad 0), .int k] (xw_PreT D cs ad u j sz)) (tk_Qt "java/util/NoSuchElementException" (fun t => ∃ j1 : Jx, xw_B D cs ad (va_A (xw ad cs u j) sz) u j1 t) (va_A (xw ad cs u j) sz)) 1 6 (va_A (xw ad cs u j) sz) := by
  refine tk_ofW (cc := b_ms_eventValue) (maxL := 2) (ret := (some .long)) (by decide) rfl ?_
  intro p e s m args below meth c s₁ B hml hno hv
  obtain ⟨rfl, ⟨hsz, hP, hK, hD, hN⟩, hZ⟩ := hv
  have hx := B.exec
  have hb := B.bytes
  have hret := B.returns
  have hts := atoms_spec (ws := Cond.code y_ms_eventValue b_ms_eventValue 2 (some .long) :: TB) B.pre
  have hT : ∀ w ∈ TB, w.before _ s = true := fun w h => hts w (List.mem_cons_of_mem _ h)
  have hown : s.vm.findClass "MeasuredStages" = some m.cls := findClass_of_methodNamed B.named
  have hlocks := B.notSynchronized
  subst hsz
  have hD := hD.self (sz := s.heap.size)
  generalize hAe : va_A (xw ad cs u j) s.heap.size = A at hD ⊢
  have hA : ∀ q : Nat, s.heap.size ≤ q → A q := fun q h => by rw [← hAe]; exact Or.inr h
  have hS : va_S A s.heap s.heap [] := va_S.rf
  have hl := lv_entry ([.ref (ad 0), .int k]) (n := 2) (Nat.le_of_ble_eq_true rfl)
  rw [lg_entry_eq]
  generalize (lg_sl ([.ref (ad 0), .int k]) ++ List.replicate (2 - (lg_sl ([.ref (ad 0), .int k])).length) Slot.unset).toArray = ls at hl ⊢
  have hl : lv_has ls 2 [(0, .ref (ad 0)), (1, .int k)] := hl
  have hP0 := hP
  refine lv_aload_n hx hb d_ms_eventValue_0 rfl (lv_at hl 0 rfl) ?_
  refine va_get (D := D) (ci := 0) (v := .ref (ad 4)) (C := "MeasuredStages") (T := F_ms) (N := 12) hx hb hts (fun w h => List.mem_cons_of_mem _ (i_ms w h)) hown hK hP 0 rfl rfl 3 (by decide) (hT _ tb_72) (fun _ h9 => h9) rfl d_ms_eventValue_1 ?_
  refine lv_iload_n hx hb d_ms_eventValue_4 rfl (lv_at hl 1 rfl) ?_
  refine xw_rdi (v := sp_rg k (sg_en u)) (As := [.int k]) (rest := []) ⟨hx, hb, hml, hown, hts⟩ (c_rg_hasEvent l D cs ad _ u j k) tb_380 tb_381 tb_382 tb_2 tb_383 ⟨rfl, hd_rg_hasEvent⟩ ⟨Nat.le_of_ble_eq_true rfl, Nat.le_of_ble_eq_true rfl⟩ rfl rfl hK hP hD hN 4 1 rfl rfl hl.1 rfl (Nat.le_of_ble_eq_true rfl) d_ms_eventValue_5 ⟨Nat.zero_le _, Nat.zero_le _⟩ ?_
  refine lv_if_ne hx hb d_ms_eventValue_8 (tgt := 21) (by decide) (fun z => absurd hk z) (fun _ => ?_)
  obtain ⟨qs, hqs⟩ : ∃ a : Nat, vk_R "MeasuredStages" 110 "the log has no such event" a s := hZ.2.2.2.2.2.2.2.2.2.1
  exact tk_throw hx hb (hml.trans hl.1.symm) hno hlocks hl0 (own := "MeasuredStages") (X := "java/util/NoSuchElementException") (Y := "java/lang/RuntimeException") (text := "the log has no such event") (names := ["java/lang/Exception"]) (ix := 108) (is := 110) (ic := 112) (i1 := 13) (bytes := prog_14_method_4_code) (qs := qs) (rest := []) hown (by decide) (by decide) (by decide) xd_NSEE_0 xd_NSEE_1 xd_NSEE_2 xd_NSEE_5 (xt_w1 hT hZ) (xt_w2 hT) (xt_w3_NSEE hT hZ) (xt_w4 hT hZ) (xt_w5_NSEE hT) (vx_isRefq hZ.1.1) (vx_isRefq hZ.2.1.1) hqs (fun x hx9 cell hc9 => xt_st hP0 rfl (by rw [hAe]; exact hS.2.2 x hx9) hc9) hS.1 d_ms_eventValue_11 d_ms_eventValue_14 d_ms_eventValue_15 d_ms_eventValue_17 d_ms_eventValue_20 (Nat.le_of_ble_eq_true rfl) (Nat.le_of_ble_eq_true rfl) (Nat.le_of_ble_eq_true rfl) (Nat.le_of_ble_eq_true rfl) hS.2.2 (fun t ce hW hz hk hce hvm hcl => ⟨⟨_, ce, rfl, hce, hvm, hcl, j, hP.kept (fun k q hq => hk _ (hP k q hq).lt), va_K.moved hW.alike hK, hD⟩, by rw [hz]; exact Nat.le_succ_of_le hS.1, fun q h1 h2 => (hk q (Nat.lt_of_lt_of_le h1 hS.1)).trans (hS.2.1 q h1 h2)⟩)
set_option maxHeartbeats 4000000 in
set_option maxRecDepth 100000 in
theorem f_ms_tamper (l : Launch) (hl0 : l.stackTraces = false) (D : va_G) (cs : Nat → ClassId) (ad : Nat → Nat) (sz : Nat) (u : Sg) (j : Jx) (k : Int32) (x : Int64) (hk : sp_rg k (sg_en u) = 0) : tk_Met l y_ms_tamper (Cond.code y_ms_tamper b_ms_tamper 4 none :: TB) { frames := 8, cells := 1, slots := 6, locals := 260 } (va_Pc [.ref (ad 0), .int k, .long x] (xw_PreT D cs ad u j sz)) (tk_Qt "java/util/NoSuchElementException" (fun t => ∃ j1 : Jx, xw_B D cs ad (va_A (xw ad cs u j) sz) u j1 t) (va_A (xw ad cs u j) sz)) 1 6 (va_A (xw ad cs u j) sz) := by
  refine tk_ofW (cc := b_ms_tamper) (maxL := 4) (ret := none) (by decide) rfl ?_
  intro p e s m args below meth c s₁ B hml hno hv
  obtain ⟨rfl, ⟨hsz, hP, hK, hD, hN⟩, hZ⟩ := hv
  have hx := B.exec
  have hb := B.bytes
  have hret := B.returns
  have hts := atoms_spec (ws := Cond.code y_ms_tamper b_ms_tamper 4 none :: TB) B.pre
  have hT : ∀ w ∈ TB, w.before _ s = true := fun w h => hts w (List.mem_cons_of_mem _ h)
  have hown : s.vm.findClass "MeasuredStages" = some m.cls := findClass_of_methodNamed B.named
  have hlocks := B.notSynchronized
  subst hsz
  have hD := hD.self (sz := s.heap.size)
  generalize hAe : va_A (xw ad cs u j) s.heap.size = A at hD ⊢
  have hA : ∀ q : Nat, s.heap.size ≤ q → A q := fun q h => by rw [← hAe]; exact Or.inr h
  have hS : va_S A s.heap s.heap [] := va_S.rf
  have hl := lv_entry ([.ref (ad 0), .int k, .long x]) (n := 4) (Nat.le_of_ble_eq_true rfl)
  rw [lg_entry_eq]
  generalize (lg_sl ([.ref (ad 0), .int k, .long x]) ++ List.replicate (4 - (lg_sl ([.ref (ad 0), .int k, .long x])).length) Slot.unset).toArray = ls at hl ⊢
  have hl : lv_has ls 4 [(0, .ref (ad 0)), (1, .int k), (2, .long x)] := hl
  have hP0 := hP
  refine lv_aload_n hx hb d_ms_tamper_0 rfl (lv_at hl 0 rfl) ?_
  refine va_get (D := D) (ci := 0) (v := .ref (ad 4)) (C := "MeasuredStages") (T := F_ms) (N := 12) hx hb hts (fun w h => List.mem_cons_of_mem _ (i_ms w h)) hown hK hP 0 rfl rfl 3 (by decide) (hT _ tb_72) (fun _ h9 => h9) rfl d_ms_tamper_1 ?_
  refine lv_iload_n hx hb d_ms_tamper_4 rfl (lv_at hl 1 rfl) ?_
  refine xw_rdi (v := sp_rg k (sg_en u)) (As := [.int k]) (rest := []) ⟨hx, hb, hml, hown, hts⟩ (c_rg_hasEvent l D cs ad _ u j k) tb_380 tb_381 tb_382 tb_2 tb_383 ⟨rfl, hd_rg_hasEvent⟩ ⟨Nat.le_of_ble_eq_true rfl, Nat.le_of_ble_eq_true rfl⟩ rfl rfl hK hP hD hN 4 1 rfl rfl hl.1 rfl (Nat.le_of_ble_eq_true rfl) d_ms_tamper_5 ⟨Nat.zero_le _, Nat.zero_le _⟩ ?_
  refine lv_if_ne hx hb d_ms_tamper_8 (tgt := 21) (by decide) (fun z => absurd hk z) (fun _ => ?_)
  obtain ⟨qs, hqs⟩ : ∃ a : Nat, vk_R "MeasuredStages" 110 "the log has no such event" a s := hZ.2.2.2.2.2.2.2.2.2.1
  exact tk_throw hx hb (hml.trans hl.1.symm) hno hlocks hl0 (own := "MeasuredStages") (X := "java/util/NoSuchElementException") (Y := "java/lang/RuntimeException") (text := "the log has no such event") (names := ["java/lang/Exception"]) (ix := 108) (is := 110) (ic := 112) (i1 := 13) (bytes := prog_14_method_4_code) (qs := qs) (rest := []) hown (by decide) (by decide) (by decide) xd_NSEE_0 xd_NSEE_1 xd_NSEE_2 xd_NSEE_5 (xt_w1 hT hZ) (xt_w2 hT) (xt_w3_NSEE hT hZ) (xt_w4 hT hZ) (xt_w5_NSEE hT) (vx_isRefq hZ.1.1) (vx_isRefq hZ.2.1.1) hqs (fun x hx9 cell hc9 => xt_st hP0 rfl (by rw [hAe]; exact hS.2.2 x hx9) hc9) hS.1 d_ms_tamper_11 d_ms_tamper_14 d_ms_tamper_15 d_ms_tamper_17 d_ms_tamper_20 (Nat.le_of_ble_eq_true rfl) (Nat.le_of_ble_eq_true rfl) (Nat.le_of_ble_eq_true rfl) (Nat.le_of_ble_eq_true rfl) hS.2.2 (fun t ce hW hz hk hce hvm hcl => ⟨⟨_, ce, rfl, hce, hvm, hcl, j, hP.kept (fun k q hq => hk _ (hP k q hq).lt), va_K.moved hW.alike hK, hD⟩, by rw [hz]; exact Nat.le_succ_of_le hS.1, fun q h1 h2 => (hk q (Nat.lt_of_lt_of_le h1 hS.1)).trans (hS.2.1 q h1 h2)⟩)
set_option maxHeartbeats 4000000 in
set_option maxRecDepth 100000 in
theorem f_ms_seal (l : Launch) (hl0 : l.stackTraces = false) (D : va_G) (cs : Nat → ClassId) (ad : Nat → Nat) (sz : Nat) (u : Sg) (j : Jx) (mask : Int32) (x : Int64) (hm : sp_mk mask = 0) : tk_Met l y_ms_seal (Cond.code y_ms_seal b_ms_seal 5 (some .int) :: TB) { frames := 8, cells := 1, slots := 6, locals := 260 } (va_Pc [.ref (ad 0), .int mask, .long x] (xw_PreT D cs ad u j sz)) (tk_Qt "java/lang/IllegalArgumentException" (fun t => ∃ j1 : Jx, xw_B D cs ad (va_A (xw ad cs u j) sz) u j1 t) (va_A (xw ad cs u j) sz)) 1 6 (va_A (xw ad cs u j) sz) := by
  refine tk_ofW (cc := b_ms_seal) (maxL := 5) (ret := (some .int)) (by decide) rfl ?_
  intro p e s m args below meth c s₁ B hml hno hv
  obtain ⟨rfl, ⟨hsz, hP, hK, hD, hN⟩, hZ⟩ := hv
  have hx := B.exec
  have hb := B.bytes
  have hret := B.returns
  have hts := atoms_spec (ws := Cond.code y_ms_seal b_ms_seal 5 (some .int) :: TB) B.pre
  have hT : ∀ w ∈ TB, w.before _ s = true := fun w h => hts w (List.mem_cons_of_mem _ h)
  have hown : s.vm.findClass "MeasuredStages" = some m.cls := findClass_of_methodNamed B.named
  have hlocks := B.notSynchronized
  subst hsz
  have hD := hD.self (sz := s.heap.size)
  generalize hAe : va_A (xw ad cs u j) s.heap.size = A at hD ⊢
  have hA : ∀ q : Nat, s.heap.size ≤ q → A q := fun q h => by rw [← hAe]; exact Or.inr h
  have hS : va_S A s.heap s.heap [] := va_S.rf
  have hl := lv_entry ([.ref (ad 0), .int mask, .long x]) (n := 5) (Nat.le_of_ble_eq_true rfl)
  rw [lg_entry_eq]
  generalize (lg_sl ([.ref (ad 0), .int mask, .long x]) ++ List.replicate (5 - (lg_sl ([.ref (ad 0), .int mask, .long x])).length) Slot.unset).toArray = ls at hl ⊢
  have hl : lv_has ls 5 [(0, .ref (ad 0)), (1, .int mask), (2, .long x)] := hl
  have hP0 := hP
  refine lv_iload_n hx hb d_ms_seal_0 rfl (lv_at hl 1 rfl) ?_
  refine st_i (v := sp_mk mask) (As := [.int mask]) (rest := []) ⟨hx, hb, hml, hown, hts⟩ (c_ms_isMask l mask) tb_421 tb_422 tb_1 tb_423 hd_ms_isMask ⟨Nat.le_of_ble_eq_true rfl, Nat.le_of_ble_eq_true rfl⟩ rfl rfl hl.1 rfl (Nat.le_of_ble_eq_true rfl) d_ms_seal_1 ⟨Nat.zero_le _, Nat.zero_le _⟩ ?_
  refine lv_if_ne hx hb d_ms_seal_4 (tgt := 17) (by decide) (fun z => absurd hm z) (fun _ => ?_)
  obtain ⟨qs, hqs⟩ : ∃ a : Nat, vk_R "MeasuredStages" 126 "a mask is 1 .. 63" a s := hZ.2.2.2.2.2.2.2.2.2.2.1
  exact tk_throw hx hb (hml.trans hl.1.symm) hno hlocks hl0 (own := "MeasuredStages") (X := "java/lang/IllegalArgumentException") (Y := "java/lang/RuntimeException") (text := "a mask is 1 .. 63") (names := ["java/lang/Exception"]) (ix := 45) (is := 126) (ic := 49) (i1 := 7) (bytes := prog_7_method_2_code) (qs := qs) (rest := []) hown (by decide) (by decide) (by decide) xd_IAE_0 xd_IAE_1 xd_IAE_2 xd_IAE_5 (xt_w1 hT hZ) (xt_w2 hT) (xt_w3_IAE hT hZ) (xt_w4 hT hZ) (xt_w5_IAE hT) (vx_isRefq hZ.1.1) (vx_isRefq hZ.2.1.1) hqs (fun x hx9 cell hc9 => xt_st hP0 rfl (by rw [hAe]; exact hS.2.2 x hx9) hc9) hS.1 d_ms_seal_7 d_ms_seal_10 d_ms_seal_11 d_ms_seal_13 d_ms_seal_16 (Nat.le_of_ble_eq_true rfl) (Nat.le_of_ble_eq_true rfl) (Nat.le_of_ble_eq_true rfl) (Nat.le_of_ble_eq_true rfl) hS.2.2 (fun t ce hW hz hk hce hvm hcl => ⟨⟨_, ce, rfl, hce, hvm, hcl, j, hP.kept (fun k q hq => hk _ (hP k q hq).lt), va_K.moved hW.alike hK, hD⟩, by rw [hz]; exact Nat.le_succ_of_le hS.1, fun q h1 h2 => (hk q (Nat.lt_of_lt_of_le h1 hS.1)).trans (hS.2.1 q h1 h2)⟩)
set_option maxHeartbeats 4000000 in
set_option maxRecDepth 100000 in
theorem g_ms_seal (l : Launch) (hl0 : l.stackTraces = false) (D : va_G) (cs : Nat → ClassId) (ad : Nat → Nat) (sz : Nat) (u : Sg) (j : Jx) (mask : Int32) (x : Int64) (hm : sp_mk mask = 1) (hk : sp_lf (sg_ma u) = -1) : tk_Met l y_ms_seal (Cond.code y_ms_seal b_ms_seal 5 (some .int) :: TB) { frames := 8, cells := 1, slots := 6, locals := 260 } (va_Pc [.ref (ad 0), .int mask, .long x] (xw_PreT D cs ad u j sz)) (tk_Qt "java/lang/IllegalStateException" (fun t => ∃ j1 : Jx, xw_B D cs ad (va_A (xw ad cs u j) sz) u j1 t) (va_A (xw ad cs u j) sz)) 1 6 (va_A (xw ad cs u j) sz) := by
  refine tk_ofW (cc := b_ms_seal) (maxL := 5) (ret := (some .int)) (by decide) rfl ?_
  intro p e s m args below meth c s₁ B hml hno hv
  obtain ⟨rfl, ⟨hsz, hP, hK, hD, hN⟩, hZ⟩ := hv
  have hx := B.exec
  have hb := B.bytes
  have hret := B.returns
  have hts := atoms_spec (ws := Cond.code y_ms_seal b_ms_seal 5 (some .int) :: TB) B.pre
  have hT : ∀ w ∈ TB, w.before _ s = true := fun w h => hts w (List.mem_cons_of_mem _ h)
  have hown : s.vm.findClass "MeasuredStages" = some m.cls := findClass_of_methodNamed B.named
  have hlocks := B.notSynchronized
  subst hsz
  have hD := hD.self (sz := s.heap.size)
  generalize hAe : va_A (xw ad cs u j) s.heap.size = A at hD ⊢
  have hA : ∀ q : Nat, s.heap.size ≤ q → A q := fun q h => by rw [← hAe]; exact Or.inr h
  have hS : va_S A s.heap s.heap [] := va_S.rf
  have hl := lv_entry ([.ref (ad 0), .int mask, .long x]) (n := 5) (Nat.le_of_ble_eq_true rfl)
  rw [lg_entry_eq]
  generalize (lg_sl ([.ref (ad 0), .int mask, .long x]) ++ List.replicate (5 - (lg_sl ([.ref (ad 0), .int mask, .long x])).length) Slot.unset).toArray = ls at hl ⊢
  have hl : lv_has ls 5 [(0, .ref (ad 0)), (1, .int mask), (2, .long x)] := hl
  have hP0 := hP
  refine lv_iload_n hx hb d_ms_seal_0 rfl (lv_at hl 1 rfl) ?_
  refine st_i (v := sp_mk mask) (As := [.int mask]) (rest := []) ⟨hx, hb, hml, hown, hts⟩ (c_ms_isMask l mask) tb_421 tb_422 tb_1 tb_423 hd_ms_isMask ⟨Nat.le_of_ble_eq_true rfl, Nat.le_of_ble_eq_true rfl⟩ rfl rfl hl.1 rfl (Nat.le_of_ble_eq_true rfl) d_ms_seal_1 ⟨Nat.zero_le _, Nat.zero_le _⟩ ?_
  refine lv_if_ne hx hb d_ms_seal_4 (tgt := 17) (by decide) (fun _ => ?_) (fun z => absurd z (by rw [hm]; decide))
  refine lv_aload_n hx hb d_ms_seal_17 rfl (lv_at hl 0 rfl) ?_
  refine va_get (D := D) (ci := 0) (v := .ref (ad 5)) (C := "MeasuredStages") (T := F_ms) (N := 12) hx hb hts (fun w h => List.mem_cons_of_mem _ (i_ms w h)) hown hK hP 0 rfl rfl 4 (by decide) (hT _ tb_73) (fun _ h9 => h9) rfl d_ms_seal_18 ?_
  refine xw_rdi (v := sp_lf (sg_ma u)) (As := []) (rest := []) ⟨hx, hb, hml, hown, hts⟩ (c_bl_leastFree l D cs ad _ u j ) tb_313 tb_314 tb_315 tb_3 tb_316 ⟨rfl, hd_bl_leastFree⟩ ⟨Nat.le_of_ble_eq_true rfl, Nat.le_of_ble_eq_true rfl⟩ rfl rfl hK hP hD hN 5 2 rfl rfl hl.1 rfl (Nat.le_of_ble_eq_true rfl) d_ms_seal_21 ⟨Nat.zero_le _, Nat.zero_le _⟩ ?_
  refine lv_istore (nL := 5) (lv' := [(4, .int (sp_lf (sg_ma u))), (0, .ref (ad 0)), (1, .int mask), (2, .long x)]) hx hb d_ms_seal_24 hl (by decide) rfl (fun ls hl => ?_)
  refine lv_iload hx hb d_ms_seal_26 (lv_at hl 0 rfl) ?_
  refine lv_iconst (v := (-1)) hx hb d_ms_seal_28 (by decide) ?_
  refine lv_icmp_ne hx hb d_ms_seal_29 (tgt := 42) (by decide) (fun z => absurd hk z) (fun _ => ?_)
  obtain ⟨qs, hqs⟩ : ∃ a : Nat, vk_R "MeasuredStages" 132 "no blob is free" a s := hZ.2.2.2.2.2.2.2.2.2.2.2.1
  exact tk_throw hx hb (hml.trans hl.1.symm) hno hlocks hl0 (own := "MeasuredStages") (X := "java/lang/IllegalStateException") (Y := "java/lang/RuntimeException") (text := "no blob is free") (names := ["java/lang/Exception"]) (ix := 70) (is := 132) (ic := 74) (i1 := 7) (bytes := prog_8_method_2_code) (qs := qs) (rest := []) hown (by decide) (by decide) (by decide) xd_ISE_0 xd_ISE_1 xd_ISE_2 xd_ISE_5 (xt_w1 hT hZ) (xt_w2 hT) (xt_w3_ISE hT hZ) (xt_w4 hT hZ) (xt_w5_ISE hT) (vx_isRefq hZ.1.1) (vx_isRefq hZ.2.1.1) hqs (fun x hx9 cell hc9 => xt_st hP0 rfl (by rw [hAe]; exact hS.2.2 x hx9) hc9) hS.1 d_ms_seal_32 d_ms_seal_35 d_ms_seal_36 d_ms_seal_38 d_ms_seal_41 (Nat.le_of_ble_eq_true rfl) (Nat.le_of_ble_eq_true rfl) (Nat.le_of_ble_eq_true rfl) (Nat.le_of_ble_eq_true rfl) hS.2.2 (fun t ce hW hz hk hce hvm hcl => ⟨⟨_, ce, rfl, hce, hvm, hcl, j, hP.kept (fun k q hq => hk _ (hP k q hq).lt), va_K.moved hW.alike hK, hD⟩, by rw [hz]; exact Nat.le_succ_of_le hS.1, fun q h1 h2 => (hk q (Nat.lt_of_lt_of_le h1 hS.1)).trans (hS.2.1 q h1 h2)⟩)
set_option maxHeartbeats 4000000 in
set_option maxRecDepth 100000 in
theorem f_ms_unseal (l : Launch) (hl0 : l.stackTraces = false) (D : va_G) (cs : Nat → ClassId) (ad : Nat → Nat) (sz : Nat) (u : Sg) (j : Jx) (k : Int32) (h0 : sp_tk (sg_ma u) k = 0) : tk_Met l y_ms_unseal (Cond.code y_ms_unseal b_ms_unseal 2 (some .long) :: TB) { frames := 8, cells := 1, slots := 6, locals := 260 } (va_Pc [.ref (ad 0), .int k] (xw_PreT D cs ad u j sz)) (tk_Qt "java/util/NoSuchElementException" (fun t => ∃ j1 : Jx, xw_B D cs ad (va_A (xw ad cs u j) sz) u j1 t) (va_A (xw ad cs u j) sz)) 1 6 (va_A (xw ad cs u j) sz) := by
  refine tk_ofW (cc := b_ms_unseal) (maxL := 2) (ret := (some .long)) (by decide) rfl ?_
  intro p e s m args below meth c s₁ B hml hno hv
  obtain ⟨rfl, ⟨hsz, hP, hK, hD, hN⟩, hZ⟩ := hv
  have hx := B.exec
  have hb := B.bytes
  have hret := B.returns
  have hts := atoms_spec (ws := Cond.code y_ms_unseal b_ms_unseal 2 (some .long) :: TB) B.pre
  have hT : ∀ w ∈ TB, w.before _ s = true := fun w h => hts w (List.mem_cons_of_mem _ h)
  have hown : s.vm.findClass "MeasuredStages" = some m.cls := findClass_of_methodNamed B.named
  have hlocks := B.notSynchronized
  subst hsz
  have hD := hD.self (sz := s.heap.size)
  generalize hAe : va_A (xw ad cs u j) s.heap.size = A at hD ⊢
  have hA : ∀ q : Nat, s.heap.size ≤ q → A q := fun q h => by rw [← hAe]; exact Or.inr h
  have hS : va_S A s.heap s.heap [] := va_S.rf
  have hl := lv_entry ([.ref (ad 0), .int k]) (n := 2) (Nat.le_of_ble_eq_true rfl)
  rw [lg_entry_eq]
  generalize (lg_sl ([.ref (ad 0), .int k]) ++ List.replicate (2 - (lg_sl ([.ref (ad 0), .int k])).length) Slot.unset).toArray = ls at hl ⊢
  have hl : lv_has ls 2 [(0, .ref (ad 0)), (1, .int k)] := hl
  have hP0 := hP
  refine lv_aload_n hx hb d_ms_unseal_0 rfl (lv_at hl 0 rfl) ?_
  refine va_get (D := D) (ci := 0) (v := .ref (ad 5)) (C := "MeasuredStages") (T := F_ms) (N := 12) hx hb hts (fun w h => List.mem_cons_of_mem _ (i_ms w h)) hown hK hP 0 rfl rfl 4 (by decide) (hT _ tb_73) (fun _ h9 => h9) rfl d_ms_unseal_1 ?_
  refine lv_iload_n hx hb d_ms_unseal_4 rfl (lv_at hl 1 rfl) ?_
  refine xw_rdi (v := sp_tk (sg_ma u) k) (As := [.int k]) (rest := []) ⟨hx, hb, hml, hown, hts⟩ (c_bl_isTaken l D cs ad _ u j k) tb_292 tb_293 tb_294 tb_3 tb_295 ⟨rfl, hd_bl_isTaken⟩ ⟨Nat.le_of_ble_eq_true rfl, Nat.le_of_ble_eq_true rfl⟩ rfl rfl hK hP hD hN 5 2 rfl rfl hl.1 rfl (Nat.le_of_ble_eq_true rfl) d_ms_unseal_5 ⟨Nat.zero_le _, Nat.zero_le _⟩ ?_
  refine lv_if_ne hx hb d_ms_unseal_8 (tgt := 21) (by decide) (fun z => absurd h0 z) (fun _ => ?_)
  obtain ⟨qs, hqs⟩ : ∃ a : Nat, vk_R "MeasuredStages" 144 "there is no such blob, or it is free" a s := hZ.2.2.2.2.2.2.2.2.2.2.2.2.1
  exact tk_throw hx hb (hml.trans hl.1.symm) hno hlocks hl0 (own := "MeasuredStages") (X := "java/util/NoSuchElementException") (Y := "java/lang/RuntimeException") (text := "there is no such blob, or it is free") (names := ["java/lang/Exception"]) (ix := 108) (is := 144) (ic := 112) (i1 := 13) (bytes := prog_14_method_4_code) (qs := qs) (rest := []) hown (by decide) (by decide) (by decide) xd_NSEE_0 xd_NSEE_1 xd_NSEE_2 xd_NSEE_5 (xt_w1 hT hZ) (xt_w2 hT) (xt_w3_NSEE hT hZ) (xt_w4 hT hZ) (xt_w5_NSEE hT) (vx_isRefq hZ.1.1) (vx_isRefq hZ.2.1.1) hqs (fun x hx9 cell hc9 => xt_st hP0 rfl (by rw [hAe]; exact hS.2.2 x hx9) hc9) hS.1 d_ms_unseal_11 d_ms_unseal_14 d_ms_unseal_15 d_ms_unseal_17 d_ms_unseal_20 (Nat.le_of_ble_eq_true rfl) (Nat.le_of_ble_eq_true rfl) (Nat.le_of_ble_eq_true rfl) (Nat.le_of_ble_eq_true rfl) hS.2.2 (fun t ce hW hz hk hce hvm hcl => ⟨⟨_, ce, rfl, hce, hvm, hcl, j, hP.kept (fun k q hq => hk _ (hP k q hq).lt), va_K.moved hW.alike hK, hD⟩, by rw [hz]; exact Nat.le_succ_of_le hS.1, fun q h1 h2 => (hk q (Nat.lt_of_lt_of_le h1 hS.1)).trans (hS.2.1 q h1 h2)⟩)
set_option maxHeartbeats 4000000 in
set_option maxRecDepth 100000 in
theorem g_ms_unseal (l : Launch) (hl0 : l.stackTraces = false) (D : va_G) (cs : Nat → ClassId) (ad : Nat → Nat) (sz : Nat) (u : Sg) (j : Jx) (k : Int32) (h0 : sp_tk (sg_ma u) k = 1) (h1 : sp_on u k = 0) : tk_Met l y_ms_unseal (Cond.code y_ms_unseal b_ms_unseal 2 (some .long) :: TB) { frames := 8, cells := 1, slots := 6, locals := 260 } (va_Pc [.ref (ad 0), .int k] (xw_PreT D cs ad u j sz)) (tk_Qt "java/lang/IllegalStateException" (fun t => ∃ j1 : Jx, xw_B D cs ad (va_A (xw ad cs u j) sz) u j1 t) (va_A (xw ad cs u j) sz)) 1 6 (va_A (xw ad cs u j) sz) := by
  refine tk_ofW (cc := b_ms_unseal) (maxL := 2) (ret := (some .long)) (by decide) rfl ?_
  intro p e s m args below meth c s₁ B hml hno hv
  obtain ⟨rfl, ⟨hsz, hP, hK, hD, hN⟩, hZ⟩ := hv
  have hx := B.exec
  have hb := B.bytes
  have hret := B.returns
  have hts := atoms_spec (ws := Cond.code y_ms_unseal b_ms_unseal 2 (some .long) :: TB) B.pre
  have hT : ∀ w ∈ TB, w.before _ s = true := fun w h => hts w (List.mem_cons_of_mem _ h)
  have hown : s.vm.findClass "MeasuredStages" = some m.cls := findClass_of_methodNamed B.named
  have hlocks := B.notSynchronized
  subst hsz
  have hD := hD.self (sz := s.heap.size)
  generalize hAe : va_A (xw ad cs u j) s.heap.size = A at hD ⊢
  have hA : ∀ q : Nat, s.heap.size ≤ q → A q := fun q h => by rw [← hAe]; exact Or.inr h
  have hS : va_S A s.heap s.heap [] := va_S.rf
  have hl := lv_entry ([.ref (ad 0), .int k]) (n := 2) (Nat.le_of_ble_eq_true rfl)
  rw [lg_entry_eq]
  generalize (lg_sl ([.ref (ad 0), .int k]) ++ List.replicate (2 - (lg_sl ([.ref (ad 0), .int k])).length) Slot.unset).toArray = ls at hl ⊢
  have hl : lv_has ls 2 [(0, .ref (ad 0)), (1, .int k)] := hl
  have hP0 := hP
  refine lv_aload_n hx hb d_ms_unseal_0 rfl (lv_at hl 0 rfl) ?_
  refine va_get (D := D) (ci := 0) (v := .ref (ad 5)) (C := "MeasuredStages") (T := F_ms) (N := 12) hx hb hts (fun w h => List.mem_cons_of_mem _ (i_ms w h)) hown hK hP 0 rfl rfl 4 (by decide) (hT _ tb_73) (fun _ h9 => h9) rfl d_ms_unseal_1 ?_
  refine lv_iload_n hx hb d_ms_unseal_4 rfl (lv_at hl 1 rfl) ?_
  refine xw_rdi (v := sp_tk (sg_ma u) k) (As := [.int k]) (rest := []) ⟨hx, hb, hml, hown, hts⟩ (c_bl_isTaken l D cs ad _ u j k) tb_292 tb_293 tb_294 tb_3 tb_295 ⟨rfl, hd_bl_isTaken⟩ ⟨Nat.le_of_ble_eq_true rfl, Nat.le_of_ble_eq_true rfl⟩ rfl rfl hK hP hD hN 5 2 rfl rfl hl.1 rfl (Nat.le_of_ble_eq_true rfl) d_ms_unseal_5 ⟨Nat.zero_le _, Nat.zero_le _⟩ ?_
  refine lv_if_ne hx hb d_ms_unseal_8 (tgt := 21) (by decide) (fun _ => ?_) (fun z => absurd z (by rw [h0]; decide))
  refine lv_aload_n hx hb d_ms_unseal_21 rfl (lv_at hl 0 rfl) ?_
  refine lv_iload_n hx hb d_ms_unseal_22 rfl (lv_at hl 1 rfl) ?_
  refine xw_rdi (v := sp_on u k) (As := [.int k]) (rest := []) ⟨hx, hb, hml, hown, hts⟩ (c_ms_isOpen l D cs ad _ u j k (tk_vp h0)) tb_296 tb_298 sl_12 tb_1 tb_299 ⟨rfl, hd_ms_isOpen⟩ ⟨Nat.le_of_ble_eq_true rfl, Nat.le_of_ble_eq_true rfl⟩ rfl rfl hK hP hD hN 0 0 rfl rfl hl.1 rfl (Nat.le_of_ble_eq_true rfl) d_ms_unseal_23 ⟨Nat.zero_le _, Nat.zero_le _⟩ ?_
  refine lv_if_ne hx hb d_ms_unseal_26 (tgt := 39) (by decide) (fun z => absurd h1 z) (fun _ => ?_)
  obtain ⟨qs, hqs⟩ : ∃ a : Nat, vk_R "MeasuredStages" 149 "the blob is sealed to other registers" a s := hZ.2.2.2.2.2.2.2.2.2.2.2.2.2
  exact tk_throw hx hb (hml.trans hl.1.symm) hno hlocks hl0 (own := "MeasuredStages") (X := "java/lang/IllegalStateException") (Y := "java/lang/RuntimeException") (text := "the blob is sealed to other registers") (names := ["java/lang/Exception"]) (ix := 70) (is := 149) (ic := 74) (i1 := 7) (bytes := prog_8_method_2_code) (qs := qs) (rest := []) hown (by decide) (by decide) (by decide) xd_ISE_0 xd_ISE_1 xd_ISE_2 xd_ISE_5 (xt_w1 hT hZ) (xt_w2 hT) (xt_w3_ISE hT hZ) (xt_w4 hT hZ) (xt_w5_ISE hT) (vx_isRefq hZ.1.1) (vx_isRefq hZ.2.1.1) hqs (fun x hx9 cell hc9 => xt_st hP0 rfl (by rw [hAe]; exact hS.2.2 x hx9) hc9) hS.1 d_ms_unseal_29 d_ms_unseal_32 d_ms_unseal_33 d_ms_unseal_35 d_ms_unseal_38 (Nat.le_of_ble_eq_true rfl) (Nat.le_of_ble_eq_true rfl) (Nat.le_of_ble_eq_true rfl) (Nat.le_of_ble_eq_true rfl) hS.2.2 (fun t ce hW hz hk hce hvm hcl => ⟨⟨_, ce, rfl, hce, hvm, hcl, j, hP.kept (fun k q hq => hk _ (hP k q hq).lt), va_K.moved hW.alike hK, hD⟩, by rw [hz]; exact Nat.le_succ_of_le hS.1, fun q h1 h2 => (hk q (Nat.lt_of_lt_of_le h1 hS.1)).trans (hS.2.1 q h1 h2)⟩)
set_option maxHeartbeats 4000000 in
set_option maxRecDepth 100000 in
theorem f_ms_discard (l : Launch) (hl0 : l.stackTraces = false) (D : va_G) (cs : Nat → ClassId) (ad : Nat → Nat) (sz : Nat) (u : Sg) (j : Jx) (k : Int32) (h0 : sp_tk (sg_ma u) k = 0) : tk_Met l y_ms_discard (Cond.code y_ms_discard b_ms_discard 2 none :: TB) { frames := 8, cells := 1, slots := 6, locals := 260 } (va_Pc [.ref (ad 0), .int k] (xw_PreT D cs ad u j sz)) (tk_Qt "java/util/NoSuchElementException" (fun t => ∃ j1 : Jx, xw_B D cs ad (va_A (xw ad cs u j) sz) u j1 t) (va_A (xw ad cs u j) sz)) 1 6 (va_A (xw ad cs u j) sz) := by
  refine tk_ofW (cc := b_ms_discard) (maxL := 2) (ret := none) (by decide) rfl ?_
  intro p e s m args below meth c s₁ B hml hno hv
  obtain ⟨rfl, ⟨hsz, hP, hK, hD, hN⟩, hZ⟩ := hv
  have hx := B.exec
  have hb := B.bytes
  have hret := B.returns
  have hts := atoms_spec (ws := Cond.code y_ms_discard b_ms_discard 2 none :: TB) B.pre
  have hT : ∀ w ∈ TB, w.before _ s = true := fun w h => hts w (List.mem_cons_of_mem _ h)
  have hown : s.vm.findClass "MeasuredStages" = some m.cls := findClass_of_methodNamed B.named
  have hlocks := B.notSynchronized
  subst hsz
  have hD := hD.self (sz := s.heap.size)
  generalize hAe : va_A (xw ad cs u j) s.heap.size = A at hD ⊢
  have hA : ∀ q : Nat, s.heap.size ≤ q → A q := fun q h => by rw [← hAe]; exact Or.inr h
  have hS : va_S A s.heap s.heap [] := va_S.rf
  have hl := lv_entry ([.ref (ad 0), .int k]) (n := 2) (Nat.le_of_ble_eq_true rfl)
  rw [lg_entry_eq]
  generalize (lg_sl ([.ref (ad 0), .int k]) ++ List.replicate (2 - (lg_sl ([.ref (ad 0), .int k])).length) Slot.unset).toArray = ls at hl ⊢
  have hl : lv_has ls 2 [(0, .ref (ad 0)), (1, .int k)] := hl
  have hP0 := hP
  refine lv_aload_n hx hb d_ms_discard_0 rfl (lv_at hl 0 rfl) ?_
  refine va_get (D := D) (ci := 0) (v := .ref (ad 5)) (C := "MeasuredStages") (T := F_ms) (N := 12) hx hb hts (fun w h => List.mem_cons_of_mem _ (i_ms w h)) hown hK hP 0 rfl rfl 4 (by decide) (hT _ tb_73) (fun _ h9 => h9) rfl d_ms_discard_1 ?_
  refine lv_iload_n hx hb d_ms_discard_4 rfl (lv_at hl 1 rfl) ?_
  refine xw_rdi (v := sp_tk (sg_ma u) k) (As := [.int k]) (rest := []) ⟨hx, hb, hml, hown, hts⟩ (c_bl_isTaken l D cs ad _ u j k) tb_292 tb_293 tb_294 tb_3 tb_295 ⟨rfl, hd_bl_isTaken⟩ ⟨Nat.le_of_ble_eq_true rfl, Nat.le_of_ble_eq_true rfl⟩ rfl rfl hK hP hD hN 5 2 rfl rfl hl.1 rfl (Nat.le_of_ble_eq_true rfl) d_ms_discard_5 ⟨Nat.zero_le _, Nat.zero_le _⟩ ?_
  refine lv_if_ne hx hb d_ms_discard_8 (tgt := 21) (by decide) (fun z => absurd h0 z) (fun _ => ?_)
  obtain ⟨qs, hqs⟩ : ∃ a : Nat, vk_R "MeasuredStages" 144 "there is no such blob, or it is free" a s := hZ.2.2.2.2.2.2.2.2.2.2.2.2.1
  exact tk_throw hx hb (hml.trans hl.1.symm) hno hlocks hl0 (own := "MeasuredStages") (X := "java/util/NoSuchElementException") (Y := "java/lang/RuntimeException") (text := "there is no such blob, or it is free") (names := ["java/lang/Exception"]) (ix := 108) (is := 144) (ic := 112) (i1 := 13) (bytes := prog_14_method_4_code) (qs := qs) (rest := []) hown (by decide) (by decide) (by decide) xd_NSEE_0 xd_NSEE_1 xd_NSEE_2 xd_NSEE_5 (xt_w1 hT hZ) (xt_w2 hT) (xt_w3_NSEE hT hZ) (xt_w4 hT hZ) (xt_w5_NSEE hT) (vx_isRefq hZ.1.1) (vx_isRefq hZ.2.1.1) hqs (fun x hx9 cell hc9 => xt_st hP0 rfl (by rw [hAe]; exact hS.2.2 x hx9) hc9) hS.1 d_ms_discard_11 d_ms_discard_14 d_ms_discard_15 d_ms_discard_17 d_ms_discard_20 (Nat.le_of_ble_eq_true rfl) (Nat.le_of_ble_eq_true rfl) (Nat.le_of_ble_eq_true rfl) (Nat.le_of_ble_eq_true rfl) hS.2.2 (fun t ce hW hz hk hce hvm hcl => ⟨⟨_, ce, rfl, hce, hvm, hcl, j, hP.kept (fun k q hq => hk _ (hP k q hq).lt), va_K.moved hW.alike hK, hD⟩, by rw [hz]; exact Nat.le_succ_of_le hS.1, fun q h1 h2 => (hk q (Nat.lt_of_lt_of_le h1 hS.1)).trans (hS.2.1 q h1 h2)⟩)
set_option maxHeartbeats 4000000 in
set_option maxRecDepth 100000 in
theorem f_ms_quote (l : Launch) (hl0 : l.stackTraces = false) (D : va_G) (cs : Nat → ClassId) (ad : Nat → Nat) (sz : Nat) (u : Sg) (j : Jx) (a b : Int64) (mask : Int32) (hm : sp_mk mask = 0) : tk_Met l y_ms_quote (Cond.code y_ms_quote b_ms_quote 6 (some .long) :: TB) { frames := 8, cells := 1, slots := 6, locals := 260 } (va_Pc [.ref (ad 0), .long a, .long b, .int mask] (xw_PreT D cs ad u j sz)) (tk_Qt "java/lang/IllegalArgumentException" (fun t => ∃ j1 : Jx, xw_B D cs ad (va_A (xw ad cs u j) sz) u j1 t) (va_A (xw ad cs u j) sz)) 1 6 (va_A (xw ad cs u j) sz) := by
  refine tk_ofW (cc := b_ms_quote) (maxL := 6) (ret := (some .long)) (by decide) rfl ?_
  intro p e s m args below meth c s₁ B hml hno hv
  obtain ⟨rfl, ⟨hsz, hP, hK, hD, hN⟩, hZ⟩ := hv
  have hx := B.exec
  have hb := B.bytes
  have hret := B.returns
  have hts := atoms_spec (ws := Cond.code y_ms_quote b_ms_quote 6 (some .long) :: TB) B.pre
  have hT : ∀ w ∈ TB, w.before _ s = true := fun w h => hts w (List.mem_cons_of_mem _ h)
  have hown : s.vm.findClass "MeasuredStages" = some m.cls := findClass_of_methodNamed B.named
  have hlocks := B.notSynchronized
  subst hsz
  have hD := hD.self (sz := s.heap.size)
  generalize hAe : va_A (xw ad cs u j) s.heap.size = A at hD ⊢
  have hA : ∀ q : Nat, s.heap.size ≤ q → A q := fun q h => by rw [← hAe]; exact Or.inr h
  have hS : va_S A s.heap s.heap [] := va_S.rf
  have hl := lv_entry ([.ref (ad 0), .long a, .long b, .int mask]) (n := 6) (Nat.le_of_ble_eq_true rfl)
  rw [lg_entry_eq]
  generalize (lg_sl ([.ref (ad 0), .long a, .long b, .int mask]) ++ List.replicate (6 - (lg_sl ([.ref (ad 0), .long a, .long b, .int mask])).length) Slot.unset).toArray = ls at hl ⊢
  have hl : lv_has ls 6 [(0, .ref (ad 0)), (1, .long a), (3, .long b), (5, .int mask)] := hl
  have hP0 := hP
  refine lv_iload hx hb d_ms_quote_0 (lv_at hl 3 rfl) ?_
  refine st_i (v := sp_mk mask) (As := [.int mask]) (rest := []) ⟨hx, hb, hml, hown, hts⟩ (c_ms_isMask l mask) tb_421 tb_422 tb_1 tb_423 hd_ms_isMask ⟨Nat.le_of_ble_eq_true rfl, Nat.le_of_ble_eq_true rfl⟩ rfl rfl hl.1 rfl (Nat.le_of_ble_eq_true rfl) d_ms_quote_2 ⟨Nat.zero_le _, Nat.zero_le _⟩ ?_
  refine lv_if_ne hx hb d_ms_quote_5 (tgt := 18) (by decide) (fun z => absurd hm z) (fun _ => ?_)
  obtain ⟨qs, hqs⟩ : ∃ a : Nat, vk_R "MeasuredStages" 126 "a mask is 1 .. 63" a s := hZ.2.2.2.2.2.2.2.2.2.2.1
  exact tk_throw hx hb (hml.trans hl.1.symm) hno hlocks hl0 (own := "MeasuredStages") (X := "java/lang/IllegalArgumentException") (Y := "java/lang/RuntimeException") (text := "a mask is 1 .. 63") (names := ["java/lang/Exception"]) (ix := 45) (is := 126) (ic := 49) (i1 := 7) (bytes := prog_7_method_2_code) (qs := qs) (rest := []) hown (by decide) (by decide) (by decide) xd_IAE_0 xd_IAE_1 xd_IAE_2 xd_IAE_5 (xt_w1 hT hZ) (xt_w2 hT) (xt_w3_IAE hT hZ) (xt_w4 hT hZ) (xt_w5_IAE hT) (vx_isRefq hZ.1.1) (vx_isRefq hZ.2.1.1) hqs (fun x hx9 cell hc9 => xt_st hP0 rfl (by rw [hAe]; exact hS.2.2 x hx9) hc9) hS.1 d_ms_quote_8 d_ms_quote_11 d_ms_quote_12 d_ms_quote_14 d_ms_quote_17 (Nat.le_of_ble_eq_true rfl) (Nat.le_of_ble_eq_true rfl) (Nat.le_of_ble_eq_true rfl) (Nat.le_of_ble_eq_true rfl) hS.2.2 (fun t ce hW hz hk hce hvm hcl => ⟨⟨_, ce, rfl, hce, hvm, hcl, j, hP.kept (fun k q hq => hk _ (hP k q hq).lt), va_K.moved hW.alike hK, hD⟩, by rw [hz]; exact Nat.le_succ_of_le hS.1, fun q h1 h2 => (hk q (Nat.lt_of_lt_of_le h1 hS.1)).trans (hS.2.1 q h1 h2)⟩)
set_option maxHeartbeats 4000000 in
set_option maxRecDepth 100000 in
theorem g_ms_boot (l : Launch) (hl0 : l.stackTraces = false) (D : va_G) (cs : Nat → ClassId) (ad : Nat → Nat) (sz : Nat) (u : Sg) (j : Jx) (n : Int32) (hok : sp_ok u) (hn : vp_in n 8) (hf : ¬ sg_fa (sp_bo u n) = 0) : tk_Met l y_ms_boot (Cond.code y_ms_boot b_ms_boot 2 (some .int) :: TB) { frames := 8, cells := 1, slots := 6, locals := 260 } (va_Pc [.ref (ad 0), .int n] (xw_PreT D cs ad u j sz)) (tk_Qt "java/lang/IllegalStateException" (fun t => ∃ j1 : Jx, xw_B D cs ad (va_A (xw ad cs u j) sz) (sp_bo u n) j1 t) (va_A (xw ad cs u j) sz)) 1 6 (va_A (xw ad cs u j) sz) := by
  refine tk_ofW (cc := b_ms_boot) (maxL := 2) (ret := (some .int)) (by decide) rfl ?_
  intro p e s m args below meth c s₁ B hml hno hv
  obtain ⟨rfl, ⟨hsz, hP, hK, hD, hN⟩, hZ⟩ := hv
  have hx := B.exec
  have hb := B.bytes
  have hret := B.returns
  have hts := atoms_spec (ws := Cond.code y_ms_boot b_ms_boot 2 (some .int) :: TB) B.pre
  have hT : ∀ w ∈ TB, w.before _ s = true := fun w h => hts w (List.mem_cons_of_mem _ h)
  have hown : s.vm.findClass "MeasuredStages" = some m.cls := findClass_of_methodNamed B.named
  have hlocks := B.notSynchronized
  subst hsz
  have hD := hD.self (sz := s.heap.size)
  generalize hAe : va_A (xw ad cs u j) s.heap.size = A at hD ⊢
  have hA : ∀ q : Nat, s.heap.size ≤ q → A q := fun q h => by rw [← hAe]; exact Or.inr h
  have hS : va_S A s.heap s.heap [] := va_S.rf
  have hl := lv_entry ([.ref (ad 0), .int n]) (n := 2) (Nat.le_of_ble_eq_true rfl)
  rw [lg_entry_eq]
  generalize (lg_sl ([.ref (ad 0), .int n]) ++ List.replicate (2 - (lg_sl ([.ref (ad 0), .int n])).length) Slot.unset).toArray = ls at hl ⊢
  have hl : lv_has ls 2 [(0, .ref (ad 0)), (1, .int n)] := hl
  have hP0 := hP
  refine lv_iload_n hx hb d_ms_boot_0 rfl (lv_at hl 1 rfl) ?_
  refine st_i (v := sp_rg n 8) (As := [.int n]) (rest := []) ⟨hx, hb, hml, hown, hts⟩ (c_ms_isImage l n) tb_151 tb_152 tb_1 tb_153 hd_ms_isImage ⟨Nat.le_of_ble_eq_true rfl, Nat.le_of_ble_eq_true rfl⟩ rfl rfl hl.1 rfl (Nat.le_of_ble_eq_true rfl) d_ms_boot_1 ⟨Nat.zero_le _, Nat.zero_le _⟩ ?_
  refine lv_if_ne hx hb d_ms_boot_4 (tgt := 17) (by decide) (fun _ => ?_) (fun z => absurd z (rg8 hn))
  refine lv_aload_n hx hb d_ms_boot_17 rfl (lv_at hl 0 rfl) ?_
  refine xw_wrv (u' := ss_st (ss_la (ss_ac (ss_en (ss_he u (sp_z6 (sg_he u))) 0) 0) 0) 0) (As := []) (rest := []) ⟨hx, hb, hml, hown, hts⟩ (c_ms_clearForBoot l D cs ad _ u j ) tb_244 tb_246 sl_2 tb_1 tb_247 ⟨rfl, hd_ms_clearForBoot⟩ ⟨Nat.le_of_ble_eq_true rfl, Nat.le_of_ble_eq_true rfl⟩ rfl rfl hK hP hD hN 0 0 rfl rfl hl.1 rfl (Nat.le_of_ble_eq_true rfl) d_ms_boot_18 ⟨Nat.zero_le _, Nat.zero_le _⟩ hS hA (fun j1 H locs hj2 hP hD hS => ?_)
  obtain ⟨v3, ev3⟩ : ∃ z : Sg, z = ss_st (ss_la (ss_ac (ss_en (ss_he u (sp_z6 (sg_he u))) 0) 0) 0) 0 := ⟨_, rfl⟩
  rw [← ev3] at hP hD
  rw [hj2] at hP hD
  refine lv_aload_n hx hb d_ms_boot_21 rfl (lv_at hl 0 rfl) ?_
  refine lv_aload_n hx hb d_ms_boot_22 rfl (lv_at hl 0 rfl) ?_
  refine lv_iconst (v := 0) hx hb d_ms_boot_23 (by decide) ?_
  refine lv_iload_n hx hb d_ms_boot_24 rfl (lv_at hl 1 rfl) ?_
  refine xw_wri (v := 0) (u' := (fun v : Sg => ss_la v (sg_la v + 1)) (sp_no v3 (0) (sp_di v3 n))) (As := [.int (0), .int n]) (rest := [.ref (ad 0)]) ⟨hx, hb, hml, hown, hts⟩ (c_ms_launchAt l D cs ad _ v3 j 0 n z_in6 hn (by subst ev3; exact z_in32)) tb_252 tb_254 sl_3 tb_1 tb_255 ⟨rfl, hd_ms_launchAt⟩ ⟨Nat.le_of_ble_eq_true rfl, Nat.le_of_ble_eq_true rfl⟩ rfl rfl hK hP hD hN 0 0 rfl rfl hl.1 rfl (Nat.le_of_ble_eq_true rfl) d_ms_boot_25 ⟨Nat.zero_le _, Nat.zero_le _⟩ hS hA (fun j4 H locs hj5 hP hD hS => ?_)
  obtain ⟨v6, ev6⟩ : ∃ z : Sg, z = (fun v : Sg => ss_la v (sg_la v + 1)) (sp_no v3 (0) (sp_di v3 n)) := ⟨_, rfl⟩
  rw [← ev6] at hP hD
  refine va_put (D := D) (ci := 0) (v := .int (0)) (ty := .int) (C := "MeasuredStages") (T := F_ms) (N := 12) hx hb hts (fun w h => List.mem_cons_of_mem _ (i_ms w h)) t_ms o_ms n_ms hown hK hP hD hS 0 rfl rfl 9 (by decide) (hT _ tb_78) (fun _ h9 => h9) rfl (by decide +kernel) rfl rfl (Nat.le_of_ble_eq_true rfl) d_ms_boot_28 (fun H locs hP hD hS => ?_)
  have hP : va_P D cx (xv ad cs (sg_im v6) (sg_ap v6) (sg_ag v6) (sg_he v6) (sg_er v6) (sg_ev v6) (sg_en v6) (sg_ma v6) (sg_po v6) (sg_se v6) (sg_ac v6) (0) (sg_la v6) (sg_st v6) (jx_ru j4) (jx_nd j4) (jx_de j4) (jx_rp j4)) H := hP
  have hD : va_D A (xv ad cs (sg_im v6) (sg_ap v6) (sg_ag v6) (sg_he v6) (sg_er v6) (sg_ev v6) (sg_en v6) (sg_ma v6) (sg_po v6) (sg_se v6) (sg_ac v6) (0) (sg_la v6) (sg_st v6) (jx_ru j4) (jx_nd j4) (jx_de j4) (jx_rp j4)) := hD
  refine lv_aload_n hx hb d_ms_boot_31 rfl (lv_at hl 0 rfl) ?_
  obtain ⟨v7, ev7⟩ : ∃ z : Sg, z = (sg_im v6, sg_ap v6, sg_ag v6, sg_he v6, sg_er v6, sg_ev v6, sg_en v6, sg_ma v6, sg_po v6, sg_se v6, sg_ac v6, 0, sg_la v6, sg_st v6) := ⟨_, rfl⟩
  have hP : va_P D cx (xw ad cs v7 j4) H := by rw [ev7, xw_u]; exact hP
  have hD : va_D A (xw ad cs v7 j4) := by rw [ev7, xw_u]; exact hD
  refine xw_wrv (u' := (sp_rn 101 (sp_la (sp_cl u, 0, fun _ => 0, jx_nd j) n 0)).1) (As := []) (rest := []) ⟨hx, hb, hml, hown, hts⟩ (c_ms_runToTheEnd l D cs ad _ v7 j4  (sp_la (sp_cl u, 0, fun _ => 0, jx_nd j) n 0) (by rw [ev7, cl_run _ _ _ ev6, ev3, cl_fa, cl_la]) (by subst ev7; subst hj5; subst ev6; subst ev3; exact xj_0 u j n) (ok_la0 hok rfl) (fa_la0 _ _ _ _ _) (st_la0 _ _ _ _ _) (Or.inl z_in6)) tb_264 tb_266 sl_5 tb_1 tb_267 ⟨rfl, hd_ms_runToTheEnd⟩ ⟨Nat.le_of_ble_eq_true rfl, Nat.le_of_ble_eq_true rfl⟩ rfl rfl hK hP hD hN 0 0 rfl rfl hl.1 rfl (Nat.le_of_ble_eq_true rfl) d_ms_boot_32 ⟨Nat.zero_le _, Nat.zero_le _⟩ hS hA (fun j8 H locs hj9 hP hD hS => ?_)
  obtain ⟨v10, ev10⟩ : ∃ z : Sg, z = (sp_rn 101 (sp_la (sp_cl u, 0, fun _ => 0, jx_nd j) n 0)).1 := ⟨_, rfl⟩
  rw [← ev10] at hP hD
  have bov10 : v10 = sp_bo u n := ev10.trans (bo_eq hok)
  rw [bov10] at hP hD
  refine lv_aload_n hx hb d_ms_boot_35 rfl (lv_at hl 0 rfl) ?_
  refine va_get (D := D) (ci := 0) (v := .int (sg_fa (sp_bo u n))) (C := "MeasuredStages") (T := F_ms) (N := 12) hx hb hts (fun w h => List.mem_cons_of_mem _ (i_ms w h)) hown hK hP 0 rfl rfl 9 (by decide) (hT _ tb_78) (fun _ h9 => h9) rfl d_ms_boot_36 ?_
  refine lv_if_eq hx hb d_ms_boot_39 (tgt := 52) (by decide) (fun z => absurd z hf) (fun _ => ?_)
  obtain ⟨qs, hqs⟩ : ∃ a : Nat, vk_R "MeasuredStages" 72 "a fault stopped the boot" a s := hZ.2.2.2.2.2.2.1
  exact tk_throw hx hb (hml.trans hl.1.symm) hno hlocks hl0 (own := "MeasuredStages") (X := "java/lang/IllegalStateException") (Y := "java/lang/RuntimeException") (text := "a fault stopped the boot") (names := ["java/lang/Exception"]) (ix := 70) (is := 72) (ic := 74) (i1 := 7) (bytes := prog_8_method_2_code) (qs := qs) (rest := []) hown (by decide) (by decide) (by decide) xd_ISE_0 xd_ISE_1 xd_ISE_2 xd_ISE_5 (xt_w1 hT hZ) (xt_w2 hT) (xt_w3_ISE hT hZ) (xt_w4 hT hZ) (xt_w5_ISE hT) (vx_isRefq hZ.1.1) (vx_isRefq hZ.2.1.1) hqs (fun x hx9 cell hc9 => xt_st hP0 rfl (by rw [hAe]; exact hS.2.2 x hx9) hc9) hS.1 d_ms_boot_42 d_ms_boot_45 d_ms_boot_46 d_ms_boot_48 d_ms_boot_51 (Nat.le_of_ble_eq_true rfl) (Nat.le_of_ble_eq_true rfl) (Nat.le_of_ble_eq_true rfl) (Nat.le_of_ble_eq_true rfl) hS.2.2 (fun t ce hW hz hk hce hvm hcl => ⟨⟨_, ce, rfl, hce, hvm, hcl, j8, hP.kept (fun k q hq => hk _ (hP k q hq).lt), va_K.moved hW.alike hK, hD⟩, by rw [hz]; exact Nat.le_succ_of_le hS.1, fun q h1 h2 => (hk q (Nat.lt_of_lt_of_le h1 hS.1)).trans (hS.2.1 q h1 h2)⟩)
