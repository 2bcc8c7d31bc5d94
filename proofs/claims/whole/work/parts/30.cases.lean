set_option maxHeartbeats 4000000 in
set_option maxRecDepth 100000 in
theorem lc_4 {p : Program} {l : Launch} {e : Env} {s : State} {m : MethodId} {below : List Frame} {meth : Method} {c : Code} {H : Heap} {locs : List Loc} {Q : State → Prop} {ls : Array Slot} {D : va_G} {cs cm : Nat → ClassId} {ad am : Nat → Nat} {u : Sg} {A : Nat → Prop} {j : Jy} {k : Jm} {b L r : Nat} {xs : Nat → Int32}
    (hl0 : l.stackTraces = false) (hx : p.tables.exec = Jvm.exec) (hb : c.code = b_lw_law) (hml : c.maxLocals = 8) (hown : s.vm.findClass "MeasuredStagesLaw" = some m.cls) (hT : ∀ w ∈ TB, w.before #[Value.ref b] s = true) (hN : xw_N s) (hC : xC s) (hX : va_X b L xs s s.heap) (hbl : b < s.heap.size) (hbA : ¬ A b) (hA : ∀ q, s.heap.size ≤ q → A q) (hr : 6 * r + 6 ≤ L) (hL : L ≤ 3072) (hK : va_K D cx (zty cs cm) s)
    (hP : va_P D cx (zw ad cs am cm u j u k) H) (hD : va_D A (zw ad cs am cm u j u k)) (hS : va_S A s.heap H locs) (hZ : xTA A s H) (hok : sp_ok u) (hl : lv_has ls 8 [(4, .int (nI (6 * r))), (0, .ref b), (1, .ref (ad 0)), (2, .ref (am 0)), (3, .ref (ad 15))])
    (ih : ∀ (H1 : Heap) (locs1 : List Loc) (ls1 : Array Slot) (u1 : Sg) (j1 : Jy) (k1 : Jm), lv_has ls1 8 [(4, .int (nI (6 * r))), (0, .ref b), (1, .ref (ad 0)), (2, .ref (am 0)), (3, .ref (ad 15))] → va_P D cx (zw ad cs am cm u1 j1 u1 k1) H1 → va_D A (zw ad cs am cm u1 j1 u1 k1) → va_S A s.heap H1 locs1 → xTA A s H1 → sp_ok u1 → W p l e room_1 s m #[Value.ref b] below meth c H1 locs1 (30 + r) (318 + 6 * r) Q (F0 m 1039 ls1 [])) :
    W p l e room_1 s m #[Value.ref b] below meth c H locs (29 + r) (312 + 6 * r) Q (F0 m 313 ls []) := by
  refine lv_aload_n hx hb d_lw_law_313 rfl (lv_at hl 2 rfl) ?_
  refine zx_rdi (v := sg_la u) (As := []) (rest := []) ⟨hx, hb, hml, hown, hT⟩ (c_ms_launched l D cs ad _ u (jyx j)) tb_110 tb_111 tb_112 tb_1 tb_113 ⟨rfl, hd_ms_launched⟩ ⟨Nat.le_of_ble_eq_true rfl, Nat.le_of_ble_eq_true rfl⟩ rfl rfl hK hP hD hN 0 0 rfl rfl hl.1 rfl (Nat.le_of_ble_eq_true rfl) d_lw_law_314 ⟨(by show 29 + r + 0 ≤ 1069; omega), (by show 312 + 6 * r + 0 ≤ 8600; omega)⟩ hS hA ?_
  refine lv_aload_n hx hb d_lw_law_317 rfl (lv_at hl 3 rfl) ?_
  refine zm_wri (v := sg_la u) (w' := u) (As := []) (rest := [.int (sg_la u)]) ⟨hx, hb, hml, hown, hT⟩ (k_md_launched l D cm am _ u k  ) tb_589 tb_590 tb_591 tb_4 tb_592 ⟨rfl, hd_md_launched⟩ ⟨Nat.le_of_ble_eq_true rfl, Nat.le_of_ble_eq_true rfl⟩ rfl rfl hK hP hD hN 0 3 rfl rfl hl.1 rfl (Nat.le_of_ble_eq_true rfl) d_lw_law_318 ⟨(by show 29 + r + 0 + 0 ≤ 1069; omega), (by show 312 + 6 * r + 0 + 0 ≤ 8600; omega)⟩ hS hA (fun k1 H locs hth hP hD hS hq => ?_)
  have hZ := hZ.kept hq
  have hth : jm_th k1 = 0 := hth
  refine lv_icmp_eq hx hb d_lw_law_321 (tgt := 1039) (by decide) (fun _ => ?_) (fun z => absurd rfl z)
  refine W.widen (k := 30 + r) (n := 318 + 6 * r) (by omega) (by omega) ?_
  exact ih _ _ ls _ _ _ (lv_sub hl [0, 1, 2, 3, 4] rfl) hP hD hS hZ (hok)
set_option maxHeartbeats 4000000 in
set_option maxRecDepth 100000 in
theorem lc_6 {p : Program} {l : Launch} {e : Env} {s : State} {m : MethodId} {below : List Frame} {meth : Method} {c : Code} {H : Heap} {locs : List Loc} {Q : State → Prop} {ls : Array Slot} {D : va_G} {cs cm : Nat → ClassId} {ad am : Nat → Nat} {u : Sg} {A : Nat → Prop} {j : Jy} {k : Jm} {b L r : Nat} {xs : Nat → Int32}
    (hl0 : l.stackTraces = false) (hx : p.tables.exec = Jvm.exec) (hb : c.code = b_lw_law) (hml : c.maxLocals = 8) (hown : s.vm.findClass "MeasuredStagesLaw" = some m.cls) (hT : ∀ w ∈ TB, w.before #[Value.ref b] s = true) (hN : xw_N s) (hC : xC s) (hX : va_X b L xs s s.heap) (hbl : b < s.heap.size) (hbA : ¬ A b) (hA : ∀ q, s.heap.size ≤ q → A q) (hr : 6 * r + 6 ≤ L) (hL : L ≤ 3072) (hK : va_K D cx (zty cs cm) s)
    (hP : va_P D cx (zw ad cs am cm u j u k) H) (hD : va_D A (zw ad cs am cm u j u k)) (hS : va_S A s.heap H locs) (hZ : xTA A s H) (hok : sp_ok u) (hl : lv_has ls 8 [(4, .int (nI (6 * r))), (0, .ref b), (1, .ref (ad 0)), (2, .ref (am 0)), (3, .ref (ad 15))])
    (ih : ∀ (H1 : Heap) (locs1 : List Loc) (ls1 : Array Slot) (u1 : Sg) (j1 : Jy) (k1 : Jm), lv_has ls1 8 [(4, .int (nI (6 * r))), (0, .ref b), (1, .ref (ad 0)), (2, .ref (am 0)), (3, .ref (ad 15))] → va_P D cx (zw ad cs am cm u1 j1 u1 k1) H1 → va_D A (zw ad cs am cm u1 j1 u1 k1) → va_S A s.heap H1 locs1 → xTA A s H1 → sp_ok u1 → W p l e room_1 s m #[Value.ref b] below meth c H1 locs1 (30 + r) (318 + 6 * r) Q (F0 m 1039 ls1 [])) :
    W p l e room_1 s m #[Value.ref b] below meth c H locs (29 + r) (312 + 6 * r) Q (F0 m 339 ls []) := by
  refine lv_aload_n hx hb d_lw_law_339 rfl (lv_at hl 2 rfl) ?_
  refine zx_rdl (v := sg_ac u) (As := []) (rest := []) ⟨hx, hb, hml, hown, hT⟩ (c_ms_acc l D cs ad _ u (jyx j)) tb_118 tb_119 tb_120 tb_1 tb_121 ⟨rfl, hd_ms_acc⟩ ⟨Nat.le_of_ble_eq_true rfl, Nat.le_of_ble_eq_true rfl⟩ rfl rfl hK hP hD hN 0 0 rfl rfl hl.1 rfl (Nat.le_of_ble_eq_true rfl) d_lw_law_340 ⟨(by show 29 + r + 0 ≤ 1069; omega), (by show 312 + 6 * r + 0 ≤ 8600; omega)⟩ hS hA ?_
  refine lv_aload_n hx hb d_lw_law_343 rfl (lv_at hl 3 rfl) ?_
  refine zm_wrl (v := sg_ac u) (w' := u) (As := []) (rest := [.long (sg_ac u)]) ⟨hx, hb, hml, hown, hT⟩ (k_md_acc l D cm am _ u k  ) tb_597 tb_598 tb_599 tb_4 tb_600 ⟨rfl, hd_md_acc⟩ ⟨Nat.le_of_ble_eq_true rfl, Nat.le_of_ble_eq_true rfl⟩ rfl rfl hK hP hD hN 0 3 rfl rfl hl.1 rfl (Nat.le_of_ble_eq_true rfl) d_lw_law_344 ⟨(by show 29 + r + 0 + 0 ≤ 1069; omega), (by show 312 + 6 * r + 0 + 0 ≤ 8600; omega)⟩ hS hA (fun k1 H locs hth hP hD hS hq => ?_)
  have hZ := hZ.kept hq
  have hth : jm_th k1 = 0 := hth
  refine W.lcmp hx hb d_lw_law_347 ?_
  refine lv_if_eq hx hb d_lw_law_348 (tgt := 1039) (by decide) (fun _ => ?_) (fun z => absurd (sp_cmp.mpr rfl) z)
  refine W.widen (k := 30 + r) (n := 318 + 6 * r) (by omega) (by omega) ?_
  exact ih _ _ ls _ _ _ (lv_sub hl [0, 1, 2, 3, 4] rfl) hP hD hS hZ (hok)
