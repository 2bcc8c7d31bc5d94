set_option maxHeartbeats 4000000 in
set_option maxRecDepth 100000 in
theorem lc_0 {p : Program} {l : Launch} {e : Env} {s : State} {m : MethodId} {below : List Frame} {meth : Method} {c : Code} {H : Heap} {locs : List Loc} {Q : State → Prop} {ls : Array Slot} {D : va_G} {cs cm : Nat → ClassId} {ad am : Nat → Nat} {u : Sg} {A : Nat → Prop} {j : Jy} {k : Jm} {b L r : Nat} {xs : Nat → Int32}
    (hl0 : l.stackTraces = false) (hx : p.tables.exec = Jvm.exec) (hb : c.code = b_lw_law) (hml : c.maxLocals = 8) (hown : s.vm.findClass "MeasuredStagesLaw" = some m.cls) (hT : ∀ w ∈ TB, w.before #[Value.ref b] s = true) (hN : xw_N s) (hC : xC s) (hX : va_X b L xs s s.heap) (hbl : b < s.heap.size) (hbA : ¬ A b) (hA : ∀ q, s.heap.size ≤ q → A q) (hr : 6 * r + 6 ≤ L) (hL : L ≤ 3072) (hK : va_K D cx (zty cs cm) s)
    (hP : va_P D cx (zw ad cs am cm u j u k) H) (hD : va_D A (zw ad cs am cm u j u k)) (hS : va_S A s.heap H locs) (hZ : xTA A s H) (hok : sp_ok u) (hl : lv_has ls 8 [(4, .int (nI (6 * r))), (0, .ref b), (1, .ref (ad 0)), (2, .ref (am 0)), (3, .ref (ad 15))])
    (ih : ∀ (H1 : Heap) (locs1 : List Loc) (ls1 : Array Slot) (u1 : Sg) (j1 : Jy) (k1 : Jm), lv_has ls1 8 [(4, .int (nI (6 * r))), (0, .ref b), (1, .ref (ad 0)), (2, .ref (am 0)), (3, .ref (ad 15))] → va_P D cx (zw ad cs am cm u1 j1 u1 k1) H1 → va_D A (zw ad cs am cm u1 j1 u1 k1) → va_S A s.heap H1 locs1 → xTA A s H1 → sp_ok u1 → W p l e room_1 s m #[Value.ref b] below meth c H1 locs1 (30 + r) (318 + 6 * r) Q (F0 m 1039 ls1 [])) :
    W p l e room_1 s m #[Value.ref b] below meth c H locs (29 + r) (312 + 6 * r) Q (F0 m 128 ls []) := by
  refine lv_aload_n hx hb d_lw_law_128 rfl (lv_at hl 2 rfl) ?_
  refine lv_aload_n hx hb d_lw_law_129 rfl (lv_at hl 1 rfl) ?_
  refine lv_iload hx hb d_lw_law_130 (lv_at hl 0 rfl) ?_
  refine lv_iconst (v := 1) hx hb d_lw_law_132 (by decide) ?_
  refine lv_iadd hx hb d_lw_law_133 ?_
  refine va_sld hx hb hX hbl hbA hS (si 1 (by decide) hr hL) d_lw_law_134 ?_
  refine lv_aload_n hx hb d_lw_law_135 rfl (lv_at hl 1 rfl) ?_
  refine lv_iload hx hb d_lw_law_136 (lv_at hl 0 rfl) ?_
  refine lv_iconst (v := 2) hx hb d_lw_law_138 (by decide) ?_
  refine lv_iadd hx hb d_lw_law_139 ?_
  refine va_sld hx hb hX hbl hbA hS (si 2 (by decide) hr hL) d_lw_law_140 ?_
  refine lv_i2l hx hb d_lw_law_141 rfl ?_
  refine lv_bipush (v := 32) hx hb d_lw_law_142 (by decide) ?_
  refine lv_lshl hx hb d_lw_law_144 rfl ?_
  refine lv_aload_n hx hb d_lw_law_145 rfl (lv_at hl 1 rfl) ?_
  refine lv_iload hx hb d_lw_law_146 (lv_at hl 0 rfl) ?_
  refine lv_iconst (v := 3) hx hb d_lw_law_148 (by decide) ?_
  refine lv_iadd hx hb d_lw_law_149 ?_
  refine va_sld hx hb hX hbl hbA hS (si 3 (by decide) hr hL) d_lw_law_150 ?_
  refine lv_i2l hx hb d_lw_law_151 rfl ?_
  refine lv_ldc2 (v := 4294967295) hx hb hown (hT _ tb_649) d_lw_law_152 ?_
  refine lv_land hx hb d_lw_law_155 ?_
  refine lv_lor hx hb d_lw_law_156 ?_
  by_cases hn : vp_in (xs ((nI (6 * r)) + (1)).toNatClampNeg) 8
  · skip
    refine zy_i (v := 0) (u' := ss_im u (vp_updL (sg_im u) (xs ((nI (6 * r)) + (1)).toNatClampNeg).toNatClampNeg ((((xs ((nI (6 * r)) + (2)).toNatClampNeg).toInt64) <<< ((32 : Int32).toInt64 &&& 63)) ||| (((xs ((nI (6 * r)) + (3)).toNatClampNeg).toInt64) &&& (4294967295))))) (As := [.ref (ad 0), .int (xs ((nI (6 * r)) + (1)).toNatClampNeg), .long ((((xs ((nI (6 * r)) + (2)).toNatClampNeg).toInt64) <<< ((32 : Int32).toInt64 &&& 63)) ||| (((xs ((nI (6 * r)) + (3)).toNatClampNeg).toInt64) &&& (4294967295)))]) (rest := []) ⟨hx, hb, hml, hown, hT⟩ (k_lw_image l D cs ad _ u j (xs ((nI (6 * r)) + (1)).toNatClampNeg) ((((xs ((nI (6 * r)) + (2)).toNatClampNeg).toInt64) <<< ((32 : Int32).toInt64 &&& 63)) ||| (((xs ((nI (6 * r)) + (3)).toNatClampNeg).toInt64) &&& (4294967295))) hn) tb_143 tb_144 tb_0 tb_145 hd_lw_image ⟨Nat.le_of_ble_eq_true rfl, Nat.le_of_ble_eq_true rfl⟩ rfl rfl hK hP hD hN hZ hC hl.1 rfl (Nat.le_of_ble_eq_true rfl) d_lw_law_157 ⟨(by show 29 + r + 0 ≤ 1069; omega), (by show 312 + 6 * r + 0 ≤ 8600; omega)⟩ hS hA (fun j1 H locs hpj hP hD hS hq => ?_)
    have hZ := hZ.kept hq
    refine lv_istore (nL := 8) (lv' := [(5, .int (0)), (4, .int (nI (6 * r))), (0, .ref b), (1, .ref (ad 0)), (2, .ref (am 0)), (3, .ref (ad 15))]) hx hb d_lw_law_160 hl (by decide) rfl (fun ls hl => ?_)
    refine lv_aload_n hx hb d_lw_law_162 rfl (lv_at hl 4 rfl) ?_
    refine lv_aload_n hx hb d_lw_law_163 rfl (lv_at hl 2 rfl) ?_
    refine lv_iload hx hb d_lw_law_164 (lv_at hl 1 rfl) ?_
    refine lv_iconst (v := 1) hx hb d_lw_law_166 (by decide) ?_
    refine lv_iadd hx hb d_lw_law_167 ?_
    refine va_sld hx hb hX hbl hbA hS (si 1 (by decide) hr hL) d_lw_law_168 ?_
    refine lv_aload_n hx hb d_lw_law_169 rfl (lv_at hl 2 rfl) ?_
    refine lv_iload hx hb d_lw_law_170 (lv_at hl 1 rfl) ?_
    refine lv_iconst (v := 2) hx hb d_lw_law_172 (by decide) ?_
    refine lv_iadd hx hb d_lw_law_173 ?_
    refine va_sld hx hb hX hbl hbA hS (si 2 (by decide) hr hL) d_lw_law_174 ?_
    refine lv_i2l hx hb d_lw_law_175 rfl ?_
    refine lv_bipush (v := 32) hx hb d_lw_law_176 (by decide) ?_
    refine lv_lshl hx hb d_lw_law_178 rfl ?_
    refine lv_aload_n hx hb d_lw_law_179 rfl (lv_at hl 2 rfl) ?_
    refine lv_iload hx hb d_lw_law_180 (lv_at hl 1 rfl) ?_
    refine lv_iconst (v := 3) hx hb d_lw_law_182 (by decide) ?_
    refine lv_iadd hx hb d_lw_law_183 ?_
    refine va_sld hx hb hX hbl hbA hS (si 3 (by decide) hr hL) d_lw_law_184 ?_
    refine lv_i2l hx hb d_lw_law_185 rfl ?_
    refine lv_ldc2 (v := 4294967295) hx hb hown (hT _ tb_649) d_lw_law_186 ?_
    refine lv_land hx hb d_lw_law_189 ?_
    refine lv_lor hx hb d_lw_law_190 ?_
    refine zm_wrv (w' := ss_im u (vp_updL (sg_im u) (xs ((nI (6 * r)) + (1)).toNatClampNeg).toNatClampNeg ((((xs ((nI (6 * r)) + (2)).toNatClampNeg).toInt64) <<< ((32 : Int32).toInt64 &&& 63)) ||| (((xs ((nI (6 * r)) + (3)).toNatClampNeg).toInt64) &&& (4294967295))))) (As := [.int (xs ((nI (6 * r)) + (1)).toNatClampNeg), .long ((((xs ((nI (6 * r)) + (2)).toNatClampNeg).toInt64) <<< ((32 : Int32).toInt64 &&& 63)) ||| (((xs ((nI (6 * r)) + (3)).toNatClampNeg).toInt64) &&& (4294967295)))]) (rest := []) ⟨hx, hb, hml, hown, hT⟩ (k_md_image l D cm am _ u k (xs ((nI (6 * r)) + (1)).toNatClampNeg) ((((xs ((nI (6 * r)) + (2)).toNatClampNeg).toInt64) <<< ((32 : Int32).toInt64 &&& 63)) ||| (((xs ((nI (6 * r)) + (3)).toNatClampNeg).toInt64) &&& (4294967295))) hn) tb_521 tb_522 tb_523 tb_4 tb_524 ⟨rfl, hd_md_image⟩ ⟨Nat.le_of_ble_eq_true rfl, Nat.le_of_ble_eq_true rfl⟩ rfl rfl hK hP hD hN 0 3 rfl rfl hl.1 rfl (Nat.le_of_ble_eq_true rfl) d_lw_law_191 ⟨(by show 29 + r + 0 + 0 ≤ 1069; omega), (by show 312 + 6 * r + 0 + 0 ≤ 8600; omega)⟩ hS hA (fun k1 H locs hth hP hD hS hq => ?_)
    have hZ := hZ.kept hq
    have hth : jm_th k1 = 0 := hth
    refine lv_aload_n hx hb d_lw_law_194 rfl (lv_at hl 4 rfl) ?_
    refine zm_rdi (v := jm_th k1) (As := []) (rest := []) ⟨hx, hb, hml, hown, hT⟩ (c_md_thrown l D cm am _ (ss_im u (vp_updL (sg_im u) (xs ((nI (6 * r)) + (1)).toNatClampNeg).toNatClampNeg ((((xs ((nI (6 * r)) + (2)).toNatClampNeg).toInt64) <<< ((32 : Int32).toInt64 &&& 63)) ||| (((xs ((nI (6 * r)) + (3)).toNatClampNeg).toInt64) &&& (4294967295))))) k1) tb_517 tb_518 tb_519 tb_4 tb_520 ⟨rfl, hd_md_thrown⟩ ⟨Nat.le_of_ble_eq_true rfl, Nat.le_of_ble_eq_true rfl⟩ rfl rfl hK hP hD hN 0 3 rfl rfl hl.1 rfl (Nat.le_of_ble_eq_true rfl) d_lw_law_195 ⟨(by show 29 + r + 0 + 0 ≤ 1069; omega), (by show 312 + 6 * r + 0 + 0 ≤ 8600; omega)⟩ hS hA ?_
    refine lv_iload hx hb d_lw_law_198 (lv_at hl 0 rfl) ?_
    refine lv_icmp_eq hx hb d_lw_law_200 (tgt := 205) (by decide) (fun _ => ?_) (fun z => absurd hth z)
    refine lv_goto hx hb d_lw_law_205 (tgt := 1039) (by decide) ?_
    refine W.widen (k := 30 + r) (n := 318 + 6 * r) (by omega) (by omega) ?_
    exact ih _ _ ls _ _ _ (lv_sub hl [1, 2, 3, 4, 5] rfl) hP hD hS hZ (hok)
  · skip
    refine zy_i (v := 1) (u' := u) (As := [.ref (ad 0), .int (xs ((nI (6 * r)) + (1)).toNatClampNeg), .long ((((xs ((nI (6 * r)) + (2)).toNatClampNeg).toInt64) <<< ((32 : Int32).toInt64 &&& 63)) ||| (((xs ((nI (6 * r)) + (3)).toNatClampNeg).toInt64) &&& (4294967295)))]) (rest := []) ⟨hx, hb, hml, hown, hT⟩ (f_lw_image l hl0 D cs ad _ u j (xs ((nI (6 * r)) + (1)).toNatClampNeg) ((((xs ((nI (6 * r)) + (2)).toNatClampNeg).toInt64) <<< ((32 : Int32).toInt64 &&& 63)) ||| (((xs ((nI (6 * r)) + (3)).toNatClampNeg).toInt64) &&& (4294967295))) hn) tb_143 tb_144 tb_0 tb_145 hd_lw_image ⟨Nat.le_of_ble_eq_true rfl, Nat.le_of_ble_eq_true rfl⟩ rfl rfl hK hP hD hN hZ hC hl.1 rfl (Nat.le_of_ble_eq_true rfl) d_lw_law_157 ⟨(by show 29 + r + 1 ≤ 1069; omega), (by show 312 + 6 * r + 6 ≤ 8600; omega)⟩ hS hA (fun j1 H locs hpj hP hD hS hq => ?_)
    have hZ := hZ.kept hq
    refine lv_istore (nL := 8) (lv' := [(5, .int (1)), (4, .int (nI (6 * r))), (0, .ref b), (1, .ref (ad 0)), (2, .ref (am 0)), (3, .ref (ad 15))]) hx hb d_lw_law_160 hl (by decide) rfl (fun ls hl => ?_)
    refine lv_aload_n hx hb d_lw_law_162 rfl (lv_at hl 4 rfl) ?_
    refine lv_aload_n hx hb d_lw_law_163 rfl (lv_at hl 2 rfl) ?_
    refine lv_iload hx hb d_lw_law_164 (lv_at hl 1 rfl) ?_
    refine lv_iconst (v := 1) hx hb d_lw_law_166 (by decide) ?_
    refine lv_iadd hx hb d_lw_law_167 ?_
    refine va_sld hx hb hX hbl hbA hS (si 1 (by decide) hr hL) d_lw_law_168 ?_
    refine lv_aload_n hx hb d_lw_law_169 rfl (lv_at hl 2 rfl) ?_
    refine lv_iload hx hb d_lw_law_170 (lv_at hl 1 rfl) ?_
    refine lv_iconst (v := 2) hx hb d_lw_law_172 (by decide) ?_
    refine lv_iadd hx hb d_lw_law_173 ?_
    refine va_sld hx hb hX hbl hbA hS (si 2 (by decide) hr hL) d_lw_law_174 ?_
    refine lv_i2l hx hb d_lw_law_175 rfl ?_
    refine lv_bipush (v := 32) hx hb d_lw_law_176 (by decide) ?_
    refine lv_lshl hx hb d_lw_law_178 rfl ?_
    refine lv_aload_n hx hb d_lw_law_179 rfl (lv_at hl 2 rfl) ?_
    refine lv_iload hx hb d_lw_law_180 (lv_at hl 1 rfl) ?_
    refine lv_iconst (v := 3) hx hb d_lw_law_182 (by decide) ?_
    refine lv_iadd hx hb d_lw_law_183 ?_
    refine va_sld hx hb hX hbl hbA hS (si 3 (by decide) hr hL) d_lw_law_184 ?_
    refine lv_i2l hx hb d_lw_law_185 rfl ?_
    refine lv_ldc2 (v := 4294967295) hx hb hown (hT _ tb_649) d_lw_law_186 ?_
    refine lv_land hx hb d_lw_law_189 ?_
    refine lv_lor hx hb d_lw_law_190 ?_
    refine zm_wrv (w' := u) (As := [.int (xs ((nI (6 * r)) + (1)).toNatClampNeg), .long ((((xs ((nI (6 * r)) + (2)).toNatClampNeg).toInt64) <<< ((32 : Int32).toInt64 &&& 63)) ||| (((xs ((nI (6 * r)) + (3)).toNatClampNeg).toInt64) &&& (4294967295)))]) (rest := []) ⟨hx, hb, hml, hown, hT⟩ (f_md_image l D cm am _ u k (xs ((nI (6 * r)) + (1)).toNatClampNeg) ((((xs ((nI (6 * r)) + (2)).toNatClampNeg).toInt64) <<< ((32 : Int32).toInt64 &&& 63)) ||| (((xs ((nI (6 * r)) + (3)).toNatClampNeg).toInt64) &&& (4294967295))) hn) tb_521 tb_522 tb_523 tb_4 tb_524 ⟨rfl, hd_md_image⟩ ⟨Nat.le_of_ble_eq_true rfl, Nat.le_of_ble_eq_true rfl⟩ rfl rfl hK hP hD hN 0 3 rfl rfl hl.1 rfl (Nat.le_of_ble_eq_true rfl) d_lw_law_191 ⟨(by show 29 + r + 1 + 0 ≤ 1069; omega), (by show 312 + 6 * r + 6 + 0 ≤ 8600; omega)⟩ hS hA (fun k1 H locs hth hP hD hS hq => ?_)
    have hZ := hZ.kept hq
    have hth : jm_th k1 = 1 := hth
    refine lv_aload_n hx hb d_lw_law_194 rfl (lv_at hl 4 rfl) ?_
    refine zm_rdi (v := jm_th k1) (As := []) (rest := []) ⟨hx, hb, hml, hown, hT⟩ (c_md_thrown l D cm am _ u k1) tb_517 tb_518 tb_519 tb_4 tb_520 ⟨rfl, hd_md_thrown⟩ ⟨Nat.le_of_ble_eq_true rfl, Nat.le_of_ble_eq_true rfl⟩ rfl rfl hK hP hD hN 0 3 rfl rfl hl.1 rfl (Nat.le_of_ble_eq_true rfl) d_lw_law_195 ⟨(by show 29 + r + 1 + 0 ≤ 1069; omega), (by show 312 + 6 * r + 6 + 0 ≤ 8600; omega)⟩ hS hA ?_
    refine lv_iload hx hb d_lw_law_198 (lv_at hl 0 rfl) ?_
    refine lv_icmp_eq hx hb d_lw_law_200 (tgt := 205) (by decide) (fun _ => ?_) (fun z => absurd hth z)
    refine lv_goto hx hb d_lw_law_205 (tgt := 1039) (by decide) ?_
    refine W.widen (k := 30 + r) (n := 318 + 6 * r) (by omega) (by omega) ?_
    exact ih _ _ ls _ _ _ (lv_sub hl [1, 2, 3, 4, 5] rfl) hP hD hS hZ (hok)
set_option maxHeartbeats 4000000 in
set_option maxRecDepth 100000 in
theorem lc_1 {p : Program} {l : Launch} {e : Env} {s : State} {m : MethodId} {below : List Frame} {meth : Method} {c : Code} {H : Heap} {locs : List Loc} {Q : State → Prop} {ls : Array Slot} {D : va_G} {cs cm : Nat → ClassId} {ad am : Nat → Nat} {u : Sg} {A : Nat → Prop} {j : Jy} {k : Jm} {b L r : Nat} {xs : Nat → Int32}
    (hl0 : l.stackTraces = false) (hx : p.tables.exec = Jvm.exec) (hb : c.code = b_lw_law) (hml : c.maxLocals = 8) (hown : s.vm.findClass "MeasuredStagesLaw" = some m.cls) (hT : ∀ w ∈ TB, w.before #[Value.ref b] s = true) (hN : xw_N s) (hC : xC s) (hX : va_X b L xs s s.heap) (hbl : b < s.heap.size) (hbA : ¬ A b) (hA : ∀ q, s.heap.size ≤ q → A q) (hr : 6 * r + 6 ≤ L) (hL : L ≤ 3072) (hK : va_K D cx (zty cs cm) s)
    (hP : va_P D cx (zw ad cs am cm u j u k) H) (hD : va_D A (zw ad cs am cm u j u k)) (hS : va_S A s.heap H locs) (hZ : xTA A s H) (hok : sp_ok u) (hl : lv_has ls 8 [(4, .int (nI (6 * r))), (0, .ref b), (1, .ref (ad 0)), (2, .ref (am 0)), (3, .ref (ad 15))])
    (ih : ∀ (H1 : Heap) (locs1 : List Loc) (ls1 : Array Slot) (u1 : Sg) (j1 : Jy) (k1 : Jm), lv_has ls1 8 [(4, .int (nI (6 * r))), (0, .ref b), (1, .ref (ad 0)), (2, .ref (am 0)), (3, .ref (ad 15))] → va_P D cx (zw ad cs am cm u1 j1 u1 k1) H1 → va_D A (zw ad cs am cm u1 j1 u1 k1) → va_S A s.heap H1 locs1 → xTA A s H1 → sp_ok u1 → W p l e room_1 s m #[Value.ref b] below meth c H1 locs1 (30 + r) (318 + 6 * r) Q (F0 m 1039 ls1 [])) :
    W p l e room_1 s m #[Value.ref b] below meth c H locs (29 + r) (312 + 6 * r) Q (F0 m 208 ls []) := by
  refine lv_aload_n hx hb d_lw_law_208 rfl (lv_at hl 2 rfl) ?_
  refine lv_aload_n hx hb d_lw_law_209 rfl (lv_at hl 1 rfl) ?_
  refine lv_iload hx hb d_lw_law_210 (lv_at hl 0 rfl) ?_
  refine lv_iconst (v := 1) hx hb d_lw_law_212 (by decide) ?_
  refine lv_iadd hx hb d_lw_law_213 ?_
  refine va_sld hx hb hX hbl hbA hS (si 1 (by decide) hr hL) d_lw_law_214 ?_
  by_cases hn : vp_in (xs ((nI (6 * r)) + (1)).toNatClampNeg) 8
  · skip
    refine zy_i (v := 0) (u' := ss_ag (ss_ap u (upd (sg_ap u) (xs ((nI (6 * r)) + (1)).toNatClampNeg).toNatClampNeg 1)) (vp_updL (sg_ag u) (xs ((nI (6 * r)) + (1)).toNatClampNeg).toNatClampNeg (sp_di u (xs ((nI (6 * r)) + (1)).toNatClampNeg)))) (As := [.ref (ad 0), .int (xs ((nI (6 * r)) + (1)).toNatClampNeg)]) (rest := []) ⟨hx, hb, hml, hown, hT⟩ (k_lw_approve l D cs ad _ u j (xs ((nI (6 * r)) + (1)).toNatClampNeg) hn) tb_223 tb_224 tb_0 tb_225 hd_lw_approve ⟨Nat.le_of_ble_eq_true rfl, Nat.le_of_ble_eq_true rfl⟩ rfl rfl hK hP hD hN hZ hC hl.1 rfl (Nat.le_of_ble_eq_true rfl) d_lw_law_215 ⟨(by show 29 + r + 0 ≤ 1069; omega), (by show 312 + 6 * r + 0 ≤ 8600; omega)⟩ hS hA (fun j1 H locs hpj hP hD hS hq => ?_)
    have hZ := hZ.kept hq
    refine lv_istore (nL := 8) (lv' := [(5, .int (0)), (4, .int (nI (6 * r))), (0, .ref b), (1, .ref (ad 0)), (2, .ref (am 0)), (3, .ref (ad 15))]) hx hb d_lw_law_218 hl (by decide) rfl (fun ls hl => ?_)
    refine lv_aload_n hx hb d_lw_law_220 rfl (lv_at hl 4 rfl) ?_
    refine lv_aload_n hx hb d_lw_law_221 rfl (lv_at hl 2 rfl) ?_
    refine lv_iload hx hb d_lw_law_222 (lv_at hl 1 rfl) ?_
    refine lv_iconst (v := 1) hx hb d_lw_law_224 (by decide) ?_
    refine lv_iadd hx hb d_lw_law_225 ?_
    refine va_sld hx hb hX hbl hbA hS (si 1 (by decide) hr hL) d_lw_law_226 ?_
    refine zm_wrv (w' := ss_ag (ss_ap u (upd (sg_ap u) (xs ((nI (6 * r)) + (1)).toNatClampNeg).toNatClampNeg 1)) (vp_updL (sg_ag u) (xs ((nI (6 * r)) + (1)).toNatClampNeg).toNatClampNeg (sp_di u (xs ((nI (6 * r)) + (1)).toNatClampNeg)))) (As := [.int (xs ((nI (6 * r)) + (1)).toNatClampNeg)]) (rest := []) ⟨hx, hb, hml, hown, hT⟩ (k_md_approve l D cm am _ u k (xs ((nI (6 * r)) + (1)).toNatClampNeg) hn) tb_525 tb_526 tb_527 tb_4 tb_528 ⟨rfl, hd_md_approve⟩ ⟨Nat.le_of_ble_eq_true rfl, Nat.le_of_ble_eq_true rfl⟩ rfl rfl hK hP hD hN 0 3 rfl rfl hl.1 rfl (Nat.le_of_ble_eq_true rfl) d_lw_law_227 ⟨(by show 29 + r + 0 + 0 ≤ 1069; omega), (by show 312 + 6 * r + 0 + 0 ≤ 8600; omega)⟩ hS hA (fun k1 H locs hth hP hD hS hq => ?_)
    have hZ := hZ.kept hq
    have hth : jm_th k1 = 0 := hth
    refine lv_aload_n hx hb d_lw_law_230 rfl (lv_at hl 4 rfl) ?_
    refine zm_rdi (v := jm_th k1) (As := []) (rest := []) ⟨hx, hb, hml, hown, hT⟩ (c_md_thrown l D cm am _ (ss_ag (ss_ap u (upd (sg_ap u) (xs ((nI (6 * r)) + (1)).toNatClampNeg).toNatClampNeg 1)) (vp_updL (sg_ag u) (xs ((nI (6 * r)) + (1)).toNatClampNeg).toNatClampNeg (sp_di u (xs ((nI (6 * r)) + (1)).toNatClampNeg)))) k1) tb_517 tb_518 tb_519 tb_4 tb_520 ⟨rfl, hd_md_thrown⟩ ⟨Nat.le_of_ble_eq_true rfl, Nat.le_of_ble_eq_true rfl⟩ rfl rfl hK hP hD hN 0 3 rfl rfl hl.1 rfl (Nat.le_of_ble_eq_true rfl) d_lw_law_231 ⟨(by show 29 + r + 0 + 0 ≤ 1069; omega), (by show 312 + 6 * r + 0 + 0 ≤ 8600; omega)⟩ hS hA ?_
    refine lv_iload hx hb d_lw_law_234 (lv_at hl 0 rfl) ?_
    refine lv_icmp_eq hx hb d_lw_law_236 (tgt := 241) (by decide) (fun _ => ?_) (fun z => absurd hth z)
    refine lv_goto hx hb d_lw_law_241 (tgt := 1039) (by decide) ?_
    refine W.widen (k := 30 + r) (n := 318 + 6 * r) (by omega) (by omega) ?_
    exact ih _ _ ls _ _ _ (lv_sub hl [1, 2, 3, 4, 5] rfl) hP hD hS hZ (hok)
  · skip
    refine zy_i (v := 1) (u' := u) (As := [.ref (ad 0), .int (xs ((nI (6 * r)) + (1)).toNatClampNeg)]) (rest := []) ⟨hx, hb, hml, hown, hT⟩ (f_lw_approve l hl0 D cs ad _ u j (xs ((nI (6 * r)) + (1)).toNatClampNeg) hn) tb_223 tb_224 tb_0 tb_225 hd_lw_approve ⟨Nat.le_of_ble_eq_true rfl, Nat.le_of_ble_eq_true rfl⟩ rfl rfl hK hP hD hN hZ hC hl.1 rfl (Nat.le_of_ble_eq_true rfl) d_lw_law_215 ⟨(by show 29 + r + 1 ≤ 1069; omega), (by show 312 + 6 * r + 6 ≤ 8600; omega)⟩ hS hA (fun j1 H locs hpj hP hD hS hq => ?_)
    have hZ := hZ.kept hq
    refine lv_istore (nL := 8) (lv' := [(5, .int (1)), (4, .int (nI (6 * r))), (0, .ref b), (1, .ref (ad 0)), (2, .ref (am 0)), (3, .ref (ad 15))]) hx hb d_lw_law_218 hl (by decide) rfl (fun ls hl => ?_)
    refine lv_aload_n hx hb d_lw_law_220 rfl (lv_at hl 4 rfl) ?_
    refine lv_aload_n hx hb d_lw_law_221 rfl (lv_at hl 2 rfl) ?_
    refine lv_iload hx hb d_lw_law_222 (lv_at hl 1 rfl) ?_
    refine lv_iconst (v := 1) hx hb d_lw_law_224 (by decide) ?_
    refine lv_iadd hx hb d_lw_law_225 ?_
    refine va_sld hx hb hX hbl hbA hS (si 1 (by decide) hr hL) d_lw_law_226 ?_
    refine zm_wrv (w' := u) (As := [.int (xs ((nI (6 * r)) + (1)).toNatClampNeg)]) (rest := []) ⟨hx, hb, hml, hown, hT⟩ (f_md_approve l D cm am _ u k (xs ((nI (6 * r)) + (1)).toNatClampNeg) hn) tb_525 tb_526 tb_527 tb_4 tb_528 ⟨rfl, hd_md_approve⟩ ⟨Nat.le_of_ble_eq_true rfl, Nat.le_of_ble_eq_true rfl⟩ rfl rfl hK hP hD hN 0 3 rfl rfl hl.1 rfl (Nat.le_of_ble_eq_true rfl) d_lw_law_227 ⟨(by show 29 + r + 1 + 0 ≤ 1069; omega), (by show 312 + 6 * r + 6 + 0 ≤ 8600; omega)⟩ hS hA (fun k1 H locs hth hP hD hS hq => ?_)
    have hZ := hZ.kept hq
    have hth : jm_th k1 = 1 := hth
    refine lv_aload_n hx hb d_lw_law_230 rfl (lv_at hl 4 rfl) ?_
    refine zm_rdi (v := jm_th k1) (As := []) (rest := []) ⟨hx, hb, hml, hown, hT⟩ (c_md_thrown l D cm am _ u k1) tb_517 tb_518 tb_519 tb_4 tb_520 ⟨rfl, hd_md_thrown⟩ ⟨Nat.le_of_ble_eq_true rfl, Nat.le_of_ble_eq_true rfl⟩ rfl rfl hK hP hD hN 0 3 rfl rfl hl.1 rfl (Nat.le_of_ble_eq_true rfl) d_lw_law_231 ⟨(by show 29 + r + 1 + 0 ≤ 1069; omega), (by show 312 + 6 * r + 6 + 0 ≤ 8600; omega)⟩ hS hA ?_
    refine lv_iload hx hb d_lw_law_234 (lv_at hl 0 rfl) ?_
    refine lv_icmp_eq hx hb d_lw_law_236 (tgt := 241) (by decide) (fun _ => ?_) (fun z => absurd hth z)
    refine lv_goto hx hb d_lw_law_241 (tgt := 1039) (by decide) ?_
    refine W.widen (k := 30 + r) (n := 318 + 6 * r) (by omega) (by omega) ?_
    exact ih _ _ ls _ _ _ (lv_sub hl [1, 2, 3, 4, 5] rfl) hP hD hS hZ (hok)
set_option maxHeartbeats 4000000 in
set_option maxRecDepth 100000 in
theorem lc_2 {p : Program} {l : Launch} {e : Env} {s : State} {m : MethodId} {below : List Frame} {meth : Method} {c : Code} {H : Heap} {locs : List Loc} {Q : State → Prop} {ls : Array Slot} {D : va_G} {cs cm : Nat → ClassId} {ad am : Nat → Nat} {u : Sg} {A : Nat → Prop} {j : Jy} {k : Jm} {b L r : Nat} {xs : Nat → Int32}
    (hl0 : l.stackTraces = false) (hx : p.tables.exec = Jvm.exec) (hb : c.code = b_lw_law) (hml : c.maxLocals = 8) (hown : s.vm.findClass "MeasuredStagesLaw" = some m.cls) (hT : ∀ w ∈ TB, w.before #[Value.ref b] s = true) (hN : xw_N s) (hC : xC s) (hX : va_X b L xs s s.heap) (hbl : b < s.heap.size) (hbA : ¬ A b) (hA : ∀ q, s.heap.size ≤ q → A q) (hr : 6 * r + 6 ≤ L) (hL : L ≤ 3072) (hK : va_K D cx (zty cs cm) s)
    (hP : va_P D cx (zw ad cs am cm u j u k) H) (hD : va_D A (zw ad cs am cm u j u k)) (hS : va_S A s.heap H locs) (hZ : xTA A s H) (hok : sp_ok u) (hl : lv_has ls 8 [(4, .int (nI (6 * r))), (0, .ref b), (1, .ref (ad 0)), (2, .ref (am 0)), (3, .ref (ad 15))])
    (ih : ∀ (H1 : Heap) (locs1 : List Loc) (ls1 : Array Slot) (u1 : Sg) (j1 : Jy) (k1 : Jm), lv_has ls1 8 [(4, .int (nI (6 * r))), (0, .ref b), (1, .ref (ad 0)), (2, .ref (am 0)), (3, .ref (ad 15))] → va_P D cx (zw ad cs am cm u1 j1 u1 k1) H1 → va_D A (zw ad cs am cm u1 j1 u1 k1) → va_S A s.heap H1 locs1 → xTA A s H1 → sp_ok u1 → W p l e room_1 s m #[Value.ref b] below meth c H1 locs1 (30 + r) (318 + 6 * r) Q (F0 m 1039 ls1 [])) :
    W p l e room_1 s m #[Value.ref b] below meth c H locs (29 + r) (312 + 6 * r) Q (F0 m 244 ls []) := by
  refine lv_aload_n hx hb d_lw_law_244 rfl (lv_at hl 2 rfl) ?_
  refine lv_aload_n hx hb d_lw_law_245 rfl (lv_at hl 1 rfl) ?_
  refine lv_iload hx hb d_lw_law_246 (lv_at hl 0 rfl) ?_
  refine lv_iconst (v := 1) hx hb d_lw_law_248 (by decide) ?_
  refine lv_iadd hx hb d_lw_law_249 ?_
  refine va_sld hx hb hX hbl hbA hS (si 1 (by decide) hr hL) d_lw_law_250 ?_
  refine lv_aload_n hx hb d_lw_law_251 rfl (lv_at hl 4 rfl) ?_
  by_cases hn : vp_in (xs ((nI (6 * r)) + (1)).toNatClampNeg) 8
  · skip
    by_cases hf : sg_fa (sp_bo u (xs ((nI (6 * r)) + (1)).toNatClampNeg)) = 0
    · skip
      refine zy_i (v := 0) (u' := sp_bo u (xs ((nI (6 * r)) + (1)).toNatClampNeg)) (As := [.ref (ad 0), .int (xs ((nI (6 * r)) + (1)).toNatClampNeg), .ref (ad 15)]) (rest := []) ⟨hx, hb, hml, hown, hT⟩ (k_lw_boot l D cs ad _ u j (xs ((nI (6 * r)) + (1)).toNatClampNeg) hok hn hf) tb_236 tb_237 tb_0 tb_238 hd_lw_boot ⟨Nat.le_of_ble_eq_true rfl, Nat.le_of_ble_eq_true rfl⟩ rfl rfl hK hP hD hN hZ hC hl.1 rfl (Nat.le_of_ble_eq_true rfl) d_lw_law_252 ⟨(by show 29 + r + 0 ≤ 1069; omega), (by show 312 + 6 * r + 0 ≤ 8600; omega)⟩ hS hA (fun j1 H locs hpj hP hD hS hq => ?_)
      have hZ := hZ.kept hq
      refine lv_istore (nL := 8) (lv' := [(5, .int (0)), (4, .int (nI (6 * r))), (0, .ref b), (1, .ref (ad 0)), (2, .ref (am 0)), (3, .ref (ad 15))]) hx hb d_lw_law_255 hl (by decide) rfl (fun ls hl => ?_)
      refine lv_aload_n hx hb d_lw_law_257 rfl (lv_at hl 4 rfl) ?_
      refine lv_aload_n hx hb d_lw_law_258 rfl (lv_at hl 2 rfl) ?_
      refine lv_iload hx hb d_lw_law_259 (lv_at hl 1 rfl) ?_
      refine lv_iconst (v := 1) hx hb d_lw_law_261 (by decide) ?_
      refine lv_iadd hx hb d_lw_law_262 ?_
      refine va_sld hx hb hX hbl hbA hS (si 1 (by decide) hr hL) d_lw_law_263 ?_
      refine zm_wri (v := sg_la (sp_bo u (xs ((nI (6 * r)) + (1)).toNatClampNeg))) (w' := sp_bo u (xs ((nI (6 * r)) + (1)).toNatClampNeg)) (As := [.int (xs ((nI (6 * r)) + (1)).toNatClampNeg)]) (rest := []) ⟨hx, hb, hml, hown, hT⟩ (k_md_boot l D cm am _ u k (xs ((nI (6 * r)) + (1)).toNatClampNeg) hok hn hf) tb_540 tb_541 tb_542 tb_4 tb_543 ⟨rfl, hd_md_boot⟩ ⟨Nat.le_of_ble_eq_true rfl, Nat.le_of_ble_eq_true rfl⟩ rfl rfl hK hP hD hN 0 3 rfl rfl hl.1 rfl (Nat.le_of_ble_eq_true rfl) d_lw_law_264 ⟨(by show 29 + r + 0 + 0 ≤ 1069; omega), (by show 312 + 6 * r + 0 + 0 ≤ 8600; omega)⟩ hS hA (fun k1 H locs hth hP hD hS hq => ?_)
      have hZ := hZ.kept hq
      have hth : jm_th k1 = 0 := hth
      refine lv_istore (nL := 8) (lv' := [(6, .int (sg_la (sp_bo u (xs ((nI (6 * r)) + (1)).toNatClampNeg)))), (5, .int (0)), (4, .int (nI (6 * r))), (0, .ref b), (1, .ref (ad 0)), (2, .ref (am 0)), (3, .ref (ad 15))]) hx hb d_lw_law_267 hl (by decide) rfl (fun ls hl => ?_)
      refine lv_aload_n hx hb d_lw_law_269 rfl (lv_at hl 5 rfl) ?_
      refine zm_rdi (v := jm_th k1) (As := []) (rest := []) ⟨hx, hb, hml, hown, hT⟩ (c_md_thrown l D cm am _ (sp_bo u (xs ((nI (6 * r)) + (1)).toNatClampNeg)) k1) tb_517 tb_518 tb_519 tb_4 tb_520 ⟨rfl, hd_md_thrown⟩ ⟨Nat.le_of_ble_eq_true rfl, Nat.le_of_ble_eq_true rfl⟩ rfl rfl hK hP hD hN 0 3 rfl rfl hl.1 rfl (Nat.le_of_ble_eq_true rfl) d_lw_law_270 ⟨(by show 29 + r + 0 + 0 ≤ 1069; omega), (by show 312 + 6 * r + 0 + 0 ≤ 8600; omega)⟩ hS hA ?_
      refine lv_iload hx hb d_lw_law_273 (lv_at hl 1 rfl) ?_
      refine lv_icmp_eq hx hb d_lw_law_275 (tgt := 280) (by decide) (fun _ => ?_) (fun z => absurd hth z)
      refine lv_iload hx hb d_lw_law_280 (lv_at hl 1 rfl) ?_
      refine lv_if_ne hx hb d_lw_law_282 (tgt := 297) (by decide) (fun z => absurd (by decide) z) (fun _ => ?_)
      refine lv_aload_n hx hb d_lw_law_285 rfl (lv_at hl 6 rfl) ?_
      refine lv_iconst (v := 0) hx hb d_lw_law_286 (by decide) ?_
      refine va_lald hx hb hK hP 0 0 rfl rfl (by unfold vp_in; decide) d_lw_law_287 ?_
      refine lv_iload hx hb d_lw_law_288 (lv_at hl 0 rfl) ?_
      refine lv_i2l hx hb d_lw_law_290 rfl ?_
      refine W.lcmp hx hb d_lw_law_291 ?_
      refine lv_if_eq hx hb d_lw_law_292 (tgt := 297) (by decide) (fun _ => ?_) (fun z => absurd (sp_cmp.mpr hpj) z)
      refine lv_goto hx hb d_lw_law_297 (tgt := 1039) (by decide) ?_
      refine W.widen (k := 30 + r) (n := 318 + 6 * r) (by omega) (by omega) ?_
      exact ih _ _ ls _ _ _ (lv_sub hl [2, 3, 4, 5, 6] rfl) hP hD hS hZ (ok_bo hok)
    · skip
      refine zy_i (v := 2) (u' := sp_bo u (xs ((nI (6 * r)) + (1)).toNatClampNeg)) (As := [.ref (ad 0), .int (xs ((nI (6 * r)) + (1)).toNatClampNeg), .ref (ad 15)]) (rest := []) ⟨hx, hb, hml, hown, hT⟩ (g_lw_boot l hl0 D cs ad _ u j (xs ((nI (6 * r)) + (1)).toNatClampNeg) hok hn hf) tb_236 tb_237 tb_0 tb_238 hd_lw_boot ⟨Nat.le_of_ble_eq_true rfl, Nat.le_of_ble_eq_true rfl⟩ rfl rfl hK hP hD hN hZ hC hl.1 rfl (Nat.le_of_ble_eq_true rfl) d_lw_law_252 ⟨(by show 29 + r + 1 ≤ 1069; omega), (by show 312 + 6 * r + 6 ≤ 8600; omega)⟩ hS hA (fun j1 H locs hpj hP hD hS hq => ?_)
      have hZ := hZ.kept hq
      refine lv_istore (nL := 8) (lv' := [(5, .int (2)), (4, .int (nI (6 * r))), (0, .ref b), (1, .ref (ad 0)), (2, .ref (am 0)), (3, .ref (ad 15))]) hx hb d_lw_law_255 hl (by decide) rfl (fun ls hl => ?_)
      refine lv_aload_n hx hb d_lw_law_257 rfl (lv_at hl 4 rfl) ?_
      refine lv_aload_n hx hb d_lw_law_258 rfl (lv_at hl 2 rfl) ?_
      refine lv_iload hx hb d_lw_law_259 (lv_at hl 1 rfl) ?_
      refine lv_iconst (v := 1) hx hb d_lw_law_261 (by decide) ?_
      refine lv_iadd hx hb d_lw_law_262 ?_
      refine va_sld hx hb hX hbl hbA hS (si 1 (by decide) hr hL) d_lw_law_263 ?_
      refine zm_wri (v := 0) (w' := sp_bo u (xs ((nI (6 * r)) + (1)).toNatClampNeg)) (As := [.int (xs ((nI (6 * r)) + (1)).toNatClampNeg)]) (rest := []) ⟨hx, hb, hml, hown, hT⟩ (g_md_boot l D cm am _ u k (xs ((nI (6 * r)) + (1)).toNatClampNeg) hok hn hf) tb_540 tb_541 tb_542 tb_4 tb_543 ⟨rfl, hd_md_boot⟩ ⟨Nat.le_of_ble_eq_true rfl, Nat.le_of_ble_eq_true rfl⟩ rfl rfl hK hP hD hN 0 3 rfl rfl hl.1 rfl (Nat.le_of_ble_eq_true rfl) d_lw_law_264 ⟨(by show 29 + r + 1 + 0 ≤ 1069; omega), (by show 312 + 6 * r + 6 + 0 ≤ 8600; omega)⟩ hS hA (fun k1 H locs hth hP hD hS hq => ?_)
      have hZ := hZ.kept hq
      have hth : jm_th k1 = 2 := hth
      refine lv_istore (nL := 8) (lv' := [(6, .int (0)), (5, .int (2)), (4, .int (nI (6 * r))), (0, .ref b), (1, .ref (ad 0)), (2, .ref (am 0)), (3, .ref (ad 15))]) hx hb d_lw_law_267 hl (by decide) rfl (fun ls hl => ?_)
      refine lv_aload_n hx hb d_lw_law_269 rfl (lv_at hl 5 rfl) ?_
      refine zm_rdi (v := jm_th k1) (As := []) (rest := []) ⟨hx, hb, hml, hown, hT⟩ (c_md_thrown l D cm am _ (sp_bo u (xs ((nI (6 * r)) + (1)).toNatClampNeg)) k1) tb_517 tb_518 tb_519 tb_4 tb_520 ⟨rfl, hd_md_thrown⟩ ⟨Nat.le_of_ble_eq_true rfl, Nat.le_of_ble_eq_true rfl⟩ rfl rfl hK hP hD hN 0 3 rfl rfl hl.1 rfl (Nat.le_of_ble_eq_true rfl) d_lw_law_270 ⟨(by show 29 + r + 1 + 0 ≤ 1069; omega), (by show 312 + 6 * r + 6 + 0 ≤ 8600; omega)⟩ hS hA ?_
      refine lv_iload hx hb d_lw_law_273 (lv_at hl 1 rfl) ?_
      refine lv_icmp_eq hx hb d_lw_law_275 (tgt := 280) (by decide) (fun _ => ?_) (fun z => absurd hth z)
      refine lv_iload hx hb d_lw_law_280 (lv_at hl 1 rfl) ?_
      refine lv_if_ne hx hb d_lw_law_282 (tgt := 297) (by decide) (fun _ => ?_) (fun z => absurd z (by decide))
      refine lv_goto hx hb d_lw_law_297 (tgt := 1039) (by decide) ?_
      refine W.widen (k := 30 + r) (n := 318 + 6 * r) (by omega) (by omega) ?_
      exact ih _ _ ls _ _ _ (lv_sub hl [2, 3, 4, 5, 6] rfl) hP hD hS hZ (ok_bo hok)
  · skip
    refine zy_i (v := 1) (u' := u) (As := [.ref (ad 0), .int (xs ((nI (6 * r)) + (1)).toNatClampNeg), .ref (ad 15)]) (rest := []) ⟨hx, hb, hml, hown, hT⟩ (f_lw_boot l hl0 D cs ad _ u j (xs ((nI (6 * r)) + (1)).toNatClampNeg) hn) tb_236 tb_237 tb_0 tb_238 hd_lw_boot ⟨Nat.le_of_ble_eq_true rfl, Nat.le_of_ble_eq_true rfl⟩ rfl rfl hK hP hD hN hZ hC hl.1 rfl (Nat.le_of_ble_eq_true rfl) d_lw_law_252 ⟨(by show 29 + r + 1 ≤ 1069; omega), (by show 312 + 6 * r + 6 ≤ 8600; omega)⟩ hS hA (fun j1 H locs hpj hP hD hS hq => ?_)
    have hZ := hZ.kept hq
    refine lv_istore (nL := 8) (lv' := [(5, .int (1)), (4, .int (nI (6 * r))), (0, .ref b), (1, .ref (ad 0)), (2, .ref (am 0)), (3, .ref (ad 15))]) hx hb d_lw_law_255 hl (by decide) rfl (fun ls hl => ?_)
    refine lv_aload_n hx hb d_lw_law_257 rfl (lv_at hl 4 rfl) ?_
    refine lv_aload_n hx hb d_lw_law_258 rfl (lv_at hl 2 rfl) ?_
    refine lv_iload hx hb d_lw_law_259 (lv_at hl 1 rfl) ?_
    refine lv_iconst (v := 1) hx hb d_lw_law_261 (by decide) ?_
    refine lv_iadd hx hb d_lw_law_262 ?_
    refine va_sld hx hb hX hbl hbA hS (si 1 (by decide) hr hL) d_lw_law_263 ?_
    refine zm_wri (v := 0) (w' := u) (As := [.int (xs ((nI (6 * r)) + (1)).toNatClampNeg)]) (rest := []) ⟨hx, hb, hml, hown, hT⟩ (f_md_boot l D cm am _ u k (xs ((nI (6 * r)) + (1)).toNatClampNeg) hn) tb_540 tb_541 tb_542 tb_4 tb_543 ⟨rfl, hd_md_boot⟩ ⟨Nat.le_of_ble_eq_true rfl, Nat.le_of_ble_eq_true rfl⟩ rfl rfl hK hP hD hN 0 3 rfl rfl hl.1 rfl (Nat.le_of_ble_eq_true rfl) d_lw_law_264 ⟨(by show 29 + r + 1 + 0 ≤ 1069; omega), (by show 312 + 6 * r + 6 + 0 ≤ 8600; omega)⟩ hS hA (fun k1 H locs hth hP hD hS hq => ?_)
    have hZ := hZ.kept hq
    have hth : jm_th k1 = 1 := hth
    refine lv_istore (nL := 8) (lv' := [(6, .int (0)), (5, .int (1)), (4, .int (nI (6 * r))), (0, .ref b), (1, .ref (ad 0)), (2, .ref (am 0)), (3, .ref (ad 15))]) hx hb d_lw_law_267 hl (by decide) rfl (fun ls hl => ?_)
    refine lv_aload_n hx hb d_lw_law_269 rfl (lv_at hl 5 rfl) ?_
    refine zm_rdi (v := jm_th k1) (As := []) (rest := []) ⟨hx, hb, hml, hown, hT⟩ (c_md_thrown l D cm am _ u k1) tb_517 tb_518 tb_519 tb_4 tb_520 ⟨rfl, hd_md_thrown⟩ ⟨Nat.le_of_ble_eq_true rfl, Nat.le_of_ble_eq_true rfl⟩ rfl rfl hK hP hD hN 0 3 rfl rfl hl.1 rfl (Nat.le_of_ble_eq_true rfl) d_lw_law_270 ⟨(by show 29 + r + 1 + 0 ≤ 1069; omega), (by show 312 + 6 * r + 6 + 0 ≤ 8600; omega)⟩ hS hA ?_
    refine lv_iload hx hb d_lw_law_273 (lv_at hl 1 rfl) ?_
    refine lv_icmp_eq hx hb d_lw_law_275 (tgt := 280) (by decide) (fun _ => ?_) (fun z => absurd hth z)
    refine lv_iload hx hb d_lw_law_280 (lv_at hl 1 rfl) ?_
    refine lv_if_ne hx hb d_lw_law_282 (tgt := 297) (by decide) (fun _ => ?_) (fun z => absurd z (by decide))
    refine lv_goto hx hb d_lw_law_297 (tgt := 1039) (by decide) ?_
    refine W.widen (k := 30 + r) (n := 318 + 6 * r) (by omega) (by omega) ?_
    exact ih _ _ ls _ _ _ (lv_sub hl [2, 3, 4, 5, 6] rfl) hP hD hS hZ (hok)
set_option maxHeartbeats 4000000 in
set_option maxRecDepth 100000 in
theorem lc_3 {p : Program} {l : Launch} {e : Env} {s : State} {m : MethodId} {below : List Frame} {meth : Method} {c : Code} {H : Heap} {locs : List Loc} {Q : State → Prop} {ls : Array Slot} {D : va_G} {cs cm : Nat → ClassId} {ad am : Nat → Nat} {u : Sg} {A : Nat → Prop} {j : Jy} {k : Jm} {b L r : Nat} {xs : Nat → Int32}
    (hl0 : l.stackTraces = false) (hx : p.tables.exec = Jvm.exec) (hb : c.code = b_lw_law) (hml : c.maxLocals = 8) (hown : s.vm.findClass "MeasuredStagesLaw" = some m.cls) (hT : ∀ w ∈ TB, w.before #[Value.ref b] s = true) (hN : xw_N s) (hC : xC s) (hX : va_X b L xs s s.heap) (hbl : b < s.heap.size) (hbA : ¬ A b) (hA : ∀ q, s.heap.size ≤ q → A q) (hr : 6 * r + 6 ≤ L) (hL : L ≤ 3072) (hK : va_K D cx (zty cs cm) s)
    (hP : va_P D cx (zw ad cs am cm u j u k) H) (hD : va_D A (zw ad cs am cm u j u k)) (hS : va_S A s.heap H locs) (hZ : xTA A s H) (hok : sp_ok u) (hl : lv_has ls 8 [(4, .int (nI (6 * r))), (0, .ref b), (1, .ref (ad 0)), (2, .ref (am 0)), (3, .ref (ad 15))])
    (ih : ∀ (H1 : Heap) (locs1 : List Loc) (ls1 : Array Slot) (u1 : Sg) (j1 : Jy) (k1 : Jm), lv_has ls1 8 [(4, .int (nI (6 * r))), (0, .ref b), (1, .ref (ad 0)), (2, .ref (am 0)), (3, .ref (ad 15))] → va_P D cx (zw ad cs am cm u1 j1 u1 k1) H1 → va_D A (zw ad cs am cm u1 j1 u1 k1) → va_S A s.heap H1 locs1 → xTA A s H1 → sp_ok u1 → W p l e room_1 s m #[Value.ref b] below meth c H1 locs1 (30 + r) (318 + 6 * r) Q (F0 m 1039 ls1 [])) :
    W p l e room_1 s m #[Value.ref b] below meth c H locs (29 + r) (312 + 6 * r) Q (F0 m 300 ls []) := by
  refine lv_aload_n hx hb d_lw_law_300 rfl (lv_at hl 2 rfl) ?_
  refine zx_rdi (v := sg_fa u) (As := []) (rest := []) ⟨hx, hb, hml, hown, hT⟩ (c_ms_fault l D cs ad _ u (jyx j)) tb_106 tb_107 tb_108 tb_1 tb_109 ⟨rfl, hd_ms_fault⟩ ⟨Nat.le_of_ble_eq_true rfl, Nat.le_of_ble_eq_true rfl⟩ rfl rfl hK hP hD hN 0 0 rfl rfl hl.1 rfl (Nat.le_of_ble_eq_true rfl) d_lw_law_301 ⟨(by show 29 + r + 0 ≤ 1069; omega), (by show 312 + 6 * r + 0 ≤ 8600; omega)⟩ hS hA ?_
  refine lv_aload_n hx hb d_lw_law_304 rfl (lv_at hl 3 rfl) ?_
  refine zm_wri (v := sg_fa u) (w' := u) (As := []) (rest := [.int (sg_fa u)]) ⟨hx, hb, hml, hown, hT⟩ (k_md_fault l D cm am _ u k  ) tb_585 tb_586 tb_587 tb_4 tb_588 ⟨rfl, hd_md_fault⟩ ⟨Nat.le_of_ble_eq_true rfl, Nat.le_of_ble_eq_true rfl⟩ rfl rfl hK hP hD hN 0 3 rfl rfl hl.1 rfl (Nat.le_of_ble_eq_true rfl) d_lw_law_305 ⟨(by show 29 + r + 0 + 0 ≤ 1069; omega), (by show 312 + 6 * r + 0 + 0 ≤ 8600; omega)⟩ hS hA (fun k1 H locs hth hP hD hS hq => ?_)
  have hZ := hZ.kept hq
  have hth : jm_th k1 = 0 := hth
  refine lv_icmp_eq hx hb d_lw_law_308 (tgt := 1039) (by decide) (fun _ => ?_) (fun z => absurd rfl z)
  refine W.widen (k := 30 + r) (n := 318 + 6 * r) (by omega) (by omega) ?_
  exact ih _ _ ls _ _ _ (lv_sub hl [0, 1, 2, 3, 4] rfl) hP hD hS hZ (hok)
set_option maxHeartbeats 4000000 in
set_option maxRecDepth 100000 in
theorem lc_4 {p : Program} {l : Launch} {e : Env} {s : State} {m : MethodId} {below : List Frame} {meth : Method} {c : Code} {H : Heap} {locs : List Loc} {Q : State → Prop} {ls : Array Slot} {D : va_G} {cs cm : Nat → ClassId} {ad am : Nat → Nat} {u : Sg} {A : Nat → Prop} {j : Jy} {k : Jm} {b L r : Nat} {xs : Nat → Int32}
    (hl0 : l.stackTraces = false) (hx : p.tables.exec = Jvm.exec) (hb : c.code = b_lw_law) (hml : c.maxLocals = 8) (hown : s.vm.findClass "MeasuredStagesLaw" = some m.cls) (hT : ∀ w ∈ TB, w.before #[Value.ref b] s = true) (hN : xw_N s) (hC : xC s) (hX : va_X b L xs s s.heap) (hbl : b < s.heap.size) (hbA : ¬ A b) (hA : ∀ q, s.heap.size ≤ q → A q) (hr : 6 * r + 6 ≤ L) (hL : L ≤ 3072) (hK : va_K D cx (zty cs cm) s)
    (hP : va_P D cx (zw ad cs am cm u j u k) H) (hD : va_D A (zw ad cs am cm u j u k)) (hS : va_S A s.heap H locs) (hZ : xTA A s H) (hok : sp_ok u) (hl : lv_has ls 8 [(4, .int (nI (6 * r))), (0, .ref b), (1, .ref (ad 0)), (2, .ref (am 0)), (3, .ref (ad 15))])
    (ih : ∀ (H1 : Heap) (locs1 : List Loc) (ls1 : Array Slot) (u1 : Sg) (j1 : Jy) (k1 : Jm), lv_has ls1 8 [(4, .int (nI (6 * r))), (0, .ref b), (1, .ref (ad 0)), (2, .ref (am 0)), (3, .ref (ad 15))] → va_P D cx (zw ad cs am cm u1 j1 u1 k1) H1 → va_D A (zw ad cs am cm u1 j1 u1 k1) → va_S A s.heap H1 locs1 → xTA A s H1 → sp_ok u1 → W p l e room_1 s m #[Value.ref b] below meth c H1 locs1 (30 + r) (318 + 6 * r) Q (F0 m 1039 ls1 [])) :
    W p l e room_1 s m #[Value.ref b] below meth c H locs (29 + r) (312 + 6 * r) Q (F0 m 313 ls []) := by
  refine lv_aload_n hx hb d_lw_law_313 rfl (lv_at hl 2 rfl) ?_
  refine zx_rdi (v := sg_la u) (As := []) (rest := []) ⟨hx, hb, hml, hown, hT⟩ (c_ms_launched l D cs ad _ u (jyx j)) tb_110 tb_111 tb_112 tb_1 tb_113 ⟨rfl, hd_ms_launched⟩ ⟨Nat.le_of_ble_eq_true rfl, Nat.le_of_ble_eq_true rfl⟩ rfl rfl hK hP hD hN 0 0 rfl rfl hl.1 rfl (Nat.le_of_ble_eq_true rfl) d_lw_law_314 ⟨(by show 29 + r + 0 ≤ 1069; omega), (by show 312 + 6 * r + 0 ≤ 8600; omega)⟩ hS hA ?_
  refine lv_aload_n hx hb d_lw_law_317 rfl (lv_at hl 3 rfl) ?_
  refine zm_wri (v := sg_la u) (w' := u) (As := []) (rest := [.int (sg_la u)]) ⟨hx, hb, hml, hown, hT⟩ (k_md_launched l D cm am _ u k  ) tb_589 tb_590 tb_591 tb_4 tb_592 ⟨rfl, hd_md_launched⟩ ⟨Nat.le_of_ble_eq_true rfl, Nat.le_of_ble_eq_true rfl⟩ rfl rfl hK hP hD hN 0 3 rfl rfl hl.1 rfl (Nat.le_of_ble_eq_true rfl) d_lw_law_318 ⟨(by show 29 + r + 0 + 0 ≤ 1069; omega), (by show 312 + 6 * r + 0 + 0 ≤ 8600; omega)⟩ hS hA (fun k1 H locs hth hP hD hS hq => ?_)
  have hZ := hZ.kept hq
  have hth : jm_th k1 = 0 := hth
  refine lv_icmp_eq hx hb d_lw_law_321 (tgt := 1039) (by decide) (fun _ => ?_) (fun z => absurd rfl z)
  refine W.widen (k := 30 + r) (n := 318 + 6 * r) (by omega) (by omega) ?_
  exact ih _ _ ls _ _ _ (lv_sub hl [0, 1, 2, 3, 4] rfl) hP hD hS hZ (hok)
set_option maxHeartbeats 4000000 in
set_option maxRecDepth 100000 in
theorem lc_5 {p : Program} {l : Launch} {e : Env} {s : State} {m : MethodId} {below : List Frame} {meth : Method} {c : Code} {H : Heap} {locs : List Loc} {Q : State → Prop} {ls : Array Slot} {D : va_G} {cs cm : Nat → ClassId} {ad am : Nat → Nat} {u : Sg} {A : Nat → Prop} {j : Jy} {k : Jm} {b L r : Nat} {xs : Nat → Int32}
    (hl0 : l.stackTraces = false) (hx : p.tables.exec = Jvm.exec) (hb : c.code = b_lw_law) (hml : c.maxLocals = 8) (hown : s.vm.findClass "MeasuredStagesLaw" = some m.cls) (hT : ∀ w ∈ TB, w.before #[Value.ref b] s = true) (hN : xw_N s) (hC : xC s) (hX : va_X b L xs s s.heap) (hbl : b < s.heap.size) (hbA : ¬ A b) (hA : ∀ q, s.heap.size ≤ q → A q) (hr : 6 * r + 6 ≤ L) (hL : L ≤ 3072) (hK : va_K D cx (zty cs cm) s)
    (hP : va_P D cx (zw ad cs am cm u j u k) H) (hD : va_D A (zw ad cs am cm u j u k)) (hS : va_S A s.heap H locs) (hZ : xTA A s H) (hok : sp_ok u) (hl : lv_has ls 8 [(4, .int (nI (6 * r))), (0, .ref b), (1, .ref (ad 0)), (2, .ref (am 0)), (3, .ref (ad 15))])
    (ih : ∀ (H1 : Heap) (locs1 : List Loc) (ls1 : Array Slot) (u1 : Sg) (j1 : Jy) (k1 : Jm), lv_has ls1 8 [(4, .int (nI (6 * r))), (0, .ref b), (1, .ref (ad 0)), (2, .ref (am 0)), (3, .ref (ad 15))] → va_P D cx (zw ad cs am cm u1 j1 u1 k1) H1 → va_D A (zw ad cs am cm u1 j1 u1 k1) → va_S A s.heap H1 locs1 → xTA A s H1 → sp_ok u1 → W p l e room_1 s m #[Value.ref b] below meth c H1 locs1 (30 + r) (318 + 6 * r) Q (F0 m 1039 ls1 [])) :
    W p l e room_1 s m #[Value.ref b] below meth c H locs (29 + r) (312 + 6 * r) Q (F0 m 326 ls []) := by
  refine lv_aload_n hx hb d_lw_law_326 rfl (lv_at hl 2 rfl) ?_
  refine zx_rdi (v := sg_st u) (As := []) (rest := []) ⟨hx, hb, hml, hown, hT⟩ (c_ms_steps l D cs ad _ u (jyx j)) tb_114 tb_115 tb_116 tb_1 tb_117 ⟨rfl, hd_ms_steps⟩ ⟨Nat.le_of_ble_eq_true rfl, Nat.le_of_ble_eq_true rfl⟩ rfl rfl hK hP hD hN 0 0 rfl rfl hl.1 rfl (Nat.le_of_ble_eq_true rfl) d_lw_law_327 ⟨(by show 29 + r + 0 ≤ 1069; omega), (by show 312 + 6 * r + 0 ≤ 8600; omega)⟩ hS hA ?_
  refine lv_aload_n hx hb d_lw_law_330 rfl (lv_at hl 3 rfl) ?_
  refine zm_wri (v := sg_st u) (w' := u) (As := []) (rest := [.int (sg_st u)]) ⟨hx, hb, hml, hown, hT⟩ (k_md_steps l D cm am _ u k  ) tb_593 tb_594 tb_595 tb_4 tb_596 ⟨rfl, hd_md_steps⟩ ⟨Nat.le_of_ble_eq_true rfl, Nat.le_of_ble_eq_true rfl⟩ rfl rfl hK hP hD hN 0 3 rfl rfl hl.1 rfl (Nat.le_of_ble_eq_true rfl) d_lw_law_331 ⟨(by show 29 + r + 0 + 0 ≤ 1069; omega), (by show 312 + 6 * r + 0 + 0 ≤ 8600; omega)⟩ hS hA (fun k1 H locs hth hP hD hS hq => ?_)
  have hZ := hZ.kept hq
  have hth : jm_th k1 = 0 := hth
  refine lv_icmp_eq hx hb d_lw_law_334 (tgt := 1039) (by decide) (fun _ => ?_) (fun z => absurd rfl z)
  refine W.widen (k := 30 + r) (n := 318 + 6 * r) (by omega) (by omega) ?_
  exact ih _ _ ls _ _ _ (lv_sub hl [0, 1, 2, 3, 4] rfl) hP hD hS hZ (hok)
set_option maxHeartbeats 4000000 in
set_option maxRecDepth 100000 in
theorem lc_6 {p : Program} {l : Launch} {e : Env} {s : State} {m : MethodId} {below : List Frame} {meth : Method} {c : Code} {H : Heap} {locs : List Loc} {Q : State → Prop} {ls : Array Slot} {D : va_G} {cs cm : Nat → ClassId} {ad am : Nat → Nat} {u : Sg} {A : Nat → Prop} {j : Jy} {k : Jm} {b L r : Nat} {xs : Nat → Int32}
    (hl0 : l.stackTraces = false) (hx : p.tables.exec = Jvm.exec) (hb : c.code = b_lw_law) (hml : c.maxLocals = 8) (hown : s.vm.findClass "MeasuredStagesLaw" = some m.cls) (hT : ∀ w ∈ TB, w.before #[Value.ref b] s = true) (hN : xw_N s) (hC : xC s) (hX : va_X b L xs s s.heap) (hbl : b < s.heap.size) (hbA : ¬ A b) (hA : ∀ q, s.heap.size ≤ q → A q) (hr : 6 * r + 6 ≤ L) (hL : L ≤ 3072) (hK : va_K D cx (zty cs cm) s)
    (hP : va_P D cx (zw ad cs am cm u j u k) H) (hD : va_D A (zw ad cs am cm u j u k)) (hS : va_S A s.heap H locs) (hZ : xTA A s H) (hok : sp_ok u) (hl : lv_has ls 8 [(4, .int (nI (6 * r))), (0, .ref b), (1, .ref (ad 0)), (2, .ref (am 0)), (3, .ref (ad 15))])
    (ih : ∀ (H1 : Heap) (locs1 : List Loc) (ls1 : Array Slot) (u1 : Sg) (j1 : Jy) (k1 : Jm), lv_has ls1 8 [(4, .int (nI (6 * r))), (0, .ref b), (1, .ref (ad 0)), (2, .ref (am 0)), (3, .ref (ad 15))] → va_P D cx (zw ad cs am cm u1 j1 u1 k1) H1 → va_D A (zw ad cs am cm u1 j1 u1 k1) → va_S A s.heap H1 locs1 → xTA A s H1 → sp_ok u1 → W p l e room_1 s m #[Value.ref b] below meth c H1 locs1 (30 + r) (318 + 6 * r) Q (F0 m 1039 ls1 [])) :
    W p l e room_1 s m #[Value.ref b] below meth c H locs (29 + r) (312 + 6 * r) Q (F0 m 339 ls []) := by
  refine lv_aload_n hx hb d_lw_law_339 rfl (lv_at hl 2 rfl) ?_
  refine zx_rdl (v := sg_ac u) (As := []) (rest := []) ⟨hx, hb, hml, hown, hT⟩ (c_ms_acc l D cs ad _ u (jyx j)) tb_118 tb_119 tb_120 tb_1 tb_121 ⟨rfl, hd_ms_acc⟩ ⟨Nat.le_of_ble_eq_true rfl, Nat.le_of_ble_eq_true rfl⟩ rfl rfl hK hP hD hN 0 0 rfl rfl hl.1 rfl (Nat.le_of_ble_eq_true rfl) d_lw_law_340 ⟨(by show 29 + r + 0 ≤ 1069; omega), (by show 312 + 6 * r + 0 ≤ 8600; omega)⟩ hS hA ?_
  refine lv_aload_n hx hb d_lw_law_343 rfl (lv_at hl 3 rfl) ?_
  refine zm_wrl (v := sg_ac u) (w' := u) (As := []) (rest := [.long (sg_ac u)]) ⟨hx, hb, hml, hown, hT⟩ (k_md_acc l D cm am _ u k  ) tb_597 tb_598 tb_599 tb_4 tb_600 ⟨rfl, hd_md_acc⟩ ⟨Nat.le_of_ble_eq_true rfl, Nat.le_of_ble_eq_true rfl⟩ rfl rfl hK hP hD hN 0 3 rfl rfl hl.1 rfl (Nat.le_of_ble_eq_true rfl) d_lw_law_344 ⟨(by show 29 + r + 0 + 0 ≤ 1069; omega), (by show 312 + 6 * r + 0 + 0 ≤ 8600; omega)⟩ hS hA (fun k1 H locs hth hP hD hS hq => ?_)
  have hZ := hZ.kept hq
  have hth : jm_th k1 = 0 := hth
  refine W.lcmp hx hb d_lw_law_347 ?_
  refine lv_if_eq hx hb d_lw_law_348 (tgt := 1039) (by decide) (fun _ => ?_) (fun z => absurd (sp_cmp.mpr rfl) z)
  refine W.widen (k := 30 + r) (n := 318 + 6 * r) (by omega) (by omega) ?_
  exact ih _ _ ls _ _ _ (lv_sub hl [0, 1, 2, 3, 4] rfl) hP hD hS hZ (hok)
set_option maxHeartbeats 4000000 in
set_option maxRecDepth 100000 in
theorem lc_7 {p : Program} {l : Launch} {e : Env} {s : State} {m : MethodId} {below : List Frame} {meth : Method} {c : Code} {H : Heap} {locs : List Loc} {Q : State → Prop} {ls : Array Slot} {D : va_G} {cs cm : Nat → ClassId} {ad am : Nat → Nat} {u : Sg} {A : Nat → Prop} {j : Jy} {k : Jm} {b L r : Nat} {xs : Nat → Int32}
    (hl0 : l.stackTraces = false) (hx : p.tables.exec = Jvm.exec) (hb : c.code = b_lw_law) (hml : c.maxLocals = 8) (hown : s.vm.findClass "MeasuredStagesLaw" = some m.cls) (hT : ∀ w ∈ TB, w.before #[Value.ref b] s = true) (hN : xw_N s) (hC : xC s) (hX : va_X b L xs s s.heap) (hbl : b < s.heap.size) (hbA : ¬ A b) (hA : ∀ q, s.heap.size ≤ q → A q) (hr : 6 * r + 6 ≤ L) (hL : L ≤ 3072) (hK : va_K D cx (zty cs cm) s)
    (hP : va_P D cx (zw ad cs am cm u j u k) H) (hD : va_D A (zw ad cs am cm u j u k)) (hS : va_S A s.heap H locs) (hZ : xTA A s H) (hok : sp_ok u) (hl : lv_has ls 8 [(4, .int (nI (6 * r))), (0, .ref b), (1, .ref (ad 0)), (2, .ref (am 0)), (3, .ref (ad 15))])
    (ih : ∀ (H1 : Heap) (locs1 : List Loc) (ls1 : Array Slot) (u1 : Sg) (j1 : Jy) (k1 : Jm), lv_has ls1 8 [(4, .int (nI (6 * r))), (0, .ref b), (1, .ref (ad 0)), (2, .ref (am 0)), (3, .ref (ad 15))] → va_P D cx (zw ad cs am cm u1 j1 u1 k1) H1 → va_D A (zw ad cs am cm u1 j1 u1 k1) → va_S A s.heap H1 locs1 → xTA A s H1 → sp_ok u1 → W p l e room_1 s m #[Value.ref b] below meth c H1 locs1 (30 + r) (318 + 6 * r) Q (F0 m 1039 ls1 [])) :
    W p l e room_1 s m #[Value.ref b] below meth c H locs (29 + r) (312 + 6 * r) Q (F0 m 353 ls []) := by
  refine lv_aload_n hx hb d_lw_law_353 rfl (lv_at hl 2 rfl) ?_
  refine lv_aload_n hx hb d_lw_law_354 rfl (lv_at hl 1 rfl) ?_
  refine lv_iload hx hb d_lw_law_355 (lv_at hl 0 rfl) ?_
  refine lv_iconst (v := 1) hx hb d_lw_law_357 (by decide) ?_
  refine lv_iadd hx hb d_lw_law_358 ?_
  refine va_sld hx hb hX hbl hbA hS (si 1 (by decide) hr hL) d_lw_law_359 ?_
  refine lv_aload_n hx hb d_lw_law_360 rfl (lv_at hl 4 rfl) ?_
  by_cases hr6 : vp_in (xs ((nI (6 * r)) + (1)).toNatClampNeg) 6
  · skip
    refine zy_i (v := 0) (u' := u) (As := [.ref (ad 0), .int (xs ((nI (6 * r)) + (1)).toNatClampNeg), .ref (ad 15)]) (rest := []) ⟨hx, hb, hml, hown, hT⟩ (k_lw_register l D cs ad _ u j (xs ((nI (6 * r)) + (1)).toNatClampNeg) hr6) tb_337 tb_338 tb_0 tb_339 hd_lw_register ⟨Nat.le_of_ble_eq_true rfl, Nat.le_of_ble_eq_true rfl⟩ rfl rfl hK hP hD hN hZ hC hl.1 rfl (Nat.le_of_ble_eq_true rfl) d_lw_law_361 ⟨(by show 29 + r + 0 ≤ 1069; omega), (by show 312 + 6 * r + 0 ≤ 8600; omega)⟩ hS hA (fun j1 H locs hpj hP hD hS hq => ?_)
    have hZ := hZ.kept hq
    refine lv_istore (nL := 8) (lv' := [(5, .int (0)), (4, .int (nI (6 * r))), (0, .ref b), (1, .ref (ad 0)), (2, .ref (am 0)), (3, .ref (ad 15))]) hx hb d_lw_law_364 hl (by decide) rfl (fun ls hl => ?_)
    refine lv_aload_n hx hb d_lw_law_366 rfl (lv_at hl 4 rfl) ?_
    refine lv_aload_n hx hb d_lw_law_367 rfl (lv_at hl 2 rfl) ?_
    refine lv_iload hx hb d_lw_law_368 (lv_at hl 1 rfl) ?_
    refine lv_iconst (v := 1) hx hb d_lw_law_370 (by decide) ?_
    refine lv_iadd hx hb d_lw_law_371 ?_
    refine va_sld hx hb hX hbl hbA hS (si 1 (by decide) hr hL) d_lw_law_372 ?_
    refine zm_wrl (v := sg_he u (xs ((nI (6 * r)) + (1)).toNatClampNeg).toNatClampNeg) (w' := u) (As := [.int (xs ((nI (6 * r)) + (1)).toNatClampNeg)]) (rest := []) ⟨hx, hb, hml, hown, hT⟩ (k_md_register l D cm am _ u k (xs ((nI (6 * r)) + (1)).toNatClampNeg) hr6) tb_601 tb_602 tb_603 tb_4 tb_604 ⟨rfl, hd_md_register⟩ ⟨Nat.le_of_ble_eq_true rfl, Nat.le_of_ble_eq_true rfl⟩ rfl rfl hK hP hD hN 0 3 rfl rfl hl.1 rfl (Nat.le_of_ble_eq_true rfl) d_lw_law_373 ⟨(by show 29 + r + 0 + 0 ≤ 1069; omega), (by show 312 + 6 * r + 0 + 0 ≤ 8600; omega)⟩ hS hA (fun k1 H locs hth hP hD hS hq => ?_)
    have hZ := hZ.kept hq
    have hth : jm_th k1 = 0 := hth
    refine lv_lstore (nL := 8) (lv' := [(6, .long (sg_he u (xs ((nI (6 * r)) + (1)).toNatClampNeg).toNatClampNeg)), (5, .int (0)), (4, .int (nI (6 * r))), (0, .ref b), (1, .ref (ad 0)), (2, .ref (am 0)), (3, .ref (ad 15))]) hx hb d_lw_law_376 hl (by decide) rfl (fun ls hl => ?_)
    refine lv_aload_n hx hb d_lw_law_378 rfl (lv_at hl 5 rfl) ?_
    refine zm_rdi (v := jm_th k1) (As := []) (rest := []) ⟨hx, hb, hml, hown, hT⟩ (c_md_thrown l D cm am _ u k1) tb_517 tb_518 tb_519 tb_4 tb_520 ⟨rfl, hd_md_thrown⟩ ⟨Nat.le_of_ble_eq_true rfl, Nat.le_of_ble_eq_true rfl⟩ rfl rfl hK hP hD hN 0 3 rfl rfl hl.1 rfl (Nat.le_of_ble_eq_true rfl) d_lw_law_379 ⟨(by show 29 + r + 0 + 0 ≤ 1069; omega), (by show 312 + 6 * r + 0 + 0 ≤ 8600; omega)⟩ hS hA ?_
    refine lv_iload hx hb d_lw_law_382 (lv_at hl 1 rfl) ?_
    refine lv_icmp_eq hx hb d_lw_law_384 (tgt := 389) (by decide) (fun _ => ?_) (fun z => absurd hth z)
    refine lv_iload hx hb d_lw_law_389 (lv_at hl 1 rfl) ?_
    refine lv_if_ne hx hb d_lw_law_391 (tgt := 405) (by decide) (fun z => absurd (by decide) z) (fun _ => ?_)
    refine lv_aload_n hx hb d_lw_law_394 rfl (lv_at hl 6 rfl) ?_
    refine lv_iconst (v := 0) hx hb d_lw_law_395 (by decide) ?_
    refine va_lald hx hb hK hP 0 0 rfl rfl (by unfold vp_in; decide) d_lw_law_396 ?_
    refine lv_lload hx hb d_lw_law_397 (lv_at hl 0 rfl) ?_
    refine W.lcmp hx hb d_lw_law_399 ?_
    refine lv_if_eq hx hb d_lw_law_400 (tgt := 405) (by decide) (fun _ => ?_) (fun z => absurd (sp_cmp.mpr hpj) z)
    refine lv_goto hx hb d_lw_law_405 (tgt := 1039) (by decide) ?_
    refine W.widen (k := 30 + r) (n := 318 + 6 * r) (by omega) (by omega) ?_
    exact ih _ _ ls _ _ _ (lv_sub hl [2, 3, 4, 5, 6] rfl) hP hD hS hZ (hok)
  · skip
    refine zy_i (v := 1) (u' := u) (As := [.ref (ad 0), .int (xs ((nI (6 * r)) + (1)).toNatClampNeg), .ref (ad 15)]) (rest := []) ⟨hx, hb, hml, hown, hT⟩ (f_lw_register l hl0 D cs ad _ u j (xs ((nI (6 * r)) + (1)).toNatClampNeg) hr6) tb_337 tb_338 tb_0 tb_339 hd_lw_register ⟨Nat.le_of_ble_eq_true rfl, Nat.le_of_ble_eq_true rfl⟩ rfl rfl hK hP hD hN hZ hC hl.1 rfl (Nat.le_of_ble_eq_true rfl) d_lw_law_361 ⟨(by show 29 + r + 1 ≤ 1069; omega), (by show 312 + 6 * r + 6 ≤ 8600; omega)⟩ hS hA (fun j1 H locs hpj hP hD hS hq => ?_)
    have hZ := hZ.kept hq
    refine lv_istore (nL := 8) (lv' := [(5, .int (1)), (4, .int (nI (6 * r))), (0, .ref b), (1, .ref (ad 0)), (2, .ref (am 0)), (3, .ref (ad 15))]) hx hb d_lw_law_364 hl (by decide) rfl (fun ls hl => ?_)
    refine lv_aload_n hx hb d_lw_law_366 rfl (lv_at hl 4 rfl) ?_
    refine lv_aload_n hx hb d_lw_law_367 rfl (lv_at hl 2 rfl) ?_
    refine lv_iload hx hb d_lw_law_368 (lv_at hl 1 rfl) ?_
    refine lv_iconst (v := 1) hx hb d_lw_law_370 (by decide) ?_
    refine lv_iadd hx hb d_lw_law_371 ?_
    refine va_sld hx hb hX hbl hbA hS (si 1 (by decide) hr hL) d_lw_law_372 ?_
    refine zm_wrl (v := 0) (w' := u) (As := [.int (xs ((nI (6 * r)) + (1)).toNatClampNeg)]) (rest := []) ⟨hx, hb, hml, hown, hT⟩ (f_md_register l D cm am _ u k (xs ((nI (6 * r)) + (1)).toNatClampNeg) hr6) tb_601 tb_602 tb_603 tb_4 tb_604 ⟨rfl, hd_md_register⟩ ⟨Nat.le_of_ble_eq_true rfl, Nat.le_of_ble_eq_true rfl⟩ rfl rfl hK hP hD hN 0 3 rfl rfl hl.1 rfl (Nat.le_of_ble_eq_true rfl) d_lw_law_373 ⟨(by show 29 + r + 1 + 0 ≤ 1069; omega), (by show 312 + 6 * r + 6 + 0 ≤ 8600; omega)⟩ hS hA (fun k1 H locs hth hP hD hS hq => ?_)
    have hZ := hZ.kept hq
    have hth : jm_th k1 = 1 := hth
    refine lv_lstore (nL := 8) (lv' := [(6, .long (0)), (5, .int (1)), (4, .int (nI (6 * r))), (0, .ref b), (1, .ref (ad 0)), (2, .ref (am 0)), (3, .ref (ad 15))]) hx hb d_lw_law_376 hl (by decide) rfl (fun ls hl => ?_)
    refine lv_aload_n hx hb d_lw_law_378 rfl (lv_at hl 5 rfl) ?_
    refine zm_rdi (v := jm_th k1) (As := []) (rest := []) ⟨hx, hb, hml, hown, hT⟩ (c_md_thrown l D cm am _ u k1) tb_517 tb_518 tb_519 tb_4 tb_520 ⟨rfl, hd_md_thrown⟩ ⟨Nat.le_of_ble_eq_true rfl, Nat.le_of_ble_eq_true rfl⟩ rfl rfl hK hP hD hN 0 3 rfl rfl hl.1 rfl (Nat.le_of_ble_eq_true rfl) d_lw_law_379 ⟨(by show 29 + r + 1 + 0 ≤ 1069; omega), (by show 312 + 6 * r + 6 + 0 ≤ 8600; omega)⟩ hS hA ?_
    refine lv_iload hx hb d_lw_law_382 (lv_at hl 1 rfl) ?_
    refine lv_icmp_eq hx hb d_lw_law_384 (tgt := 389) (by decide) (fun _ => ?_) (fun z => absurd hth z)
    refine lv_iload hx hb d_lw_law_389 (lv_at hl 1 rfl) ?_
    refine lv_if_ne hx hb d_lw_law_391 (tgt := 405) (by decide) (fun _ => ?_) (fun z => absurd z (by decide))
    refine lv_goto hx hb d_lw_law_405 (tgt := 1039) (by decide) ?_
    refine W.widen (k := 30 + r) (n := 318 + 6 * r) (by omega) (by omega) ?_
    exact ih _ _ ls _ _ _ (lv_sub hl [2, 3, 4, 5, 6] rfl) hP hD hS hZ (hok)
set_option maxHeartbeats 4000000 in
set_option maxRecDepth 100000 in
theorem lc_8 {p : Program} {l : Launch} {e : Env} {s : State} {m : MethodId} {below : List Frame} {meth : Method} {c : Code} {H : Heap} {locs : List Loc} {Q : State → Prop} {ls : Array Slot} {D : va_G} {cs cm : Nat → ClassId} {ad am : Nat → Nat} {u : Sg} {A : Nat → Prop} {j : Jy} {k : Jm} {b L r : Nat} {xs : Nat → Int32}
    (hl0 : l.stackTraces = false) (hx : p.tables.exec = Jvm.exec) (hb : c.code = b_lw_law) (hml : c.maxLocals = 8) (hown : s.vm.findClass "MeasuredStagesLaw" = some m.cls) (hT : ∀ w ∈ TB, w.before #[Value.ref b] s = true) (hN : xw_N s) (hC : xC s) (hX : va_X b L xs s s.heap) (hbl : b < s.heap.size) (hbA : ¬ A b) (hA : ∀ q, s.heap.size ≤ q → A q) (hr : 6 * r + 6 ≤ L) (hL : L ≤ 3072) (hK : va_K D cx (zty cs cm) s)
    (hP : va_P D cx (zw ad cs am cm u j u k) H) (hD : va_D A (zw ad cs am cm u j u k)) (hS : va_S A s.heap H locs) (hZ : xTA A s H) (hok : sp_ok u) (hl : lv_has ls 8 [(4, .int (nI (6 * r))), (0, .ref b), (1, .ref (ad 0)), (2, .ref (am 0)), (3, .ref (ad 15))])
    (ih : ∀ (H1 : Heap) (locs1 : List Loc) (ls1 : Array Slot) (u1 : Sg) (j1 : Jy) (k1 : Jm), lv_has ls1 8 [(4, .int (nI (6 * r))), (0, .ref b), (1, .ref (ad 0)), (2, .ref (am 0)), (3, .ref (ad 15))] → va_P D cx (zw ad cs am cm u1 j1 u1 k1) H1 → va_D A (zw ad cs am cm u1 j1 u1 k1) → va_S A s.heap H1 locs1 → xTA A s H1 → sp_ok u1 → W p l e room_1 s m #[Value.ref b] below meth c H1 locs1 (30 + r) (318 + 6 * r) Q (F0 m 1039 ls1 [])) :
    W p l e room_1 s m #[Value.ref b] below meth c H locs (29 + r) (312 + 6 * r) Q (F0 m 408 ls []) := by
  refine lv_aload_n hx hb d_lw_law_408 rfl (lv_at hl 2 rfl) ?_
  refine lv_aload_n hx hb d_lw_law_409 rfl (lv_at hl 1 rfl) ?_
  refine lv_iload hx hb d_lw_law_410 (lv_at hl 0 rfl) ?_
  refine lv_iconst (v := 1) hx hb d_lw_law_412 (by decide) ?_
  refine lv_iadd hx hb d_lw_law_413 ?_
  refine va_sld hx hb hX hbl hbA hS (si 1 (by decide) hr hL) d_lw_law_414 ?_
  refine lv_aload_n hx hb d_lw_law_415 rfl (lv_at hl 1 rfl) ?_
  refine lv_iload hx hb d_lw_law_416 (lv_at hl 0 rfl) ?_
  refine lv_iconst (v := 2) hx hb d_lw_law_418 (by decide) ?_
  refine lv_iadd hx hb d_lw_law_419 ?_
  refine va_sld hx hb hX hbl hbA hS (si 2 (by decide) hr hL) d_lw_law_420 ?_
  refine lv_i2l hx hb d_lw_law_421 rfl ?_
  refine lv_bipush (v := 32) hx hb d_lw_law_422 (by decide) ?_
  refine lv_lshl hx hb d_lw_law_424 rfl ?_
  refine lv_aload_n hx hb d_lw_law_425 rfl (lv_at hl 1 rfl) ?_
  refine lv_iload hx hb d_lw_law_426 (lv_at hl 0 rfl) ?_
  refine lv_iconst (v := 3) hx hb d_lw_law_428 (by decide) ?_
  refine lv_iadd hx hb d_lw_law_429 ?_
  refine va_sld hx hb hX hbl hbA hS (si 3 (by decide) hr hL) d_lw_law_430 ?_
  refine lv_i2l hx hb d_lw_law_431 rfl ?_
  refine lv_ldc2 (v := 4294967295) hx hb hown (hT _ tb_649) d_lw_law_432 ?_
  refine lv_land hx hb d_lw_law_435 ?_
  refine lv_lor hx hb d_lw_law_436 ?_
  by_cases hr6 : vp_in (xs ((nI (6 * r)) + (1)).toNatClampNeg) 6
  · skip
    by_cases he : sg_en u = 32
    · skip
      refine zy_i (v := 2) (u' := u) (As := [.ref (ad 0), .int (xs ((nI (6 * r)) + (1)).toNatClampNeg), .long ((((xs ((nI (6 * r)) + (2)).toNatClampNeg).toInt64) <<< ((32 : Int32).toInt64 &&& 63)) ||| (((xs ((nI (6 * r)) + (3)).toNatClampNeg).toInt64) &&& (4294967295)))]) (rest := []) ⟨hx, hb, hml, hown, hT⟩ (g_lw_extend l hl0 D cs ad _ u j (xs ((nI (6 * r)) + (1)).toNatClampNeg) ((((xs ((nI (6 * r)) + (2)).toNatClampNeg).toInt64) <<< ((32 : Int32).toInt64 &&& 63)) ||| (((xs ((nI (6 * r)) + (3)).toNatClampNeg).toInt64) &&& (4294967295))) hr6 he) tb_364 tb_365 tb_0 tb_366 hd_lw_extend ⟨Nat.le_of_ble_eq_true rfl, Nat.le_of_ble_eq_true rfl⟩ rfl rfl hK hP hD hN hZ hC hl.1 rfl (Nat.le_of_ble_eq_true rfl) d_lw_law_437 ⟨(by show 29 + r + 1 ≤ 1069; omega), (by show 312 + 6 * r + 6 ≤ 8600; omega)⟩ hS hA (fun j1 H locs hpj hP hD hS hq => ?_)
      have hZ := hZ.kept hq
      refine lv_istore (nL := 8) (lv' := [(5, .int (2)), (4, .int (nI (6 * r))), (0, .ref b), (1, .ref (ad 0)), (2, .ref (am 0)), (3, .ref (ad 15))]) hx hb d_lw_law_440 hl (by decide) rfl (fun ls hl => ?_)
      refine lv_aload_n hx hb d_lw_law_442 rfl (lv_at hl 4 rfl) ?_
      refine lv_aload_n hx hb d_lw_law_443 rfl (lv_at hl 2 rfl) ?_
      refine lv_iload hx hb d_lw_law_444 (lv_at hl 1 rfl) ?_
      refine lv_iconst (v := 1) hx hb d_lw_law_446 (by decide) ?_
      refine lv_iadd hx hb d_lw_law_447 ?_
      refine va_sld hx hb hX hbl hbA hS (si 1 (by decide) hr hL) d_lw_law_448 ?_
      refine lv_aload_n hx hb d_lw_law_449 rfl (lv_at hl 2 rfl) ?_
      refine lv_iload hx hb d_lw_law_450 (lv_at hl 1 rfl) ?_
      refine lv_iconst (v := 2) hx hb d_lw_law_452 (by decide) ?_
      refine lv_iadd hx hb d_lw_law_453 ?_
      refine va_sld hx hb hX hbl hbA hS (si 2 (by decide) hr hL) d_lw_law_454 ?_
      refine lv_i2l hx hb d_lw_law_455 rfl ?_
      refine lv_bipush (v := 32) hx hb d_lw_law_456 (by decide) ?_
      refine lv_lshl hx hb d_lw_law_458 rfl ?_
      refine lv_aload_n hx hb d_lw_law_459 rfl (lv_at hl 2 rfl) ?_
      refine lv_iload hx hb d_lw_law_460 (lv_at hl 1 rfl) ?_
      refine lv_iconst (v := 3) hx hb d_lw_law_462 (by decide) ?_
      refine lv_iadd hx hb d_lw_law_463 ?_
      refine va_sld hx hb hX hbl hbA hS (si 3 (by decide) hr hL) d_lw_law_464 ?_
      refine lv_i2l hx hb d_lw_law_465 rfl ?_
      refine lv_ldc2 (v := 4294967295) hx hb hown (hT _ tb_649) d_lw_law_466 ?_
      refine lv_land hx hb d_lw_law_469 ?_
      refine lv_lor hx hb d_lw_law_470 ?_
      refine zm_wrv (w' := u) (As := [.int (xs ((nI (6 * r)) + (1)).toNatClampNeg), .long ((((xs ((nI (6 * r)) + (2)).toNatClampNeg).toInt64) <<< ((32 : Int32).toInt64 &&& 63)) ||| (((xs ((nI (6 * r)) + (3)).toNatClampNeg).toInt64) &&& (4294967295)))]) (rest := []) ⟨hx, hb, hml, hown, hT⟩ (g_md_extend l D cm am _ u k (xs ((nI (6 * r)) + (1)).toNatClampNeg) ((((xs ((nI (6 * r)) + (2)).toNatClampNeg).toInt64) <<< ((32 : Int32).toInt64 &&& 63)) ||| (((xs ((nI (6 * r)) + (3)).toNatClampNeg).toInt64) &&& (4294967295))) hr6 he) tb_605 tb_606 tb_607 tb_4 tb_608 ⟨rfl, hd_md_extend⟩ ⟨Nat.le_of_ble_eq_true rfl, Nat.le_of_ble_eq_true rfl⟩ rfl rfl hK hP hD hN 0 3 rfl rfl hl.1 rfl (Nat.le_of_ble_eq_true rfl) d_lw_law_471 ⟨(by show 29 + r + 1 + 0 ≤ 1069; omega), (by show 312 + 6 * r + 6 + 0 ≤ 8600; omega)⟩ hS hA (fun k1 H locs hth hP hD hS hq => ?_)
      have hZ := hZ.kept hq
      have hth : jm_th k1 = 2 := hth
      refine lv_aload_n hx hb d_lw_law_474 rfl (lv_at hl 4 rfl) ?_
      refine zm_rdi (v := jm_th k1) (As := []) (rest := []) ⟨hx, hb, hml, hown, hT⟩ (c_md_thrown l D cm am _ u k1) tb_517 tb_518 tb_519 tb_4 tb_520 ⟨rfl, hd_md_thrown⟩ ⟨Nat.le_of_ble_eq_true rfl, Nat.le_of_ble_eq_true rfl⟩ rfl rfl hK hP hD hN 0 3 rfl rfl hl.1 rfl (Nat.le_of_ble_eq_true rfl) d_lw_law_475 ⟨(by show 29 + r + 1 + 0 ≤ 1069; omega), (by show 312 + 6 * r + 6 + 0 ≤ 8600; omega)⟩ hS hA ?_
      refine lv_iload hx hb d_lw_law_478 (lv_at hl 0 rfl) ?_
      refine lv_icmp_eq hx hb d_lw_law_480 (tgt := 485) (by decide) (fun _ => ?_) (fun z => absurd hth z)
      refine lv_goto hx hb d_lw_law_485 (tgt := 1039) (by decide) ?_
      refine W.widen (k := 30 + r) (n := 318 + 6 * r) (by omega) (by omega) ?_
      exact ih _ _ ls _ _ _ (lv_sub hl [1, 2, 3, 4, 5] rfl) hP hD hS hZ (hok)
    · skip
      refine zy_i (v := 0) (u' := sp_no u (xs ((nI (6 * r)) + (1)).toNatClampNeg) ((((xs ((nI (6 * r)) + (2)).toNatClampNeg).toInt64) <<< ((32 : Int32).toInt64 &&& 63)) ||| (((xs ((nI (6 * r)) + (3)).toNatClampNeg).toInt64) &&& (4294967295)))) (As := [.ref (ad 0), .int (xs ((nI (6 * r)) + (1)).toNatClampNeg), .long ((((xs ((nI (6 * r)) + (2)).toNatClampNeg).toInt64) <<< ((32 : Int32).toInt64 &&& 63)) ||| (((xs ((nI (6 * r)) + (3)).toNatClampNeg).toInt64) &&& (4294967295)))]) (rest := []) ⟨hx, hb, hml, hown, hT⟩ (k_lw_extend l D cs ad _ u j (xs ((nI (6 * r)) + (1)).toNatClampNeg) ((((xs ((nI (6 * r)) + (2)).toNatClampNeg).toInt64) <<< ((32 : Int32).toInt64 &&& 63)) ||| (((xs ((nI (6 * r)) + (3)).toNatClampNeg).toInt64) &&& (4294967295))) hr6 (en_in hok he)) tb_364 tb_365 tb_0 tb_366 hd_lw_extend ⟨Nat.le_of_ble_eq_true rfl, Nat.le_of_ble_eq_true rfl⟩ rfl rfl hK hP hD hN hZ hC hl.1 rfl (Nat.le_of_ble_eq_true rfl) d_lw_law_437 ⟨(by show 29 + r + 0 ≤ 1069; omega), (by show 312 + 6 * r + 0 ≤ 8600; omega)⟩ hS hA (fun j1 H locs hpj hP hD hS hq => ?_)
      have hZ := hZ.kept hq
      refine lv_istore (nL := 8) (lv' := [(5, .int (0)), (4, .int (nI (6 * r))), (0, .ref b), (1, .ref (ad 0)), (2, .ref (am 0)), (3, .ref (ad 15))]) hx hb d_lw_law_440 hl (by decide) rfl (fun ls hl => ?_)
      refine lv_aload_n hx hb d_lw_law_442 rfl (lv_at hl 4 rfl) ?_
      refine lv_aload_n hx hb d_lw_law_443 rfl (lv_at hl 2 rfl) ?_
      refine lv_iload hx hb d_lw_law_444 (lv_at hl 1 rfl) ?_
      refine lv_iconst (v := 1) hx hb d_lw_law_446 (by decide) ?_
      refine lv_iadd hx hb d_lw_law_447 ?_
      refine va_sld hx hb hX hbl hbA hS (si 1 (by decide) hr hL) d_lw_law_448 ?_
      refine lv_aload_n hx hb d_lw_law_449 rfl (lv_at hl 2 rfl) ?_
      refine lv_iload hx hb d_lw_law_450 (lv_at hl 1 rfl) ?_
      refine lv_iconst (v := 2) hx hb d_lw_law_452 (by decide) ?_
      refine lv_iadd hx hb d_lw_law_453 ?_
      refine va_sld hx hb hX hbl hbA hS (si 2 (by decide) hr hL) d_lw_law_454 ?_
      refine lv_i2l hx hb d_lw_law_455 rfl ?_
      refine lv_bipush (v := 32) hx hb d_lw_law_456 (by decide) ?_
      refine lv_lshl hx hb d_lw_law_458 rfl ?_
      refine lv_aload_n hx hb d_lw_law_459 rfl (lv_at hl 2 rfl) ?_
      refine lv_iload hx hb d_lw_law_460 (lv_at hl 1 rfl) ?_
      refine lv_iconst (v := 3) hx hb d_lw_law_462 (by decide) ?_
      refine lv_iadd hx hb d_lw_law_463 ?_
      refine va_sld hx hb hX hbl hbA hS (si 3 (by decide) hr hL) d_lw_law_464 ?_
      refine lv_i2l hx hb d_lw_law_465 rfl ?_
      refine lv_ldc2 (v := 4294967295) hx hb hown (hT _ tb_649) d_lw_law_466 ?_
      refine lv_land hx hb d_lw_law_469 ?_
      refine lv_lor hx hb d_lw_law_470 ?_
      refine zm_wrv (w' := sp_no u (xs ((nI (6 * r)) + (1)).toNatClampNeg) ((((xs ((nI (6 * r)) + (2)).toNatClampNeg).toInt64) <<< ((32 : Int32).toInt64 &&& 63)) ||| (((xs ((nI (6 * r)) + (3)).toNatClampNeg).toInt64) &&& (4294967295)))) (As := [.int (xs ((nI (6 * r)) + (1)).toNatClampNeg), .long ((((xs ((nI (6 * r)) + (2)).toNatClampNeg).toInt64) <<< ((32 : Int32).toInt64 &&& 63)) ||| (((xs ((nI (6 * r)) + (3)).toNatClampNeg).toInt64) &&& (4294967295)))]) (rest := []) ⟨hx, hb, hml, hown, hT⟩ (k_md_extend l D cm am _ u k (xs ((nI (6 * r)) + (1)).toNatClampNeg) ((((xs ((nI (6 * r)) + (2)).toNatClampNeg).toInt64) <<< ((32 : Int32).toInt64 &&& 63)) ||| (((xs ((nI (6 * r)) + (3)).toNatClampNeg).toInt64) &&& (4294967295))) hr6 (en_in hok he)) tb_605 tb_606 tb_607 tb_4 tb_608 ⟨rfl, hd_md_extend⟩ ⟨Nat.le_of_ble_eq_true rfl, Nat.le_of_ble_eq_true rfl⟩ rfl rfl hK hP hD hN 0 3 rfl rfl hl.1 rfl (Nat.le_of_ble_eq_true rfl) d_lw_law_471 ⟨(by show 29 + r + 0 + 0 ≤ 1069; omega), (by show 312 + 6 * r + 0 + 0 ≤ 8600; omega)⟩ hS hA (fun k1 H locs hth hP hD hS hq => ?_)
      have hZ := hZ.kept hq
      have hth : jm_th k1 = 0 := hth
      refine lv_aload_n hx hb d_lw_law_474 rfl (lv_at hl 4 rfl) ?_
      refine zm_rdi (v := jm_th k1) (As := []) (rest := []) ⟨hx, hb, hml, hown, hT⟩ (c_md_thrown l D cm am _ (sp_no u (xs ((nI (6 * r)) + (1)).toNatClampNeg) ((((xs ((nI (6 * r)) + (2)).toNatClampNeg).toInt64) <<< ((32 : Int32).toInt64 &&& 63)) ||| (((xs ((nI (6 * r)) + (3)).toNatClampNeg).toInt64) &&& (4294967295)))) k1) tb_517 tb_518 tb_519 tb_4 tb_520 ⟨rfl, hd_md_thrown⟩ ⟨Nat.le_of_ble_eq_true rfl, Nat.le_of_ble_eq_true rfl⟩ rfl rfl hK hP hD hN 0 3 rfl rfl hl.1 rfl (Nat.le_of_ble_eq_true rfl) d_lw_law_475 ⟨(by show 29 + r + 0 + 0 ≤ 1069; omega), (by show 312 + 6 * r + 0 + 0 ≤ 8600; omega)⟩ hS hA ?_
      refine lv_iload hx hb d_lw_law_478 (lv_at hl 0 rfl) ?_
      refine lv_icmp_eq hx hb d_lw_law_480 (tgt := 485) (by decide) (fun _ => ?_) (fun z => absurd hth z)
      refine lv_goto hx hb d_lw_law_485 (tgt := 1039) (by decide) ?_
      refine W.widen (k := 30 + r) (n := 318 + 6 * r) (by omega) (by omega) ?_
      exact ih _ _ ls _ _ _ (lv_sub hl [1, 2, 3, 4, 5] rfl) hP hD hS hZ (sp_ok_no hok (nle32 (en_in hok he)) hr6)
  · skip
    refine zy_i (v := 1) (u' := u) (As := [.ref (ad 0), .int (xs ((nI (6 * r)) + (1)).toNatClampNeg), .long ((((xs ((nI (6 * r)) + (2)).toNatClampNeg).toInt64) <<< ((32 : Int32).toInt64 &&& 63)) ||| (((xs ((nI (6 * r)) + (3)).toNatClampNeg).toInt64) &&& (4294967295)))]) (rest := []) ⟨hx, hb, hml, hown, hT⟩ (f_lw_extend l hl0 D cs ad _ u j (xs ((nI (6 * r)) + (1)).toNatClampNeg) ((((xs ((nI (6 * r)) + (2)).toNatClampNeg).toInt64) <<< ((32 : Int32).toInt64 &&& 63)) ||| (((xs ((nI (6 * r)) + (3)).toNatClampNeg).toInt64) &&& (4294967295))) hr6) tb_364 tb_365 tb_0 tb_366 hd_lw_extend ⟨Nat.le_of_ble_eq_true rfl, Nat.le_of_ble_eq_true rfl⟩ rfl rfl hK hP hD hN hZ hC hl.1 rfl (Nat.le_of_ble_eq_true rfl) d_lw_law_437 ⟨(by show 29 + r + 1 ≤ 1069; omega), (by show 312 + 6 * r + 6 ≤ 8600; omega)⟩ hS hA (fun j1 H locs hpj hP hD hS hq => ?_)
    have hZ := hZ.kept hq
    refine lv_istore (nL := 8) (lv' := [(5, .int (1)), (4, .int (nI (6 * r))), (0, .ref b), (1, .ref (ad 0)), (2, .ref (am 0)), (3, .ref (ad 15))]) hx hb d_lw_law_440 hl (by decide) rfl (fun ls hl => ?_)
    refine lv_aload_n hx hb d_lw_law_442 rfl (lv_at hl 4 rfl) ?_
    refine lv_aload_n hx hb d_lw_law_443 rfl (lv_at hl 2 rfl) ?_
    refine lv_iload hx hb d_lw_law_444 (lv_at hl 1 rfl) ?_
    refine lv_iconst (v := 1) hx hb d_lw_law_446 (by decide) ?_
    refine lv_iadd hx hb d_lw_law_447 ?_
    refine va_sld hx hb hX hbl hbA hS (si 1 (by decide) hr hL) d_lw_law_448 ?_
    refine lv_aload_n hx hb d_lw_law_449 rfl (lv_at hl 2 rfl) ?_
    refine lv_iload hx hb d_lw_law_450 (lv_at hl 1 rfl) ?_
    refine lv_iconst (v := 2) hx hb d_lw_law_452 (by decide) ?_
    refine lv_iadd hx hb d_lw_law_453 ?_
    refine va_sld hx hb hX hbl hbA hS (si 2 (by decide) hr hL) d_lw_law_454 ?_
    refine lv_i2l hx hb d_lw_law_455 rfl ?_
    refine lv_bipush (v := 32) hx hb d_lw_law_456 (by decide) ?_
    refine lv_lshl hx hb d_lw_law_458 rfl ?_
    refine lv_aload_n hx hb d_lw_law_459 rfl (lv_at hl 2 rfl) ?_
    refine lv_iload hx hb d_lw_law_460 (lv_at hl 1 rfl) ?_
    refine lv_iconst (v := 3) hx hb d_lw_law_462 (by decide) ?_
    refine lv_iadd hx hb d_lw_law_463 ?_
    refine va_sld hx hb hX hbl hbA hS (si 3 (by decide) hr hL) d_lw_law_464 ?_
    refine lv_i2l hx hb d_lw_law_465 rfl ?_
    refine lv_ldc2 (v := 4294967295) hx hb hown (hT _ tb_649) d_lw_law_466 ?_
    refine lv_land hx hb d_lw_law_469 ?_
    refine lv_lor hx hb d_lw_law_470 ?_
    refine zm_wrv (w' := u) (As := [.int (xs ((nI (6 * r)) + (1)).toNatClampNeg), .long ((((xs ((nI (6 * r)) + (2)).toNatClampNeg).toInt64) <<< ((32 : Int32).toInt64 &&& 63)) ||| (((xs ((nI (6 * r)) + (3)).toNatClampNeg).toInt64) &&& (4294967295)))]) (rest := []) ⟨hx, hb, hml, hown, hT⟩ (f_md_extend l D cm am _ u k (xs ((nI (6 * r)) + (1)).toNatClampNeg) ((((xs ((nI (6 * r)) + (2)).toNatClampNeg).toInt64) <<< ((32 : Int32).toInt64 &&& 63)) ||| (((xs ((nI (6 * r)) + (3)).toNatClampNeg).toInt64) &&& (4294967295))) hr6) tb_605 tb_606 tb_607 tb_4 tb_608 ⟨rfl, hd_md_extend⟩ ⟨Nat.le_of_ble_eq_true rfl, Nat.le_of_ble_eq_true rfl⟩ rfl rfl hK hP hD hN 0 3 rfl rfl hl.1 rfl (Nat.le_of_ble_eq_true rfl) d_lw_law_471 ⟨(by show 29 + r + 1 + 0 ≤ 1069; omega), (by show 312 + 6 * r + 6 + 0 ≤ 8600; omega)⟩ hS hA (fun k1 H locs hth hP hD hS hq => ?_)
    have hZ := hZ.kept hq
    have hth : jm_th k1 = 1 := hth
    refine lv_aload_n hx hb d_lw_law_474 rfl (lv_at hl 4 rfl) ?_
    refine zm_rdi (v := jm_th k1) (As := []) (rest := []) ⟨hx, hb, hml, hown, hT⟩ (c_md_thrown l D cm am _ u k1) tb_517 tb_518 tb_519 tb_4 tb_520 ⟨rfl, hd_md_thrown⟩ ⟨Nat.le_of_ble_eq_true rfl, Nat.le_of_ble_eq_true rfl⟩ rfl rfl hK hP hD hN 0 3 rfl rfl hl.1 rfl (Nat.le_of_ble_eq_true rfl) d_lw_law_475 ⟨(by show 29 + r + 1 + 0 ≤ 1069; omega), (by show 312 + 6 * r + 6 + 0 ≤ 8600; omega)⟩ hS hA ?_
    refine lv_iload hx hb d_lw_law_478 (lv_at hl 0 rfl) ?_
    refine lv_icmp_eq hx hb d_lw_law_480 (tgt := 485) (by decide) (fun _ => ?_) (fun z => absurd hth z)
    refine lv_goto hx hb d_lw_law_485 (tgt := 1039) (by decide) ?_
    refine W.widen (k := 30 + r) (n := 318 + 6 * r) (by omega) (by omega) ?_
    exact ih _ _ ls _ _ _ (lv_sub hl [1, 2, 3, 4, 5] rfl) hP hD hS hZ (hok)
set_option maxHeartbeats 4000000 in
set_option maxRecDepth 100000 in
theorem lc_9 {p : Program} {l : Launch} {e : Env} {s : State} {m : MethodId} {below : List Frame} {meth : Method} {c : Code} {H : Heap} {locs : List Loc} {Q : State → Prop} {ls : Array Slot} {D : va_G} {cs cm : Nat → ClassId} {ad am : Nat → Nat} {u : Sg} {A : Nat → Prop} {j : Jy} {k : Jm} {b L r : Nat} {xs : Nat → Int32}
    (hl0 : l.stackTraces = false) (hx : p.tables.exec = Jvm.exec) (hb : c.code = b_lw_law) (hml : c.maxLocals = 8) (hown : s.vm.findClass "MeasuredStagesLaw" = some m.cls) (hT : ∀ w ∈ TB, w.before #[Value.ref b] s = true) (hN : xw_N s) (hC : xC s) (hX : va_X b L xs s s.heap) (hbl : b < s.heap.size) (hbA : ¬ A b) (hA : ∀ q, s.heap.size ≤ q → A q) (hr : 6 * r + 6 ≤ L) (hL : L ≤ 3072) (hK : va_K D cx (zty cs cm) s)
    (hP : va_P D cx (zw ad cs am cm u j u k) H) (hD : va_D A (zw ad cs am cm u j u k)) (hS : va_S A s.heap H locs) (hZ : xTA A s H) (hok : sp_ok u) (hl : lv_has ls 8 [(4, .int (nI (6 * r))), (0, .ref b), (1, .ref (ad 0)), (2, .ref (am 0)), (3, .ref (ad 15))])
    (ih : ∀ (H1 : Heap) (locs1 : List Loc) (ls1 : Array Slot) (u1 : Sg) (j1 : Jy) (k1 : Jm), lv_has ls1 8 [(4, .int (nI (6 * r))), (0, .ref b), (1, .ref (ad 0)), (2, .ref (am 0)), (3, .ref (ad 15))] → va_P D cx (zw ad cs am cm u1 j1 u1 k1) H1 → va_D A (zw ad cs am cm u1 j1 u1 k1) → va_S A s.heap H1 locs1 → xTA A s H1 → sp_ok u1 → W p l e room_1 s m #[Value.ref b] below meth c H1 locs1 (30 + r) (318 + 6 * r) Q (F0 m 1039 ls1 [])) :
    W p l e room_1 s m #[Value.ref b] below meth c H locs (29 + r) (312 + 6 * r) Q (F0 m 488 ls []) := by
  refine lv_aload_n hx hb d_lw_law_488 rfl (lv_at hl 2 rfl) ?_
  refine zx_rdi (v := sg_en u) (As := []) (rest := []) ⟨hx, hb, hml, hown, hT⟩ (c_ms_events l D cs ad _ u (jyx j)) tb_122 tb_123 tb_124 tb_1 tb_125 ⟨rfl, hd_ms_events⟩ ⟨Nat.le_of_ble_eq_true rfl, Nat.le_of_ble_eq_true rfl⟩ rfl rfl hK hP hD hN 0 0 rfl rfl hl.1 rfl (Nat.le_of_ble_eq_true rfl) d_lw_law_489 ⟨(by show 29 + r + 0 ≤ 1069; omega), (by show 312 + 6 * r + 0 ≤ 8600; omega)⟩ hS hA ?_
  refine lv_aload_n hx hb d_lw_law_492 rfl (lv_at hl 3 rfl) ?_
  refine zm_wri (v := sg_en u) (w' := u) (As := []) (rest := [.int (sg_en u)]) ⟨hx, hb, hml, hown, hT⟩ (k_md_events l D cm am _ u k  ) tb_609 tb_610 tb_611 tb_4 tb_612 ⟨rfl, hd_md_events⟩ ⟨Nat.le_of_ble_eq_true rfl, Nat.le_of_ble_eq_true rfl⟩ rfl rfl hK hP hD hN 0 3 rfl rfl hl.1 rfl (Nat.le_of_ble_eq_true rfl) d_lw_law_493 ⟨(by show 29 + r + 0 + 0 ≤ 1069; omega), (by show 312 + 6 * r + 0 + 0 ≤ 8600; omega)⟩ hS hA (fun k1 H locs hth hP hD hS hq => ?_)
  have hZ := hZ.kept hq
  have hth : jm_th k1 = 0 := hth
  refine lv_icmp_eq hx hb d_lw_law_496 (tgt := 1039) (by decide) (fun _ => ?_) (fun z => absurd rfl z)
  refine W.widen (k := 30 + r) (n := 318 + 6 * r) (by omega) (by omega) ?_
  exact ih _ _ ls _ _ _ (lv_sub hl [0, 1, 2, 3, 4] rfl) hP hD hS hZ (hok)
set_option maxHeartbeats 4000000 in
set_option maxRecDepth 100000 in
theorem lc_10 {p : Program} {l : Launch} {e : Env} {s : State} {m : MethodId} {below : List Frame} {meth : Method} {c : Code} {H : Heap} {locs : List Loc} {Q : State → Prop} {ls : Array Slot} {D : va_G} {cs cm : Nat → ClassId} {ad am : Nat → Nat} {u : Sg} {A : Nat → Prop} {j : Jy} {k : Jm} {b L r : Nat} {xs : Nat → Int32}
    (hl0 : l.stackTraces = false) (hx : p.tables.exec = Jvm.exec) (hb : c.code = b_lw_law) (hml : c.maxLocals = 8) (hown : s.vm.findClass "MeasuredStagesLaw" = some m.cls) (hT : ∀ w ∈ TB, w.before #[Value.ref b] s = true) (hN : xw_N s) (hC : xC s) (hX : va_X b L xs s s.heap) (hbl : b < s.heap.size) (hbA : ¬ A b) (hA : ∀ q, s.heap.size ≤ q → A q) (hr : 6 * r + 6 ≤ L) (hL : L ≤ 3072) (hK : va_K D cx (zty cs cm) s)
    (hP : va_P D cx (zw ad cs am cm u j u k) H) (hD : va_D A (zw ad cs am cm u j u k)) (hS : va_S A s.heap H locs) (hZ : xTA A s H) (hok : sp_ok u) (hl : lv_has ls 8 [(4, .int (nI (6 * r))), (0, .ref b), (1, .ref (ad 0)), (2, .ref (am 0)), (3, .ref (ad 15))])
    (ih : ∀ (H1 : Heap) (locs1 : List Loc) (ls1 : Array Slot) (u1 : Sg) (j1 : Jy) (k1 : Jm), lv_has ls1 8 [(4, .int (nI (6 * r))), (0, .ref b), (1, .ref (ad 0)), (2, .ref (am 0)), (3, .ref (ad 15))] → va_P D cx (zw ad cs am cm u1 j1 u1 k1) H1 → va_D A (zw ad cs am cm u1 j1 u1 k1) → va_S A s.heap H1 locs1 → xTA A s H1 → sp_ok u1 → W p l e room_1 s m #[Value.ref b] below meth c H1 locs1 (30 + r) (318 + 6 * r) Q (F0 m 1039 ls1 [])) :
    W p l e room_1 s m #[Value.ref b] below meth c H locs (29 + r) (312 + 6 * r) Q (F0 m 501 ls []) := by
  refine lv_aload_n hx hb d_lw_law_501 rfl (lv_at hl 2 rfl) ?_
  refine lv_aload_n hx hb d_lw_law_502 rfl (lv_at hl 1 rfl) ?_
  refine lv_iload hx hb d_lw_law_503 (lv_at hl 0 rfl) ?_
  refine lv_iconst (v := 1) hx hb d_lw_law_505 (by decide) ?_
  refine lv_iadd hx hb d_lw_law_506 ?_
  refine va_sld hx hb hX hbl hbA hS (si 1 (by decide) hr hL) d_lw_law_507 ?_
  refine lv_aload_n hx hb d_lw_law_508 rfl (lv_at hl 4 rfl) ?_
  rcases rg_01 (xs ((nI (6 * r)) + (1)).toNatClampNeg) (sg_en u) with hk | hk
  · skip
    refine zy_i (v := 1) (u' := u) (As := [.ref (ad 0), .int (xs ((nI (6 * r)) + (1)).toNatClampNeg), .ref (ad 15)]) (rest := []) ⟨hx, hb, hml, hown, hT⟩ (f_lw_eventRegister l hl0 D cs ad _ u j (xs ((nI (6 * r)) + (1)).toNatClampNeg) hk) tb_372 tb_373 tb_0 tb_374 hd_lw_eventRegister ⟨Nat.le_of_ble_eq_true rfl, Nat.le_of_ble_eq_true rfl⟩ rfl rfl hK hP hD hN hZ hC hl.1 rfl (Nat.le_of_ble_eq_true rfl) d_lw_law_509 ⟨(by show 29 + r + 1 ≤ 1069; omega), (by show 312 + 6 * r + 6 ≤ 8600; omega)⟩ hS hA (fun j1 H locs hpj hP hD hS hq => ?_)
    have hZ := hZ.kept hq
    refine lv_istore (nL := 8) (lv' := [(5, .int (1)), (4, .int (nI (6 * r))), (0, .ref b), (1, .ref (ad 0)), (2, .ref (am 0)), (3, .ref (ad 15))]) hx hb d_lw_law_512 hl (by decide) rfl (fun ls hl => ?_)
    refine lv_aload_n hx hb d_lw_law_514 rfl (lv_at hl 4 rfl) ?_
    refine lv_aload_n hx hb d_lw_law_515 rfl (lv_at hl 2 rfl) ?_
    refine lv_iload hx hb d_lw_law_516 (lv_at hl 1 rfl) ?_
    refine lv_iconst (v := 1) hx hb d_lw_law_518 (by decide) ?_
    refine lv_iadd hx hb d_lw_law_519 ?_
    refine va_sld hx hb hX hbl hbA hS (si 1 (by decide) hr hL) d_lw_law_520 ?_
    refine zm_wri (v := 0) (w' := u) (As := [.int (xs ((nI (6 * r)) + (1)).toNatClampNeg)]) (rest := []) ⟨hx, hb, hml, hown, hT⟩ (f_md_eventRegister l D cm am _ u k (xs ((nI (6 * r)) + (1)).toNatClampNeg) hk) tb_613 tb_614 tb_615 tb_4 tb_616 ⟨rfl, hd_md_eventRegister⟩ ⟨Nat.le_of_ble_eq_true rfl, Nat.le_of_ble_eq_true rfl⟩ rfl rfl hK hP hD hN 0 3 rfl rfl hl.1 rfl (Nat.le_of_ble_eq_true rfl) d_lw_law_521 ⟨(by show 29 + r + 1 + 0 ≤ 1069; omega), (by show 312 + 6 * r + 6 + 0 ≤ 8600; omega)⟩ hS hA (fun k1 H locs hth hP hD hS hq => ?_)
    have hZ := hZ.kept hq
    have hth : jm_th k1 = 1 := hth
    refine lv_istore (nL := 8) (lv' := [(6, .int (0)), (5, .int (1)), (4, .int (nI (6 * r))), (0, .ref b), (1, .ref (ad 0)), (2, .ref (am 0)), (3, .ref (ad 15))]) hx hb d_lw_law_524 hl (by decide) rfl (fun ls hl => ?_)
    refine lv_aload_n hx hb d_lw_law_526 rfl (lv_at hl 5 rfl) ?_
    refine zm_rdi (v := jm_th k1) (As := []) (rest := []) ⟨hx, hb, hml, hown, hT⟩ (c_md_thrown l D cm am _ u k1) tb_517 tb_518 tb_519 tb_4 tb_520 ⟨rfl, hd_md_thrown⟩ ⟨Nat.le_of_ble_eq_true rfl, Nat.le_of_ble_eq_true rfl⟩ rfl rfl hK hP hD hN 0 3 rfl rfl hl.1 rfl (Nat.le_of_ble_eq_true rfl) d_lw_law_527 ⟨(by show 29 + r + 1 + 0 ≤ 1069; omega), (by show 312 + 6 * r + 6 + 0 ≤ 8600; omega)⟩ hS hA ?_
    refine lv_iload hx hb d_lw_law_530 (lv_at hl 1 rfl) ?_
    refine lv_icmp_eq hx hb d_lw_law_532 (tgt := 537) (by decide) (fun _ => ?_) (fun z => absurd hth z)
    refine lv_iload hx hb d_lw_law_537 (lv_at hl 1 rfl) ?_
    refine lv_if_ne hx hb d_lw_law_539 (tgt := 554) (by decide) (fun _ => ?_) (fun z => absurd z (by decide))
    refine lv_goto hx hb d_lw_law_554 (tgt := 1039) (by decide) ?_
    refine W.widen (k := 30 + r) (n := 318 + 6 * r) (by omega) (by omega) ?_
    exact ih _ _ ls _ _ _ (lv_sub hl [2, 3, 4, 5, 6] rfl) hP hD hS hZ (hok)
  · skip
    refine zy_i (v := 0) (u' := u) (As := [.ref (ad 0), .int (xs ((nI (6 * r)) + (1)).toNatClampNeg), .ref (ad 15)]) (rest := []) ⟨hx, hb, hml, hown, hT⟩ (k_lw_eventRegister l D cs ad _ u j (xs ((nI (6 * r)) + (1)).toNatClampNeg) hok hk) tb_372 tb_373 tb_0 tb_374 hd_lw_eventRegister ⟨Nat.le_of_ble_eq_true rfl, Nat.le_of_ble_eq_true rfl⟩ rfl rfl hK hP hD hN hZ hC hl.1 rfl (Nat.le_of_ble_eq_true rfl) d_lw_law_509 ⟨(by show 29 + r + 0 ≤ 1069; omega), (by show 312 + 6 * r + 0 ≤ 8600; omega)⟩ hS hA (fun j1 H locs hpj hP hD hS hq => ?_)
    have hZ := hZ.kept hq
    refine lv_istore (nL := 8) (lv' := [(5, .int (0)), (4, .int (nI (6 * r))), (0, .ref b), (1, .ref (ad 0)), (2, .ref (am 0)), (3, .ref (ad 15))]) hx hb d_lw_law_512 hl (by decide) rfl (fun ls hl => ?_)
    refine lv_aload_n hx hb d_lw_law_514 rfl (lv_at hl 4 rfl) ?_
    refine lv_aload_n hx hb d_lw_law_515 rfl (lv_at hl 2 rfl) ?_
    refine lv_iload hx hb d_lw_law_516 (lv_at hl 1 rfl) ?_
    refine lv_iconst (v := 1) hx hb d_lw_law_518 (by decide) ?_
    refine lv_iadd hx hb d_lw_law_519 ?_
    refine va_sld hx hb hX hbl hbA hS (si 1 (by decide) hr hL) d_lw_law_520 ?_
    refine zm_wri (v := sg_er u (xs ((nI (6 * r)) + (1)).toNatClampNeg).toNatClampNeg) (w' := u) (As := [.int (xs ((nI (6 * r)) + (1)).toNatClampNeg)]) (rest := []) ⟨hx, hb, hml, hown, hT⟩ (k_md_eventRegister l D cm am _ u k (xs ((nI (6 * r)) + (1)).toNatClampNeg) hok hk) tb_613 tb_614 tb_615 tb_4 tb_616 ⟨rfl, hd_md_eventRegister⟩ ⟨Nat.le_of_ble_eq_true rfl, Nat.le_of_ble_eq_true rfl⟩ rfl rfl hK hP hD hN 0 3 rfl rfl hl.1 rfl (Nat.le_of_ble_eq_true rfl) d_lw_law_521 ⟨(by show 29 + r + 0 + 0 ≤ 1069; omega), (by show 312 + 6 * r + 0 + 0 ≤ 8600; omega)⟩ hS hA (fun k1 H locs hth hP hD hS hq => ?_)
    have hZ := hZ.kept hq
    have hth : jm_th k1 = 0 := hth
    refine lv_istore (nL := 8) (lv' := [(6, .int (sg_er u (xs ((nI (6 * r)) + (1)).toNatClampNeg).toNatClampNeg)), (5, .int (0)), (4, .int (nI (6 * r))), (0, .ref b), (1, .ref (ad 0)), (2, .ref (am 0)), (3, .ref (ad 15))]) hx hb d_lw_law_524 hl (by decide) rfl (fun ls hl => ?_)
    refine lv_aload_n hx hb d_lw_law_526 rfl (lv_at hl 5 rfl) ?_
    refine zm_rdi (v := jm_th k1) (As := []) (rest := []) ⟨hx, hb, hml, hown, hT⟩ (c_md_thrown l D cm am _ u k1) tb_517 tb_518 tb_519 tb_4 tb_520 ⟨rfl, hd_md_thrown⟩ ⟨Nat.le_of_ble_eq_true rfl, Nat.le_of_ble_eq_true rfl⟩ rfl rfl hK hP hD hN 0 3 rfl rfl hl.1 rfl (Nat.le_of_ble_eq_true rfl) d_lw_law_527 ⟨(by show 29 + r + 0 + 0 ≤ 1069; omega), (by show 312 + 6 * r + 0 + 0 ≤ 8600; omega)⟩ hS hA ?_
    refine lv_iload hx hb d_lw_law_530 (lv_at hl 1 rfl) ?_
    refine lv_icmp_eq hx hb d_lw_law_532 (tgt := 537) (by decide) (fun _ => ?_) (fun z => absurd hth z)
    refine lv_iload hx hb d_lw_law_537 (lv_at hl 1 rfl) ?_
    refine lv_if_ne hx hb d_lw_law_539 (tgt := 554) (by decide) (fun z => absurd (by decide) z) (fun _ => ?_)
    refine lv_aload_n hx hb d_lw_law_542 rfl (lv_at hl 6 rfl) ?_
    refine lv_iconst (v := 0) hx hb d_lw_law_543 (by decide) ?_
    refine va_lald hx hb hK hP 0 0 rfl rfl (by unfold vp_in; decide) d_lw_law_544 ?_
    refine lv_iload hx hb d_lw_law_545 (lv_at hl 0 rfl) ?_
    refine lv_i2l hx hb d_lw_law_547 rfl ?_
    refine W.lcmp hx hb d_lw_law_548 ?_
    refine lv_if_eq hx hb d_lw_law_549 (tgt := 554) (by decide) (fun _ => ?_) (fun z => absurd (sp_cmp.mpr hpj) z)
    refine lv_goto hx hb d_lw_law_554 (tgt := 1039) (by decide) ?_
    refine W.widen (k := 30 + r) (n := 318 + 6 * r) (by omega) (by omega) ?_
    exact ih _ _ ls _ _ _ (lv_sub hl [2, 3, 4, 5, 6] rfl) hP hD hS hZ (hok)
set_option maxHeartbeats 4000000 in
set_option maxRecDepth 100000 in
theorem lc_11 {p : Program} {l : Launch} {e : Env} {s : State} {m : MethodId} {below : List Frame} {meth : Method} {c : Code} {H : Heap} {locs : List Loc} {Q : State → Prop} {ls : Array Slot} {D : va_G} {cs cm : Nat → ClassId} {ad am : Nat → Nat} {u : Sg} {A : Nat → Prop} {j : Jy} {k : Jm} {b L r : Nat} {xs : Nat → Int32}
    (hl0 : l.stackTraces = false) (hx : p.tables.exec = Jvm.exec) (hb : c.code = b_lw_law) (hml : c.maxLocals = 8) (hown : s.vm.findClass "MeasuredStagesLaw" = some m.cls) (hT : ∀ w ∈ TB, w.before #[Value.ref b] s = true) (hN : xw_N s) (hC : xC s) (hX : va_X b L xs s s.heap) (hbl : b < s.heap.size) (hbA : ¬ A b) (hA : ∀ q, s.heap.size ≤ q → A q) (hr : 6 * r + 6 ≤ L) (hL : L ≤ 3072) (hK : va_K D cx (zty cs cm) s)
    (hP : va_P D cx (zw ad cs am cm u j u k) H) (hD : va_D A (zw ad cs am cm u j u k)) (hS : va_S A s.heap H locs) (hZ : xTA A s H) (hok : sp_ok u) (hl : lv_has ls 8 [(4, .int (nI (6 * r))), (0, .ref b), (1, .ref (ad 0)), (2, .ref (am 0)), (3, .ref (ad 15))])
    (ih : ∀ (H1 : Heap) (locs1 : List Loc) (ls1 : Array Slot) (u1 : Sg) (j1 : Jy) (k1 : Jm), lv_has ls1 8 [(4, .int (nI (6 * r))), (0, .ref b), (1, .ref (ad 0)), (2, .ref (am 0)), (3, .ref (ad 15))] → va_P D cx (zw ad cs am cm u1 j1 u1 k1) H1 → va_D A (zw ad cs am cm u1 j1 u1 k1) → va_S A s.heap H1 locs1 → xTA A s H1 → sp_ok u1 → W p l e room_1 s m #[Value.ref b] below meth c H1 locs1 (30 + r) (318 + 6 * r) Q (F0 m 1039 ls1 [])) :
    W p l e room_1 s m #[Value.ref b] below meth c H locs (29 + r) (312 + 6 * r) Q (F0 m 557 ls []) := by
  refine lv_aload_n hx hb d_lw_law_557 rfl (lv_at hl 2 rfl) ?_
  refine lv_aload_n hx hb d_lw_law_558 rfl (lv_at hl 1 rfl) ?_
  refine lv_iload hx hb d_lw_law_559 (lv_at hl 0 rfl) ?_
  refine lv_iconst (v := 1) hx hb d_lw_law_561 (by decide) ?_
  refine lv_iadd hx hb d_lw_law_562 ?_
  refine va_sld hx hb hX hbl hbA hS (si 1 (by decide) hr hL) d_lw_law_563 ?_
  refine lv_aload_n hx hb d_lw_law_564 rfl (lv_at hl 4 rfl) ?_
  rcases rg_01 (xs ((nI (6 * r)) + (1)).toNatClampNeg) (sg_en u) with hk | hk
  · skip
    refine zy_i (v := 1) (u' := u) (As := [.ref (ad 0), .int (xs ((nI (6 * r)) + (1)).toNatClampNeg), .ref (ad 15)]) (rest := []) ⟨hx, hb, hml, hown, hT⟩ (f_lw_eventValue l hl0 D cs ad _ u j (xs ((nI (6 * r)) + (1)).toNatClampNeg) hk) tb_400 tb_401 tb_0 tb_402 hd_lw_eventValue ⟨Nat.le_of_ble_eq_true rfl, Nat.le_of_ble_eq_true rfl⟩ rfl rfl hK hP hD hN hZ hC hl.1 rfl (Nat.le_of_ble_eq_true rfl) d_lw_law_565 ⟨(by show 29 + r + 1 ≤ 1069; omega), (by show 312 + 6 * r + 6 ≤ 8600; omega)⟩ hS hA (fun j1 H locs hpj hP hD hS hq => ?_)
    have hZ := hZ.kept hq
    refine lv_istore (nL := 8) (lv' := [(5, .int (1)), (4, .int (nI (6 * r))), (0, .ref b), (1, .ref (ad 0)), (2, .ref (am 0)), (3, .ref (ad 15))]) hx hb d_lw_law_568 hl (by decide) rfl (fun ls hl => ?_)
    refine lv_aload_n hx hb d_lw_law_570 rfl (lv_at hl 4 rfl) ?_
    refine lv_aload_n hx hb d_lw_law_571 rfl (lv_at hl 2 rfl) ?_
    refine lv_iload hx hb d_lw_law_572 (lv_at hl 1 rfl) ?_
    refine lv_iconst (v := 1) hx hb d_lw_law_574 (by decide) ?_
    refine lv_iadd hx hb d_lw_law_575 ?_
    refine va_sld hx hb hX hbl hbA hS (si 1 (by decide) hr hL) d_lw_law_576 ?_
    refine zm_wrl (v := 0) (w' := u) (As := [.int (xs ((nI (6 * r)) + (1)).toNatClampNeg)]) (rest := []) ⟨hx, hb, hml, hown, hT⟩ (f_md_eventValue l D cm am _ u k (xs ((nI (6 * r)) + (1)).toNatClampNeg) hk) tb_621 tb_622 tb_623 tb_4 tb_624 ⟨rfl, hd_md_eventValue⟩ ⟨Nat.le_of_ble_eq_true rfl, Nat.le_of_ble_eq_true rfl⟩ rfl rfl hK hP hD hN 0 3 rfl rfl hl.1 rfl (Nat.le_of_ble_eq_true rfl) d_lw_law_577 ⟨(by show 29 + r + 1 + 0 ≤ 1069; omega), (by show 312 + 6 * r + 6 + 0 ≤ 8600; omega)⟩ hS hA (fun k1 H locs hth hP hD hS hq => ?_)
    have hZ := hZ.kept hq
    have hth : jm_th k1 = 1 := hth
    refine lv_lstore (nL := 8) (lv' := [(6, .long (0)), (5, .int (1)), (4, .int (nI (6 * r))), (0, .ref b), (1, .ref (ad 0)), (2, .ref (am 0)), (3, .ref (ad 15))]) hx hb d_lw_law_580 hl (by decide) rfl (fun ls hl => ?_)
    refine lv_aload_n hx hb d_lw_law_582 rfl (lv_at hl 5 rfl) ?_
    refine zm_rdi (v := jm_th k1) (As := []) (rest := []) ⟨hx, hb, hml, hown, hT⟩ (c_md_thrown l D cm am _ u k1) tb_517 tb_518 tb_519 tb_4 tb_520 ⟨rfl, hd_md_thrown⟩ ⟨Nat.le_of_ble_eq_true rfl, Nat.le_of_ble_eq_true rfl⟩ rfl rfl hK hP hD hN 0 3 rfl rfl hl.1 rfl (Nat.le_of_ble_eq_true rfl) d_lw_law_583 ⟨(by show 29 + r + 1 + 0 ≤ 1069; omega), (by show 312 + 6 * r + 6 + 0 ≤ 8600; omega)⟩ hS hA ?_
    refine lv_iload hx hb d_lw_law_586 (lv_at hl 1 rfl) ?_
    refine lv_icmp_eq hx hb d_lw_law_588 (tgt := 593) (by decide) (fun _ => ?_) (fun z => absurd hth z)
    refine lv_iload hx hb d_lw_law_593 (lv_at hl 1 rfl) ?_
    refine lv_if_ne hx hb d_lw_law_595 (tgt := 609) (by decide) (fun _ => ?_) (fun z => absurd z (by decide))
    refine lv_goto hx hb d_lw_law_609 (tgt := 1039) (by decide) ?_
    refine W.widen (k := 30 + r) (n := 318 + 6 * r) (by omega) (by omega) ?_
    exact ih _ _ ls _ _ _ (lv_sub hl [2, 3, 4, 5, 6] rfl) hP hD hS hZ (hok)
  · skip
    refine zy_i (v := 0) (u' := u) (As := [.ref (ad 0), .int (xs ((nI (6 * r)) + (1)).toNatClampNeg), .ref (ad 15)]) (rest := []) ⟨hx, hb, hml, hown, hT⟩ (k_lw_eventValue l D cs ad _ u j (xs ((nI (6 * r)) + (1)).toNatClampNeg) hok hk) tb_400 tb_401 tb_0 tb_402 hd_lw_eventValue ⟨Nat.le_of_ble_eq_true rfl, Nat.le_of_ble_eq_true rfl⟩ rfl rfl hK hP hD hN hZ hC hl.1 rfl (Nat.le_of_ble_eq_true rfl) d_lw_law_565 ⟨(by show 29 + r + 0 ≤ 1069; omega), (by show 312 + 6 * r + 0 ≤ 8600; omega)⟩ hS hA (fun j1 H locs hpj hP hD hS hq => ?_)
    have hZ := hZ.kept hq
    refine lv_istore (nL := 8) (lv' := [(5, .int (0)), (4, .int (nI (6 * r))), (0, .ref b), (1, .ref (ad 0)), (2, .ref (am 0)), (3, .ref (ad 15))]) hx hb d_lw_law_568 hl (by decide) rfl (fun ls hl => ?_)
    refine lv_aload_n hx hb d_lw_law_570 rfl (lv_at hl 4 rfl) ?_
    refine lv_aload_n hx hb d_lw_law_571 rfl (lv_at hl 2 rfl) ?_
    refine lv_iload hx hb d_lw_law_572 (lv_at hl 1 rfl) ?_
    refine lv_iconst (v := 1) hx hb d_lw_law_574 (by decide) ?_
    refine lv_iadd hx hb d_lw_law_575 ?_
    refine va_sld hx hb hX hbl hbA hS (si 1 (by decide) hr hL) d_lw_law_576 ?_
    refine zm_wrl (v := sg_ev u (xs ((nI (6 * r)) + (1)).toNatClampNeg).toNatClampNeg) (w' := u) (As := [.int (xs ((nI (6 * r)) + (1)).toNatClampNeg)]) (rest := []) ⟨hx, hb, hml, hown, hT⟩ (k_md_eventValue l D cm am _ u k (xs ((nI (6 * r)) + (1)).toNatClampNeg) hok hk) tb_621 tb_622 tb_623 tb_4 tb_624 ⟨rfl, hd_md_eventValue⟩ ⟨Nat.le_of_ble_eq_true rfl, Nat.le_of_ble_eq_true rfl⟩ rfl rfl hK hP hD hN 0 3 rfl rfl hl.1 rfl (Nat.le_of_ble_eq_true rfl) d_lw_law_577 ⟨(by show 29 + r + 0 + 0 ≤ 1069; omega), (by show 312 + 6 * r + 0 + 0 ≤ 8600; omega)⟩ hS hA (fun k1 H locs hth hP hD hS hq => ?_)
    have hZ := hZ.kept hq
    have hth : jm_th k1 = 0 := hth
    refine lv_lstore (nL := 8) (lv' := [(6, .long (sg_ev u (xs ((nI (6 * r)) + (1)).toNatClampNeg).toNatClampNeg)), (5, .int (0)), (4, .int (nI (6 * r))), (0, .ref b), (1, .ref (ad 0)), (2, .ref (am 0)), (3, .ref (ad 15))]) hx hb d_lw_law_580 hl (by decide) rfl (fun ls hl => ?_)
    refine lv_aload_n hx hb d_lw_law_582 rfl (lv_at hl 5 rfl) ?_
    refine zm_rdi (v := jm_th k1) (As := []) (rest := []) ⟨hx, hb, hml, hown, hT⟩ (c_md_thrown l D cm am _ u k1) tb_517 tb_518 tb_519 tb_4 tb_520 ⟨rfl, hd_md_thrown⟩ ⟨Nat.le_of_ble_eq_true rfl, Nat.le_of_ble_eq_true rfl⟩ rfl rfl hK hP hD hN 0 3 rfl rfl hl.1 rfl (Nat.le_of_ble_eq_true rfl) d_lw_law_583 ⟨(by show 29 + r + 0 + 0 ≤ 1069; omega), (by show 312 + 6 * r + 0 + 0 ≤ 8600; omega)⟩ hS hA ?_
    refine lv_iload hx hb d_lw_law_586 (lv_at hl 1 rfl) ?_
    refine lv_icmp_eq hx hb d_lw_law_588 (tgt := 593) (by decide) (fun _ => ?_) (fun z => absurd hth z)
    refine lv_iload hx hb d_lw_law_593 (lv_at hl 1 rfl) ?_
    refine lv_if_ne hx hb d_lw_law_595 (tgt := 609) (by decide) (fun z => absurd (by decide) z) (fun _ => ?_)
    refine lv_aload_n hx hb d_lw_law_598 rfl (lv_at hl 6 rfl) ?_
    refine lv_iconst (v := 0) hx hb d_lw_law_599 (by decide) ?_
    refine va_lald hx hb hK hP 0 0 rfl rfl (by unfold vp_in; decide) d_lw_law_600 ?_
    refine lv_lload hx hb d_lw_law_601 (lv_at hl 0 rfl) ?_
    refine W.lcmp hx hb d_lw_law_603 ?_
    refine lv_if_eq hx hb d_lw_law_604 (tgt := 609) (by decide) (fun _ => ?_) (fun z => absurd (sp_cmp.mpr hpj) z)
    refine lv_goto hx hb d_lw_law_609 (tgt := 1039) (by decide) ?_
    refine W.widen (k := 30 + r) (n := 318 + 6 * r) (by omega) (by omega) ?_
    exact ih _ _ ls _ _ _ (lv_sub hl [2, 3, 4, 5, 6] rfl) hP hD hS hZ (hok)
set_option maxHeartbeats 4000000 in
set_option maxRecDepth 100000 in
theorem lc_12 {p : Program} {l : Launch} {e : Env} {s : State} {m : MethodId} {below : List Frame} {meth : Method} {c : Code} {H : Heap} {locs : List Loc} {Q : State → Prop} {ls : Array Slot} {D : va_G} {cs cm : Nat → ClassId} {ad am : Nat → Nat} {u : Sg} {A : Nat → Prop} {j : Jy} {k : Jm} {b L r : Nat} {xs : Nat → Int32}
    (hl0 : l.stackTraces = false) (hx : p.tables.exec = Jvm.exec) (hb : c.code = b_lw_law) (hml : c.maxLocals = 8) (hown : s.vm.findClass "MeasuredStagesLaw" = some m.cls) (hT : ∀ w ∈ TB, w.before #[Value.ref b] s = true) (hN : xw_N s) (hC : xC s) (hX : va_X b L xs s s.heap) (hbl : b < s.heap.size) (hbA : ¬ A b) (hA : ∀ q, s.heap.size ≤ q → A q) (hr : 6 * r + 6 ≤ L) (hL : L ≤ 3072) (hK : va_K D cx (zty cs cm) s)
    (hP : va_P D cx (zw ad cs am cm u j u k) H) (hD : va_D A (zw ad cs am cm u j u k)) (hS : va_S A s.heap H locs) (hZ : xTA A s H) (hok : sp_ok u) (hl : lv_has ls 8 [(4, .int (nI (6 * r))), (0, .ref b), (1, .ref (ad 0)), (2, .ref (am 0)), (3, .ref (ad 15))])
    (ih : ∀ (H1 : Heap) (locs1 : List Loc) (ls1 : Array Slot) (u1 : Sg) (j1 : Jy) (k1 : Jm), lv_has ls1 8 [(4, .int (nI (6 * r))), (0, .ref b), (1, .ref (ad 0)), (2, .ref (am 0)), (3, .ref (ad 15))] → va_P D cx (zw ad cs am cm u1 j1 u1 k1) H1 → va_D A (zw ad cs am cm u1 j1 u1 k1) → va_S A s.heap H1 locs1 → xTA A s H1 → sp_ok u1 → W p l e room_1 s m #[Value.ref b] below meth c H1 locs1 (30 + r) (318 + 6 * r) Q (F0 m 1039 ls1 [])) :
    W p l e room_1 s m #[Value.ref b] below meth c H locs (29 + r) (312 + 6 * r) Q (F0 m 612 ls []) := by
  refine lv_aload_n hx hb d_lw_law_612 rfl (lv_at hl 2 rfl) ?_
  refine lv_aload_n hx hb d_lw_law_613 rfl (lv_at hl 1 rfl) ?_
  refine lv_iload hx hb d_lw_law_614 (lv_at hl 0 rfl) ?_
  refine lv_iconst (v := 1) hx hb d_lw_law_616 (by decide) ?_
  refine lv_iadd hx hb d_lw_law_617 ?_
  refine va_sld hx hb hX hbl hbA hS (si 1 (by decide) hr hL) d_lw_law_618 ?_
  refine lv_aload_n hx hb d_lw_law_619 rfl (lv_at hl 1 rfl) ?_
  refine lv_iload hx hb d_lw_law_620 (lv_at hl 0 rfl) ?_
  refine lv_iconst (v := 2) hx hb d_lw_law_622 (by decide) ?_
  refine lv_iadd hx hb d_lw_law_623 ?_
  refine va_sld hx hb hX hbl hbA hS (si 2 (by decide) hr hL) d_lw_law_624 ?_
  refine lv_i2l hx hb d_lw_law_625 rfl ?_
  refine lv_bipush (v := 32) hx hb d_lw_law_626 (by decide) ?_
  refine lv_lshl hx hb d_lw_law_628 rfl ?_
  refine lv_aload_n hx hb d_lw_law_629 rfl (lv_at hl 1 rfl) ?_
  refine lv_iload hx hb d_lw_law_630 (lv_at hl 0 rfl) ?_
  refine lv_iconst (v := 3) hx hb d_lw_law_632 (by decide) ?_
  refine lv_iadd hx hb d_lw_law_633 ?_
  refine va_sld hx hb hX hbl hbA hS (si 3 (by decide) hr hL) d_lw_law_634 ?_
  refine lv_i2l hx hb d_lw_law_635 rfl ?_
  refine lv_ldc2 (v := 4294967295) hx hb hown (hT _ tb_649) d_lw_law_636 ?_
  refine lv_land hx hb d_lw_law_639 ?_
  refine lv_lor hx hb d_lw_law_640 ?_
  rcases rg_01 (xs ((nI (6 * r)) + (1)).toNatClampNeg) (sg_en u) with hk | hk
  · skip
    refine zy_i (v := 1) (u' := u) (As := [.ref (ad 0), .int (xs ((nI (6 * r)) + (1)).toNatClampNeg), .long ((((xs ((nI (6 * r)) + (2)).toNatClampNeg).toInt64) <<< ((32 : Int32).toInt64 &&& 63)) ||| (((xs ((nI (6 * r)) + (3)).toNatClampNeg).toInt64) &&& (4294967295)))]) (rest := []) ⟨hx, hb, hml, hown, hT⟩ (f_lw_tamper l hl0 D cs ad _ u j (xs ((nI (6 * r)) + (1)).toNatClampNeg) ((((xs ((nI (6 * r)) + (2)).toNatClampNeg).toInt64) <<< ((32 : Int32).toInt64 &&& 63)) ||| (((xs ((nI (6 * r)) + (3)).toNatClampNeg).toInt64) &&& (4294967295))) hk) tb_407 tb_408 tb_0 tb_409 hd_lw_tamper ⟨Nat.le_of_ble_eq_true rfl, Nat.le_of_ble_eq_true rfl⟩ rfl rfl hK hP hD hN hZ hC hl.1 rfl (Nat.le_of_ble_eq_true rfl) d_lw_law_641 ⟨(by show 29 + r + 1 ≤ 1069; omega), (by show 312 + 6 * r + 6 ≤ 8600; omega)⟩ hS hA (fun j1 H locs hpj hP hD hS hq => ?_)
    have hZ := hZ.kept hq
    refine lv_istore (nL := 8) (lv' := [(5, .int (1)), (4, .int (nI (6 * r))), (0, .ref b), (1, .ref (ad 0)), (2, .ref (am 0)), (3, .ref (ad 15))]) hx hb d_lw_law_644 hl (by decide) rfl (fun ls hl => ?_)
    refine lv_aload_n hx hb d_lw_law_646 rfl (lv_at hl 4 rfl) ?_
    refine lv_aload_n hx hb d_lw_law_647 rfl (lv_at hl 2 rfl) ?_
    refine lv_iload hx hb d_lw_law_648 (lv_at hl 1 rfl) ?_
    refine lv_iconst (v := 1) hx hb d_lw_law_650 (by decide) ?_
    refine lv_iadd hx hb d_lw_law_651 ?_
    refine va_sld hx hb hX hbl hbA hS (si 1 (by decide) hr hL) d_lw_law_652 ?_
    refine lv_aload_n hx hb d_lw_law_653 rfl (lv_at hl 2 rfl) ?_
    refine lv_iload hx hb d_lw_law_654 (lv_at hl 1 rfl) ?_
    refine lv_iconst (v := 2) hx hb d_lw_law_656 (by decide) ?_
    refine lv_iadd hx hb d_lw_law_657 ?_
    refine va_sld hx hb hX hbl hbA hS (si 2 (by decide) hr hL) d_lw_law_658 ?_
    refine lv_i2l hx hb d_lw_law_659 rfl ?_
    refine lv_bipush (v := 32) hx hb d_lw_law_660 (by decide) ?_
    refine lv_lshl hx hb d_lw_law_662 rfl ?_
    refine lv_aload_n hx hb d_lw_law_663 rfl (lv_at hl 2 rfl) ?_
    refine lv_iload hx hb d_lw_law_664 (lv_at hl 1 rfl) ?_
    refine lv_iconst (v := 3) hx hb d_lw_law_666 (by decide) ?_
    refine lv_iadd hx hb d_lw_law_667 ?_
    refine va_sld hx hb hX hbl hbA hS (si 3 (by decide) hr hL) d_lw_law_668 ?_
    refine lv_i2l hx hb d_lw_law_669 rfl ?_
    refine lv_ldc2 (v := 4294967295) hx hb hown (hT _ tb_649) d_lw_law_670 ?_
    refine lv_land hx hb d_lw_law_673 ?_
    refine lv_lor hx hb d_lw_law_674 ?_
    refine zm_wrv (w' := u) (As := [.int (xs ((nI (6 * r)) + (1)).toNatClampNeg), .long ((((xs ((nI (6 * r)) + (2)).toNatClampNeg).toInt64) <<< ((32 : Int32).toInt64 &&& 63)) ||| (((xs ((nI (6 * r)) + (3)).toNatClampNeg).toInt64) &&& (4294967295)))]) (rest := []) ⟨hx, hb, hml, hown, hT⟩ (f_md_tamper l D cm am _ u k (xs ((nI (6 * r)) + (1)).toNatClampNeg) ((((xs ((nI (6 * r)) + (2)).toNatClampNeg).toInt64) <<< ((32 : Int32).toInt64 &&& 63)) ||| (((xs ((nI (6 * r)) + (3)).toNatClampNeg).toInt64) &&& (4294967295))) hk) tb_625 tb_626 tb_627 tb_4 tb_628 ⟨rfl, hd_md_tamper⟩ ⟨Nat.le_of_ble_eq_true rfl, Nat.le_of_ble_eq_true rfl⟩ rfl rfl hK hP hD hN 0 3 rfl rfl hl.1 rfl (Nat.le_of_ble_eq_true rfl) d_lw_law_675 ⟨(by show 29 + r + 1 + 0 ≤ 1069; omega), (by show 312 + 6 * r + 6 + 0 ≤ 8600; omega)⟩ hS hA (fun k1 H locs hth hP hD hS hq => ?_)
    have hZ := hZ.kept hq
    have hth : jm_th k1 = 1 := hth
    refine lv_aload_n hx hb d_lw_law_678 rfl (lv_at hl 4 rfl) ?_
    refine zm_rdi (v := jm_th k1) (As := []) (rest := []) ⟨hx, hb, hml, hown, hT⟩ (c_md_thrown l D cm am _ u k1) tb_517 tb_518 tb_519 tb_4 tb_520 ⟨rfl, hd_md_thrown⟩ ⟨Nat.le_of_ble_eq_true rfl, Nat.le_of_ble_eq_true rfl⟩ rfl rfl hK hP hD hN 0 3 rfl rfl hl.1 rfl (Nat.le_of_ble_eq_true rfl) d_lw_law_679 ⟨(by show 29 + r + 1 + 0 ≤ 1069; omega), (by show 312 + 6 * r + 6 + 0 ≤ 8600; omega)⟩ hS hA ?_
    refine lv_iload hx hb d_lw_law_682 (lv_at hl 0 rfl) ?_
    refine lv_icmp_eq hx hb d_lw_law_684 (tgt := 689) (by decide) (fun _ => ?_) (fun z => absurd hth z)
    refine lv_goto hx hb d_lw_law_689 (tgt := 1039) (by decide) ?_
    refine W.widen (k := 30 + r) (n := 318 + 6 * r) (by omega) (by omega) ?_
    exact ih _ _ ls _ _ _ (lv_sub hl [1, 2, 3, 4, 5] rfl) hP hD hS hZ (hok)
  · skip
    refine zy_i (v := 0) (u' := ss_ev u (vp_updL (sg_ev u) (xs ((nI (6 * r)) + (1)).toNatClampNeg).toNatClampNeg (sg_ev u (xs ((nI (6 * r)) + (1)).toNatClampNeg).toNatClampNeg ^^^ ((((xs ((nI (6 * r)) + (2)).toNatClampNeg).toInt64) <<< ((32 : Int32).toInt64 &&& 63)) ||| (((xs ((nI (6 * r)) + (3)).toNatClampNeg).toInt64) &&& (4294967295)))))) (As := [.ref (ad 0), .int (xs ((nI (6 * r)) + (1)).toNatClampNeg), .long ((((xs ((nI (6 * r)) + (2)).toNatClampNeg).toInt64) <<< ((32 : Int32).toInt64 &&& 63)) ||| (((xs ((nI (6 * r)) + (3)).toNatClampNeg).toInt64) &&& (4294967295)))]) (rest := []) ⟨hx, hb, hml, hown, hT⟩ (k_lw_tamper l D cs ad _ u j (xs ((nI (6 * r)) + (1)).toNatClampNeg) ((((xs ((nI (6 * r)) + (2)).toNatClampNeg).toInt64) <<< ((32 : Int32).toInt64 &&& 63)) ||| (((xs ((nI (6 * r)) + (3)).toNatClampNeg).toInt64) &&& (4294967295))) hok hk) tb_407 tb_408 tb_0 tb_409 hd_lw_tamper ⟨Nat.le_of_ble_eq_true rfl, Nat.le_of_ble_eq_true rfl⟩ rfl rfl hK hP hD hN hZ hC hl.1 rfl (Nat.le_of_ble_eq_true rfl) d_lw_law_641 ⟨(by show 29 + r + 0 ≤ 1069; omega), (by show 312 + 6 * r + 0 ≤ 8600; omega)⟩ hS hA (fun j1 H locs hpj hP hD hS hq => ?_)
    have hZ := hZ.kept hq
    refine lv_istore (nL := 8) (lv' := [(5, .int (0)), (4, .int (nI (6 * r))), (0, .ref b), (1, .ref (ad 0)), (2, .ref (am 0)), (3, .ref (ad 15))]) hx hb d_lw_law_644 hl (by decide) rfl (fun ls hl => ?_)
    refine lv_aload_n hx hb d_lw_law_646 rfl (lv_at hl 4 rfl) ?_
    refine lv_aload_n hx hb d_lw_law_647 rfl (lv_at hl 2 rfl) ?_
    refine lv_iload hx hb d_lw_law_648 (lv_at hl 1 rfl) ?_
    refine lv_iconst (v := 1) hx hb d_lw_law_650 (by decide) ?_
    refine lv_iadd hx hb d_lw_law_651 ?_
    refine va_sld hx hb hX hbl hbA hS (si 1 (by decide) hr hL) d_lw_law_652 ?_
    refine lv_aload_n hx hb d_lw_law_653 rfl (lv_at hl 2 rfl) ?_
    refine lv_iload hx hb d_lw_law_654 (lv_at hl 1 rfl) ?_
    refine lv_iconst (v := 2) hx hb d_lw_law_656 (by decide) ?_
    refine lv_iadd hx hb d_lw_law_657 ?_
    refine va_sld hx hb hX hbl hbA hS (si 2 (by decide) hr hL) d_lw_law_658 ?_
    refine lv_i2l hx hb d_lw_law_659 rfl ?_
    refine lv_bipush (v := 32) hx hb d_lw_law_660 (by decide) ?_
    refine lv_lshl hx hb d_lw_law_662 rfl ?_
    refine lv_aload_n hx hb d_lw_law_663 rfl (lv_at hl 2 rfl) ?_
    refine lv_iload hx hb d_lw_law_664 (lv_at hl 1 rfl) ?_
    refine lv_iconst (v := 3) hx hb d_lw_law_666 (by decide) ?_
    refine lv_iadd hx hb d_lw_law_667 ?_
    refine va_sld hx hb hX hbl hbA hS (si 3 (by decide) hr hL) d_lw_law_668 ?_
    refine lv_i2l hx hb d_lw_law_669 rfl ?_
    refine lv_ldc2 (v := 4294967295) hx hb hown (hT _ tb_649) d_lw_law_670 ?_
    refine lv_land hx hb d_lw_law_673 ?_
    refine lv_lor hx hb d_lw_law_674 ?_
    refine zm_wrv (w' := ss_ev u (vp_updL (sg_ev u) (xs ((nI (6 * r)) + (1)).toNatClampNeg).toNatClampNeg (sg_ev u (xs ((nI (6 * r)) + (1)).toNatClampNeg).toNatClampNeg ^^^ ((((xs ((nI (6 * r)) + (2)).toNatClampNeg).toInt64) <<< ((32 : Int32).toInt64 &&& 63)) ||| (((xs ((nI (6 * r)) + (3)).toNatClampNeg).toInt64) &&& (4294967295)))))) (As := [.int (xs ((nI (6 * r)) + (1)).toNatClampNeg), .long ((((xs ((nI (6 * r)) + (2)).toNatClampNeg).toInt64) <<< ((32 : Int32).toInt64 &&& 63)) ||| (((xs ((nI (6 * r)) + (3)).toNatClampNeg).toInt64) &&& (4294967295)))]) (rest := []) ⟨hx, hb, hml, hown, hT⟩ (k_md_tamper l D cm am _ u k (xs ((nI (6 * r)) + (1)).toNatClampNeg) ((((xs ((nI (6 * r)) + (2)).toNatClampNeg).toInt64) <<< ((32 : Int32).toInt64 &&& 63)) ||| (((xs ((nI (6 * r)) + (3)).toNatClampNeg).toInt64) &&& (4294967295))) hok hk) tb_625 tb_626 tb_627 tb_4 tb_628 ⟨rfl, hd_md_tamper⟩ ⟨Nat.le_of_ble_eq_true rfl, Nat.le_of_ble_eq_true rfl⟩ rfl rfl hK hP hD hN 0 3 rfl rfl hl.1 rfl (Nat.le_of_ble_eq_true rfl) d_lw_law_675 ⟨(by show 29 + r + 0 + 0 ≤ 1069; omega), (by show 312 + 6 * r + 0 + 0 ≤ 8600; omega)⟩ hS hA (fun k1 H locs hth hP hD hS hq => ?_)
    have hZ := hZ.kept hq
    have hth : jm_th k1 = 0 := hth
    refine lv_aload_n hx hb d_lw_law_678 rfl (lv_at hl 4 rfl) ?_
    refine zm_rdi (v := jm_th k1) (As := []) (rest := []) ⟨hx, hb, hml, hown, hT⟩ (c_md_thrown l D cm am _ (ss_ev u (vp_updL (sg_ev u) (xs ((nI (6 * r)) + (1)).toNatClampNeg).toNatClampNeg (sg_ev u (xs ((nI (6 * r)) + (1)).toNatClampNeg).toNatClampNeg ^^^ ((((xs ((nI (6 * r)) + (2)).toNatClampNeg).toInt64) <<< ((32 : Int32).toInt64 &&& 63)) ||| (((xs ((nI (6 * r)) + (3)).toNatClampNeg).toInt64) &&& (4294967295)))))) k1) tb_517 tb_518 tb_519 tb_4 tb_520 ⟨rfl, hd_md_thrown⟩ ⟨Nat.le_of_ble_eq_true rfl, Nat.le_of_ble_eq_true rfl⟩ rfl rfl hK hP hD hN 0 3 rfl rfl hl.1 rfl (Nat.le_of_ble_eq_true rfl) d_lw_law_679 ⟨(by show 29 + r + 0 + 0 ≤ 1069; omega), (by show 312 + 6 * r + 0 + 0 ≤ 8600; omega)⟩ hS hA ?_
    refine lv_iload hx hb d_lw_law_682 (lv_at hl 0 rfl) ?_
    refine lv_icmp_eq hx hb d_lw_law_684 (tgt := 689) (by decide) (fun _ => ?_) (fun z => absurd hth z)
    refine lv_goto hx hb d_lw_law_689 (tgt := 1039) (by decide) ?_
    refine W.widen (k := 30 + r) (n := 318 + 6 * r) (by omega) (by omega) ?_
    exact ih _ _ ls _ _ _ (lv_sub hl [1, 2, 3, 4, 5] rfl) hP hD hS hZ (hok)
set_option maxHeartbeats 4000000 in
set_option maxRecDepth 100000 in
theorem lc_13 {p : Program} {l : Launch} {e : Env} {s : State} {m : MethodId} {below : List Frame} {meth : Method} {c : Code} {H : Heap} {locs : List Loc} {Q : State → Prop} {ls : Array Slot} {D : va_G} {cs cm : Nat → ClassId} {ad am : Nat → Nat} {u : Sg} {A : Nat → Prop} {j : Jy} {k : Jm} {b L r : Nat} {xs : Nat → Int32}
    (hl0 : l.stackTraces = false) (hx : p.tables.exec = Jvm.exec) (hb : c.code = b_lw_law) (hml : c.maxLocals = 8) (hown : s.vm.findClass "MeasuredStagesLaw" = some m.cls) (hT : ∀ w ∈ TB, w.before #[Value.ref b] s = true) (hN : xw_N s) (hC : xC s) (hX : va_X b L xs s s.heap) (hbl : b < s.heap.size) (hbA : ¬ A b) (hA : ∀ q, s.heap.size ≤ q → A q) (hr : 6 * r + 6 ≤ L) (hL : L ≤ 3072) (hK : va_K D cx (zty cs cm) s)
    (hP : va_P D cx (zw ad cs am cm u j u k) H) (hD : va_D A (zw ad cs am cm u j u k)) (hS : va_S A s.heap H locs) (hZ : xTA A s H) (hok : sp_ok u) (hl : lv_has ls 8 [(4, .int (nI (6 * r))), (0, .ref b), (1, .ref (ad 0)), (2, .ref (am 0)), (3, .ref (ad 15))])
    (ih : ∀ (H1 : Heap) (locs1 : List Loc) (ls1 : Array Slot) (u1 : Sg) (j1 : Jy) (k1 : Jm), lv_has ls1 8 [(4, .int (nI (6 * r))), (0, .ref b), (1, .ref (ad 0)), (2, .ref (am 0)), (3, .ref (ad 15))] → va_P D cx (zw ad cs am cm u1 j1 u1 k1) H1 → va_D A (zw ad cs am cm u1 j1 u1 k1) → va_S A s.heap H1 locs1 → xTA A s H1 → sp_ok u1 → W p l e room_1 s m #[Value.ref b] below meth c H1 locs1 (30 + r) (318 + 6 * r) Q (F0 m 1039 ls1 [])) :
    W p l e room_1 s m #[Value.ref b] below meth c H locs (29 + r) (312 + 6 * r) Q (F0 m 692 ls []) := by
  refine lv_aload_n hx hb d_lw_law_692 rfl (lv_at hl 2 rfl) ?_
  obtain ⟨⟨n, hn32, hn⟩, hok2⟩ := id hok
  refine zx_wri (v := sp_re u) (u' := u) (As := []) (rest := []) ⟨hx, hb, hml, hown, hT⟩ (c_ms_replays l D cs ad _ u (jyx j) n hok hn32 hn) tb_126 tb_127 tb_128 tb_1 tb_129 ⟨rfl, hd_ms_replays⟩ ⟨Nat.le_of_ble_eq_true rfl, Nat.le_of_ble_eq_true rfl⟩ rfl rfl hK hP hD hN 0 0 rfl rfl hl.1 rfl (Nat.le_of_ble_eq_true rfl) d_lw_law_693 ⟨(by show 29 + r + 0 ≤ 1069; omega), (by show 312 + 6 * r + 0 ≤ 8600; omega)⟩ hS hA (fun j1 H locs hpj hP hD hS hq => ?_)
  have hZ := hZ.kept hq
  refine lv_aload_n hx hb d_lw_law_696 rfl (lv_at hl 3 rfl) ?_
  refine zm_wri (v := sp_re u) (w' := u) (As := []) (rest := [.int (sp_re u)]) ⟨hx, hb, hml, hown, hT⟩ (k_md_replays l D cm am _ u k  n hok hn32 hn) tb_629 tb_630 tb_631 tb_4 tb_632 ⟨rfl, hd_md_replays⟩ ⟨Nat.le_of_ble_eq_true rfl, Nat.le_of_ble_eq_true rfl⟩ rfl rfl hK hP hD hN 0 3 rfl rfl hl.1 rfl (Nat.le_of_ble_eq_true rfl) d_lw_law_697 ⟨(by show 29 + r + 0 + 0 ≤ 1069; omega), (by show 312 + 6 * r + 0 + 0 ≤ 8600; omega)⟩ hS hA (fun k1 H locs hth hP hD hS hq => ?_)
  have hZ := hZ.kept hq
  have hth : jm_th k1 = 0 := hth
  refine lv_icmp_eq hx hb d_lw_law_700 (tgt := 1039) (by decide) (fun _ => ?_) (fun z => absurd rfl z)
  refine W.widen (k := 30 + r) (n := 318 + 6 * r) (by omega) (by omega) ?_
  exact ih _ _ ls _ _ _ (lv_sub hl [0, 1, 2, 3, 4] rfl) hP hD hS hZ (hok)
set_option maxHeartbeats 4000000 in
set_option maxRecDepth 100000 in
theorem lc_14 {p : Program} {l : Launch} {e : Env} {s : State} {m : MethodId} {below : List Frame} {meth : Method} {c : Code} {H : Heap} {locs : List Loc} {Q : State → Prop} {ls : Array Slot} {D : va_G} {cs cm : Nat → ClassId} {ad am : Nat → Nat} {u : Sg} {A : Nat → Prop} {j : Jy} {k : Jm} {b L r : Nat} {xs : Nat → Int32}
    (hl0 : l.stackTraces = false) (hx : p.tables.exec = Jvm.exec) (hb : c.code = b_lw_law) (hml : c.maxLocals = 8) (hown : s.vm.findClass "MeasuredStagesLaw" = some m.cls) (hT : ∀ w ∈ TB, w.before #[Value.ref b] s = true) (hN : xw_N s) (hC : xC s) (hX : va_X b L xs s s.heap) (hbl : b < s.heap.size) (hbA : ¬ A b) (hA : ∀ q, s.heap.size ≤ q → A q) (hr : 6 * r + 6 ≤ L) (hL : L ≤ 3072) (hK : va_K D cx (zty cs cm) s)
    (hP : va_P D cx (zw ad cs am cm u j u k) H) (hD : va_D A (zw ad cs am cm u j u k)) (hS : va_S A s.heap H locs) (hZ : xTA A s H) (hok : sp_ok u) (hl : lv_has ls 8 [(4, .int (nI (6 * r))), (0, .ref b), (1, .ref (ad 0)), (2, .ref (am 0)), (3, .ref (ad 15))])
    (ih : ∀ (H1 : Heap) (locs1 : List Loc) (ls1 : Array Slot) (u1 : Sg) (j1 : Jy) (k1 : Jm), lv_has ls1 8 [(4, .int (nI (6 * r))), (0, .ref b), (1, .ref (ad 0)), (2, .ref (am 0)), (3, .ref (ad 15))] → va_P D cx (zw ad cs am cm u1 j1 u1 k1) H1 → va_D A (zw ad cs am cm u1 j1 u1 k1) → va_S A s.heap H1 locs1 → xTA A s H1 → sp_ok u1 → W p l e room_1 s m #[Value.ref b] below meth c H1 locs1 (30 + r) (318 + 6 * r) Q (F0 m 1039 ls1 [])) :
    W p l e room_1 s m #[Value.ref b] below meth c H locs (29 + r) (312 + 6 * r) Q (F0 m 705 ls []) := by
  refine lv_aload_n hx hb d_lw_law_705 rfl (lv_at hl 2 rfl) ?_
  refine lv_aload_n hx hb d_lw_law_706 rfl (lv_at hl 1 rfl) ?_
  refine lv_iload hx hb d_lw_law_707 (lv_at hl 0 rfl) ?_
  refine lv_iconst (v := 1) hx hb d_lw_law_709 (by decide) ?_
  refine lv_iadd hx hb d_lw_law_710 ?_
  refine va_sld hx hb hX hbl hbA hS (si 1 (by decide) hr hL) d_lw_law_711 ?_
  refine lv_aload_n hx hb d_lw_law_712 rfl (lv_at hl 1 rfl) ?_
  refine lv_iload hx hb d_lw_law_713 (lv_at hl 0 rfl) ?_
  refine lv_iconst (v := 2) hx hb d_lw_law_715 (by decide) ?_
  refine lv_iadd hx hb d_lw_law_716 ?_
  refine va_sld hx hb hX hbl hbA hS (si 2 (by decide) hr hL) d_lw_law_717 ?_
  refine lv_i2l hx hb d_lw_law_718 rfl ?_
  refine lv_bipush (v := 32) hx hb d_lw_law_719 (by decide) ?_
  refine lv_lshl hx hb d_lw_law_721 rfl ?_
  refine lv_aload_n hx hb d_lw_law_722 rfl (lv_at hl 1 rfl) ?_
  refine lv_iload hx hb d_lw_law_723 (lv_at hl 0 rfl) ?_
  refine lv_iconst (v := 3) hx hb d_lw_law_725 (by decide) ?_
  refine lv_iadd hx hb d_lw_law_726 ?_
  refine va_sld hx hb hX hbl hbA hS (si 3 (by decide) hr hL) d_lw_law_727 ?_
  refine lv_i2l hx hb d_lw_law_728 rfl ?_
  refine lv_ldc2 (v := 4294967295) hx hb hown (hT _ tb_649) d_lw_law_729 ?_
  refine lv_land hx hb d_lw_law_732 ?_
  refine lv_lor hx hb d_lw_law_733 ?_
  refine lv_aload_n hx hb d_lw_law_734 rfl (lv_at hl 4 rfl) ?_
  rcases mk_01 (xs ((nI (6 * r)) + (1)).toNatClampNeg) with hm | hm
  · skip
    refine zy_i (v := 1) (u' := u) (As := [.ref (ad 0), .int (xs ((nI (6 * r)) + (1)).toNatClampNeg), .long ((((xs ((nI (6 * r)) + (2)).toNatClampNeg).toInt64) <<< ((32 : Int32).toInt64 &&& 63)) ||| (((xs ((nI (6 * r)) + (3)).toNatClampNeg).toInt64) &&& (4294967295))), .ref (ad 15)]) (rest := []) ⟨hx, hb, hml, hown, hT⟩ (f_lw_seal l hl0 D cs ad _ u j (xs ((nI (6 * r)) + (1)).toNatClampNeg) ((((xs ((nI (6 * r)) + (2)).toNatClampNeg).toInt64) <<< ((32 : Int32).toInt64 &&& 63)) ||| (((xs ((nI (6 * r)) + (3)).toNatClampNeg).toInt64) &&& (4294967295))) hm) tb_414 tb_415 tb_0 tb_416 hd_lw_seal ⟨Nat.le_of_ble_eq_true rfl, Nat.le_of_ble_eq_true rfl⟩ rfl rfl hK hP hD hN hZ hC hl.1 rfl (Nat.le_of_ble_eq_true rfl) d_lw_law_735 ⟨(by show 29 + r + 1 ≤ 1069; omega), (by show 312 + 6 * r + 6 ≤ 8600; omega)⟩ hS hA (fun j1 H locs hpj hP hD hS hq => ?_)
    have hZ := hZ.kept hq
    refine lv_istore (nL := 8) (lv' := [(5, .int (1)), (4, .int (nI (6 * r))), (0, .ref b), (1, .ref (ad 0)), (2, .ref (am 0)), (3, .ref (ad 15))]) hx hb d_lw_law_738 hl (by decide) rfl (fun ls hl => ?_)
    refine lv_aload_n hx hb d_lw_law_740 rfl (lv_at hl 4 rfl) ?_
    refine lv_aload_n hx hb d_lw_law_741 rfl (lv_at hl 2 rfl) ?_
    refine lv_iload hx hb d_lw_law_742 (lv_at hl 1 rfl) ?_
    refine lv_iconst (v := 1) hx hb d_lw_law_744 (by decide) ?_
    refine lv_iadd hx hb d_lw_law_745 ?_
    refine va_sld hx hb hX hbl hbA hS (si 1 (by decide) hr hL) d_lw_law_746 ?_
    refine lv_aload_n hx hb d_lw_law_747 rfl (lv_at hl 2 rfl) ?_
    refine lv_iload hx hb d_lw_law_748 (lv_at hl 1 rfl) ?_
    refine lv_iconst (v := 2) hx hb d_lw_law_750 (by decide) ?_
    refine lv_iadd hx hb d_lw_law_751 ?_
    refine va_sld hx hb hX hbl hbA hS (si 2 (by decide) hr hL) d_lw_law_752 ?_
    refine lv_i2l hx hb d_lw_law_753 rfl ?_
    refine lv_bipush (v := 32) hx hb d_lw_law_754 (by decide) ?_
    refine lv_lshl hx hb d_lw_law_756 rfl ?_
    refine lv_aload_n hx hb d_lw_law_757 rfl (lv_at hl 2 rfl) ?_
    refine lv_iload hx hb d_lw_law_758 (lv_at hl 1 rfl) ?_
    refine lv_iconst (v := 3) hx hb d_lw_law_760 (by decide) ?_
    refine lv_iadd hx hb d_lw_law_761 ?_
    refine va_sld hx hb hX hbl hbA hS (si 3 (by decide) hr hL) d_lw_law_762 ?_
    refine lv_i2l hx hb d_lw_law_763 rfl ?_
    refine lv_ldc2 (v := 4294967295) hx hb hown (hT _ tb_649) d_lw_law_764 ?_
    refine lv_land hx hb d_lw_law_767 ?_
    refine lv_lor hx hb d_lw_law_768 ?_
    refine zm_wri (v := 0) (w' := u) (As := [.int (xs ((nI (6 * r)) + (1)).toNatClampNeg), .long ((((xs ((nI (6 * r)) + (2)).toNatClampNeg).toInt64) <<< ((32 : Int32).toInt64 &&& 63)) ||| (((xs ((nI (6 * r)) + (3)).toNatClampNeg).toInt64) &&& (4294967295)))]) (rest := []) ⟨hx, hb, hml, hown, hT⟩ (f_md_seal l D cm am _ u k (xs ((nI (6 * r)) + (1)).toNatClampNeg) ((((xs ((nI (6 * r)) + (2)).toNatClampNeg).toInt64) <<< ((32 : Int32).toInt64 &&& 63)) ||| (((xs ((nI (6 * r)) + (3)).toNatClampNeg).toInt64) &&& (4294967295))) hm) tb_633 tb_634 tb_635 tb_4 tb_636 ⟨rfl, hd_md_seal⟩ ⟨Nat.le_of_ble_eq_true rfl, Nat.le_of_ble_eq_true rfl⟩ rfl rfl hK hP hD hN 0 3 rfl rfl hl.1 rfl (Nat.le_of_ble_eq_true rfl) d_lw_law_769 ⟨(by show 29 + r + 1 + 0 ≤ 1069; omega), (by show 312 + 6 * r + 6 + 0 ≤ 8600; omega)⟩ hS hA (fun k1 H locs hth hP hD hS hq => ?_)
    have hZ := hZ.kept hq
    have hth : jm_th k1 = 1 := hth
    refine lv_istore (nL := 8) (lv' := [(6, .int (0)), (5, .int (1)), (4, .int (nI (6 * r))), (0, .ref b), (1, .ref (ad 0)), (2, .ref (am 0)), (3, .ref (ad 15))]) hx hb d_lw_law_772 hl (by decide) rfl (fun ls hl => ?_)
    refine lv_aload_n hx hb d_lw_law_774 rfl (lv_at hl 5 rfl) ?_
    refine zm_rdi (v := jm_th k1) (As := []) (rest := []) ⟨hx, hb, hml, hown, hT⟩ (c_md_thrown l D cm am _ u k1) tb_517 tb_518 tb_519 tb_4 tb_520 ⟨rfl, hd_md_thrown⟩ ⟨Nat.le_of_ble_eq_true rfl, Nat.le_of_ble_eq_true rfl⟩ rfl rfl hK hP hD hN 0 3 rfl rfl hl.1 rfl (Nat.le_of_ble_eq_true rfl) d_lw_law_775 ⟨(by show 29 + r + 1 + 0 ≤ 1069; omega), (by show 312 + 6 * r + 6 + 0 ≤ 8600; omega)⟩ hS hA ?_
    refine lv_iload hx hb d_lw_law_778 (lv_at hl 1 rfl) ?_
    refine lv_icmp_eq hx hb d_lw_law_780 (tgt := 785) (by decide) (fun _ => ?_) (fun z => absurd hth z)
    refine lv_iload hx hb d_lw_law_785 (lv_at hl 1 rfl) ?_
    refine lv_if_ne hx hb d_lw_law_787 (tgt := 802) (by decide) (fun _ => ?_) (fun z => absurd z (by decide))
    refine lv_goto hx hb d_lw_law_802 (tgt := 1039) (by decide) ?_
    refine W.widen (k := 30 + r) (n := 318 + 6 * r) (by omega) (by omega) ?_
    exact ih _ _ ls _ _ _ (lv_sub hl [2, 3, 4, 5, 6] rfl) hP hD hS hZ (hok)
  · skip
    by_cases hk : sp_lf (sg_ma u) < 0
    · skip
      refine zy_i (v := 2) (u' := u) (As := [.ref (ad 0), .int (xs ((nI (6 * r)) + (1)).toNatClampNeg), .long ((((xs ((nI (6 * r)) + (2)).toNatClampNeg).toInt64) <<< ((32 : Int32).toInt64 &&& 63)) ||| (((xs ((nI (6 * r)) + (3)).toNatClampNeg).toInt64) &&& (4294967295))), .ref (ad 15)]) (rest := []) ⟨hx, hb, hml, hown, hT⟩ (g_lw_seal l hl0 D cs ad _ u j (xs ((nI (6 * r)) + (1)).toNatClampNeg) ((((xs ((nI (6 * r)) + (2)).toNatClampNeg).toInt64) <<< ((32 : Int32).toInt64 &&& 63)) ||| (((xs ((nI (6 * r)) + (3)).toNatClampNeg).toInt64) &&& (4294967295))) hm (lf_m1 hk)) tb_414 tb_415 tb_0 tb_416 hd_lw_seal ⟨Nat.le_of_ble_eq_true rfl, Nat.le_of_ble_eq_true rfl⟩ rfl rfl hK hP hD hN hZ hC hl.1 rfl (Nat.le_of_ble_eq_true rfl) d_lw_law_735 ⟨(by show 29 + r + 1 ≤ 1069; omega), (by show 312 + 6 * r + 6 ≤ 8600; omega)⟩ hS hA (fun j1 H locs hpj hP hD hS hq => ?_)
      have hZ := hZ.kept hq
      refine lv_istore (nL := 8) (lv' := [(5, .int (2)), (4, .int (nI (6 * r))), (0, .ref b), (1, .ref (ad 0)), (2, .ref (am 0)), (3, .ref (ad 15))]) hx hb d_lw_law_738 hl (by decide) rfl (fun ls hl => ?_)
      refine lv_aload_n hx hb d_lw_law_740 rfl (lv_at hl 4 rfl) ?_
      refine lv_aload_n hx hb d_lw_law_741 rfl (lv_at hl 2 rfl) ?_
      refine lv_iload hx hb d_lw_law_742 (lv_at hl 1 rfl) ?_
      refine lv_iconst (v := 1) hx hb d_lw_law_744 (by decide) ?_
      refine lv_iadd hx hb d_lw_law_745 ?_
      refine va_sld hx hb hX hbl hbA hS (si 1 (by decide) hr hL) d_lw_law_746 ?_
      refine lv_aload_n hx hb d_lw_law_747 rfl (lv_at hl 2 rfl) ?_
      refine lv_iload hx hb d_lw_law_748 (lv_at hl 1 rfl) ?_
      refine lv_iconst (v := 2) hx hb d_lw_law_750 (by decide) ?_
      refine lv_iadd hx hb d_lw_law_751 ?_
      refine va_sld hx hb hX hbl hbA hS (si 2 (by decide) hr hL) d_lw_law_752 ?_
      refine lv_i2l hx hb d_lw_law_753 rfl ?_
      refine lv_bipush (v := 32) hx hb d_lw_law_754 (by decide) ?_
      refine lv_lshl hx hb d_lw_law_756 rfl ?_
      refine lv_aload_n hx hb d_lw_law_757 rfl (lv_at hl 2 rfl) ?_
      refine lv_iload hx hb d_lw_law_758 (lv_at hl 1 rfl) ?_
      refine lv_iconst (v := 3) hx hb d_lw_law_760 (by decide) ?_
      refine lv_iadd hx hb d_lw_law_761 ?_
      refine va_sld hx hb hX hbl hbA hS (si 3 (by decide) hr hL) d_lw_law_762 ?_
      refine lv_i2l hx hb d_lw_law_763 rfl ?_
      refine lv_ldc2 (v := 4294967295) hx hb hown (hT _ tb_649) d_lw_law_764 ?_
      refine lv_land hx hb d_lw_law_767 ?_
      refine lv_lor hx hb d_lw_law_768 ?_
      refine zm_wri (v := 0) (w' := u) (As := [.int (xs ((nI (6 * r)) + (1)).toNatClampNeg), .long ((((xs ((nI (6 * r)) + (2)).toNatClampNeg).toInt64) <<< ((32 : Int32).toInt64 &&& 63)) ||| (((xs ((nI (6 * r)) + (3)).toNatClampNeg).toInt64) &&& (4294967295)))]) (rest := []) ⟨hx, hb, hml, hown, hT⟩ (g_md_seal l D cm am _ u k (xs ((nI (6 * r)) + (1)).toNatClampNeg) ((((xs ((nI (6 * r)) + (2)).toNatClampNeg).toInt64) <<< ((32 : Int32).toInt64 &&& 63)) ||| (((xs ((nI (6 * r)) + (3)).toNatClampNeg).toInt64) &&& (4294967295))) hm (lf_m1 hk)) tb_633 tb_634 tb_635 tb_4 tb_636 ⟨rfl, hd_md_seal⟩ ⟨Nat.le_of_ble_eq_true rfl, Nat.le_of_ble_eq_true rfl⟩ rfl rfl hK hP hD hN 0 3 rfl rfl hl.1 rfl (Nat.le_of_ble_eq_true rfl) d_lw_law_769 ⟨(by show 29 + r + 1 + 0 ≤ 1069; omega), (by show 312 + 6 * r + 6 + 0 ≤ 8600; omega)⟩ hS hA (fun k1 H locs hth hP hD hS hq => ?_)
      have hZ := hZ.kept hq
      have hth : jm_th k1 = 2 := hth
      refine lv_istore (nL := 8) (lv' := [(6, .int (0)), (5, .int (2)), (4, .int (nI (6 * r))), (0, .ref b), (1, .ref (ad 0)), (2, .ref (am 0)), (3, .ref (ad 15))]) hx hb d_lw_law_772 hl (by decide) rfl (fun ls hl => ?_)
      refine lv_aload_n hx hb d_lw_law_774 rfl (lv_at hl 5 rfl) ?_
      refine zm_rdi (v := jm_th k1) (As := []) (rest := []) ⟨hx, hb, hml, hown, hT⟩ (c_md_thrown l D cm am _ u k1) tb_517 tb_518 tb_519 tb_4 tb_520 ⟨rfl, hd_md_thrown⟩ ⟨Nat.le_of_ble_eq_true rfl, Nat.le_of_ble_eq_true rfl⟩ rfl rfl hK hP hD hN 0 3 rfl rfl hl.1 rfl (Nat.le_of_ble_eq_true rfl) d_lw_law_775 ⟨(by show 29 + r + 1 + 0 ≤ 1069; omega), (by show 312 + 6 * r + 6 + 0 ≤ 8600; omega)⟩ hS hA ?_
      refine lv_iload hx hb d_lw_law_778 (lv_at hl 1 rfl) ?_
      refine lv_icmp_eq hx hb d_lw_law_780 (tgt := 785) (by decide) (fun _ => ?_) (fun z => absurd hth z)
      refine lv_iload hx hb d_lw_law_785 (lv_at hl 1 rfl) ?_
      refine lv_if_ne hx hb d_lw_law_787 (tgt := 802) (by decide) (fun _ => ?_) (fun z => absurd z (by decide))
      refine lv_goto hx hb d_lw_law_802 (tgt := 1039) (by decide) ?_
      refine W.widen (k := 30 + r) (n := 318 + 6 * r) (by omega) (by omega) ?_
      exact ih _ _ ls _ _ _ (lv_sub hl [2, 3, 4, 5, 6] rfl) hP hD hS hZ (hok)
    · skip
      refine zy_i (v := 0) (u' := sp_fi u (sp_lf (sg_ma u)) (xs ((nI (6 * r)) + (1)).toNatClampNeg) ((((xs ((nI (6 * r)) + (2)).toNatClampNeg).toInt64) <<< ((32 : Int32).toInt64 &&& 63)) ||| (((xs ((nI (6 * r)) + (3)).toNatClampNeg).toInt64) &&& (4294967295)))) (As := [.ref (ad 0), .int (xs ((nI (6 * r)) + (1)).toNatClampNeg), .long ((((xs ((nI (6 * r)) + (2)).toNatClampNeg).toInt64) <<< ((32 : Int32).toInt64 &&& 63)) ||| (((xs ((nI (6 * r)) + (3)).toNatClampNeg).toInt64) &&& (4294967295))), .ref (ad 15)]) (rest := []) ⟨hx, hb, hml, hown, hT⟩ (k_lw_seal l D cs ad _ u j (xs ((nI (6 * r)) + (1)).toNatClampNeg) ((((xs ((nI (6 * r)) + (2)).toNatClampNeg).toInt64) <<< ((32 : Int32).toInt64 &&& 63)) ||| (((xs ((nI (6 * r)) + (3)).toNatClampNeg).toInt64) &&& (4294967295))) hm (lf_in hk)) tb_414 tb_415 tb_0 tb_416 hd_lw_seal ⟨Nat.le_of_ble_eq_true rfl, Nat.le_of_ble_eq_true rfl⟩ rfl rfl hK hP hD hN hZ hC hl.1 rfl (Nat.le_of_ble_eq_true rfl) d_lw_law_735 ⟨(by show 29 + r + 0 ≤ 1069; omega), (by show 312 + 6 * r + 0 ≤ 8600; omega)⟩ hS hA (fun j1 H locs hpj hP hD hS hq => ?_)
      have hZ := hZ.kept hq
      refine lv_istore (nL := 8) (lv' := [(5, .int (0)), (4, .int (nI (6 * r))), (0, .ref b), (1, .ref (ad 0)), (2, .ref (am 0)), (3, .ref (ad 15))]) hx hb d_lw_law_738 hl (by decide) rfl (fun ls hl => ?_)
      refine lv_aload_n hx hb d_lw_law_740 rfl (lv_at hl 4 rfl) ?_
      refine lv_aload_n hx hb d_lw_law_741 rfl (lv_at hl 2 rfl) ?_
      refine lv_iload hx hb d_lw_law_742 (lv_at hl 1 rfl) ?_
      refine lv_iconst (v := 1) hx hb d_lw_law_744 (by decide) ?_
      refine lv_iadd hx hb d_lw_law_745 ?_
      refine va_sld hx hb hX hbl hbA hS (si 1 (by decide) hr hL) d_lw_law_746 ?_
      refine lv_aload_n hx hb d_lw_law_747 rfl (lv_at hl 2 rfl) ?_
      refine lv_iload hx hb d_lw_law_748 (lv_at hl 1 rfl) ?_
      refine lv_iconst (v := 2) hx hb d_lw_law_750 (by decide) ?_
      refine lv_iadd hx hb d_lw_law_751 ?_
      refine va_sld hx hb hX hbl hbA hS (si 2 (by decide) hr hL) d_lw_law_752 ?_
      refine lv_i2l hx hb d_lw_law_753 rfl ?_
      refine lv_bipush (v := 32) hx hb d_lw_law_754 (by decide) ?_
      refine lv_lshl hx hb d_lw_law_756 rfl ?_
      refine lv_aload_n hx hb d_lw_law_757 rfl (lv_at hl 2 rfl) ?_
      refine lv_iload hx hb d_lw_law_758 (lv_at hl 1 rfl) ?_
      refine lv_iconst (v := 3) hx hb d_lw_law_760 (by decide) ?_
      refine lv_iadd hx hb d_lw_law_761 ?_
      refine va_sld hx hb hX hbl hbA hS (si 3 (by decide) hr hL) d_lw_law_762 ?_
      refine lv_i2l hx hb d_lw_law_763 rfl ?_
      refine lv_ldc2 (v := 4294967295) hx hb hown (hT _ tb_649) d_lw_law_764 ?_
      refine lv_land hx hb d_lw_law_767 ?_
      refine lv_lor hx hb d_lw_law_768 ?_
      refine zm_wri (v := sp_lf (sg_ma u)) (w' := sp_fi u (sp_lf (sg_ma u)) (xs ((nI (6 * r)) + (1)).toNatClampNeg) ((((xs ((nI (6 * r)) + (2)).toNatClampNeg).toInt64) <<< ((32 : Int32).toInt64 &&& 63)) ||| (((xs ((nI (6 * r)) + (3)).toNatClampNeg).toInt64) &&& (4294967295)))) (As := [.int (xs ((nI (6 * r)) + (1)).toNatClampNeg), .long ((((xs ((nI (6 * r)) + (2)).toNatClampNeg).toInt64) <<< ((32 : Int32).toInt64 &&& 63)) ||| (((xs ((nI (6 * r)) + (3)).toNatClampNeg).toInt64) &&& (4294967295)))]) (rest := []) ⟨hx, hb, hml, hown, hT⟩ (k_md_seal l D cm am _ u k (xs ((nI (6 * r)) + (1)).toNatClampNeg) ((((xs ((nI (6 * r)) + (2)).toNatClampNeg).toInt64) <<< ((32 : Int32).toInt64 &&& 63)) ||| (((xs ((nI (6 * r)) + (3)).toNatClampNeg).toInt64) &&& (4294967295))) hm (lf_in hk)) tb_633 tb_634 tb_635 tb_4 tb_636 ⟨rfl, hd_md_seal⟩ ⟨Nat.le_of_ble_eq_true rfl, Nat.le_of_ble_eq_true rfl⟩ rfl rfl hK hP hD hN 0 3 rfl rfl hl.1 rfl (Nat.le_of_ble_eq_true rfl) d_lw_law_769 ⟨(by show 29 + r + 0 + 0 ≤ 1069; omega), (by show 312 + 6 * r + 0 + 0 ≤ 8600; omega)⟩ hS hA (fun k1 H locs hth hP hD hS hq => ?_)
      have hZ := hZ.kept hq
      have hth : jm_th k1 = 0 := hth
      refine lv_istore (nL := 8) (lv' := [(6, .int (sp_lf (sg_ma u))), (5, .int (0)), (4, .int (nI (6 * r))), (0, .ref b), (1, .ref (ad 0)), (2, .ref (am 0)), (3, .ref (ad 15))]) hx hb d_lw_law_772 hl (by decide) rfl (fun ls hl => ?_)
      refine lv_aload_n hx hb d_lw_law_774 rfl (lv_at hl 5 rfl) ?_
      refine zm_rdi (v := jm_th k1) (As := []) (rest := []) ⟨hx, hb, hml, hown, hT⟩ (c_md_thrown l D cm am _ (sp_fi u (sp_lf (sg_ma u)) (xs ((nI (6 * r)) + (1)).toNatClampNeg) ((((xs ((nI (6 * r)) + (2)).toNatClampNeg).toInt64) <<< ((32 : Int32).toInt64 &&& 63)) ||| (((xs ((nI (6 * r)) + (3)).toNatClampNeg).toInt64) &&& (4294967295)))) k1) tb_517 tb_518 tb_519 tb_4 tb_520 ⟨rfl, hd_md_thrown⟩ ⟨Nat.le_of_ble_eq_true rfl, Nat.le_of_ble_eq_true rfl⟩ rfl rfl hK hP hD hN 0 3 rfl rfl hl.1 rfl (Nat.le_of_ble_eq_true rfl) d_lw_law_775 ⟨(by show 29 + r + 0 + 0 ≤ 1069; omega), (by show 312 + 6 * r + 0 + 0 ≤ 8600; omega)⟩ hS hA ?_
      refine lv_iload hx hb d_lw_law_778 (lv_at hl 1 rfl) ?_
      refine lv_icmp_eq hx hb d_lw_law_780 (tgt := 785) (by decide) (fun _ => ?_) (fun z => absurd hth z)
      refine lv_iload hx hb d_lw_law_785 (lv_at hl 1 rfl) ?_
      refine lv_if_ne hx hb d_lw_law_787 (tgt := 802) (by decide) (fun z => absurd (by decide) z) (fun _ => ?_)
      refine lv_aload_n hx hb d_lw_law_790 rfl (lv_at hl 6 rfl) ?_
      refine lv_iconst (v := 0) hx hb d_lw_law_791 (by decide) ?_
      refine va_lald hx hb hK hP 0 0 rfl rfl (by unfold vp_in; decide) d_lw_law_792 ?_
      refine lv_iload hx hb d_lw_law_793 (lv_at hl 0 rfl) ?_
      refine lv_i2l hx hb d_lw_law_795 rfl ?_
      refine W.lcmp hx hb d_lw_law_796 ?_
      refine lv_if_eq hx hb d_lw_law_797 (tgt := 802) (by decide) (fun _ => ?_) (fun z => absurd (sp_cmp.mpr hpj) z)
      refine lv_goto hx hb d_lw_law_802 (tgt := 1039) (by decide) ?_
      refine W.widen (k := 30 + r) (n := 318 + 6 * r) (by omega) (by omega) ?_
      exact ih _ _ ls _ _ _ (lv_sub hl [2, 3, 4, 5, 6] rfl) hP hD hS hZ (ok_fi hok)
set_option maxHeartbeats 4000000 in
set_option maxRecDepth 100000 in
theorem lc_15 {p : Program} {l : Launch} {e : Env} {s : State} {m : MethodId} {below : List Frame} {meth : Method} {c : Code} {H : Heap} {locs : List Loc} {Q : State → Prop} {ls : Array Slot} {D : va_G} {cs cm : Nat → ClassId} {ad am : Nat → Nat} {u : Sg} {A : Nat → Prop} {j : Jy} {k : Jm} {b L r : Nat} {xs : Nat → Int32}
    (hl0 : l.stackTraces = false) (hx : p.tables.exec = Jvm.exec) (hb : c.code = b_lw_law) (hml : c.maxLocals = 8) (hown : s.vm.findClass "MeasuredStagesLaw" = some m.cls) (hT : ∀ w ∈ TB, w.before #[Value.ref b] s = true) (hN : xw_N s) (hC : xC s) (hX : va_X b L xs s s.heap) (hbl : b < s.heap.size) (hbA : ¬ A b) (hA : ∀ q, s.heap.size ≤ q → A q) (hr : 6 * r + 6 ≤ L) (hL : L ≤ 3072) (hK : va_K D cx (zty cs cm) s)
    (hP : va_P D cx (zw ad cs am cm u j u k) H) (hD : va_D A (zw ad cs am cm u j u k)) (hS : va_S A s.heap H locs) (hZ : xTA A s H) (hok : sp_ok u) (hl : lv_has ls 8 [(4, .int (nI (6 * r))), (0, .ref b), (1, .ref (ad 0)), (2, .ref (am 0)), (3, .ref (ad 15))])
    (ih : ∀ (H1 : Heap) (locs1 : List Loc) (ls1 : Array Slot) (u1 : Sg) (j1 : Jy) (k1 : Jm), lv_has ls1 8 [(4, .int (nI (6 * r))), (0, .ref b), (1, .ref (ad 0)), (2, .ref (am 0)), (3, .ref (ad 15))] → va_P D cx (zw ad cs am cm u1 j1 u1 k1) H1 → va_D A (zw ad cs am cm u1 j1 u1 k1) → va_S A s.heap H1 locs1 → xTA A s H1 → sp_ok u1 → W p l e room_1 s m #[Value.ref b] below meth c H1 locs1 (30 + r) (318 + 6 * r) Q (F0 m 1039 ls1 [])) :
    W p l e room_1 s m #[Value.ref b] below meth c H locs (29 + r) (312 + 6 * r) Q (F0 m 805 ls []) := by
  refine lv_aload_n hx hb d_lw_law_805 rfl (lv_at hl 2 rfl) ?_
  refine lv_aload_n hx hb d_lw_law_806 rfl (lv_at hl 1 rfl) ?_
  refine lv_iload hx hb d_lw_law_807 (lv_at hl 0 rfl) ?_
  refine lv_iconst (v := 1) hx hb d_lw_law_809 (by decide) ?_
  refine lv_iadd hx hb d_lw_law_810 ?_
  refine va_sld hx hb hX hbl hbA hS (si 1 (by decide) hr hL) d_lw_law_811 ?_
  refine lv_aload_n hx hb d_lw_law_812 rfl (lv_at hl 4 rfl) ?_
  rcases tk_01 (sg_ma u) (xs ((nI (6 * r)) + (1)).toNatClampNeg) with h0 | h0
  · skip
    refine zy_i (v := 1) (u' := u) (As := [.ref (ad 0), .int (xs ((nI (6 * r)) + (1)).toNatClampNeg), .ref (ad 15)]) (rest := []) ⟨hx, hb, hml, hown, hT⟩ (f_lw_unseal l hl0 D cs ad _ u j (xs ((nI (6 * r)) + (1)).toNatClampNeg) h0) tb_426 tb_427 tb_0 tb_428 hd_lw_unseal ⟨Nat.le_of_ble_eq_true rfl, Nat.le_of_ble_eq_true rfl⟩ rfl rfl hK hP hD hN hZ hC hl.1 rfl (Nat.le_of_ble_eq_true rfl) d_lw_law_813 ⟨(by show 29 + r + 1 ≤ 1069; omega), (by show 312 + 6 * r + 6 ≤ 8600; omega)⟩ hS hA (fun j1 H locs hpj hP hD hS hq => ?_)
    have hZ := hZ.kept hq
    refine lv_istore (nL := 8) (lv' := [(5, .int (1)), (4, .int (nI (6 * r))), (0, .ref b), (1, .ref (ad 0)), (2, .ref (am 0)), (3, .ref (ad 15))]) hx hb d_lw_law_816 hl (by decide) rfl (fun ls hl => ?_)
    refine lv_aload_n hx hb d_lw_law_818 rfl (lv_at hl 4 rfl) ?_
    refine lv_aload_n hx hb d_lw_law_819 rfl (lv_at hl 2 rfl) ?_
    refine lv_iload hx hb d_lw_law_820 (lv_at hl 1 rfl) ?_
    refine lv_iconst (v := 1) hx hb d_lw_law_822 (by decide) ?_
    refine lv_iadd hx hb d_lw_law_823 ?_
    refine va_sld hx hb hX hbl hbA hS (si 1 (by decide) hr hL) d_lw_law_824 ?_
    refine zm_wrl (v := 0) (w' := u) (As := [.int (xs ((nI (6 * r)) + (1)).toNatClampNeg)]) (rest := []) ⟨hx, hb, hml, hown, hT⟩ (f_md_unseal l D cm am _ u k (xs ((nI (6 * r)) + (1)).toNatClampNeg) h0) tb_637 tb_638 tb_639 tb_4 tb_640 ⟨rfl, hd_md_unseal⟩ ⟨Nat.le_of_ble_eq_true rfl, Nat.le_of_ble_eq_true rfl⟩ rfl rfl hK hP hD hN 0 3 rfl rfl hl.1 rfl (Nat.le_of_ble_eq_true rfl) d_lw_law_825 ⟨(by show 29 + r + 1 + 0 ≤ 1069; omega), (by show 312 + 6 * r + 6 + 0 ≤ 8600; omega)⟩ hS hA (fun k1 H locs hth hP hD hS hq => ?_)
    have hZ := hZ.kept hq
    have hth : jm_th k1 = 1 := hth
    refine lv_lstore (nL := 8) (lv' := [(6, .long (0)), (5, .int (1)), (4, .int (nI (6 * r))), (0, .ref b), (1, .ref (ad 0)), (2, .ref (am 0)), (3, .ref (ad 15))]) hx hb d_lw_law_828 hl (by decide) rfl (fun ls hl => ?_)
    refine lv_aload_n hx hb d_lw_law_830 rfl (lv_at hl 5 rfl) ?_
    refine zm_rdi (v := jm_th k1) (As := []) (rest := []) ⟨hx, hb, hml, hown, hT⟩ (c_md_thrown l D cm am _ u k1) tb_517 tb_518 tb_519 tb_4 tb_520 ⟨rfl, hd_md_thrown⟩ ⟨Nat.le_of_ble_eq_true rfl, Nat.le_of_ble_eq_true rfl⟩ rfl rfl hK hP hD hN 0 3 rfl rfl hl.1 rfl (Nat.le_of_ble_eq_true rfl) d_lw_law_831 ⟨(by show 29 + r + 1 + 0 ≤ 1069; omega), (by show 312 + 6 * r + 6 + 0 ≤ 8600; omega)⟩ hS hA ?_
    refine lv_iload hx hb d_lw_law_834 (lv_at hl 1 rfl) ?_
    refine lv_icmp_eq hx hb d_lw_law_836 (tgt := 841) (by decide) (fun _ => ?_) (fun z => absurd hth z)
    refine lv_iload hx hb d_lw_law_841 (lv_at hl 1 rfl) ?_
    refine lv_if_ne hx hb d_lw_law_843 (tgt := 857) (by decide) (fun _ => ?_) (fun z => absurd z (by decide))
    refine lv_goto hx hb d_lw_law_857 (tgt := 1039) (by decide) ?_
    refine W.widen (k := 30 + r) (n := 318 + 6 * r) (by omega) (by omega) ?_
    exact ih _ _ ls _ _ _ (lv_sub hl [2, 3, 4, 5, 6] rfl) hP hD hS hZ (hok)
  · skip
    rcases on_01 u (xs ((nI (6 * r)) + (1)).toNatClampNeg) with h1 | h1
    · skip
      refine zy_i (v := 2) (u' := u) (As := [.ref (ad 0), .int (xs ((nI (6 * r)) + (1)).toNatClampNeg), .ref (ad 15)]) (rest := []) ⟨hx, hb, hml, hown, hT⟩ (g_lw_unseal l hl0 D cs ad _ u j (xs ((nI (6 * r)) + (1)).toNatClampNeg) h0 h1) tb_426 tb_427 tb_0 tb_428 hd_lw_unseal ⟨Nat.le_of_ble_eq_true rfl, Nat.le_of_ble_eq_true rfl⟩ rfl rfl hK hP hD hN hZ hC hl.1 rfl (Nat.le_of_ble_eq_true rfl) d_lw_law_813 ⟨(by show 29 + r + 1 ≤ 1069; omega), (by show 312 + 6 * r + 6 ≤ 8600; omega)⟩ hS hA (fun j1 H locs hpj hP hD hS hq => ?_)
      have hZ := hZ.kept hq
      refine lv_istore (nL := 8) (lv' := [(5, .int (2)), (4, .int (nI (6 * r))), (0, .ref b), (1, .ref (ad 0)), (2, .ref (am 0)), (3, .ref (ad 15))]) hx hb d_lw_law_816 hl (by decide) rfl (fun ls hl => ?_)
      refine lv_aload_n hx hb d_lw_law_818 rfl (lv_at hl 4 rfl) ?_
      refine lv_aload_n hx hb d_lw_law_819 rfl (lv_at hl 2 rfl) ?_
      refine lv_iload hx hb d_lw_law_820 (lv_at hl 1 rfl) ?_
      refine lv_iconst (v := 1) hx hb d_lw_law_822 (by decide) ?_
      refine lv_iadd hx hb d_lw_law_823 ?_
      refine va_sld hx hb hX hbl hbA hS (si 1 (by decide) hr hL) d_lw_law_824 ?_
      refine zm_wrl (v := 0) (w' := u) (As := [.int (xs ((nI (6 * r)) + (1)).toNatClampNeg)]) (rest := []) ⟨hx, hb, hml, hown, hT⟩ (g_md_unseal l D cm am _ u k (xs ((nI (6 * r)) + (1)).toNatClampNeg) h0 h1) tb_637 tb_638 tb_639 tb_4 tb_640 ⟨rfl, hd_md_unseal⟩ ⟨Nat.le_of_ble_eq_true rfl, Nat.le_of_ble_eq_true rfl⟩ rfl rfl hK hP hD hN 0 3 rfl rfl hl.1 rfl (Nat.le_of_ble_eq_true rfl) d_lw_law_825 ⟨(by show 29 + r + 1 + 0 ≤ 1069; omega), (by show 312 + 6 * r + 6 + 0 ≤ 8600; omega)⟩ hS hA (fun k1 H locs hth hP hD hS hq => ?_)
      have hZ := hZ.kept hq
      have hth : jm_th k1 = 2 := hth
      refine lv_lstore (nL := 8) (lv' := [(6, .long (0)), (5, .int (2)), (4, .int (nI (6 * r))), (0, .ref b), (1, .ref (ad 0)), (2, .ref (am 0)), (3, .ref (ad 15))]) hx hb d_lw_law_828 hl (by decide) rfl (fun ls hl => ?_)
      refine lv_aload_n hx hb d_lw_law_830 rfl (lv_at hl 5 rfl) ?_
      refine zm_rdi (v := jm_th k1) (As := []) (rest := []) ⟨hx, hb, hml, hown, hT⟩ (c_md_thrown l D cm am _ u k1) tb_517 tb_518 tb_519 tb_4 tb_520 ⟨rfl, hd_md_thrown⟩ ⟨Nat.le_of_ble_eq_true rfl, Nat.le_of_ble_eq_true rfl⟩ rfl rfl hK hP hD hN 0 3 rfl rfl hl.1 rfl (Nat.le_of_ble_eq_true rfl) d_lw_law_831 ⟨(by show 29 + r + 1 + 0 ≤ 1069; omega), (by show 312 + 6 * r + 6 + 0 ≤ 8600; omega)⟩ hS hA ?_
      refine lv_iload hx hb d_lw_law_834 (lv_at hl 1 rfl) ?_
      refine lv_icmp_eq hx hb d_lw_law_836 (tgt := 841) (by decide) (fun _ => ?_) (fun z => absurd hth z)
      refine lv_iload hx hb d_lw_law_841 (lv_at hl 1 rfl) ?_
      refine lv_if_ne hx hb d_lw_law_843 (tgt := 857) (by decide) (fun _ => ?_) (fun z => absurd z (by decide))
      refine lv_goto hx hb d_lw_law_857 (tgt := 1039) (by decide) ?_
      refine W.widen (k := 30 + r) (n := 318 + 6 * r) (by omega) (by omega) ?_
      exact ih _ _ ls _ _ _ (lv_sub hl [2, 3, 4, 5, 6] rfl) hP hD hS hZ (hok)
    · skip
      refine zy_i (v := 0) (u' := u) (As := [.ref (ad 0), .int (xs ((nI (6 * r)) + (1)).toNatClampNeg), .ref (ad 15)]) (rest := []) ⟨hx, hb, hml, hown, hT⟩ (k_lw_unseal l D cs ad _ u j (xs ((nI (6 * r)) + (1)).toNatClampNeg) h0 h1) tb_426 tb_427 tb_0 tb_428 hd_lw_unseal ⟨Nat.le_of_ble_eq_true rfl, Nat.le_of_ble_eq_true rfl⟩ rfl rfl hK hP hD hN hZ hC hl.1 rfl (Nat.le_of_ble_eq_true rfl) d_lw_law_813 ⟨(by show 29 + r + 0 ≤ 1069; omega), (by show 312 + 6 * r + 0 ≤ 8600; omega)⟩ hS hA (fun j1 H locs hpj hP hD hS hq => ?_)
      have hZ := hZ.kept hq
      refine lv_istore (nL := 8) (lv' := [(5, .int (0)), (4, .int (nI (6 * r))), (0, .ref b), (1, .ref (ad 0)), (2, .ref (am 0)), (3, .ref (ad 15))]) hx hb d_lw_law_816 hl (by decide) rfl (fun ls hl => ?_)
      refine lv_aload_n hx hb d_lw_law_818 rfl (lv_at hl 4 rfl) ?_
      refine lv_aload_n hx hb d_lw_law_819 rfl (lv_at hl 2 rfl) ?_
      refine lv_iload hx hb d_lw_law_820 (lv_at hl 1 rfl) ?_
      refine lv_iconst (v := 1) hx hb d_lw_law_822 (by decide) ?_
      refine lv_iadd hx hb d_lw_law_823 ?_
      refine va_sld hx hb hX hbl hbA hS (si 1 (by decide) hr hL) d_lw_law_824 ?_
      refine zm_wrl (v := sg_se u (xs ((nI (6 * r)) + (1)).toNatClampNeg).toNatClampNeg) (w' := u) (As := [.int (xs ((nI (6 * r)) + (1)).toNatClampNeg)]) (rest := []) ⟨hx, hb, hml, hown, hT⟩ (k_md_unseal l D cm am _ u k (xs ((nI (6 * r)) + (1)).toNatClampNeg) h0 h1) tb_637 tb_638 tb_639 tb_4 tb_640 ⟨rfl, hd_md_unseal⟩ ⟨Nat.le_of_ble_eq_true rfl, Nat.le_of_ble_eq_true rfl⟩ rfl rfl hK hP hD hN 0 3 rfl rfl hl.1 rfl (Nat.le_of_ble_eq_true rfl) d_lw_law_825 ⟨(by show 29 + r + 0 + 0 ≤ 1069; omega), (by show 312 + 6 * r + 0 + 0 ≤ 8600; omega)⟩ hS hA (fun k1 H locs hth hP hD hS hq => ?_)
      have hZ := hZ.kept hq
      have hth : jm_th k1 = 0 := hth
      refine lv_lstore (nL := 8) (lv' := [(6, .long (sg_se u (xs ((nI (6 * r)) + (1)).toNatClampNeg).toNatClampNeg)), (5, .int (0)), (4, .int (nI (6 * r))), (0, .ref b), (1, .ref (ad 0)), (2, .ref (am 0)), (3, .ref (ad 15))]) hx hb d_lw_law_828 hl (by decide) rfl (fun ls hl => ?_)
      refine lv_aload_n hx hb d_lw_law_830 rfl (lv_at hl 5 rfl) ?_
      refine zm_rdi (v := jm_th k1) (As := []) (rest := []) ⟨hx, hb, hml, hown, hT⟩ (c_md_thrown l D cm am _ u k1) tb_517 tb_518 tb_519 tb_4 tb_520 ⟨rfl, hd_md_thrown⟩ ⟨Nat.le_of_ble_eq_true rfl, Nat.le_of_ble_eq_true rfl⟩ rfl rfl hK hP hD hN 0 3 rfl rfl hl.1 rfl (Nat.le_of_ble_eq_true rfl) d_lw_law_831 ⟨(by show 29 + r + 0 + 0 ≤ 1069; omega), (by show 312 + 6 * r + 0 + 0 ≤ 8600; omega)⟩ hS hA ?_
      refine lv_iload hx hb d_lw_law_834 (lv_at hl 1 rfl) ?_
      refine lv_icmp_eq hx hb d_lw_law_836 (tgt := 841) (by decide) (fun _ => ?_) (fun z => absurd hth z)
      refine lv_iload hx hb d_lw_law_841 (lv_at hl 1 rfl) ?_
      refine lv_if_ne hx hb d_lw_law_843 (tgt := 857) (by decide) (fun z => absurd (by decide) z) (fun _ => ?_)
      refine lv_aload_n hx hb d_lw_law_846 rfl (lv_at hl 6 rfl) ?_
      refine lv_iconst (v := 0) hx hb d_lw_law_847 (by decide) ?_
      refine va_lald hx hb hK hP 0 0 rfl rfl (by unfold vp_in; decide) d_lw_law_848 ?_
      refine lv_lload hx hb d_lw_law_849 (lv_at hl 0 rfl) ?_
      refine W.lcmp hx hb d_lw_law_851 ?_
      refine lv_if_eq hx hb d_lw_law_852 (tgt := 857) (by decide) (fun _ => ?_) (fun z => absurd (sp_cmp.mpr hpj) z)
      refine lv_goto hx hb d_lw_law_857 (tgt := 1039) (by decide) ?_
      refine W.widen (k := 30 + r) (n := 318 + 6 * r) (by omega) (by omega) ?_
      exact ih _ _ ls _ _ _ (lv_sub hl [2, 3, 4, 5, 6] rfl) hP hD hS hZ (hok)
set_option maxHeartbeats 4000000 in
set_option maxRecDepth 100000 in
theorem lc_16 {p : Program} {l : Launch} {e : Env} {s : State} {m : MethodId} {below : List Frame} {meth : Method} {c : Code} {H : Heap} {locs : List Loc} {Q : State → Prop} {ls : Array Slot} {D : va_G} {cs cm : Nat → ClassId} {ad am : Nat → Nat} {u : Sg} {A : Nat → Prop} {j : Jy} {k : Jm} {b L r : Nat} {xs : Nat → Int32}
    (hl0 : l.stackTraces = false) (hx : p.tables.exec = Jvm.exec) (hb : c.code = b_lw_law) (hml : c.maxLocals = 8) (hown : s.vm.findClass "MeasuredStagesLaw" = some m.cls) (hT : ∀ w ∈ TB, w.before #[Value.ref b] s = true) (hN : xw_N s) (hC : xC s) (hX : va_X b L xs s s.heap) (hbl : b < s.heap.size) (hbA : ¬ A b) (hA : ∀ q, s.heap.size ≤ q → A q) (hr : 6 * r + 6 ≤ L) (hL : L ≤ 3072) (hK : va_K D cx (zty cs cm) s)
    (hP : va_P D cx (zw ad cs am cm u j u k) H) (hD : va_D A (zw ad cs am cm u j u k)) (hS : va_S A s.heap H locs) (hZ : xTA A s H) (hok : sp_ok u) (hl : lv_has ls 8 [(4, .int (nI (6 * r))), (0, .ref b), (1, .ref (ad 0)), (2, .ref (am 0)), (3, .ref (ad 15))])
    (ih : ∀ (H1 : Heap) (locs1 : List Loc) (ls1 : Array Slot) (u1 : Sg) (j1 : Jy) (k1 : Jm), lv_has ls1 8 [(4, .int (nI (6 * r))), (0, .ref b), (1, .ref (ad 0)), (2, .ref (am 0)), (3, .ref (ad 15))] → va_P D cx (zw ad cs am cm u1 j1 u1 k1) H1 → va_D A (zw ad cs am cm u1 j1 u1 k1) → va_S A s.heap H1 locs1 → xTA A s H1 → sp_ok u1 → W p l e room_1 s m #[Value.ref b] below meth c H1 locs1 (30 + r) (318 + 6 * r) Q (F0 m 1039 ls1 [])) :
    W p l e room_1 s m #[Value.ref b] below meth c H locs (29 + r) (312 + 6 * r) Q (F0 m 860 ls []) := by
  refine lv_aload_n hx hb d_lw_law_860 rfl (lv_at hl 2 rfl) ?_
  refine lv_aload_n hx hb d_lw_law_861 rfl (lv_at hl 1 rfl) ?_
  refine lv_iload hx hb d_lw_law_862 (lv_at hl 0 rfl) ?_
  refine lv_iconst (v := 1) hx hb d_lw_law_864 (by decide) ?_
  refine lv_iadd hx hb d_lw_law_865 ?_
  refine va_sld hx hb hX hbl hbA hS (si 1 (by decide) hr hL) d_lw_law_866 ?_
  rcases tk_01 (sg_ma u) (xs ((nI (6 * r)) + (1)).toNatClampNeg) with h0 | h0
  · skip
    refine zy_i (v := 1) (u' := u) (As := [.ref (ad 0), .int (xs ((nI (6 * r)) + (1)).toNatClampNeg)]) (rest := []) ⟨hx, hb, hml, hown, hT⟩ (f_lw_discard l hl0 D cs ad _ u j (xs ((nI (6 * r)) + (1)).toNatClampNeg) h0) tb_435 tb_436 tb_0 tb_437 hd_lw_discard ⟨Nat.le_of_ble_eq_true rfl, Nat.le_of_ble_eq_true rfl⟩ rfl rfl hK hP hD hN hZ hC hl.1 rfl (Nat.le_of_ble_eq_true rfl) d_lw_law_867 ⟨(by show 29 + r + 1 ≤ 1069; omega), (by show 312 + 6 * r + 6 ≤ 8600; omega)⟩ hS hA (fun j1 H locs hpj hP hD hS hq => ?_)
    have hZ := hZ.kept hq
    refine lv_istore (nL := 8) (lv' := [(5, .int (1)), (4, .int (nI (6 * r))), (0, .ref b), (1, .ref (ad 0)), (2, .ref (am 0)), (3, .ref (ad 15))]) hx hb d_lw_law_870 hl (by decide) rfl (fun ls hl => ?_)
    refine lv_aload_n hx hb d_lw_law_872 rfl (lv_at hl 4 rfl) ?_
    refine lv_aload_n hx hb d_lw_law_873 rfl (lv_at hl 2 rfl) ?_
    refine lv_iload hx hb d_lw_law_874 (lv_at hl 1 rfl) ?_
    refine lv_iconst (v := 1) hx hb d_lw_law_876 (by decide) ?_
    refine lv_iadd hx hb d_lw_law_877 ?_
    refine va_sld hx hb hX hbl hbA hS (si 1 (by decide) hr hL) d_lw_law_878 ?_
    refine zm_wrv (w' := u) (As := [.int (xs ((nI (6 * r)) + (1)).toNatClampNeg)]) (rest := []) ⟨hx, hb, hml, hown, hT⟩ (f_md_discard l D cm am _ u k (xs ((nI (6 * r)) + (1)).toNatClampNeg) h0) tb_641 tb_642 tb_643 tb_4 tb_644 ⟨rfl, hd_md_discard⟩ ⟨Nat.le_of_ble_eq_true rfl, Nat.le_of_ble_eq_true rfl⟩ rfl rfl hK hP hD hN 0 3 rfl rfl hl.1 rfl (Nat.le_of_ble_eq_true rfl) d_lw_law_879 ⟨(by show 29 + r + 1 + 0 ≤ 1069; omega), (by show 312 + 6 * r + 6 + 0 ≤ 8600; omega)⟩ hS hA (fun k1 H locs hth hP hD hS hq => ?_)
    have hZ := hZ.kept hq
    have hth : jm_th k1 = 1 := hth
    refine lv_aload_n hx hb d_lw_law_882 rfl (lv_at hl 4 rfl) ?_
    refine zm_rdi (v := jm_th k1) (As := []) (rest := []) ⟨hx, hb, hml, hown, hT⟩ (c_md_thrown l D cm am _ u k1) tb_517 tb_518 tb_519 tb_4 tb_520 ⟨rfl, hd_md_thrown⟩ ⟨Nat.le_of_ble_eq_true rfl, Nat.le_of_ble_eq_true rfl⟩ rfl rfl hK hP hD hN 0 3 rfl rfl hl.1 rfl (Nat.le_of_ble_eq_true rfl) d_lw_law_883 ⟨(by show 29 + r + 1 + 0 ≤ 1069; omega), (by show 312 + 6 * r + 6 + 0 ≤ 8600; omega)⟩ hS hA ?_
    refine lv_iload hx hb d_lw_law_886 (lv_at hl 0 rfl) ?_
    refine lv_icmp_eq hx hb d_lw_law_888 (tgt := 893) (by decide) (fun _ => ?_) (fun z => absurd hth z)
    refine lv_goto hx hb d_lw_law_893 (tgt := 1039) (by decide) ?_
    refine W.widen (k := 30 + r) (n := 318 + 6 * r) (by omega) (by omega) ?_
    exact ih _ _ ls _ _ _ (lv_sub hl [1, 2, 3, 4, 5] rfl) hP hD hS hZ (hok)
  · skip
    refine zy_i (v := 0) (u' := ss_ma u (upd (sg_ma u) (xs ((nI (6 * r)) + (1)).toNatClampNeg).toNatClampNeg 0)) (As := [.ref (ad 0), .int (xs ((nI (6 * r)) + (1)).toNatClampNeg)]) (rest := []) ⟨hx, hb, hml, hown, hT⟩ (k_lw_discard l D cs ad _ u j (xs ((nI (6 * r)) + (1)).toNatClampNeg) h0) tb_435 tb_436 tb_0 tb_437 hd_lw_discard ⟨Nat.le_of_ble_eq_true rfl, Nat.le_of_ble_eq_true rfl⟩ rfl rfl hK hP hD hN hZ hC hl.1 rfl (Nat.le_of_ble_eq_true rfl) d_lw_law_867 ⟨(by show 29 + r + 0 ≤ 1069; omega), (by show 312 + 6 * r + 0 ≤ 8600; omega)⟩ hS hA (fun j1 H locs hpj hP hD hS hq => ?_)
    have hZ := hZ.kept hq
    refine lv_istore (nL := 8) (lv' := [(5, .int (0)), (4, .int (nI (6 * r))), (0, .ref b), (1, .ref (ad 0)), (2, .ref (am 0)), (3, .ref (ad 15))]) hx hb d_lw_law_870 hl (by decide) rfl (fun ls hl => ?_)
    refine lv_aload_n hx hb d_lw_law_872 rfl (lv_at hl 4 rfl) ?_
    refine lv_aload_n hx hb d_lw_law_873 rfl (lv_at hl 2 rfl) ?_
    refine lv_iload hx hb d_lw_law_874 (lv_at hl 1 rfl) ?_
    refine lv_iconst (v := 1) hx hb d_lw_law_876 (by decide) ?_
    refine lv_iadd hx hb d_lw_law_877 ?_
    refine va_sld hx hb hX hbl hbA hS (si 1 (by decide) hr hL) d_lw_law_878 ?_
    refine zm_wrv (w' := ss_ma u (upd (sg_ma u) (xs ((nI (6 * r)) + (1)).toNatClampNeg).toNatClampNeg 0)) (As := [.int (xs ((nI (6 * r)) + (1)).toNatClampNeg)]) (rest := []) ⟨hx, hb, hml, hown, hT⟩ (k_md_discard l D cm am _ u k (xs ((nI (6 * r)) + (1)).toNatClampNeg) h0) tb_641 tb_642 tb_643 tb_4 tb_644 ⟨rfl, hd_md_discard⟩ ⟨Nat.le_of_ble_eq_true rfl, Nat.le_of_ble_eq_true rfl⟩ rfl rfl hK hP hD hN 0 3 rfl rfl hl.1 rfl (Nat.le_of_ble_eq_true rfl) d_lw_law_879 ⟨(by show 29 + r + 0 + 0 ≤ 1069; omega), (by show 312 + 6 * r + 0 + 0 ≤ 8600; omega)⟩ hS hA (fun k1 H locs hth hP hD hS hq => ?_)
    have hZ := hZ.kept hq
    have hth : jm_th k1 = 0 := hth
    refine lv_aload_n hx hb d_lw_law_882 rfl (lv_at hl 4 rfl) ?_
    refine zm_rdi (v := jm_th k1) (As := []) (rest := []) ⟨hx, hb, hml, hown, hT⟩ (c_md_thrown l D cm am _ (ss_ma u (upd (sg_ma u) (xs ((nI (6 * r)) + (1)).toNatClampNeg).toNatClampNeg 0)) k1) tb_517 tb_518 tb_519 tb_4 tb_520 ⟨rfl, hd_md_thrown⟩ ⟨Nat.le_of_ble_eq_true rfl, Nat.le_of_ble_eq_true rfl⟩ rfl rfl hK hP hD hN 0 3 rfl rfl hl.1 rfl (Nat.le_of_ble_eq_true rfl) d_lw_law_883 ⟨(by show 29 + r + 0 + 0 ≤ 1069; omega), (by show 312 + 6 * r + 0 + 0 ≤ 8600; omega)⟩ hS hA ?_
    refine lv_iload hx hb d_lw_law_886 (lv_at hl 0 rfl) ?_
    refine lv_icmp_eq hx hb d_lw_law_888 (tgt := 893) (by decide) (fun _ => ?_) (fun z => absurd hth z)
    refine lv_goto hx hb d_lw_law_893 (tgt := 1039) (by decide) ?_
    refine W.widen (k := 30 + r) (n := 318 + 6 * r) (by omega) (by omega) ?_
    exact ih _ _ ls _ _ _ (lv_sub hl [1, 2, 3, 4, 5] rfl) hP hD hS hZ (hok)
set_option maxHeartbeats 4000000 in
set_option maxRecDepth 100000 in
theorem lc_17 {p : Program} {l : Launch} {e : Env} {s : State} {m : MethodId} {below : List Frame} {meth : Method} {c : Code} {H : Heap} {locs : List Loc} {Q : State → Prop} {ls : Array Slot} {D : va_G} {cs cm : Nat → ClassId} {ad am : Nat → Nat} {u : Sg} {A : Nat → Prop} {j : Jy} {k : Jm} {b L r : Nat} {xs : Nat → Int32}
    (hl0 : l.stackTraces = false) (hx : p.tables.exec = Jvm.exec) (hb : c.code = b_lw_law) (hml : c.maxLocals = 8) (hown : s.vm.findClass "MeasuredStagesLaw" = some m.cls) (hT : ∀ w ∈ TB, w.before #[Value.ref b] s = true) (hN : xw_N s) (hC : xC s) (hX : va_X b L xs s s.heap) (hbl : b < s.heap.size) (hbA : ¬ A b) (hA : ∀ q, s.heap.size ≤ q → A q) (hr : 6 * r + 6 ≤ L) (hL : L ≤ 3072) (hK : va_K D cx (zty cs cm) s)
    (hP : va_P D cx (zw ad cs am cm u j u k) H) (hD : va_D A (zw ad cs am cm u j u k)) (hS : va_S A s.heap H locs) (hZ : xTA A s H) (hok : sp_ok u) (hl : lv_has ls 8 [(4, .int (nI (6 * r))), (0, .ref b), (1, .ref (ad 0)), (2, .ref (am 0)), (3, .ref (ad 15))])
    (ih : ∀ (H1 : Heap) (locs1 : List Loc) (ls1 : Array Slot) (u1 : Sg) (j1 : Jy) (k1 : Jm), lv_has ls1 8 [(4, .int (nI (6 * r))), (0, .ref b), (1, .ref (ad 0)), (2, .ref (am 0)), (3, .ref (ad 15))] → va_P D cx (zw ad cs am cm u1 j1 u1 k1) H1 → va_D A (zw ad cs am cm u1 j1 u1 k1) → va_S A s.heap H1 locs1 → xTA A s H1 → sp_ok u1 → W p l e room_1 s m #[Value.ref b] below meth c H1 locs1 (30 + r) (318 + 6 * r) Q (F0 m 1039 ls1 [])) :
    W p l e room_1 s m #[Value.ref b] below meth c H locs (29 + r) (312 + 6 * r) Q (F0 m 896 ls []) := by
  refine lv_aload_n hx hb d_lw_law_896 rfl (lv_at hl 2 rfl) ?_
  refine lv_aload_n hx hb d_lw_law_897 rfl (lv_at hl 1 rfl) ?_
  refine lv_iload hx hb d_lw_law_898 (lv_at hl 0 rfl) ?_
  refine lv_iconst (v := 1) hx hb d_lw_law_900 (by decide) ?_
  refine lv_iadd hx hb d_lw_law_901 ?_
  refine va_sld hx hb hX hbl hbA hS (si 1 (by decide) hr hL) d_lw_law_902 ?_
  refine lv_i2l hx hb d_lw_law_903 rfl ?_
  refine lv_bipush (v := 32) hx hb d_lw_law_904 (by decide) ?_
  refine lv_lshl hx hb d_lw_law_906 rfl ?_
  refine lv_aload_n hx hb d_lw_law_907 rfl (lv_at hl 1 rfl) ?_
  refine lv_iload hx hb d_lw_law_908 (lv_at hl 0 rfl) ?_
  refine lv_iconst (v := 2) hx hb d_lw_law_910 (by decide) ?_
  refine lv_iadd hx hb d_lw_law_911 ?_
  refine va_sld hx hb hX hbl hbA hS (si 2 (by decide) hr hL) d_lw_law_912 ?_
  refine lv_i2l hx hb d_lw_law_913 rfl ?_
  refine lv_ldc2 (v := 4294967295) hx hb hown (hT _ tb_649) d_lw_law_914 ?_
  refine lv_land hx hb d_lw_law_917 ?_
  refine lv_lor hx hb d_lw_law_918 ?_
  refine lv_aload_n hx hb d_lw_law_919 rfl (lv_at hl 1 rfl) ?_
  refine lv_iload hx hb d_lw_law_920 (lv_at hl 0 rfl) ?_
  refine lv_iconst (v := 3) hx hb d_lw_law_922 (by decide) ?_
  refine lv_iadd hx hb d_lw_law_923 ?_
  refine va_sld hx hb hX hbl hbA hS (si 3 (by decide) hr hL) d_lw_law_924 ?_
  refine lv_i2l hx hb d_lw_law_925 rfl ?_
  refine lv_bipush (v := 32) hx hb d_lw_law_926 (by decide) ?_
  refine lv_lshl hx hb d_lw_law_928 rfl ?_
  refine lv_aload_n hx hb d_lw_law_929 rfl (lv_at hl 1 rfl) ?_
  refine lv_iload hx hb d_lw_law_930 (lv_at hl 0 rfl) ?_
  refine lv_iconst (v := 4) hx hb d_lw_law_932 (by decide) ?_
  refine lv_iadd hx hb d_lw_law_933 ?_
  refine va_sld hx hb hX hbl hbA hS (si 4 (by decide) hr hL) d_lw_law_934 ?_
  refine lv_i2l hx hb d_lw_law_935 rfl ?_
  refine lv_ldc2 (v := 4294967295) hx hb hown (hT _ tb_649) d_lw_law_936 ?_
  refine lv_land hx hb d_lw_law_939 ?_
  refine lv_lor hx hb d_lw_law_940 ?_
  refine lv_aload_n hx hb d_lw_law_941 rfl (lv_at hl 1 rfl) ?_
  refine lv_iload hx hb d_lw_law_942 (lv_at hl 0 rfl) ?_
  refine lv_iconst (v := 5) hx hb d_lw_law_944 (by decide) ?_
  refine lv_iadd hx hb d_lw_law_945 ?_
  refine va_sld hx hb hX hbl hbA hS (si 5 (by decide) hr hL) d_lw_law_946 ?_
  refine lv_aload_n hx hb d_lw_law_947 rfl (lv_at hl 4 rfl) ?_
  rcases mk_01 (xs ((nI (6 * r)) + (5)).toNatClampNeg) with hm | hm
  · skip
    refine zy_i (v := 1) (u' := u) (As := [.ref (ad 0), .long ((((xs ((nI (6 * r)) + (1)).toNatClampNeg).toInt64) <<< ((32 : Int32).toInt64 &&& 63)) ||| (((xs ((nI (6 * r)) + (2)).toNatClampNeg).toInt64) &&& (4294967295))), .long ((((xs ((nI (6 * r)) + (3)).toNatClampNeg).toInt64) <<< ((32 : Int32).toInt64 &&& 63)) ||| (((xs ((nI (6 * r)) + (4)).toNatClampNeg).toInt64) &&& (4294967295))), .int (xs ((nI (6 * r)) + (5)).toNatClampNeg), .ref (ad 15)]) (rest := []) ⟨hx, hb, hml, hown, hT⟩ (f_lw_quote l hl0 D cs ad _ u j ((((xs ((nI (6 * r)) + (1)).toNatClampNeg).toInt64) <<< ((32 : Int32).toInt64 &&& 63)) ||| (((xs ((nI (6 * r)) + (2)).toNatClampNeg).toInt64) &&& (4294967295))) ((((xs ((nI (6 * r)) + (3)).toNatClampNeg).toInt64) <<< ((32 : Int32).toInt64 &&& 63)) ||| (((xs ((nI (6 * r)) + (4)).toNatClampNeg).toInt64) &&& (4294967295))) (xs ((nI (6 * r)) + (5)).toNatClampNeg) hm) tb_446 tb_447 tb_0 tb_448 hd_lw_quote ⟨Nat.le_of_ble_eq_true rfl, Nat.le_of_ble_eq_true rfl⟩ rfl rfl hK hP hD hN hZ hC hl.1 rfl (Nat.le_of_ble_eq_true rfl) d_lw_law_948 ⟨(by show 29 + r + 1 ≤ 1069; omega), (by show 312 + 6 * r + 6 ≤ 8600; omega)⟩ hS hA (fun j1 H locs hpj hP hD hS hq => ?_)
    have hZ := hZ.kept hq
    refine lv_istore (nL := 8) (lv' := [(5, .int (1)), (4, .int (nI (6 * r))), (0, .ref b), (1, .ref (ad 0)), (2, .ref (am 0)), (3, .ref (ad 15))]) hx hb d_lw_law_951 hl (by decide) rfl (fun ls hl => ?_)
    refine lv_aload_n hx hb d_lw_law_953 rfl (lv_at hl 4 rfl) ?_
    refine lv_aload_n hx hb d_lw_law_954 rfl (lv_at hl 2 rfl) ?_
    refine lv_iload hx hb d_lw_law_955 (lv_at hl 1 rfl) ?_
    refine lv_iconst (v := 1) hx hb d_lw_law_957 (by decide) ?_
    refine lv_iadd hx hb d_lw_law_958 ?_
    refine va_sld hx hb hX hbl hbA hS (si 1 (by decide) hr hL) d_lw_law_959 ?_
    refine lv_i2l hx hb d_lw_law_960 rfl ?_
    refine lv_bipush (v := 32) hx hb d_lw_law_961 (by decide) ?_
    refine lv_lshl hx hb d_lw_law_963 rfl ?_
    refine lv_aload_n hx hb d_lw_law_964 rfl (lv_at hl 2 rfl) ?_
    refine lv_iload hx hb d_lw_law_965 (lv_at hl 1 rfl) ?_
    refine lv_iconst (v := 2) hx hb d_lw_law_967 (by decide) ?_
    refine lv_iadd hx hb d_lw_law_968 ?_
    refine va_sld hx hb hX hbl hbA hS (si 2 (by decide) hr hL) d_lw_law_969 ?_
    refine lv_i2l hx hb d_lw_law_970 rfl ?_
    refine lv_ldc2 (v := 4294967295) hx hb hown (hT _ tb_649) d_lw_law_971 ?_
    refine lv_land hx hb d_lw_law_974 ?_
    refine lv_lor hx hb d_lw_law_975 ?_
    refine lv_aload_n hx hb d_lw_law_976 rfl (lv_at hl 2 rfl) ?_
    refine lv_iload hx hb d_lw_law_977 (lv_at hl 1 rfl) ?_
    refine lv_iconst (v := 3) hx hb d_lw_law_979 (by decide) ?_
    refine lv_iadd hx hb d_lw_law_980 ?_
    refine va_sld hx hb hX hbl hbA hS (si 3 (by decide) hr hL) d_lw_law_981 ?_
    refine lv_i2l hx hb d_lw_law_982 rfl ?_
    refine lv_bipush (v := 32) hx hb d_lw_law_983 (by decide) ?_
    refine lv_lshl hx hb d_lw_law_985 rfl ?_
    refine lv_aload_n hx hb d_lw_law_986 rfl (lv_at hl 2 rfl) ?_
    refine lv_iload hx hb d_lw_law_987 (lv_at hl 1 rfl) ?_
    refine lv_iconst (v := 4) hx hb d_lw_law_989 (by decide) ?_
    refine lv_iadd hx hb d_lw_law_990 ?_
    refine va_sld hx hb hX hbl hbA hS (si 4 (by decide) hr hL) d_lw_law_991 ?_
    refine lv_i2l hx hb d_lw_law_992 rfl ?_
    refine lv_ldc2 (v := 4294967295) hx hb hown (hT _ tb_649) d_lw_law_993 ?_
    refine lv_land hx hb d_lw_law_996 ?_
    refine lv_lor hx hb d_lw_law_997 ?_
    refine lv_aload_n hx hb d_lw_law_998 rfl (lv_at hl 2 rfl) ?_
    refine lv_iload hx hb d_lw_law_999 (lv_at hl 1 rfl) ?_
    refine lv_iconst (v := 5) hx hb d_lw_law_1001 (by decide) ?_
    refine lv_iadd hx hb d_lw_law_1002 ?_
    refine va_sld hx hb hX hbl hbA hS (si 5 (by decide) hr hL) d_lw_law_1003 ?_
    refine zm_wrl (v := 0) (w' := u) (As := [.long ((((xs ((nI (6 * r)) + (1)).toNatClampNeg).toInt64) <<< ((32 : Int32).toInt64 &&& 63)) ||| (((xs ((nI (6 * r)) + (2)).toNatClampNeg).toInt64) &&& (4294967295))), .long ((((xs ((nI (6 * r)) + (3)).toNatClampNeg).toInt64) <<< ((32 : Int32).toInt64 &&& 63)) ||| (((xs ((nI (6 * r)) + (4)).toNatClampNeg).toInt64) &&& (4294967295))), .int (xs ((nI (6 * r)) + (5)).toNatClampNeg)]) (rest := []) ⟨hx, hb, hml, hown, hT⟩ (f_md_quote l D cm am _ u k ((((xs ((nI (6 * r)) + (1)).toNatClampNeg).toInt64) <<< ((32 : Int32).toInt64 &&& 63)) ||| (((xs ((nI (6 * r)) + (2)).toNatClampNeg).toInt64) &&& (4294967295))) ((((xs ((nI (6 * r)) + (3)).toNatClampNeg).toInt64) <<< ((32 : Int32).toInt64 &&& 63)) ||| (((xs ((nI (6 * r)) + (4)).toNatClampNeg).toInt64) &&& (4294967295))) (xs ((nI (6 * r)) + (5)).toNatClampNeg) hm) tb_645 tb_646 tb_647 tb_4 tb_648 ⟨rfl, hd_md_quote⟩ ⟨Nat.le_of_ble_eq_true rfl, Nat.le_of_ble_eq_true rfl⟩ rfl rfl hK hP hD hN 0 3 rfl rfl hl.1 rfl (Nat.le_of_ble_eq_true rfl) d_lw_law_1004 ⟨(by show 29 + r + 1 + 0 ≤ 1069; omega), (by show 312 + 6 * r + 6 + 0 ≤ 8600; omega)⟩ hS hA (fun k1 H locs hth hP hD hS hq => ?_)
    have hZ := hZ.kept hq
    have hth : jm_th k1 = 1 := hth
    refine lv_lstore (nL := 8) (lv' := [(6, .long (0)), (5, .int (1)), (4, .int (nI (6 * r))), (0, .ref b), (1, .ref (ad 0)), (2, .ref (am 0)), (3, .ref (ad 15))]) hx hb d_lw_law_1007 hl (by decide) rfl (fun ls hl => ?_)
    refine lv_aload_n hx hb d_lw_law_1009 rfl (lv_at hl 5 rfl) ?_
    refine zm_rdi (v := jm_th k1) (As := []) (rest := []) ⟨hx, hb, hml, hown, hT⟩ (c_md_thrown l D cm am _ u k1) tb_517 tb_518 tb_519 tb_4 tb_520 ⟨rfl, hd_md_thrown⟩ ⟨Nat.le_of_ble_eq_true rfl, Nat.le_of_ble_eq_true rfl⟩ rfl rfl hK hP hD hN 0 3 rfl rfl hl.1 rfl (Nat.le_of_ble_eq_true rfl) d_lw_law_1010 ⟨(by show 29 + r + 1 + 0 ≤ 1069; omega), (by show 312 + 6 * r + 6 + 0 ≤ 8600; omega)⟩ hS hA ?_
    refine lv_iload hx hb d_lw_law_1013 (lv_at hl 1 rfl) ?_
    refine lv_icmp_eq hx hb d_lw_law_1015 (tgt := 1020) (by decide) (fun _ => ?_) (fun z => absurd hth z)
    refine lv_iload hx hb d_lw_law_1020 (lv_at hl 1 rfl) ?_
    refine lv_if_ne hx hb d_lw_law_1022 (tgt := 1036) (by decide) (fun _ => ?_) (fun z => absurd z (by decide))
    refine lv_goto hx hb d_lw_law_1036 (tgt := 1039) (by decide) ?_
    refine W.widen (k := 30 + r) (n := 318 + 6 * r) (by omega) (by omega) ?_
    exact ih _ _ ls _ _ _ (lv_sub hl [2, 3, 4, 5, 6] rfl) hP hD hS hZ (hok)
  · skip
    refine zy_i (v := 0) (u' := u) (As := [.ref (ad 0), .long ((((xs ((nI (6 * r)) + (1)).toNatClampNeg).toInt64) <<< ((32 : Int32).toInt64 &&& 63)) ||| (((xs ((nI (6 * r)) + (2)).toNatClampNeg).toInt64) &&& (4294967295))), .long ((((xs ((nI (6 * r)) + (3)).toNatClampNeg).toInt64) <<< ((32 : Int32).toInt64 &&& 63)) ||| (((xs ((nI (6 * r)) + (4)).toNatClampNeg).toInt64) &&& (4294967295))), .int (xs ((nI (6 * r)) + (5)).toNatClampNeg), .ref (ad 15)]) (rest := []) ⟨hx, hb, hml, hown, hT⟩ (k_lw_quote l D cs ad _ u j ((((xs ((nI (6 * r)) + (1)).toNatClampNeg).toInt64) <<< ((32 : Int32).toInt64 &&& 63)) ||| (((xs ((nI (6 * r)) + (2)).toNatClampNeg).toInt64) &&& (4294967295))) ((((xs ((nI (6 * r)) + (3)).toNatClampNeg).toInt64) <<< ((32 : Int32).toInt64 &&& 63)) ||| (((xs ((nI (6 * r)) + (4)).toNatClampNeg).toInt64) &&& (4294967295))) (xs ((nI (6 * r)) + (5)).toNatClampNeg) hm) tb_446 tb_447 tb_0 tb_448 hd_lw_quote ⟨Nat.le_of_ble_eq_true rfl, Nat.le_of_ble_eq_true rfl⟩ rfl rfl hK hP hD hN hZ hC hl.1 rfl (Nat.le_of_ble_eq_true rfl) d_lw_law_948 ⟨(by show 29 + r + 0 ≤ 1069; omega), (by show 312 + 6 * r + 0 ≤ 8600; omega)⟩ hS hA (fun j1 H locs hpj hP hD hS hq => ?_)
    have hZ := hZ.kept hq
    refine lv_istore (nL := 8) (lv' := [(5, .int (0)), (4, .int (nI (6 * r))), (0, .ref b), (1, .ref (ad 0)), (2, .ref (am 0)), (3, .ref (ad 15))]) hx hb d_lw_law_951 hl (by decide) rfl (fun ls hl => ?_)
    refine lv_aload_n hx hb d_lw_law_953 rfl (lv_at hl 4 rfl) ?_
    refine lv_aload_n hx hb d_lw_law_954 rfl (lv_at hl 2 rfl) ?_
    refine lv_iload hx hb d_lw_law_955 (lv_at hl 1 rfl) ?_
    refine lv_iconst (v := 1) hx hb d_lw_law_957 (by decide) ?_
    refine lv_iadd hx hb d_lw_law_958 ?_
    refine va_sld hx hb hX hbl hbA hS (si 1 (by decide) hr hL) d_lw_law_959 ?_
    refine lv_i2l hx hb d_lw_law_960 rfl ?_
    refine lv_bipush (v := 32) hx hb d_lw_law_961 (by decide) ?_
    refine lv_lshl hx hb d_lw_law_963 rfl ?_
    refine lv_aload_n hx hb d_lw_law_964 rfl (lv_at hl 2 rfl) ?_
    refine lv_iload hx hb d_lw_law_965 (lv_at hl 1 rfl) ?_
    refine lv_iconst (v := 2) hx hb d_lw_law_967 (by decide) ?_
    refine lv_iadd hx hb d_lw_law_968 ?_
    refine va_sld hx hb hX hbl hbA hS (si 2 (by decide) hr hL) d_lw_law_969 ?_
    refine lv_i2l hx hb d_lw_law_970 rfl ?_
    refine lv_ldc2 (v := 4294967295) hx hb hown (hT _ tb_649) d_lw_law_971 ?_
    refine lv_land hx hb d_lw_law_974 ?_
    refine lv_lor hx hb d_lw_law_975 ?_
    refine lv_aload_n hx hb d_lw_law_976 rfl (lv_at hl 2 rfl) ?_
    refine lv_iload hx hb d_lw_law_977 (lv_at hl 1 rfl) ?_
    refine lv_iconst (v := 3) hx hb d_lw_law_979 (by decide) ?_
    refine lv_iadd hx hb d_lw_law_980 ?_
    refine va_sld hx hb hX hbl hbA hS (si 3 (by decide) hr hL) d_lw_law_981 ?_
    refine lv_i2l hx hb d_lw_law_982 rfl ?_
    refine lv_bipush (v := 32) hx hb d_lw_law_983 (by decide) ?_
    refine lv_lshl hx hb d_lw_law_985 rfl ?_
    refine lv_aload_n hx hb d_lw_law_986 rfl (lv_at hl 2 rfl) ?_
    refine lv_iload hx hb d_lw_law_987 (lv_at hl 1 rfl) ?_
    refine lv_iconst (v := 4) hx hb d_lw_law_989 (by decide) ?_
    refine lv_iadd hx hb d_lw_law_990 ?_
    refine va_sld hx hb hX hbl hbA hS (si 4 (by decide) hr hL) d_lw_law_991 ?_
    refine lv_i2l hx hb d_lw_law_992 rfl ?_
    refine lv_ldc2 (v := 4294967295) hx hb hown (hT _ tb_649) d_lw_law_993 ?_
    refine lv_land hx hb d_lw_law_996 ?_
    refine lv_lor hx hb d_lw_law_997 ?_
    refine lv_aload_n hx hb d_lw_law_998 rfl (lv_at hl 2 rfl) ?_
    refine lv_iload hx hb d_lw_law_999 (lv_at hl 1 rfl) ?_
    refine lv_iconst (v := 5) hx hb d_lw_law_1001 (by decide) ?_
    refine lv_iadd hx hb d_lw_law_1002 ?_
    refine va_sld hx hb hX hbl hbA hS (si 5 (by decide) hr hL) d_lw_law_1003 ?_
    refine zm_wrl (v := sp_h (sp_h ((((xs ((nI (6 * r)) + (1)).toNatClampNeg).toInt64) <<< ((32 : Int32).toInt64 &&& 63)) ||| (((xs ((nI (6 * r)) + (2)).toNatClampNeg).toInt64) &&& (4294967295))) ((((xs ((nI (6 * r)) + (3)).toNatClampNeg).toInt64) <<< ((32 : Int32).toInt64 &&& 63)) ||| (((xs ((nI (6 * r)) + (4)).toNatClampNeg).toInt64) &&& (4294967295)))) (sp_po u (xs ((nI (6 * r)) + (5)).toNatClampNeg))) (w' := u) (As := [.long ((((xs ((nI (6 * r)) + (1)).toNatClampNeg).toInt64) <<< ((32 : Int32).toInt64 &&& 63)) ||| (((xs ((nI (6 * r)) + (2)).toNatClampNeg).toInt64) &&& (4294967295))), .long ((((xs ((nI (6 * r)) + (3)).toNatClampNeg).toInt64) <<< ((32 : Int32).toInt64 &&& 63)) ||| (((xs ((nI (6 * r)) + (4)).toNatClampNeg).toInt64) &&& (4294967295))), .int (xs ((nI (6 * r)) + (5)).toNatClampNeg)]) (rest := []) ⟨hx, hb, hml, hown, hT⟩ (k_md_quote l D cm am _ u k ((((xs ((nI (6 * r)) + (1)).toNatClampNeg).toInt64) <<< ((32 : Int32).toInt64 &&& 63)) ||| (((xs ((nI (6 * r)) + (2)).toNatClampNeg).toInt64) &&& (4294967295))) ((((xs ((nI (6 * r)) + (3)).toNatClampNeg).toInt64) <<< ((32 : Int32).toInt64 &&& 63)) ||| (((xs ((nI (6 * r)) + (4)).toNatClampNeg).toInt64) &&& (4294967295))) (xs ((nI (6 * r)) + (5)).toNatClampNeg) hm) tb_645 tb_646 tb_647 tb_4 tb_648 ⟨rfl, hd_md_quote⟩ ⟨Nat.le_of_ble_eq_true rfl, Nat.le_of_ble_eq_true rfl⟩ rfl rfl hK hP hD hN 0 3 rfl rfl hl.1 rfl (Nat.le_of_ble_eq_true rfl) d_lw_law_1004 ⟨(by show 29 + r + 0 + 0 ≤ 1069; omega), (by show 312 + 6 * r + 0 + 0 ≤ 8600; omega)⟩ hS hA (fun k1 H locs hth hP hD hS hq => ?_)
    have hZ := hZ.kept hq
    have hth : jm_th k1 = 0 := hth
    refine lv_lstore (nL := 8) (lv' := [(6, .long (sp_h (sp_h ((((xs ((nI (6 * r)) + (1)).toNatClampNeg).toInt64) <<< ((32 : Int32).toInt64 &&& 63)) ||| (((xs ((nI (6 * r)) + (2)).toNatClampNeg).toInt64) &&& (4294967295))) ((((xs ((nI (6 * r)) + (3)).toNatClampNeg).toInt64) <<< ((32 : Int32).toInt64 &&& 63)) ||| (((xs ((nI (6 * r)) + (4)).toNatClampNeg).toInt64) &&& (4294967295)))) (sp_po u (xs ((nI (6 * r)) + (5)).toNatClampNeg)))), (5, .int (0)), (4, .int (nI (6 * r))), (0, .ref b), (1, .ref (ad 0)), (2, .ref (am 0)), (3, .ref (ad 15))]) hx hb d_lw_law_1007 hl (by decide) rfl (fun ls hl => ?_)
    refine lv_aload_n hx hb d_lw_law_1009 rfl (lv_at hl 5 rfl) ?_
    refine zm_rdi (v := jm_th k1) (As := []) (rest := []) ⟨hx, hb, hml, hown, hT⟩ (c_md_thrown l D cm am _ u k1) tb_517 tb_518 tb_519 tb_4 tb_520 ⟨rfl, hd_md_thrown⟩ ⟨Nat.le_of_ble_eq_true rfl, Nat.le_of_ble_eq_true rfl⟩ rfl rfl hK hP hD hN 0 3 rfl rfl hl.1 rfl (Nat.le_of_ble_eq_true rfl) d_lw_law_1010 ⟨(by show 29 + r + 0 + 0 ≤ 1069; omega), (by show 312 + 6 * r + 0 + 0 ≤ 8600; omega)⟩ hS hA ?_
    refine lv_iload hx hb d_lw_law_1013 (lv_at hl 1 rfl) ?_
    refine lv_icmp_eq hx hb d_lw_law_1015 (tgt := 1020) (by decide) (fun _ => ?_) (fun z => absurd hth z)
    refine lv_iload hx hb d_lw_law_1020 (lv_at hl 1 rfl) ?_
    refine lv_if_ne hx hb d_lw_law_1022 (tgt := 1036) (by decide) (fun z => absurd (by decide) z) (fun _ => ?_)
    refine lv_aload_n hx hb d_lw_law_1025 rfl (lv_at hl 6 rfl) ?_
    refine lv_iconst (v := 0) hx hb d_lw_law_1026 (by decide) ?_
    refine va_lald hx hb hK hP 0 0 rfl rfl (by unfold vp_in; decide) d_lw_law_1027 ?_
    refine lv_lload hx hb d_lw_law_1028 (lv_at hl 0 rfl) ?_
    refine W.lcmp hx hb d_lw_law_1030 ?_
    refine lv_if_eq hx hb d_lw_law_1031 (tgt := 1036) (by decide) (fun _ => ?_) (fun z => absurd (sp_cmp.mpr hpj) z)
    refine lv_goto hx hb d_lw_law_1036 (tgt := 1039) (by decide) ?_
    refine W.widen (k := 30 + r) (n := 318 + 6 * r) (by omega) (by omega) ?_
    exact ih _ _ ls _ _ _ (lv_sub hl [2, 3, 4, 5, 6] rfl) hP hD hS hZ (hok)
set_option maxHeartbeats 4000000 in
set_option maxRecDepth 100000 in
theorem lc_default {p : Program} {l : Launch} {e : Env} {s : State} {m : MethodId} {below : List Frame} {meth : Method} {c : Code} {H : Heap} {locs : List Loc} {Q : State → Prop} {ls : Array Slot} {D : va_G} {cs cm : Nat → ClassId} {ad am : Nat → Nat} {u : Sg} {A : Nat → Prop} {j : Jy} {k : Jm} {b L r : Nat} {xs : Nat → Int32}
    (hl0 : l.stackTraces = false) (hx : p.tables.exec = Jvm.exec) (hb : c.code = b_lw_law) (hml : c.maxLocals = 8) (hown : s.vm.findClass "MeasuredStagesLaw" = some m.cls) (hT : ∀ w ∈ TB, w.before #[Value.ref b] s = true) (hN : xw_N s) (hC : xC s) (hX : va_X b L xs s s.heap) (hbl : b < s.heap.size) (hbA : ¬ A b) (hA : ∀ q, s.heap.size ≤ q → A q) (hr : 6 * r + 6 ≤ L) (hL : L ≤ 3072) (hK : va_K D cx (zty cs cm) s)
    (hP : va_P D cx (zw ad cs am cm u j u k) H) (hD : va_D A (zw ad cs am cm u j u k)) (hS : va_S A s.heap H locs) (hZ : xTA A s H) (hok : sp_ok u) (hl : lv_has ls 8 [(4, .int (nI (6 * r))), (0, .ref b), (1, .ref (ad 0)), (2, .ref (am 0)), (3, .ref (ad 15))])
    (ih : ∀ (H1 : Heap) (locs1 : List Loc) (ls1 : Array Slot) (u1 : Sg) (j1 : Jy) (k1 : Jm), lv_has ls1 8 [(4, .int (nI (6 * r))), (0, .ref b), (1, .ref (ad 0)), (2, .ref (am 0)), (3, .ref (ad 15))] → va_P D cx (zw ad cs am cm u1 j1 u1 k1) H1 → va_D A (zw ad cs am cm u1 j1 u1 k1) → va_S A s.heap H1 locs1 → xTA A s H1 → sp_ok u1 → W p l e room_1 s m #[Value.ref b] below meth c H1 locs1 (30 + r) (318 + 6 * r) Q (F0 m 1039 ls1 [])) :
    W p l e room_1 s m #[Value.ref b] below meth c H locs (29 + r) (312 + 6 * r) Q (F0 m 1039 ls []) := by
  refine W.widen (k := 30 + r) (n := 318 + 6 * r) (by omega) (by omega) ?_
  exact ih _ _ ls _ _ _ (lv_sub hl [0, 1, 2, 3, 4] rfl) hP hD hS hZ (hok)
