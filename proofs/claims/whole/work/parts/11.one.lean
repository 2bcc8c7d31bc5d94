theorem mt_mono {l : Launch} {y : MethodName} {ws : List Cond} {rm : Room} {Pc : Array Value → State → Prop} {Qc Qc' : Array Value → State → Outcome → State → Prop} {mc ms : Nat} {free : Addr → Prop} (h : Met l y ws rm Pc Qc mc ms free) (hQ : ∀ a st o t, Qc a st o t → Qc' a st o t) : Met l y ws rm Pc Qc' mc ms free := by
  intro p e ha hc hk s m args below hf happ hP hK
  obtain ⟨n, o, h1, h2, h3, h4, h5⟩ := h p e ha hc hk s m args below hf happ hP hK
  exact ⟨n, o, h1, h2, h3, hQ _ _ _ _ h4, h5⟩
/-- the class's rows for a boot hold what the boot b says -/
def xj (b : Bt) (j : Jx) : Prop := jx_de j = b.2.1 ∧ jx_nd j = b.2.2.2 ∧ ∀ k : Nat, k ≤ b.2.1.toNatClampNeg → jx_ru j k = sg_im b.1 (b.2.2.1 k).toNatClampNeg
theorem fo_0 (u : Sg) (x d : Int32) : sp_fo u 0 x d = 0 := by simp [sp_fo]
theorem fo_1 (u : Sg) (x d : Int32) : sp_fo u 1 x d = if d = 5 then 2 else if sg_en u = 32 then 4 else 0 := by simp [sp_fo]
theorem fo_2 (u : Sg) (x d : Int32) : sp_fo u 2 x d = if sg_en u = 32 then 4 else 0 := by simp [sp_fo]
theorem fo_3 (u : Sg) (x d : Int32) : sp_fo u 3 x d = if sp_ia u (sp_rm x 8) = 1 then 0 else 5 := by
  unfold sp_ia
  by_cases h : sg_ap u (sp_rm x 8).toNatClampNeg = 0
  · simp [sp_fo, h]
  · by_cases h2 : sg_ag u (sp_rm x 8).toNatClampNeg = sp_di u (sp_rm x 8)
    · simp [sp_fo, h, h2]
    · simp [sp_fo, h, h2]
theorem tk_in {ma : Nat → Int32} {k : Int32} (h : vp_in k 8) : sp_tk ma k = if ma k.toNatClampNeg = 0 then 0 else 1 := by
  unfold sp_tk
  rw [if_neg (xn_ge h), if_neg (show ¬ (8 : Int32) ≤ k from xn_nle (k := 8) (by decide) h)]
theorem fo_4 (u : Sg) (x d : Int32) (hk : vp_in (sp_rm x 8) 8) : sp_fo u 4 x d = if sp_tk (sg_ma u) (sp_rm x 8) = 0 then 6 else if sp_on u (sp_rm x 8) = 1 then 0 else 7 := by
  rw [tk_in hk]
  unfold sp_on
  by_cases h : sg_ma u (sp_rm x 8).toNatClampNeg = 0
  · simp [sp_fo, h]
  · by_cases h2 : sg_po u (sp_rm x 8).toNatClampNeg = sp_po u (sg_ma u (sp_rm x 8).toNatClampNeg)
    · simp [sp_fo, h, h2]
    · simp [sp_fo, h, h2]
theorem fo_5 (u : Sg) (x d : Int32) : sp_fo u 5 x d = 0 := by simp [sp_fo]
theorem fo_6 (u : Sg) (x d : Int32) : sp_fo u 6 x d = if sg_en u = 32 then 4 else 0 := by simp [sp_fo]
theorem fo_7 (u : Sg) (x d : Int32) : sp_fo u 7 x d = 0 := by simp [sp_fo]
theorem fo_8 (u : Sg) (x d : Int32) : sp_fo u 8 x d = if sp_lf (sg_ma u) < 0 then 8 else 0 := by simp [sp_fo]
theorem fo_9 (u : Sg) (c x d : Int32) (h : 8 < c) : sp_fo u c x d = 1 := by simp [sp_fo, h]
theorem ac_0 (b : Bt) (x y d : Int32) : sp_ac b 0 x y d = (b.1, d - 1, b.2.2.1, b.2.2.2) := by simp [sp_ac]
theorem ac_1 (b : Bt) (x y d : Int32) : sp_ac b 1 x y d = sp_la b (sp_rm x 8) (d + 1) := by simp [sp_ac]
theorem ac_2 (b : Bt) (x y d : Int32) : sp_ac b 2 x y d = (sp_no b.1 (sp_rm x 6) y.toInt64, b.2) := by simp [sp_ac]
theorem ac_3 (b : Bt) (x y d : Int32) : sp_ac b 3 x y d = b := by simp [sp_ac]
theorem ac_4 (b : Bt) (x y d : Int32) : sp_ac b 4 x y d = (ss_ac b.1 (sg_se b.1 (sp_rm x 8).toNatClampNeg), b.2) := by simp [sp_ac]
theorem ac_5 (b : Bt) (x y d : Int32) : sp_ac b 5 x y d = (ss_ac b.1 (sp_h (sg_ac b.1) x.toInt64), b.2) := by simp [sp_ac]
theorem ac_6 (b : Bt) (x y d : Int32) : sp_ac b 6 x y d = (sp_no b.1 (sp_rm x 6) (sg_ac b.1), b.2) := by simp [sp_ac]
theorem ac_7 (b : Bt) (x y d : Int32) : sp_ac b 7 x y d = (b.1, b.2.1, b.2.2.1, if sg_ac b.1 = 0 then upd b.2.2.2 d.toNatClampNeg (b.2.2.2 d.toNatClampNeg + x) else b.2.2.2) := by simp [sp_ac]
theorem ac_8 (b : Bt) (x y d : Int32) : sp_ac b 8 x y d = (sp_fi b.1 (sp_lf (sg_ma b.1)) (x + 1) (sg_ac b.1), b.2) := by simp [sp_ac]
theorem i32_12 (a : Int32) : a + 1 + 1 = a + 2 := by rw [Int32.add_assoc]; rfl
theorem i32_123 (a : Int32) : a + 1 + 1 + 1 = a + 1 + 2 := by rw [Int32.add_assoc (a + 1) 1 1]; rfl
theorem i32_0 (a : Int32) : a + 0 = a := Int32.add_zero a
/-- a depth above which there is one more -/
theorem de_up {d : Int32} (h : vp_in d 6) (h5 : ¬ d = 5) : vp_in (d + 1) 6 := by
  obtain ⟨k, hk, rfl⟩ := vp_in_of h (by decide)
  rw [nI_1]
  refine vp_in_nI ?_ (by decide)
  have : k ≠ 5 := fun z => h5 (by rw [z]; rfl)
  omega
theorem de_5 {d : Int32} (h : d = 5) : 6 ≤ d + 1 := by rw [h]; decide
theorem de_c {d : Int32} (h : vp_in d 6) (h5 : ¬ d = 5) : (d + 1).toNatClampNeg = d.toNatClampNeg + 1 := by
  obtain ⟨k, hk, rfl⟩ := vp_in_of h (by decide)
  rw [nI_1, nI_clamp (by omega), nI_clamp (by omega)]
theorem de_d {d : Int32} (h : vp_in d 6) : (d - 1).toNatClampNeg ≤ d.toNatClampNeg := by
  obtain ⟨k, hk, rfl⟩ := vp_in_of h (by decide)
  rcases (show k = 0 ∨ k = 1 ∨ k = 2 ∨ k = 3 ∨ k = 4 ∨ k = 5 by omega) with h | h | h | h | h | h <;> subst h <;> decide
theorem en_in {u : Sg} (h : sp_ok u) (h2 : ¬ sg_en u = 32) : vp_in (sg_en u) 32 := by
  obtain ⟨⟨n, hn, e⟩, -⟩ := h
  rw [e] at h2 ⊢
  refine vp_in_nI ?_ (by decide)
  have : n ≠ 32 := fun z => h2 (by rw [z]; rfl)
  omega
theorem lf_in {ma : Nat → Int32} (h : ¬ sp_lf ma < 0) : vp_in (sp_lf ma) 8 := by
  rcases sp_lf_cases ma with e | ⟨k, hk, e⟩
  · exact absurd (by rw [e]; decide) h
  · rw [e]; exact vp_in_nI hk (by decide)
theorem lf_m1 {ma : Nat → Int32} (h : sp_lf ma < 0) : sp_lf ma = -1 := by
  rcases sp_lf_cases ma with e | ⟨k, hk, e⟩
  · exact e
  · rw [e] at h; exact absurd h (nI_pos (by omega))
theorem tk_01 (ma : Nat → Int32) (k : Int32) : sp_tk ma k = 0 ∨ sp_tk ma k = 1 := by
  unfold sp_tk
  split
  · exact Or.inl rfl
  split
  · exact Or.inl rfl
  split
  · exact Or.inl rfl
  · exact Or.inr rfl
theorem on_01 (u : Sg) (k : Int32) : sp_on u k = 0 ∨ sp_on u k = 1 := by
  unfold sp_on
  split
  · exact Or.inr rfl
  · exact Or.inl rfl
theorem ia_01 (u : Sg) (k : Int32) : sp_ia u k = 0 ∨ sp_ia u k = 1 := by
  unfold sp_ia
  split
  · exact Or.inl rfl
  split
  · exact Or.inr rfl
  · exact Or.inl rfl
theorem im_ac (u : Sg) (x : Int64) : sg_im (ss_ac u x) = sg_im u := rfl
set_option maxHeartbeats 4000000 in
/-- an instruction of code 0 without a fault -/
theorem c_ok_0 (l : Launch) (D : va_G) (cs : Nat → ClassId) (ad : Nat → Nat) (sz : Nat) (b : Bt) (j : Jx) (hs : sg_st b.1 < 100) (hd : vp_in b.2.1 6) (hok : sp_ok b.1) (hJ : xj b j) (hf : sp_if b = 0) (hc : sp_c0 b = 0) : Met l y_ms_doInstruction (Cond.code y_ms_doInstruction b_ms_doInstruction 1 (some .int) :: TB) { frames := 5, cells := 0, slots := 0, locals := 120 } (va_Pc [.ref (ad 0)] (xw_Pre D cs ad b.1 j sz)) (va_Qi (fun (r : Int32) (j1 : Jx) => r = 0 ∧ xj (sp_in b) j1) (fun (j1 : Jx) t => xw_B D cs ad (va_A (xw ad cs b.1 j) sz) (sp_in b).1 j1 t) (va_A (xw ad cs b.1 j) sz)) 0 0 (va_A (xw ad cs b.1 j) sz) := by
  have hd' : vp_in (jx_de j) 6 := by rw [hJ.1]; exact hd
  have g0 : sp_dg (jx_ru j (jx_de j).toNatClampNeg) (jx_nd j (jx_de j).toNatClampNeg) = sp_c0 b := by
    unfold sp_c0; rw [hJ.1, hJ.2.1, hJ.2.2 _ (Nat.le_refl _)]
  have g1 : sp_dg (jx_ru j (jx_de j).toNatClampNeg) (jx_nd j (jx_de j).toNatClampNeg + 1) = sp_c1 b := by
    unfold sp_c1; rw [hJ.1, hJ.2.1, hJ.2.2 _ (Nat.le_refl _)]
  have g2 : sp_dg (jx_ru j (jx_de j).toNatClampNeg) (jx_nd j (jx_de j).toNatClampNeg + 1 + 1) = sp_c2 b := by
    unfold sp_c2; rw [hJ.1, hJ.2.1, hJ.2.2 _ (Nat.le_refl _), i32_12]
  have r8 : vp_in (sp_rm (sp_c1 b) 8) 8 := sp_rd8 _ _
  unfold sp_if at hf
  rw [hc] at hf g0
  · skip
    refine mt_mono (c_do_0 l D cs ad sz b.1 j hs hd' g0) ?_
    intro a st o t hq
    have e : sp_in b = sp_ac (b.1, b.2.1, b.2.2.1, upd b.2.2.2 b.2.1.toNatClampNeg (b.2.2.2 b.2.1.toNatClampNeg + 1 + sp_op 0)) 0 (sp_c1 b) (sp_c2 b) b.2.1 := by unfold sp_in; rw [hc]
    rw [ac_0] at e
    rw [e]
    obtain ⟨⟨r, j1, q1, ⟨q2, q3, q4, q5⟩, hB⟩, hF⟩ := hq
    exact ⟨⟨r, j1, q1, ⟨q2, by rw [q3, hJ.1], by rw [q4, hJ.1, hJ.2.1]; exact congrArg _ (i32_0 _).symm, fun k hk => by rw [q5]; exact hJ.2.2 k (Nat.le_trans hk (de_d hd))⟩, hB⟩, hF⟩
set_option maxHeartbeats 4000000 in
/-- an instruction of code 1 without a fault -/
theorem c_ok_1 (l : Launch) (D : va_G) (cs : Nat → ClassId) (ad : Nat → Nat) (sz : Nat) (b : Bt) (j : Jx) (hs : sg_st b.1 < 100) (hd : vp_in b.2.1 6) (hok : sp_ok b.1) (hJ : xj b j) (hf : sp_if b = 0) (hc : sp_c0 b = 1) : Met l y_ms_doInstruction (Cond.code y_ms_doInstruction b_ms_doInstruction 1 (some .int) :: TB) { frames := 5, cells := 0, slots := 0, locals := 120 } (va_Pc [.ref (ad 0)] (xw_Pre D cs ad b.1 j sz)) (va_Qi (fun (r : Int32) (j1 : Jx) => r = 0 ∧ xj (sp_in b) j1) (fun (j1 : Jx) t => xw_B D cs ad (va_A (xw ad cs b.1 j) sz) (sp_in b).1 j1 t) (va_A (xw ad cs b.1 j) sz)) 0 0 (va_A (xw ad cs b.1 j) sz) := by
  have hd' : vp_in (jx_de j) 6 := by rw [hJ.1]; exact hd
  have g0 : sp_dg (jx_ru j (jx_de j).toNatClampNeg) (jx_nd j (jx_de j).toNatClampNeg) = sp_c0 b := by
    unfold sp_c0; rw [hJ.1, hJ.2.1, hJ.2.2 _ (Nat.le_refl _)]
  have g1 : sp_dg (jx_ru j (jx_de j).toNatClampNeg) (jx_nd j (jx_de j).toNatClampNeg + 1) = sp_c1 b := by
    unfold sp_c1; rw [hJ.1, hJ.2.1, hJ.2.2 _ (Nat.le_refl _)]
  have g2 : sp_dg (jx_ru j (jx_de j).toNatClampNeg) (jx_nd j (jx_de j).toNatClampNeg + 1 + 1) = sp_c2 b := by
    unfold sp_c2; rw [hJ.1, hJ.2.1, hJ.2.2 _ (Nat.le_refl _), i32_12]
  have r8 : vp_in (sp_rm (sp_c1 b) 8) 8 := sp_rd8 _ _
  unfold sp_if at hf
  rw [hc] at hf g0
  · skip
    rw [fo_1] at hf
    have h5 : ¬ b.2.1 = 5 := fun z => by rw [if_pos z] at hf; exact absurd hf (by decide)
    rw [if_neg h5] at hf
    have he : ¬ sg_en b.1 = 32 := fun z => by rw [if_pos z] at hf; exact absurd hf (by decide)
    refine mt_mono (c_do_1t l D cs ad sz b.1 j hs hd' g0 (by rw [hJ.1]; exact de_up hd h5) (en_in hok he)) ?_
    intro a st o t hq
    have e : sp_in b = sp_ac (b.1, b.2.1, b.2.2.1, upd b.2.2.2 b.2.1.toNatClampNeg (b.2.2.2 b.2.1.toNatClampNeg + 1 + sp_op 1)) 1 (sp_c1 b) (sp_c2 b) b.2.1 := by unfold sp_in; rw [hc]
    rw [ac_1] at e
    rw [e]
    obtain ⟨⟨r, j1, q1, ⟨q2, q3, q4, q5⟩, hB⟩, hF⟩ := hq
    rw [g1] at hB q5
    rw [hJ.1] at hB q5 q4 q3
    rw [hJ.2.1] at q4
    refine ⟨⟨r, j1, q1, ⟨q2, q3, q4, fun k hk => ?_⟩, hB⟩, hF⟩
    have hk : k ≤ (b.2.1 + 1).toNatClampNeg := hk
    rw [q5]
    show vp_updL (jx_ru j) (b.2.1 + 1).toNatClampNeg _ k = sg_im b.1 (upd b.2.2.1 (b.2.1 + 1).toNatClampNeg _ k).toNatClampNeg
    by_cases z : k = (b.2.1 + 1).toNatClampNeg
    · rw [z, pk_uLs, pk_us]
    · rw [pk_uLn z, pk_un z]
      exact hJ.2.2 k (by rw [de_c hd h5] at hk z; omega)
set_option maxHeartbeats 4000000 in
/-- an instruction of code 2 without a fault -/
theorem c_ok_2 (l : Launch) (D : va_G) (cs : Nat → ClassId) (ad : Nat → Nat) (sz : Nat) (b : Bt) (j : Jx) (hs : sg_st b.1 < 100) (hd : vp_in b.2.1 6) (hok : sp_ok b.1) (hJ : xj b j) (hf : sp_if b = 0) (hc : sp_c0 b = 2) : Met l y_ms_doInstruction (Cond.code y_ms_doInstruction b_ms_doInstruction 1 (some .int) :: TB) { frames := 5, cells := 0, slots := 0, locals := 120 } (va_Pc [.ref (ad 0)] (xw_Pre D cs ad b.1 j sz)) (va_Qi (fun (r : Int32) (j1 : Jx) => r = 0 ∧ xj (sp_in b) j1) (fun (j1 : Jx) t => xw_B D cs ad (va_A (xw ad cs b.1 j) sz) (sp_in b).1 j1 t) (va_A (xw ad cs b.1 j) sz)) 0 0 (va_A (xw ad cs b.1 j) sz) := by
  have hd' : vp_in (jx_de j) 6 := by rw [hJ.1]; exact hd
  have g0 : sp_dg (jx_ru j (jx_de j).toNatClampNeg) (jx_nd j (jx_de j).toNatClampNeg) = sp_c0 b := by
    unfold sp_c0; rw [hJ.1, hJ.2.1, hJ.2.2 _ (Nat.le_refl _)]
  have g1 : sp_dg (jx_ru j (jx_de j).toNatClampNeg) (jx_nd j (jx_de j).toNatClampNeg + 1) = sp_c1 b := by
    unfold sp_c1; rw [hJ.1, hJ.2.1, hJ.2.2 _ (Nat.le_refl _)]
  have g2 : sp_dg (jx_ru j (jx_de j).toNatClampNeg) (jx_nd j (jx_de j).toNatClampNeg + 1 + 1) = sp_c2 b := by
    unfold sp_c2; rw [hJ.1, hJ.2.1, hJ.2.2 _ (Nat.le_refl _), i32_12]
  have r8 : vp_in (sp_rm (sp_c1 b) 8) 8 := sp_rd8 _ _
  unfold sp_if at hf
  rw [hc] at hf g0
  · skip
    rw [fo_2] at hf
    have he : ¬ sg_en b.1 = 32 := fun z => by rw [if_pos z] at hf; exact absurd hf (by decide)
    refine mt_mono (c_do_2t l D cs ad sz b.1 j hs hd' g0 (en_in hok he)) ?_
    intro a st o t hq
    have e : sp_in b = sp_ac (b.1, b.2.1, b.2.2.1, upd b.2.2.2 b.2.1.toNatClampNeg (b.2.2.2 b.2.1.toNatClampNeg + 1 + sp_op 2)) 2 (sp_c1 b) (sp_c2 b) b.2.1 := by unfold sp_in; rw [hc]
    rw [ac_2] at e
    rw [e]
    obtain ⟨⟨r, j1, q1, ⟨q2, q3, q4, q5⟩, hB⟩, hF⟩ := hq
    rw [g1, g2] at hB
    exact ⟨⟨r, j1, q1, ⟨q2, by rw [q3, hJ.1], by rw [q4, hJ.1, hJ.2.1, i32_123]; rfl, fun k hk => by rw [q5]; exact hJ.2.2 k hk⟩, hB⟩, hF⟩
set_option maxHeartbeats 4000000 in
/-- an instruction of code 3 without a fault -/
theorem c_ok_3 (l : Launch) (D : va_G) (cs : Nat → ClassId) (ad : Nat → Nat) (sz : Nat) (b : Bt) (j : Jx) (hs : sg_st b.1 < 100) (hd : vp_in b.2.1 6) (hok : sp_ok b.1) (hJ : xj b j) (hf : sp_if b = 0) (hc : sp_c0 b = 3) : Met l y_ms_doInstruction (Cond.code y_ms_doInstruction b_ms_doInstruction 1 (some .int) :: TB) { frames := 5, cells := 0, slots := 0, locals := 120 } (va_Pc [.ref (ad 0)] (xw_Pre D cs ad b.1 j sz)) (va_Qi (fun (r : Int32) (j1 : Jx) => r = 0 ∧ xj (sp_in b) j1) (fun (j1 : Jx) t => xw_B D cs ad (va_A (xw ad cs b.1 j) sz) (sp_in b).1 j1 t) (va_A (xw ad cs b.1 j) sz)) 0 0 (va_A (xw ad cs b.1 j) sz) := by
  have hd' : vp_in (jx_de j) 6 := by rw [hJ.1]; exact hd
  have g0 : sp_dg (jx_ru j (jx_de j).toNatClampNeg) (jx_nd j (jx_de j).toNatClampNeg) = sp_c0 b := by
    unfold sp_c0; rw [hJ.1, hJ.2.1, hJ.2.2 _ (Nat.le_refl _)]
  have g1 : sp_dg (jx_ru j (jx_de j).toNatClampNeg) (jx_nd j (jx_de j).toNatClampNeg + 1) = sp_c1 b := by
    unfold sp_c1; rw [hJ.1, hJ.2.1, hJ.2.2 _ (Nat.le_refl _)]
  have g2 : sp_dg (jx_ru j (jx_de j).toNatClampNeg) (jx_nd j (jx_de j).toNatClampNeg + 1 + 1) = sp_c2 b := by
    unfold sp_c2; rw [hJ.1, hJ.2.1, hJ.2.2 _ (Nat.le_refl _), i32_12]
  have r8 : vp_in (sp_rm (sp_c1 b) 8) 8 := sp_rd8 _ _
  unfold sp_if at hf
  rw [hc] at hf g0
  · skip
    rw [fo_3] at hf
    have h1 : sp_ia b.1 (sp_rm (sp_c1 b) 8) = 1 := by
      rcases ia_01 b.1 (sp_rm (sp_c1 b) 8) with z | z
      · rw [z, if_neg (by decide)] at hf; exact absurd hf (by decide)
      · exact z
    refine mt_mono (c_do_3t l D cs ad sz b.1 j hs hd' g0 (by rw [g1]; exact h1)) ?_
    intro a st o t hq
    have e : sp_in b = sp_ac (b.1, b.2.1, b.2.2.1, upd b.2.2.2 b.2.1.toNatClampNeg (b.2.2.2 b.2.1.toNatClampNeg + 1 + sp_op 3)) 3 (sp_c1 b) (sp_c2 b) b.2.1 := by unfold sp_in; rw [hc]
    rw [ac_3] at e
    rw [e]
    obtain ⟨⟨r, j1, q1, ⟨q2, q3, q4, q5⟩, hB⟩, hF⟩ := hq
    exact ⟨⟨r, j1, q1, ⟨q2, by rw [q3, hJ.1], by rw [q4, hJ.1, hJ.2.1]; rfl, fun k hk => by rw [q5]; exact hJ.2.2 k hk⟩, hB⟩, hF⟩
set_option maxHeartbeats 4000000 in
/-- an instruction of code 4 without a fault -/
theorem c_ok_4 (l : Launch) (D : va_G) (cs : Nat → ClassId) (ad : Nat → Nat) (sz : Nat) (b : Bt) (j : Jx) (hs : sg_st b.1 < 100) (hd : vp_in b.2.1 6) (hok : sp_ok b.1) (hJ : xj b j) (hf : sp_if b = 0) (hc : sp_c0 b = 4) : Met l y_ms_doInstruction (Cond.code y_ms_doInstruction b_ms_doInstruction 1 (some .int) :: TB) { frames := 5, cells := 0, slots := 0, locals := 120 } (va_Pc [.ref (ad 0)] (xw_Pre D cs ad b.1 j sz)) (va_Qi (fun (r : Int32) (j1 : Jx) => r = 0 ∧ xj (sp_in b) j1) (fun (j1 : Jx) t => xw_B D cs ad (va_A (xw ad cs b.1 j) sz) (sp_in b).1 j1 t) (va_A (xw ad cs b.1 j) sz)) 0 0 (va_A (xw ad cs b.1 j) sz) := by
  have hd' : vp_in (jx_de j) 6 := by rw [hJ.1]; exact hd
  have g0 : sp_dg (jx_ru j (jx_de j).toNatClampNeg) (jx_nd j (jx_de j).toNatClampNeg) = sp_c0 b := by
    unfold sp_c0; rw [hJ.1, hJ.2.1, hJ.2.2 _ (Nat.le_refl _)]
  have g1 : sp_dg (jx_ru j (jx_de j).toNatClampNeg) (jx_nd j (jx_de j).toNatClampNeg + 1) = sp_c1 b := by
    unfold sp_c1; rw [hJ.1, hJ.2.1, hJ.2.2 _ (Nat.le_refl _)]
  have g2 : sp_dg (jx_ru j (jx_de j).toNatClampNeg) (jx_nd j (jx_de j).toNatClampNeg + 1 + 1) = sp_c2 b := by
    unfold sp_c2; rw [hJ.1, hJ.2.1, hJ.2.2 _ (Nat.le_refl _), i32_12]
  have r8 : vp_in (sp_rm (sp_c1 b) 8) 8 := sp_rd8 _ _
  unfold sp_if at hf
  rw [hc] at hf g0
  · skip
    rw [fo_4 _ _ _ r8] at hf
    have h1 : sp_tk (sg_ma b.1) (sp_rm (sp_c1 b) 8) = 1 := by
      rcases tk_01 (sg_ma b.1) (sp_rm (sp_c1 b) 8) with z | z
      · rw [z, if_pos rfl] at hf; exact absurd hf (by decide)
      · exact z
    rw [h1, if_neg (by decide)] at hf
    have h2 : sp_on b.1 (sp_rm (sp_c1 b) 8) = 1 := by
      rcases on_01 b.1 (sp_rm (sp_c1 b) 8) with z | z
      · rw [z, if_neg (by decide)] at hf; exact absurd hf (by decide)
      · exact z
    refine mt_mono (c_do_4t l D cs ad sz b.1 j hs hd' g0 (by rw [g1]; exact h1) (by rw [g1]; exact h2)) ?_
    intro a st o t hq
    have e : sp_in b = sp_ac (b.1, b.2.1, b.2.2.1, upd b.2.2.2 b.2.1.toNatClampNeg (b.2.2.2 b.2.1.toNatClampNeg + 1 + sp_op 4)) 4 (sp_c1 b) (sp_c2 b) b.2.1 := by unfold sp_in; rw [hc]
    rw [ac_4] at e
    rw [e]
    obtain ⟨⟨r, j1, q1, ⟨q2, q3, q4, q5⟩, hB⟩, hF⟩ := hq
    rw [g1] at hB
    exact ⟨⟨r, j1, q1, ⟨q2, by rw [q3, hJ.1], by rw [q4, hJ.1, hJ.2.1]; rfl, fun k hk => by rw [q5]; exact hJ.2.2 k hk⟩, hB⟩, hF⟩
set_option maxHeartbeats 4000000 in
/-- an instruction of code 5 without a fault -/
theorem c_ok_5 (l : Launch) (D : va_G) (cs : Nat → ClassId) (ad : Nat → Nat) (sz : Nat) (b : Bt) (j : Jx) (hs : sg_st b.1 < 100) (hd : vp_in b.2.1 6) (hok : sp_ok b.1) (hJ : xj b j) (hf : sp_if b = 0) (hc : sp_c0 b = 5) : Met l y_ms_doInstruction (Cond.code y_ms_doInstruction b_ms_doInstruction 1 (some .int) :: TB) { frames := 5, cells := 0, slots := 0, locals := 120 } (va_Pc [.ref (ad 0)] (xw_Pre D cs ad b.1 j sz)) (va_Qi (fun (r : Int32) (j1 : Jx) => r = 0 ∧ xj (sp_in b) j1) (fun (j1 : Jx) t => xw_B D cs ad (va_A (xw ad cs b.1 j) sz) (sp_in b).1 j1 t) (va_A (xw ad cs b.1 j) sz)) 0 0 (va_A (xw ad cs b.1 j) sz) := by
  have hd' : vp_in (jx_de j) 6 := by rw [hJ.1]; exact hd
  have g0 : sp_dg (jx_ru j (jx_de j).toNatClampNeg) (jx_nd j (jx_de j).toNatClampNeg) = sp_c0 b := by
    unfold sp_c0; rw [hJ.1, hJ.2.1, hJ.2.2 _ (Nat.le_refl _)]
  have g1 : sp_dg (jx_ru j (jx_de j).toNatClampNeg) (jx_nd j (jx_de j).toNatClampNeg + 1) = sp_c1 b := by
    unfold sp_c1; rw [hJ.1, hJ.2.1, hJ.2.2 _ (Nat.le_refl _)]
  have g2 : sp_dg (jx_ru j (jx_de j).toNatClampNeg) (jx_nd j (jx_de j).toNatClampNeg + 1 + 1) = sp_c2 b := by
    unfold sp_c2; rw [hJ.1, hJ.2.1, hJ.2.2 _ (Nat.le_refl _), i32_12]
  have r8 : vp_in (sp_rm (sp_c1 b) 8) 8 := sp_rd8 _ _
  unfold sp_if at hf
  rw [hc] at hf g0
  · skip
    refine mt_mono (c_do_5 l D cs ad sz b.1 j hs hd' g0) ?_
    intro a st o t hq
    have e : sp_in b = sp_ac (b.1, b.2.1, b.2.2.1, upd b.2.2.2 b.2.1.toNatClampNeg (b.2.2.2 b.2.1.toNatClampNeg + 1 + sp_op 5)) 5 (sp_c1 b) (sp_c2 b) b.2.1 := by unfold sp_in; rw [hc]
    rw [ac_5] at e
    rw [e]
    obtain ⟨⟨r, j1, q1, ⟨q2, q3, q4, q5⟩, hB⟩, hF⟩ := hq
    rw [g1] at hB
    exact ⟨⟨r, j1, q1, ⟨q2, by rw [q3, hJ.1], by rw [q4, hJ.1, hJ.2.1]; rfl, fun k hk => by rw [q5]; exact (hJ.2.2 k hk).trans (congrFun (im_ac b.1 (sp_h (sg_ac b.1) (sp_c1 b).toInt64)).symm _)⟩, hB⟩, hF⟩
set_option maxHeartbeats 4000000 in
/-- an instruction of code 6 without a fault -/
theorem c_ok_6 (l : Launch) (D : va_G) (cs : Nat → ClassId) (ad : Nat → Nat) (sz : Nat) (b : Bt) (j : Jx) (hs : sg_st b.1 < 100) (hd : vp_in b.2.1 6) (hok : sp_ok b.1) (hJ : xj b j) (hf : sp_if b = 0) (hc : sp_c0 b = 6) : Met l y_ms_doInstruction (Cond.code y_ms_doInstruction b_ms_doInstruction 1 (some .int) :: TB) { frames := 5, cells := 0, slots := 0, locals := 120 } (va_Pc [.ref (ad 0)] (xw_Pre D cs ad b.1 j sz)) (va_Qi (fun (r : Int32) (j1 : Jx) => r = 0 ∧ xj (sp_in b) j1) (fun (j1 : Jx) t => xw_B D cs ad (va_A (xw ad cs b.1 j) sz) (sp_in b).1 j1 t) (va_A (xw ad cs b.1 j) sz)) 0 0 (va_A (xw ad cs b.1 j) sz) := by
  have hd' : vp_in (jx_de j) 6 := by rw [hJ.1]; exact hd
  have g0 : sp_dg (jx_ru j (jx_de j).toNatClampNeg) (jx_nd j (jx_de j).toNatClampNeg) = sp_c0 b := by
    unfold sp_c0; rw [hJ.1, hJ.2.1, hJ.2.2 _ (Nat.le_refl _)]
  have g1 : sp_dg (jx_ru j (jx_de j).toNatClampNeg) (jx_nd j (jx_de j).toNatClampNeg + 1) = sp_c1 b := by
    unfold sp_c1; rw [hJ.1, hJ.2.1, hJ.2.2 _ (Nat.le_refl _)]
  have g2 : sp_dg (jx_ru j (jx_de j).toNatClampNeg) (jx_nd j (jx_de j).toNatClampNeg + 1 + 1) = sp_c2 b := by
    unfold sp_c2; rw [hJ.1, hJ.2.1, hJ.2.2 _ (Nat.le_refl _), i32_12]
  have r8 : vp_in (sp_rm (sp_c1 b) 8) 8 := sp_rd8 _ _
  unfold sp_if at hf
  rw [hc] at hf g0
  · skip
    rw [fo_6] at hf
    have he : ¬ sg_en b.1 = 32 := fun z => by rw [if_pos z] at hf; exact absurd hf (by decide)
    refine mt_mono (c_do_6t l D cs ad sz b.1 j hs hd' g0 (en_in hok he)) ?_
    intro a st o t hq
    have e : sp_in b = sp_ac (b.1, b.2.1, b.2.2.1, upd b.2.2.2 b.2.1.toNatClampNeg (b.2.2.2 b.2.1.toNatClampNeg + 1 + sp_op 6)) 6 (sp_c1 b) (sp_c2 b) b.2.1 := by unfold sp_in; rw [hc]
    rw [ac_6] at e
    rw [e]
    obtain ⟨⟨r, j1, q1, ⟨q2, q3, q4, q5⟩, hB⟩, hF⟩ := hq
    rw [g1] at hB
    exact ⟨⟨r, j1, q1, ⟨q2, by rw [q3, hJ.1], by rw [q4, hJ.1, hJ.2.1]; rfl, fun k hk => by rw [q5]; exact hJ.2.2 k hk⟩, hB⟩, hF⟩
set_option maxHeartbeats 4000000 in
/-- an instruction of code 7 without a fault -/
theorem c_ok_7 (l : Launch) (D : va_G) (cs : Nat → ClassId) (ad : Nat → Nat) (sz : Nat) (b : Bt) (j : Jx) (hs : sg_st b.1 < 100) (hd : vp_in b.2.1 6) (hok : sp_ok b.1) (hJ : xj b j) (hf : sp_if b = 0) (hc : sp_c0 b = 7) : Met l y_ms_doInstruction (Cond.code y_ms_doInstruction b_ms_doInstruction 1 (some .int) :: TB) { frames := 5, cells := 0, slots := 0, locals := 120 } (va_Pc [.ref (ad 0)] (xw_Pre D cs ad b.1 j sz)) (va_Qi (fun (r : Int32) (j1 : Jx) => r = 0 ∧ xj (sp_in b) j1) (fun (j1 : Jx) t => xw_B D cs ad (va_A (xw ad cs b.1 j) sz) (sp_in b).1 j1 t) (va_A (xw ad cs b.1 j) sz)) 0 0 (va_A (xw ad cs b.1 j) sz) := by
  have hd' : vp_in (jx_de j) 6 := by rw [hJ.1]; exact hd
  have g0 : sp_dg (jx_ru j (jx_de j).toNatClampNeg) (jx_nd j (jx_de j).toNatClampNeg) = sp_c0 b := by
    unfold sp_c0; rw [hJ.1, hJ.2.1, hJ.2.2 _ (Nat.le_refl _)]
  have g1 : sp_dg (jx_ru j (jx_de j).toNatClampNeg) (jx_nd j (jx_de j).toNatClampNeg + 1) = sp_c1 b := by
    unfold sp_c1; rw [hJ.1, hJ.2.1, hJ.2.2 _ (Nat.le_refl _)]
  have g2 : sp_dg (jx_ru j (jx_de j).toNatClampNeg) (jx_nd j (jx_de j).toNatClampNeg + 1 + 1) = sp_c2 b := by
    unfold sp_c2; rw [hJ.1, hJ.2.1, hJ.2.2 _ (Nat.le_refl _), i32_12]
  have r8 : vp_in (sp_rm (sp_c1 b) 8) 8 := sp_rd8 _ _
  unfold sp_if at hf
  rw [hc] at hf g0
  · skip
    refine mt_mono (c_do_7 l D cs ad sz b.1 j hs hd' g0) ?_
    intro a st o t hq
    have e : sp_in b = sp_ac (b.1, b.2.1, b.2.2.1, upd b.2.2.2 b.2.1.toNatClampNeg (b.2.2.2 b.2.1.toNatClampNeg + 1 + sp_op 7)) 7 (sp_c1 b) (sp_c2 b) b.2.1 := by unfold sp_in; rw [hc]
    rw [ac_7] at e
    rw [e]
    obtain ⟨⟨r, j1, q1, ⟨q2, q3, q4, q5⟩, hB⟩, hF⟩ := hq
    rw [g1, hJ.1, hJ.2.1] at q4
    exact ⟨⟨r, j1, q1, ⟨q2, by rw [q3, hJ.1], q4, fun k hk => by rw [q5]; exact hJ.2.2 k hk⟩, hB⟩, hF⟩
set_option maxHeartbeats 4000000 in
/-- an instruction of code 8 without a fault -/
theorem c_ok_8 (l : Launch) (D : va_G) (cs : Nat → ClassId) (ad : Nat → Nat) (sz : Nat) (b : Bt) (j : Jx) (hs : sg_st b.1 < 100) (hd : vp_in b.2.1 6) (hok : sp_ok b.1) (hJ : xj b j) (hf : sp_if b = 0) (hc : sp_c0 b = 8) : Met l y_ms_doInstruction (Cond.code y_ms_doInstruction b_ms_doInstruction 1 (some .int) :: TB) { frames := 5, cells := 0, slots := 0, locals := 120 } (va_Pc [.ref (ad 0)] (xw_Pre D cs ad b.1 j sz)) (va_Qi (fun (r : Int32) (j1 : Jx) => r = 0 ∧ xj (sp_in b) j1) (fun (j1 : Jx) t => xw_B D cs ad (va_A (xw ad cs b.1 j) sz) (sp_in b).1 j1 t) (va_A (xw ad cs b.1 j) sz)) 0 0 (va_A (xw ad cs b.1 j) sz) := by
  have hd' : vp_in (jx_de j) 6 := by rw [hJ.1]; exact hd
  have g0 : sp_dg (jx_ru j (jx_de j).toNatClampNeg) (jx_nd j (jx_de j).toNatClampNeg) = sp_c0 b := by
    unfold sp_c0; rw [hJ.1, hJ.2.1, hJ.2.2 _ (Nat.le_refl _)]
  have g1 : sp_dg (jx_ru j (jx_de j).toNatClampNeg) (jx_nd j (jx_de j).toNatClampNeg + 1) = sp_c1 b := by
    unfold sp_c1; rw [hJ.1, hJ.2.1, hJ.2.2 _ (Nat.le_refl _)]
  have g2 : sp_dg (jx_ru j (jx_de j).toNatClampNeg) (jx_nd j (jx_de j).toNatClampNeg + 1 + 1) = sp_c2 b := by
    unfold sp_c2; rw [hJ.1, hJ.2.1, hJ.2.2 _ (Nat.le_refl _), i32_12]
  have r8 : vp_in (sp_rm (sp_c1 b) 8) 8 := sp_rd8 _ _
  unfold sp_if at hf
  rw [hc] at hf g0
  · skip
    rw [fo_8] at hf
    have h1 : ¬ sp_lf (sg_ma b.1) < 0 := fun z => by rw [if_pos z] at hf; exact absurd hf (by decide)
    refine mt_mono (c_do_8t l D cs ad sz b.1 j hs hd' g0 (lf_in h1)) ?_
    intro a st o t hq
    have e : sp_in b = sp_ac (b.1, b.2.1, b.2.2.1, upd b.2.2.2 b.2.1.toNatClampNeg (b.2.2.2 b.2.1.toNatClampNeg + 1 + sp_op 8)) 8 (sp_c1 b) (sp_c2 b) b.2.1 := by unfold sp_in; rw [hc]
    rw [ac_8] at e
    rw [e]
    obtain ⟨⟨r, j1, q1, ⟨q2, q3, q4, q5⟩, hB⟩, hF⟩ := hq
    rw [g1] at hB
    exact ⟨⟨r, j1, q1, ⟨q2, by rw [q3, hJ.1], by rw [q4, hJ.1, hJ.2.1]; rfl, fun k hk => by rw [q5]; exact hJ.2.2 k hk⟩, hB⟩, hF⟩
/-- an instruction without a fault -/
theorem c_do_ok (l : Launch) (D : va_G) (cs : Nat → ClassId) (ad : Nat → Nat) (sz : Nat) (b : Bt) (j : Jx) (hs : sg_st b.1 < 100) (hd : vp_in b.2.1 6) (hok : sp_ok b.1) (hJ : xj b j) (hf : sp_if b = 0) : Met l y_ms_doInstruction (Cond.code y_ms_doInstruction b_ms_doInstruction 1 (some .int) :: TB) { frames := 5, cells := 0, slots := 0, locals := 120 } (va_Pc [.ref (ad 0)] (xw_Pre D cs ad b.1 j sz)) (va_Qi (fun (r : Int32) (j1 : Jx) => r = 0 ∧ xj (sp_in b) j1) (fun (j1 : Jx) t => xw_B D cs ad (va_A (xw ad cs b.1 j) sz) (sp_in b).1 j1 t) (va_A (xw ad cs b.1 j) sz)) 0 0 (va_A (xw ad cs b.1 j) sz) := by
  obtain ⟨k, hk, ek⟩ := sp_dg16 (sg_im b.1 (b.2.2.1 b.2.1.toNatClampNeg).toNatClampNeg) (b.2.2.2 b.2.1.toNatClampNeg)
  have ek : sp_c0 b = nI k := ek
  rcases (show k = 0 ∨ k = 1 ∨ k = 2 ∨ k = 3 ∨ k = 4 ∨ k = 5 ∨ k = 6 ∨ k = 7 ∨ k = 8 ∨ 8 < k by omega) with h | h | h | h | h | h | h | h | h | h
  · subst h
    exact c_ok_0 l D cs ad sz b j hs hd hok hJ hf ek
  · subst h
    exact c_ok_1 l D cs ad sz b j hs hd hok hJ hf ek
  · subst h
    exact c_ok_2 l D cs ad sz b j hs hd hok hJ hf ek
  · subst h
    exact c_ok_3 l D cs ad sz b j hs hd hok hJ hf ek
  · subst h
    exact c_ok_4 l D cs ad sz b j hs hd hok hJ hf ek
  · subst h
    exact c_ok_5 l D cs ad sz b j hs hd hok hJ hf ek
  · subst h
    exact c_ok_6 l D cs ad sz b j hs hd hok hJ hf ek
  · subst h
    exact c_ok_7 l D cs ad sz b j hs hd hok hJ hf ek
  · subst h
    exact c_ok_8 l D cs ad sz b j hs hd hok hJ hf ek
  · unfold sp_if at hf
    rw [fo_9 _ _ _ _ (by rw [ek]; exact nI_lt (a := 8) h (by omega))] at hf
    exact absurd hf (by decide)
set_option maxHeartbeats 4000000 in
/-- an instruction with a fault -/
theorem c_do_ft (l : Launch) (D : va_G) (cs : Nat → ClassId) (ad : Nat → Nat) (sz : Nat) (b : Bt) (j : Jx) (hs : sg_st b.1 < 100) (hd : vp_in b.2.1 6) (hok : sp_ok b.1) (hJ : xj b j) (hf : ¬ sp_if b = 0) : Met l y_ms_doInstruction (Cond.code y_ms_doInstruction b_ms_doInstruction 1 (some .int) :: TB) { frames := 5, cells := 0, slots := 0, locals := 120 } (va_Pc [.ref (ad 0)] (xw_Pre D cs ad b.1 j sz)) (va_Qi (fun (r : Int32) (j1 : Jx) => r = sp_if b ∧ True) (fun (j1 : Jx) t => xw_B D cs ad (va_A (xw ad cs b.1 j) sz) b.1 j1 t) (va_A (xw ad cs b.1 j) sz)) 0 0 (va_A (xw ad cs b.1 j) sz) := by
  unfold sp_if
  have hd' : vp_in (jx_de j) 6 := by rw [hJ.1]; exact hd
  have g0 : sp_dg (jx_ru j (jx_de j).toNatClampNeg) (jx_nd j (jx_de j).toNatClampNeg) = sp_c0 b := by
    unfold sp_c0; rw [hJ.1, hJ.2.1, hJ.2.2 _ (Nat.le_refl _)]
  have g1 : sp_dg (jx_ru j (jx_de j).toNatClampNeg) (jx_nd j (jx_de j).toNatClampNeg + 1) = sp_c1 b := by
    unfold sp_c1; rw [hJ.1, hJ.2.1, hJ.2.2 _ (Nat.le_refl _)]
  have g2 : sp_dg (jx_ru j (jx_de j).toNatClampNeg) (jx_nd j (jx_de j).toNatClampNeg + 1 + 1) = sp_c2 b := by
    unfold sp_c2; rw [hJ.1, hJ.2.1, hJ.2.2 _ (Nat.le_refl _), i32_12]
  have r8 : vp_in (sp_rm (sp_c1 b) 8) 8 := sp_rd8 _ _
  obtain ⟨k, hk, ek⟩ := sp_dg16 (sg_im b.1 (b.2.2.1 b.2.1.toNatClampNeg).toNatClampNeg) (b.2.2.2 b.2.1.toNatClampNeg)
  have ek : sp_c0 b = nI k := ek
  unfold sp_if at hf
  rcases (show k = 0 ∨ k = 1 ∨ k = 2 ∨ k = 3 ∨ k = 4 ∨ k = 5 ∨ k = 6 ∨ k = 7 ∨ k = 8 ∨ 8 < k by omega) with h | h | h | h | h | h | h | h | h | h
  · subst h
    have hc : sp_c0 b = 0 := ek
    rw [hc] at hf g0 ⊢
    exact absurd (fo_0 _ _ _) hf
  · subst h
    have hc : sp_c0 b = 1 := ek
    rw [hc] at hf g0 ⊢
    rw [fo_1] at hf ⊢
    by_cases h5 : b.2.1 = 5
    · rw [if_pos h5]
      exact c_do_1d l D cs ad sz b.1 j hs hd' g0 (by rw [hJ.1]; exact de_5 h5)
    · rw [if_neg h5] at hf ⊢
      by_cases he : sg_en b.1 = 32
      · rw [if_pos he]
        exact c_do_1f l D cs ad sz b.1 j hs hd' g0 (by rw [hJ.1]; exact de_up hd h5) he
      · rw [if_neg he] at hf
        exact absurd rfl hf
  · subst h
    have hc : sp_c0 b = 2 := ek
    rw [hc] at hf g0 ⊢
    rw [fo_2] at hf ⊢
    by_cases he : sg_en b.1 = 32
    · rw [if_pos he]
      exact c_do_2f l D cs ad sz b.1 j hs hd' g0 he
    · rw [if_neg he] at hf
      exact absurd rfl hf
  · subst h
    have hc : sp_c0 b = 3 := ek
    rw [hc] at hf g0 ⊢
    rw [fo_3] at hf ⊢
    rcases ia_01 b.1 (sp_rm (sp_c1 b) 8) with z | z
    · rw [z, if_neg (by decide)]
      exact c_do_3f l D cs ad sz b.1 j hs hd' g0 (by rw [g1]; exact z)
    · rw [z, if_pos rfl] at hf
      exact absurd rfl hf
  · subst h
    have hc : sp_c0 b = 4 := ek
    rw [hc] at hf g0 ⊢
    rw [fo_4 _ _ _ r8] at hf ⊢
    rcases tk_01 (sg_ma b.1) (sp_rm (sp_c1 b) 8) with z | z
    · rw [z, if_pos rfl]
      exact c_do_4m l D cs ad sz b.1 j hs hd' g0 (by rw [g1]; exact z)
    · rw [z, if_neg (by decide)] at hf ⊢
      rcases on_01 b.1 (sp_rm (sp_c1 b) 8) with z2 | z2
      · rw [z2, if_neg (by decide)]
        exact c_do_4s l D cs ad sz b.1 j hs hd' g0 (by rw [g1]; exact z) (by rw [g1]; exact z2)
      · rw [z2, if_pos rfl] at hf
        exact absurd rfl hf
  · subst h
    have hc : sp_c0 b = 5 := ek
    rw [hc] at hf g0 ⊢
    exact absurd (fo_5 _ _ _) hf
  · subst h
    have hc : sp_c0 b = 6 := ek
    rw [hc] at hf g0 ⊢
    rw [fo_6] at hf ⊢
    by_cases he : sg_en b.1 = 32
    · rw [if_pos he]
      exact c_do_6f l D cs ad sz b.1 j hs hd' g0 he
    · rw [if_neg he] at hf
      exact absurd rfl hf
  · subst h
    have hc : sp_c0 b = 7 := ek
    rw [hc] at hf g0 ⊢
    exact absurd (fo_7 _ _ _) hf
  · subst h
    have hc : sp_c0 b = 8 := ek
    rw [hc] at hf g0 ⊢
    rw [fo_8] at hf ⊢
    by_cases z : sp_lf (sg_ma b.1) < 0
    · rw [if_pos z]
      exact c_do_8c l D cs ad sz b.1 j hs hd' g0 (lf_m1 z)
    · rw [if_neg z] at hf
      exact absurd rfl hf
  · have h8 : 8 < sp_c0 b := by rw [ek]; exact nI_lt (a := 8) h (by omega)
    rw [fo_9 _ _ _ _ h8]
    exact c_do_9 l D cs ad sz b.1 j hs hd' (by rw [g0]; exact h8)
