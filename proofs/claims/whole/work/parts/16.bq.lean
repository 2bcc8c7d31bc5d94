theorem ac_9 (b : Bt) (c x y d : Int32) (h : 8 < c) : sp_ac b c x y d = b := by
  have n : ∀ z : Int32, z ≤ 8 → ¬ c = z := fun z hz e => by rw [e] at h; exact absurd h (Int32.not_lt.mpr hz)
  unfold sp_ac
  rw [if_neg (n 0 (by decide)), if_neg (n 1 (by decide)), if_neg (n 2 (by decide)), if_neg (n 4 (by decide)), if_neg (n 5 (by decide)), if_neg (n 6 (by decide)), if_neg (n 7 (by decide)), if_neg (n 8 (by decide))]
/-- two boots that agree in all that counts -/
def bq (b b' : Bt) : Prop := b.1 = b'.1 ∧ b.2.1 = b'.2.1 ∧ ∀ k : Nat, k ≤ b.2.1.toNatClampNeg → b.2.2.1 k = b'.2.2.1 k ∧ b.2.2.2 k = b'.2.2.2 k
theorem bq_c {b b' : Bt} (h : bq b b') : sp_c0 b = sp_c0 b' ∧ sp_c1 b = sp_c1 b' ∧ sp_c2 b = sp_c2 b' := by
  obtain ⟨h1, h2, h3⟩ := h
  obtain ⟨h4, h5⟩ := h3 _ (Nat.le_refl _)
  rw [h2] at h4 h5
  unfold sp_c0 sp_c1 sp_c2
  rw [h1, h2, h4, h5]
  exact ⟨rfl, rfl, rfl⟩
theorem bq_if {b b' : Bt} (h : bq b b') : sp_if b = sp_if b' := by
  obtain ⟨e0, e1, -⟩ := bq_c h
  unfold sp_if
  rw [e0, e1, h.1, h.2.1]
theorem bq_upd {f g : Nat → Int32} {n m : Nat} {x y : Int32} (h : ∀ k : Nat, k ≤ n → f k = g k) (e : x = y) : ∀ k : Nat, k ≤ n → upd f m x k = upd g m y k := by
  intro k hk
  by_cases z : k = m
  · rw [z, pk_us, pk_us, e]
  · rw [pk_un z, pk_un z, h k hk]
theorem bq_ac {u : Sg} {d : Int32} {R R' N N' : Nat → Int32} {c x y : Int32} (hd : vp_in d 6) (hc : c = 1 → ¬ d = 5) (hk : ∃ k : Nat, k < 16 ∧ c = nI k) (hR : ∀ k : Nat, k ≤ d.toNatClampNeg → R k = R' k) (hN : ∀ k : Nat, k ≤ d.toNatClampNeg → N k = N' k) : bq (sp_ac (u, d, R, N) c x y d) (sp_ac (u, d, R', N') c x y d) := by
  obtain ⟨k, hk, ek⟩ := hk
  have hb : ∀ v : Sg, bq (v, d, R, N) (v, d, R', N') := fun v => ⟨rfl, rfl, fun k h => ⟨hR k h, hN k h⟩⟩
  rcases (show k = 0 ∨ k = 1 ∨ k = 2 ∨ k = 3 ∨ k = 4 ∨ k = 5 ∨ k = 6 ∨ k = 7 ∨ k = 8 ∨ 8 < k by omega) with h | h | h | h | h | h | h | h | h | h
  · subst h
    rw [show c = 0 from ek, ac_0, ac_0]
    exact ⟨rfl, rfl, fun k h => ⟨hR k (Nat.le_trans h (de_d hd)), hN k (Nat.le_trans h (de_d hd))⟩⟩
  · subst h
    have h5 := hc ek
    rw [show c = 1 from ek, ac_1, ac_1]
    refine ⟨rfl, rfl, fun k h => ?_⟩
    have h : k ≤ (d + 1).toNatClampNeg := h
    show upd R (d + 1).toNatClampNeg (sp_rm x 8) k = upd R' (d + 1).toNatClampNeg (sp_rm x 8) k ∧ upd N (d + 1).toNatClampNeg 0 k = upd N' (d + 1).toNatClampNeg 0 k
    by_cases z : k = (d + 1).toNatClampNeg
    · rw [z, pk_us, pk_us, pk_us, pk_us]
      exact ⟨rfl, rfl⟩
    · rw [pk_un z, pk_un z, pk_un z, pk_un z]
      rw [de_c hd h5] at h z
      exact ⟨hR k (by omega), hN k (by omega)⟩
  · subst h
    rw [show c = 2 from ek, ac_2, ac_2]
    exact hb _
  · subst h
    rw [show c = 3 from ek, ac_3, ac_3]
    exact hb _
  · subst h
    rw [show c = 4 from ek, ac_4, ac_4]
    exact hb _
  · subst h
    rw [show c = 5 from ek, ac_5, ac_5]
    exact hb _
  · subst h
    rw [show c = 6 from ek, ac_6, ac_6]
    exact hb _
  · subst h
    rw [show c = 7 from ek, ac_7, ac_7]
    by_cases z : sg_ac u = 0
    · rw [if_pos z, if_pos z]
      exact ⟨rfl, rfl, fun k h => ⟨hR k h, bq_upd hN (congrArg (· + x) (hN _ (Nat.le_refl _))) k h⟩⟩
    · rw [if_neg z, if_neg z]
      exact hb u
  · subst h
    rw [show c = 8 from ek, ac_8, ac_8]
    exact hb _
  · rw [ac_9 _ _ _ _ _ (by rw [ek]; exact nI_lt (a := 8) h (by omega)), ac_9 _ _ _ _ _ (by rw [ek]; exact nI_lt (a := 8) h (by omega))]
    exact hb _
theorem bq_in {b b' : Bt} (hd : vp_in b.2.1 6) (hf : sp_if b = 0) (h : bq b b') : bq (sp_in b) (sp_in b') := by
  obtain ⟨e0, e1, e2⟩ := bq_c h
  have h5 : sp_c0 b = 1 → ¬ b.2.1 = 5 := fun hc z => by
    unfold sp_if at hf
    rw [hc, fo_1, if_pos z] at hf
    exact absurd hf (by decide)
  have hk : ∃ k : Nat, k < 16 ∧ sp_c0 b = nI k := sp_dg16 _ _
  unfold sp_in
  rw [← e0, ← e1, ← e2]
  obtain ⟨u, d, R, N⟩ := b
  obtain ⟨u', d', R', N'⟩ := b'
  obtain ⟨h1, h2, h3⟩ := h
  have h1 : u = u' := h1
  have h2 : d = d' := h2
  subst h1
  subst h2
  have h3 : ∀ k : Nat, k ≤ d.toNatClampNeg → R k = R' k ∧ N k = N' k := h3
  exact bq_ac hd h5 hk (fun k h => (h3 k h).1) (bq_upd (fun k h => (h3 k h).2) (congrArg (fun z : Int32 => z + 1 + sp_op (sp_c0 (u, d, R, N))) (h3 _ (Nat.le_refl _)).2))
theorem bq_rn : ∀ (n : Nat) (b b' : Bt), (vp_in b.2.1 6 ∨ b.2.1 = -1) → sp_ok b.1 → bq b b' → (sp_rn n b).1 = (sp_rn n b').1 := by
  intro n
  induction n with
  | zero => intro b b' _ _ h; exact h.1
  | succ n ih =>
    intro b b' hd hok h
    rcases hd with hd | hd
    · have hd' : vp_in b'.2.1 6 := by rw [← h.2.1]; exact hd
      by_cases hs : sg_st b.1 = 100
      · rw [rn_tired n b hd hs, rn_tired n b' hd' (by rw [← h.1]; exact hs)]
        show ss_fa b.1 3 = ss_fa b'.1 3
        rw [h.1]
      · have hs' : ¬ sg_st b'.1 = 100 := by rw [← h.1]; exact hs
        by_cases hf : sp_if b = 0
        · have hf' : sp_if b' = 0 := by rw [← bq_if h]; exact hf
          rw [rn_ok n b hd hs hf, rn_ok n b' hd' hs' hf']
          have hq := bq_in hd hf h
          have hi := in_keep hd hok hf
          refine ih _ _ hi.2.2.2.1 (ok_st hi.1) ⟨?_, hq.2.1, hq.2.2⟩
          show ss_st (sp_in b).1 (sg_st (sp_in b).1 + 1) = ss_st (sp_in b').1 (sg_st (sp_in b').1 + 1)
          rw [hq.1]
        · have hf' : ¬ sp_if b' = 0 := by rw [← bq_if h]; exact hf
          rw [rn_ft n b hd hs hf, rn_ft n b' hd' hs' hf']
          show ss_fa b.1 (sp_if b) = ss_fa b'.1 (sp_if b')
          rw [h.1, bq_if h]
    · rw [rn_end n b hd, rn_end n b' (by rw [← h.2.1]; exact hd)]
      exact h.1
theorem ok_cl {u : Sg} (h : sp_ok u) : sp_ok (sp_cl u) := ⟨⟨0, by decide, rfl⟩, h.2⟩
theorem en_cl (u : Sg) : sg_en (sp_cl u) = 0 := rfl
theorem z_in6 : vp_in 0 6 := by unfold vp_in; decide
theorem z_in32 : vp_in 0 32 := by unfold vp_in; decide
theorem ok_la0 {u : Sg} {b : Bt} {n : Int32} (h : sp_ok u) (hb : b.1 = sp_cl u) : sp_ok (sp_la b n 0).1 := by
  rw [la_1, hb]
  exact ok_la (sp_ok_no (ok_cl h) (nle32 (by rw [en_cl]; exact z_in32)) z_in6)
/-- which rows a boot starts with doesn't count -/
theorem bo_eq {u : Sg} {n d : Int32} {R N : Nat → Int32} (h : sp_ok u) : (sp_rn 101 (sp_la (sp_cl u, d, R, N) n 0)).1 = sp_bo u n := by
  refine bq_rn 101 _ _ (Or.inl z_in6) (ok_la0 h rfl) ⟨rfl, rfl, fun k hk => ?_⟩
  have hk : k ≤ 0 := hk
  have hk : k = 0 := by omega
  subst hk
  exact ⟨rfl, rfl⟩
theorem st_la0 (u : Sg) (n d : Int32) (R N : Nat → Int32) : sg_st (sp_la (sp_cl u, d, R, N) n 0).1 = nI 0 := rfl
theorem fa_la0 (u : Sg) (n d : Int32) (R N : Nat → Int32) : sg_fa (sp_la (sp_cl u, d, R, N) n 0).1 = 0 := rfl
theorem rn_keep : ∀ (n : Nat) (b : Bt), (vp_in b.2.1 6 ∨ b.2.1 = -1) → sp_ok b.1 → sp_ok (sp_rn n b).1 := by
  intro n
  induction n with
  | zero => intro b _ h; exact h
  | succ n ih =>
    intro b hd hok
    rcases hd with hd | hd
    · by_cases hs : sg_st b.1 = 100
      · rw [rn_tired n b hd hs]; exact ok_fa hok
      · by_cases hf : sp_if b = 0
        · rw [rn_ok n b hd hs hf]
          have hi := in_keep hd hok hf
          exact ih _ hi.2.2.2.1 (ok_st hi.1)
        · rw [rn_ft n b hd hs hf]; exact ok_fa hok
    · rw [rn_end n b hd]; exact hok
theorem ok_bo {u : Sg} {n : Int32} (h : sp_ok u) : sp_ok (sp_bo u n) := rn_keep 101 _ (Or.inl z_in6) (ok_la0 h rfl)
theorem xj_0 (u : Sg) (j : Jx) (n : Int32) : xj (sp_la (sp_cl u, 0, fun _ => 0, jx_nd j) n 0) (sx_de (sx_nd (sx_ru j (vp_updL (jx_ru j) (0 : Int32).toNatClampNeg (sg_im u n.toNatClampNeg))) (upd (jx_nd j) (0 : Int32).toNatClampNeg 0)) 0) := by
  refine ⟨rfl, rfl, fun k hk => ?_⟩
  have hk : k ≤ 0 := hk
  have hk : k = 0 := by omega
  subst hk
  rfl
theorem fn_no (v : Sg) (r : Int32) (x : Int64) : sp_no (ss_fa v 0) r x = ss_fa (sp_no v r x) 0 := rfl
theorem fn_di (v : Sg) (n : Int32) : sp_di (ss_fa v 0) n = sp_di v n := rfl
theorem fn_la (v : Sg) (x : Int32) : ss_la (ss_fa v 0) x = ss_fa (ss_la v x) 0 := rfl
theorem fn_gl (v : Sg) : sg_la (ss_fa v 0) = sg_la v := rfl
theorem fn_ss (w : Sg) : ss_fa w 0 = (sg_im w, sg_ap w, sg_ag w, sg_he w, sg_er w, sg_ev w, sg_en w, sg_ma w, sg_po w, sg_se w, sg_ac w, (0 : Int32), sg_la w, sg_st w) := rfl
theorem cl_run (v : Sg) (n : Int32) (w : Sg) (e : w = (fun v : Sg => ss_la v (sg_la v + 1)) (sp_no v 0 (sp_di v n))) : (sg_im w, sg_ap w, sg_ag w, sg_he w, sg_er w, sg_ev w, sg_en w, sg_ma w, sg_po w, sg_se w, sg_ac w, (0 : Int32), sg_la w, sg_st w) = (fun v : Sg => ss_la v (sg_la v + 1)) (sp_no (ss_fa v 0) 0 (sp_di (ss_fa v 0) n)) := by
  rw [fn_di, fn_no]
  show _ = ss_la (ss_fa (sp_no v 0 (sp_di v n)) 0) (sg_la (ss_fa (sp_no v 0 (sp_di v n)) 0) + 1)
  rw [fn_gl, fn_la, ← fn_ss]
  have e : w = ss_la (sp_no v 0 (sp_di v n)) (sg_la (sp_no v 0 (sp_di v n)) + 1) := e
  rw [e]
theorem cl_la (u : Sg) (n d : Int32) (R N : Nat → Int32) : (sp_la (sp_cl u, d, R, N) n 0).1 = (fun v : Sg => ss_la v (sg_la v + 1)) (sp_no (sp_cl u) 0 (sp_di (sp_cl u) n)) := rfl
theorem cl_fa (u : Sg) : ss_fa (ss_st (ss_la (ss_ac (ss_en (ss_he u (sp_z6 (sg_he u))) 0) 0) 0) 0) 0 = sp_cl u := rfl
