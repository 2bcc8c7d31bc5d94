/-- the boot that the model shows -/
def mb (u : Sg) (j : Jm) : Bt := (u, jm_de j, jm_ru j, jm_nx j)
theorem mb_eq {b : Bt} {j : Jm} (h1 : jm_de j = b.2.1) (h2 : jm_ru j = b.2.2.1) (h3 : jm_nx j = b.2.2.2) : mb b.1 j = b := by
  unfold mb
  rw [h1, h2, h3]
theorem up_self {f : Nat → Int32} {k : Nat} : upd f k (f k) = f := by
  funext i
  by_cases z : i = k
  · rw [z, pk_us]
  · rw [pk_un z]
theorem xn_le {n : Int32} {k : Nat} (hk : k + 1 < 2 ^ 31) (h : vp_in n (k + 1)) : n ≤ nI k := by
  obtain ⟨j, hj, rfl⟩ := vp_in_of h hk
  exact nI_le (by omega) (by omega)
theorem xn_nl {n : Int32} {k : Nat} (hk : k + 1 < 2 ^ 31) (h : ¬ vp_in n (k + 1)) (h1 : ¬ n < 0) : ¬ n ≤ nI k := by
  obtain ⟨j, hj, rfl⟩ := nI_of h1
  intro z
  rcases Nat.lt_or_ge k j with q | q
  · exact absurd (nI_lt q hj) (Int32.not_lt.mpr z)
  · exact h (vp_in_nI (by omega) hk)
theorem le7 {n : Int32} (h : vp_in n 8) : n ≤ 7 := xn_le (k := 7) (by decide) h
theorem le5 {n : Int32} (h : vp_in n 6) : n ≤ 5 := xn_le (k := 5) (by decide) h
theorem nl7 {n : Int32} (h : ¬ vp_in n 8) (h1 : ¬ n < 0) : ¬ n ≤ 7 := xn_nl (k := 7) (by decide) h h1
theorem nl5 {n : Int32} (h : ¬ vp_in n 6) (h1 : ¬ n < 0) : ¬ n ≤ 5 := xn_nl (k := 5) (by decide) h h1
theorem mk_1 {m : Int32} (h : sp_mk m = 1) : ¬ m < 1 ∧ m ≤ 63 := by
  unfold sp_mk at h
  by_cases a : m < 1
  · rw [if_pos a] at h; exact absurd h (by decide)
  rw [if_neg a] at h
  by_cases b : 63 < m
  · rw [if_pos b] at h; exact absurd h (by decide)
  exact ⟨a, Int32.not_lt.mp b⟩
theorem mk_0 {m : Int32} (h : sp_mk m = 0) (a : ¬ m < 1) : ¬ m ≤ 63 := by
  unfold sp_mk at h
  rw [if_neg a] at h
  by_cases b : 63 < m
  · exact Int32.not_le.mpr b
  · rw [if_neg b] at h; exact absurd h (by decide)
theorem rg_1 {k e : Int32} (h : sp_rg k e = 1) : ¬ k < 0 ∧ k < e := by
  unfold sp_rg at h
  by_cases a : k < 0
  · rw [if_pos a] at h; exact absurd h (by decide)
  rw [if_neg a] at h
  by_cases b : e ≤ k
  · rw [if_pos b] at h; exact absurd h (by decide)
  exact ⟨a, Int32.not_le.mp b⟩
theorem rg_0 {k e : Int32} (h : sp_rg k e = 0) (a : ¬ k < 0) : ¬ k < e := by
  unfold sp_rg at h
  rw [if_neg a] at h
  by_cases b : e ≤ k
  · exact Int32.not_lt.mpr b
  · rw [if_neg b] at h; exact absurd h (by decide)
theorem tk_0 {ma : Nat → Int32} {k : Int32} (h : sp_tk ma k = 0) (a : ¬ k < 0) (b : ¬ 8 ≤ k) : ma k.toNatClampNeg = 0 := by
  unfold sp_tk at h
  rw [if_neg a, if_neg b] at h
  by_cases c : ma k.toNatClampNeg = 0
  · exact c
  · rw [if_neg c] at h; exact absurd h (by decide)
theorem tk_1 {ma : Nat → Int32} {k : Int32} (h : sp_tk ma k = 1) : ¬ ma k.toNatClampNeg = 0 := by
  intro c
  rw [tk_in (tk_vp h), if_pos c] at h
  exact absurd h (by decide)
theorem on_1 {u : Sg} {k : Int32} (h : sp_on u k = 1) : sg_po u k.toNatClampNeg = sp_po u (sg_ma u k.toNatClampNeg) := by
  unfold sp_on at h
  by_cases c : sg_po u k.toNatClampNeg = sp_po u (sg_ma u k.toNatClampNeg)
  · exact c
  · rw [if_neg c] at h; exact absurd h (by decide)
theorem on_0 {u : Sg} {k : Int32} (h : sp_on u k = 0) : ¬ sg_po u k.toNatClampNeg = sp_po u (sg_ma u k.toNatClampNeg) := by
  unfold sp_on at h
  by_cases c : sg_po u k.toNatClampNeg = sp_po u (sg_ma u k.toNatClampNeg)
  · rw [if_pos c] at h; exact absurd h (by decide)
  · exact c
theorem n32 {u : Sg} (h : vp_in (sg_en u) 32) : ¬ sg_en u = 32 := fun z => nle32 h (by rw [z]; decide)
theorem ac_rows {u : Sg} {d : Int32} {R N : Nat → Int32} {c x y : Int32} (hd : vp_in d 6) (hc : c = 1 → ¬ d = 5) (h8 : vp_in (sp_rm x 8) 8) (hk : ∃ k : Nat, k < 16 ∧ c = nI k) (hR : ∀ k : Nat, k ≤ d.toNatClampNeg → vp_in (R k) 8) : ∀ k : Nat, k ≤ (sp_ac (u, d, R, N) c x y d).2.1.toNatClampNeg → vp_in ((sp_ac (u, d, R, N) c x y d).2.2.1 k) 8 := by
  obtain ⟨k, hk, ek⟩ := hk
  rcases (show k = 0 ∨ k = 1 ∨ k = 2 ∨ k = 3 ∨ k = 4 ∨ k = 5 ∨ k = 6 ∨ k = 7 ∨ k = 8 ∨ 8 < k by omega) with h | h | h | h | h | h | h | h | h | h
  · subst h
    rw [show c = 0 from ek, ac_0]
    exact fun k h => hR k (Nat.le_trans h (de_d hd))
  · subst h
    have h5 := hc ek
    rw [show c = 1 from ek, ac_1]
    intro k h
    have h : k ≤ (d + 1).toNatClampNeg := h
    show vp_in (upd R (d + 1).toNatClampNeg (sp_rm x 8) k) 8
    by_cases z : k = (d + 1).toNatClampNeg
    · rw [z, pk_us]
      exact h8
    · rw [pk_un z]
      rw [de_c hd h5] at h z
      exact hR k (by omega)
  · subst h
    rw [show c = 2 from ek, ac_2]
    exact hR
  · subst h
    rw [show c = 3 from ek, ac_3]
    exact hR
  · subst h
    rw [show c = 4 from ek, ac_4]
    exact hR
  · subst h
    rw [show c = 5 from ek, ac_5]
    exact hR
  · subst h
    rw [show c = 6 from ek, ac_6]
    exact hR
  · subst h
    rw [show c = 7 from ek, ac_7]
    exact hR
  · subst h
    rw [show c = 8 from ek, ac_8]
    exact hR
  · rw [ac_9 _ _ _ _ _ (by rw [ek]; exact nI_lt (a := 8) h (by omega))]
    exact hR
theorem in_rows {b : Bt} (hd : vp_in b.2.1 6) (hf : sp_if b = 0) (hR : ∀ k : Nat, k ≤ b.2.1.toNatClampNeg → vp_in (b.2.2.1 k) 8) : ∀ k : Nat, k ≤ (sp_in b).2.1.toNatClampNeg → vp_in ((sp_in b).2.2.1 k) 8 := by
  have h5 : sp_c0 b = 1 → ¬ b.2.1 = 5 := fun hc z => by
    unfold sp_if at hf
    rw [hc, fo_1, if_pos z] at hf
    exact absurd hf (by decide)
  exact ac_rows hd h5 (sp_rd8 _ _) (sp_dg16 _ _) hR
theorem d_md_note_0 : decode b_md_note 0 = .ok (.aload_n 0, 1) := by decide +kernel
theorem d_md_note_1 : decode b_md_note 1 = .ok (.getfield 68, 3) := by decide +kernel
theorem d_md_note_4 : decode b_md_note 4 = .ok (.bipush 32, 2) := by decide +kernel
theorem d_md_note_6 : decode b_md_note 6 = .ok (.if_icmp .ne 5, 3) := by decide +kernel
theorem d_md_note_9 : decode b_md_note 9 = .ok (.iconst 0, 1) := by decide +kernel
theorem d_md_note_10 : decode b_md_note 10 = .ok (.ireturn, 1) := by decide +kernel
theorem d_md_note_11 : decode b_md_note 11 = .ok (.aload_n 0, 1) := by decide +kernel
theorem d_md_note_12 : decode b_md_note 12 = .ok (.getfield 7, 3) := by decide +kernel
theorem d_md_note_15 : decode b_md_note 15 = .ok (.iload_n 1, 1) := by decide +kernel
theorem d_md_note_16 : decode b_md_note 16 = .ok (.aload_n 0, 1) := by decide +kernel
theorem d_md_note_17 : decode b_md_note 17 = .ok (.getfield 7, 3) := by decide +kernel
theorem d_md_note_20 : decode b_md_note 20 = .ok (.iload_n 1, 1) := by decide +kernel
theorem d_md_note_21 : decode b_md_note 21 = .ok (.laload, 1) := by decide +kernel
theorem d_md_note_22 : decode b_md_note 22 = .ok (.lload_n 2, 1) := by decide +kernel
theorem d_md_note_23 : decode b_md_note 23 = .ok (.invokestatic 62, 3) := by decide +kernel
theorem d_md_note_26 : decode b_md_note 26 = .ok (.lastore, 1) := by decide +kernel
theorem d_md_note_27 : decode b_md_note 27 = .ok (.aload_n 0, 1) := by decide +kernel
theorem d_md_note_28 : decode b_md_note 28 = .ok (.getfield 33, 3) := by decide +kernel
theorem d_md_note_31 : decode b_md_note 31 = .ok (.aload_n 0, 1) := by decide +kernel
theorem d_md_note_32 : decode b_md_note 32 = .ok (.getfield 68, 3) := by decide +kernel
theorem d_md_note_35 : decode b_md_note 35 = .ok (.iload_n 1, 1) := by decide +kernel
theorem d_md_note_36 : decode b_md_note 36 = .ok (.iastore, 1) := by decide +kernel
theorem d_md_note_37 : decode b_md_note 37 = .ok (.aload_n 0, 1) := by decide +kernel
theorem d_md_note_38 : decode b_md_note 38 = .ok (.getfield 36, 3) := by decide +kernel
theorem d_md_note_41 : decode b_md_note 41 = .ok (.aload_n 0, 1) := by decide +kernel
theorem d_md_note_42 : decode b_md_note 42 = .ok (.getfield 68, 3) := by decide +kernel
theorem d_md_note_45 : decode b_md_note 45 = .ok (.lload_n 2, 1) := by decide +kernel
theorem d_md_note_46 : decode b_md_note 46 = .ok (.lastore, 1) := by decide +kernel
theorem d_md_note_47 : decode b_md_note 47 = .ok (.aload_n 0, 1) := by decide +kernel
theorem d_md_note_48 : decode b_md_note 48 = .ok (.dup, 1) := by decide +kernel
theorem d_md_note_49 : decode b_md_note 49 = .ok (.getfield 68, 3) := by decide +kernel
theorem d_md_note_52 : decode b_md_note 52 = .ok (.iconst 1, 1) := by decide +kernel
theorem d_md_note_53 : decode b_md_note 53 = .ok (.iadd, 1) := by decide +kernel
theorem d_md_note_54 : decode b_md_note 54 = .ok (.putfield 68, 3) := by decide +kernel
theorem d_md_note_57 : decode b_md_note 57 = .ok (.iconst 1, 1) := by decide +kernel
theorem d_md_note_58 : decode b_md_note 58 = .ok (.ireturn, 1) := by decide +kernel
theorem d_md_fill_0 : decode b_md_fill 0 = .ok (.aload_n 0, 1) := by decide +kernel
theorem d_md_fill_1 : decode b_md_fill 1 = .ok (.getfield 27, 3) := by decide +kernel
theorem d_md_fill_4 : decode b_md_fill 4 = .ok (.iload_n 1, 1) := by decide +kernel
theorem d_md_fill_5 : decode b_md_fill 5 = .ok (.aload_n 0, 1) := by decide +kernel
theorem d_md_fill_6 : decode b_md_fill 6 = .ok (.iload_n 2, 1) := by decide +kernel
theorem d_md_fill_7 : decode b_md_fill 7 = .ok (.invokevirtual 71, 3) := by decide +kernel
theorem d_md_fill_10 : decode b_md_fill 10 = .ok (.lastore, 1) := by decide +kernel
theorem d_md_fill_11 : decode b_md_fill 11 = .ok (.aload_n 0, 1) := by decide +kernel
theorem d_md_fill_12 : decode b_md_fill 12 = .ok (.getfield 23, 3) := by decide +kernel
theorem d_md_fill_15 : decode b_md_fill 15 = .ok (.iload_n 1, 1) := by decide +kernel
theorem d_md_fill_16 : decode b_md_fill 16 = .ok (.iload_n 2, 1) := by decide +kernel
theorem d_md_fill_17 : decode b_md_fill 17 = .ok (.iastore, 1) := by decide +kernel
theorem d_md_fill_18 : decode b_md_fill 18 = .ok (.aload_n 0, 1) := by decide +kernel
theorem d_md_fill_19 : decode b_md_fill 19 = .ok (.getfield 30, 3) := by decide +kernel
theorem d_md_fill_22 : decode b_md_fill 22 = .ok (.iload_n 1, 1) := by decide +kernel
theorem d_md_fill_23 : decode b_md_fill 23 = .ok (.lload_n 3, 1) := by decide +kernel
theorem d_md_fill_24 : decode b_md_fill 24 = .ok (.lastore, 1) := by decide +kernel
theorem d_md_fill_25 : decode b_md_fill 25 = .ok (.return_, 1) := by decide +kernel
theorem d_md_launch_0 : decode b_md_launch 0 = .ok (.aload_n 0, 1) := by decide +kernel
theorem d_md_launch_1 : decode b_md_launch 1 = .ok (.iload_n 2, 1) := by decide +kernel
theorem d_md_launch_2 : decode b_md_launch 2 = .ok (.aload_n 0, 1) := by decide +kernel
theorem d_md_launch_3 : decode b_md_launch 3 = .ok (.iload_n 1, 1) := by decide +kernel
theorem d_md_launch_4 : decode b_md_launch 4 = .ok (.invokevirtual 75, 3) := by decide +kernel
theorem d_md_launch_7 : decode b_md_launch 7 = .ok (.invokevirtual 78, 3) := by decide +kernel
theorem d_md_launch_10 : decode b_md_launch 10 = .ok (.ifCond .ne 5, 3) := by decide +kernel
theorem d_md_launch_13 : decode b_md_launch 13 = .ok (.iconst 0, 1) := by decide +kernel
theorem d_md_launch_14 : decode b_md_launch 14 = .ok (.ireturn, 1) := by decide +kernel
theorem d_md_launch_15 : decode b_md_launch 15 = .ok (.aload_n 0, 1) := by decide +kernel
theorem d_md_launch_16 : decode b_md_launch 16 = .ok (.dup, 1) := by decide +kernel
theorem d_md_launch_17 : decode b_md_launch 17 = .ok (.getfield 82, 3) := by decide +kernel
theorem d_md_launch_20 : decode b_md_launch 20 = .ok (.iconst 1, 1) := by decide +kernel
theorem d_md_launch_21 : decode b_md_launch 21 = .ok (.iadd, 1) := by decide +kernel
theorem d_md_launch_22 : decode b_md_launch 22 = .ok (.putfield 82, 3) := by decide +kernel
theorem d_md_launch_25 : decode b_md_launch 25 = .ok (.aload_n 0, 1) := by decide +kernel
theorem d_md_launch_26 : decode b_md_launch 26 = .ok (.iload_n 2, 1) := by decide +kernel
theorem d_md_launch_27 : decode b_md_launch 27 = .ok (.putfield 85, 3) := by decide +kernel
theorem d_md_launch_30 : decode b_md_launch 30 = .ok (.aload_n 0, 1) := by decide +kernel
theorem d_md_launch_31 : decode b_md_launch 31 = .ok (.getfield 42, 3) := by decide +kernel
theorem d_md_launch_34 : decode b_md_launch 34 = .ok (.iload_n 2, 1) := by decide +kernel
theorem d_md_launch_35 : decode b_md_launch 35 = .ok (.iload_n 1, 1) := by decide +kernel
theorem d_md_launch_36 : decode b_md_launch 36 = .ok (.iastore, 1) := by decide +kernel
theorem d_md_launch_37 : decode b_md_launch 37 = .ok (.aload_n 0, 1) := by decide +kernel
theorem d_md_launch_38 : decode b_md_launch 38 = .ok (.getfield 45, 3) := by decide +kernel
theorem d_md_launch_41 : decode b_md_launch 41 = .ok (.iload_n 2, 1) := by decide +kernel
theorem d_md_launch_42 : decode b_md_launch 42 = .ok (.iconst 0, 1) := by decide +kernel
theorem d_md_launch_43 : decode b_md_launch 43 = .ok (.iastore, 1) := by decide +kernel
theorem d_md_launch_44 : decode b_md_launch 44 = .ok (.iconst 1, 1) := by decide +kernel
theorem d_md_launch_45 : decode b_md_launch 45 = .ok (.ireturn, 1) := by decide +kernel
theorem d_md_act_0 : decode b_md_act 0 = .ok (.iconst 1, 1) := by decide +kernel
theorem d_md_act_1 : decode b_md_act 1 = .ok (.istore 5, 2) := by decide +kernel
theorem d_md_act_3 : decode b_md_act 3 = .ok (.iload_n 1, 1) := by decide +kernel
theorem d_md_act_4 : decode b_md_act 4 = .ok (.tableswitch 200 0 8 #[52, 63, 80, 200, 95, 111, 127, 144, 182], 52) := by decide +kernel
theorem d_md_act_56 : decode b_md_act 56 = .ok (.aload_n 0, 1) := by decide +kernel
theorem d_md_act_57 : decode b_md_act 57 = .ok (.iload 4, 2) := by decide +kernel
theorem d_md_act_59 : decode b_md_act 59 = .ok (.iconst 1, 1) := by decide +kernel
theorem d_md_act_60 : decode b_md_act 60 = .ok (.isub, 1) := by decide +kernel
theorem d_md_act_61 : decode b_md_act 61 = .ok (.putfield 85, 3) := by decide +kernel
theorem d_md_act_64 : decode b_md_act 64 = .ok (.goto 140, 3) := by decide +kernel
theorem d_md_act_67 : decode b_md_act 67 = .ok (.aload_n 0, 1) := by decide +kernel
theorem d_md_act_68 : decode b_md_act 68 = .ok (.iload_n 2, 1) := by decide +kernel
theorem d_md_act_69 : decode b_md_act 69 = .ok (.bipush 8, 2) := by decide +kernel
theorem d_md_act_71 : decode b_md_act 71 = .ok (.irem, 1) := by decide +kernel
theorem d_md_act_72 : decode b_md_act 72 = .ok (.iload 4, 2) := by decide +kernel
theorem d_md_act_74 : decode b_md_act 74 = .ok (.iconst 1, 1) := by decide +kernel
theorem d_md_act_75 : decode b_md_act 75 = .ok (.iadd, 1) := by decide +kernel
theorem d_md_act_76 : decode b_md_act 76 = .ok (.invokevirtual 98, 3) := by decide +kernel
theorem d_md_act_79 : decode b_md_act 79 = .ok (.istore 5, 2) := by decide +kernel
theorem d_md_act_81 : decode b_md_act 81 = .ok (.goto 123, 3) := by decide +kernel
theorem d_md_act_84 : decode b_md_act 84 = .ok (.aload_n 0, 1) := by decide +kernel
theorem d_md_act_85 : decode b_md_act 85 = .ok (.iload_n 2, 1) := by decide +kernel
theorem d_md_act_86 : decode b_md_act 86 = .ok (.bipush 6, 2) := by decide +kernel
theorem d_md_act_88 : decode b_md_act 88 = .ok (.irem, 1) := by decide +kernel
theorem d_md_act_89 : decode b_md_act 89 = .ok (.iload_n 3, 1) := by decide +kernel
theorem d_md_act_90 : decode b_md_act 90 = .ok (.i2l, 1) := by decide +kernel
theorem d_md_act_91 : decode b_md_act 91 = .ok (.invokevirtual 78, 3) := by decide +kernel
theorem d_md_act_94 : decode b_md_act 94 = .ok (.istore 5, 2) := by decide +kernel
theorem d_md_act_96 : decode b_md_act 96 = .ok (.goto 108, 3) := by decide +kernel
theorem d_md_act_99 : decode b_md_act 99 = .ok (.aload_n 0, 1) := by decide +kernel
theorem d_md_act_100 : decode b_md_act 100 = .ok (.aload_n 0, 1) := by decide +kernel
theorem d_md_act_101 : decode b_md_act 101 = .ok (.getfield 30, 3) := by decide +kernel
theorem d_md_act_104 : decode b_md_act 104 = .ok (.iload_n 2, 1) := by decide +kernel
theorem d_md_act_105 : decode b_md_act 105 = .ok (.bipush 8, 2) := by decide +kernel
theorem d_md_act_107 : decode b_md_act 107 = .ok (.irem, 1) := by decide +kernel
theorem d_md_act_108 : decode b_md_act 108 = .ok (.laload, 1) := by decide +kernel
theorem d_md_act_109 : decode b_md_act 109 = .ok (.putfield 88, 3) := by decide +kernel
theorem d_md_act_112 : decode b_md_act 112 = .ok (.goto 92, 3) := by decide +kernel
theorem d_md_act_115 : decode b_md_act 115 = .ok (.aload_n 0, 1) := by decide +kernel
theorem d_md_act_116 : decode b_md_act 116 = .ok (.aload_n 0, 1) := by decide +kernel
theorem d_md_act_117 : decode b_md_act 117 = .ok (.getfield 88, 3) := by decide +kernel
theorem d_md_act_120 : decode b_md_act 120 = .ok (.iload_n 2, 1) := by decide +kernel
theorem d_md_act_121 : decode b_md_act 121 = .ok (.i2l, 1) := by decide +kernel
theorem d_md_act_122 : decode b_md_act 122 = .ok (.invokestatic 62, 3) := by decide +kernel
theorem d_md_act_125 : decode b_md_act 125 = .ok (.putfield 88, 3) := by decide +kernel
theorem d_md_act_128 : decode b_md_act 128 = .ok (.goto 76, 3) := by decide +kernel
theorem d_md_act_131 : decode b_md_act 131 = .ok (.aload_n 0, 1) := by decide +kernel
theorem d_md_act_132 : decode b_md_act 132 = .ok (.iload_n 2, 1) := by decide +kernel
theorem d_md_act_133 : decode b_md_act 133 = .ok (.bipush 6, 2) := by decide +kernel
theorem d_md_act_135 : decode b_md_act 135 = .ok (.irem, 1) := by decide +kernel
theorem d_md_act_136 : decode b_md_act 136 = .ok (.aload_n 0, 1) := by decide +kernel
theorem d_md_act_137 : decode b_md_act 137 = .ok (.getfield 88, 3) := by decide +kernel
theorem d_md_act_140 : decode b_md_act 140 = .ok (.invokevirtual 78, 3) := by decide +kernel
theorem d_md_act_143 : decode b_md_act 143 = .ok (.istore 5, 2) := by decide +kernel
theorem d_md_act_145 : decode b_md_act 145 = .ok (.goto 59, 3) := by decide +kernel
theorem d_md_act_148 : decode b_md_act 148 = .ok (.aload_n 0, 1) := by decide +kernel
theorem d_md_act_149 : decode b_md_act 149 = .ok (.getfield 45, 3) := by decide +kernel
theorem d_md_act_152 : decode b_md_act 152 = .ok (.iload 4, 2) := by decide +kernel
theorem d_md_act_154 : decode b_md_act 154 = .ok (.aload_n 0, 1) := by decide +kernel
theorem d_md_act_155 : decode b_md_act 155 = .ok (.getfield 88, 3) := by decide +kernel
theorem d_md_act_158 : decode b_md_act 158 = .ok (.lconst 0, 1) := by decide +kernel
theorem d_md_act_159 : decode b_md_act 159 = .ok (.lcmp, 1) := by decide +kernel
theorem d_md_act_160 : decode b_md_act 160 = .ok (.ifCond .ne 15, 3) := by decide +kernel
theorem d_md_act_163 : decode b_md_act 163 = .ok (.aload_n 0, 1) := by decide +kernel
theorem d_md_act_164 : decode b_md_act 164 = .ok (.getfield 45, 3) := by decide +kernel
theorem d_md_act_167 : decode b_md_act 167 = .ok (.iload 4, 2) := by decide +kernel
theorem d_md_act_169 : decode b_md_act 169 = .ok (.iaload, 1) := by decide +kernel
theorem d_md_act_170 : decode b_md_act 170 = .ok (.iload_n 2, 1) := by decide +kernel
theorem d_md_act_171 : decode b_md_act 171 = .ok (.iadd, 1) := by decide +kernel
theorem d_md_act_172 : decode b_md_act 172 = .ok (.goto 10, 3) := by decide +kernel
theorem d_md_act_175 : decode b_md_act 175 = .ok (.aload_n 0, 1) := by decide +kernel
theorem d_md_act_176 : decode b_md_act 176 = .ok (.getfield 45, 3) := by decide +kernel
theorem d_md_act_179 : decode b_md_act 179 = .ok (.iload 4, 2) := by decide +kernel
theorem d_md_act_181 : decode b_md_act 181 = .ok (.iaload, 1) := by decide +kernel
theorem d_md_act_182 : decode b_md_act 182 = .ok (.iastore, 1) := by decide +kernel
theorem d_md_act_183 : decode b_md_act 183 = .ok (.goto 21, 3) := by decide +kernel
theorem d_md_act_186 : decode b_md_act 186 = .ok (.aload_n 0, 1) := by decide +kernel
theorem d_md_act_187 : decode b_md_act 187 = .ok (.aload_n 0, 1) := by decide +kernel
theorem d_md_act_188 : decode b_md_act 188 = .ok (.invokevirtual 122, 3) := by decide +kernel
theorem d_md_act_191 : decode b_md_act 191 = .ok (.iload_n 2, 1) := by decide +kernel
theorem d_md_act_192 : decode b_md_act 192 = .ok (.iconst 1, 1) := by decide +kernel
theorem d_md_act_193 : decode b_md_act 193 = .ok (.iadd, 1) := by decide +kernel
theorem d_md_act_194 : decode b_md_act 194 = .ok (.aload_n 0, 1) := by decide +kernel
theorem d_md_act_195 : decode b_md_act 195 = .ok (.getfield 88, 3) := by decide +kernel
theorem d_md_act_198 : decode b_md_act 198 = .ok (.invokevirtual 125, 3) := by decide +kernel
theorem d_md_act_201 : decode b_md_act 201 = .ok (.goto 3, 3) := by decide +kernel
theorem d_md_act_204 : decode b_md_act 204 = .ok (.aload_n 0, 1) := by decide +kernel
theorem d_md_act_205 : decode b_md_act 205 = .ok (.iload 5, 2) := by decide +kernel
theorem d_md_act_207 : decode b_md_act 207 = .ok (.ifCond .eq 10, 3) := by decide +kernel
theorem d_md_act_210 : decode b_md_act 210 = .ok (.aload_n 0, 1) := by decide +kernel
theorem d_md_act_211 : decode b_md_act 211 = .ok (.getfield 95, 3) := by decide +kernel
theorem d_md_act_214 : decode b_md_act 214 = .ok (.goto 4, 3) := by decide +kernel
theorem d_md_act_217 : decode b_md_act 217 = .ok (.iconst 4, 1) := by decide +kernel
theorem d_md_act_218 : decode b_md_act 218 = .ok (.putfield 95, 3) := by decide +kernel
theorem d_md_act_221 : decode b_md_act 221 = .ok (.return_, 1) := by decide +kernel
set_option maxHeartbeats 4000000 in
set_option maxRecDepth 100000 in
theorem c_md_note (l : Launch) (D : va_G) (cs : Nat → ClassId) (ad : Nat → Nat) (sz : Nat) (u : Sg) (j : Jm) (r : Int32) (v : Int64) (hr : vp_in r 6) (he : vp_in (sg_en u) 32) : Met l y_md_note (Cond.code y_md_note b_md_note 4 (some .boolean) :: TB) { frames := 1, cells := 0, slots := 0, locals := 25 } (va_Pc [.ref (ad 0), .int r, .long v] (mw_Pre D cs ad u j sz)) (va_Qi (fun (r : Int32) (j1 : Jm) => r = 1 ∧ j1 = j) (fun (j1 : Jm) t => mw_B D cs ad (va_A (mw ad cs u j) sz) (sp_no u r v) j1 t) (va_A (mw ad cs u j) sz)) 0 0 (va_A (mw ad cs u j) sz) := by
  refine Met.ofW (cc := b_md_note) (maxL := 4) (ret := (some .boolean)) (by decide) rfl ?_
  intro p e s m args below meth c s₁ B hml hv
  obtain ⟨rfl, hsz, hP, hK, hD, hN⟩ := hv
  have hx := B.exec
  have hb := B.bytes
  have hret := B.returns
  have hts := atoms_spec (ws := Cond.code y_md_note b_md_note 4 (some .boolean) :: TB) B.pre
  have hT : ∀ w ∈ TB, w.before _ s = true := fun w h => hts w (List.mem_cons_of_mem _ h)
  have hown : s.vm.findClass "MeasuredStagesModel" = some m.cls := findClass_of_methodNamed B.named
  have hlocks := B.notSynchronized
  subst hsz
  have hD := hD.self (sz := s.heap.size)
  generalize hAe : va_A (mw ad cs u j) s.heap.size = A at hD ⊢
  have hA : ∀ q : Nat, s.heap.size ≤ q → A q := fun q h => by rw [← hAe]; exact Or.inr h
  have hS : va_S A s.heap s.heap [] := va_S.rf
  have hl := lv_entry ([.ref (ad 0), .int r, .long v]) (n := 4) (Nat.le_of_ble_eq_true rfl)
  rw [lg_entry_eq]
  generalize (lg_sl ([.ref (ad 0), .int r, .long v]) ++ List.replicate (4 - (lg_sl ([.ref (ad 0), .int r, .long v])).length) Slot.unset).toArray = ls at hl ⊢
  have hl : lv_has ls 4 [(0, .ref (ad 0)), (1, .int r), (2, .long v)] := hl
  skip
  refine lv_aload_n hx hb d_md_note_0 rfl (lv_at hl 0 rfl) ?_
  refine va_get (D := D) (ci := 3) (v := .int (sg_en u)) (C := "MeasuredStagesModel") (T := F_md) (N := 19) hx hb hts (fun w h => List.mem_cons_of_mem _ (i_md w h)) hown hK hP 0 rfl rfl 7 (by decide) (hT _ tb_466) (fun _ h9 => h9) rfl d_md_note_1 ?_
  refine lv_bipush (v := 32) hx hb d_md_note_4 (by decide) ?_
  refine lv_icmp_ne hx hb d_md_note_6 (tgt := 11) (by decide) (fun _ => ?_) (fun z => absurd z (n32 he))
  refine lv_aload_n hx hb d_md_note_11 rfl (lv_at hl 0 rfl) ?_
  refine va_get (D := D) (ci := 3) (v := .ref (ad 1)) (C := "MeasuredStagesModel") (T := F_md) (N := 19) hx hb hts (fun w h => List.mem_cons_of_mem _ (i_md w h)) hown hK hP 0 rfl rfl 0 (by decide) (hT _ tb_459) (fun _ h9 => h9) rfl d_md_note_12 ?_
  refine lv_iload_n hx hb d_md_note_15 rfl (lv_at hl 1 rfl) ?_
  refine lv_aload_n hx hb d_md_note_16 rfl (lv_at hl 0 rfl) ?_
  refine va_get (D := D) (ci := 3) (v := .ref (ad 1)) (C := "MeasuredStagesModel") (T := F_md) (N := 19) hx hb hts (fun w h => List.mem_cons_of_mem _ (i_md w h)) hown hK hP 0 rfl rfl 0 (by decide) (hT _ tb_459) (fun _ h9 => h9) rfl d_md_note_17 ?_
  refine lv_iload_n hx hb d_md_note_20 rfl (lv_at hl 1 rfl) ?_
  refine va_lald hx hb hK hP 1 0 rfl rfl hr d_md_note_21 ?_
  refine lv_lload_n hx hb d_md_note_22 rfl (lv_at hl 2 rfl) ?_
  refine st_l (v := sp_h (sg_he u r.toNatClampNeg) v) (As := [.long (sg_he u r.toNatClampNeg), .long v]) (rest := [.int r, .ref (ad 1)]) ⟨hx, hb, hml, hown, hts⟩ (c_md_h l (sg_he u r.toNatClampNeg) v) tb_534 tb_535 tb_4 tb_536 hd_md_h ⟨Nat.le_of_ble_eq_true rfl, Nat.le_of_ble_eq_true rfl⟩ rfl rfl hl.1 rfl (Nat.le_of_ble_eq_true rfl) d_md_note_23 ⟨Nat.zero_le _, Nat.zero_le _⟩ ?_
  refine va_last hx hb hK hP hD hS 1 0 rfl rfl hr d_md_note_26 (fun H locs hP hD hS => ?_)
  have hP : va_P D cx (mv ad cs (sg_im u) (sg_ap u) (sg_ag u) (vp_updL (sg_he u) r.toNatClampNeg (sp_h (sg_he u r.toNatClampNeg) v)) (sg_er u) (sg_ev u) (sg_en u) (sg_ma u) (sg_po u) (sg_se u) (sg_ac u) (sg_fa u) (sg_la u) (sg_st u) (jm_ag j) (jm_de j) (jm_ru j) (jm_nx j) (jm_th j)) H := hP
  have hD : va_D A (mv ad cs (sg_im u) (sg_ap u) (sg_ag u) (vp_updL (sg_he u) r.toNatClampNeg (sp_h (sg_he u r.toNatClampNeg) v)) (sg_er u) (sg_ev u) (sg_en u) (sg_ma u) (sg_po u) (sg_se u) (sg_ac u) (sg_fa u) (sg_la u) (sg_st u) (jm_ag j) (jm_de j) (jm_ru j) (jm_nx j) (jm_th j)) := hD
  refine lv_aload_n hx hb d_md_note_27 rfl (lv_at hl 0 rfl) ?_
  refine va_get (D := D) (ci := 3) (v := .ref (ad 8)) (C := "MeasuredStagesModel") (T := F_md) (N := 19) hx hb hts (fun w h => List.mem_cons_of_mem _ (i_md w h)) hown hK hP 0 rfl rfl 8 (by decide) (hT _ tb_467) (fun _ h9 => h9) rfl d_md_note_28 ?_
  refine lv_aload_n hx hb d_md_note_31 rfl (lv_at hl 0 rfl) ?_
  refine va_get (D := D) (ci := 3) (v := .int (sg_en u)) (C := "MeasuredStagesModel") (T := F_md) (N := 19) hx hb hts (fun w h => List.mem_cons_of_mem _ (i_md w h)) hown hK hP 0 rfl rfl 7 (by decide) (hT _ tb_466) (fun _ h9 => h9) rfl d_md_note_32 ?_
  refine lv_iload_n hx hb d_md_note_35 rfl (lv_at hl 1 rfl) ?_
  refine va_iast hx hb hK hP hD hS 8 7 rfl rfl he d_md_note_36 (fun H locs hP hD hS => ?_)
  have hP : va_P D cx (mv ad cs (sg_im u) (sg_ap u) (sg_ag u) (vp_updL (sg_he u) r.toNatClampNeg (sp_h (sg_he u r.toNatClampNeg) v)) (upd (sg_er u) (sg_en u).toNatClampNeg r) (sg_ev u) (sg_en u) (sg_ma u) (sg_po u) (sg_se u) (sg_ac u) (sg_fa u) (sg_la u) (sg_st u) (jm_ag j) (jm_de j) (jm_ru j) (jm_nx j) (jm_th j)) H := hP
  have hD : va_D A (mv ad cs (sg_im u) (sg_ap u) (sg_ag u) (vp_updL (sg_he u) r.toNatClampNeg (sp_h (sg_he u r.toNatClampNeg) v)) (upd (sg_er u) (sg_en u).toNatClampNeg r) (sg_ev u) (sg_en u) (sg_ma u) (sg_po u) (sg_se u) (sg_ac u) (sg_fa u) (sg_la u) (sg_st u) (jm_ag j) (jm_de j) (jm_ru j) (jm_nx j) (jm_th j)) := hD
  refine lv_aload_n hx hb d_md_note_37 rfl (lv_at hl 0 rfl) ?_
  refine va_get (D := D) (ci := 3) (v := .ref (ad 9)) (C := "MeasuredStagesModel") (T := F_md) (N := 19) hx hb hts (fun w h => List.mem_cons_of_mem _ (i_md w h)) hown hK hP 0 rfl rfl 9 (by decide) (hT _ tb_468) (fun _ h9 => h9) rfl d_md_note_38 ?_
  refine lv_aload_n hx hb d_md_note_41 rfl (lv_at hl 0 rfl) ?_
  refine va_get (D := D) (ci := 3) (v := .int (sg_en u)) (C := "MeasuredStagesModel") (T := F_md) (N := 19) hx hb hts (fun w h => List.mem_cons_of_mem _ (i_md w h)) hown hK hP 0 rfl rfl 7 (by decide) (hT _ tb_466) (fun _ h9 => h9) rfl d_md_note_42 ?_
  refine lv_lload_n hx hb d_md_note_45 rfl (lv_at hl 2 rfl) ?_
  refine va_last hx hb hK hP hD hS 9 8 rfl rfl he d_md_note_46 (fun H locs hP hD hS => ?_)
  have hP : va_P D cx (mv ad cs (sg_im u) (sg_ap u) (sg_ag u) (vp_updL (sg_he u) r.toNatClampNeg (sp_h (sg_he u r.toNatClampNeg) v)) (upd (sg_er u) (sg_en u).toNatClampNeg r) (vp_updL (sg_ev u) (sg_en u).toNatClampNeg v) (sg_en u) (sg_ma u) (sg_po u) (sg_se u) (sg_ac u) (sg_fa u) (sg_la u) (sg_st u) (jm_ag j) (jm_de j) (jm_ru j) (jm_nx j) (jm_th j)) H := hP
  have hD : va_D A (mv ad cs (sg_im u) (sg_ap u) (sg_ag u) (vp_updL (sg_he u) r.toNatClampNeg (sp_h (sg_he u r.toNatClampNeg) v)) (upd (sg_er u) (sg_en u).toNatClampNeg r) (vp_updL (sg_ev u) (sg_en u).toNatClampNeg v) (sg_en u) (sg_ma u) (sg_po u) (sg_se u) (sg_ac u) (sg_fa u) (sg_la u) (sg_st u) (jm_ag j) (jm_de j) (jm_ru j) (jm_nx j) (jm_th j)) := hD
  refine lv_aload_n hx hb d_md_note_47 rfl (lv_at hl 0 rfl) ?_
  refine lv_dup hx hb d_md_note_48 rfl ?_
  refine va_get (D := D) (ci := 3) (v := .int (sg_en u)) (C := "MeasuredStagesModel") (T := F_md) (N := 19) hx hb hts (fun w h => List.mem_cons_of_mem _ (i_md w h)) hown hK hP 0 rfl rfl 7 (by decide) (hT _ tb_466) (fun _ h9 => h9) rfl d_md_note_49 ?_
  refine lv_iconst (v := 1) hx hb d_md_note_52 (by decide) ?_
  refine lv_iadd hx hb d_md_note_53 ?_
  refine va_put (D := D) (ci := 3) (v := .int ((sg_en u) + (1))) (ty := .int) (C := "MeasuredStagesModel") (T := F_md) (N := 19) hx hb hts (fun w h => List.mem_cons_of_mem _ (i_md w h)) t_md o_md n_md hown hK hP hD hS 0 rfl rfl 7 (by decide) (hT _ tb_466) (fun _ h9 => h9) rfl (by decide +kernel) rfl rfl (Nat.le_of_ble_eq_true rfl) d_md_note_54 (fun H locs hP hD hS => ?_)
  have hP : va_P D cx (mv ad cs (sg_im u) (sg_ap u) (sg_ag u) (vp_updL (sg_he u) r.toNatClampNeg (sp_h (sg_he u r.toNatClampNeg) v)) (upd (sg_er u) (sg_en u).toNatClampNeg r) (vp_updL (sg_ev u) (sg_en u).toNatClampNeg v) ((sg_en u) + (1)) (sg_ma u) (sg_po u) (sg_se u) (sg_ac u) (sg_fa u) (sg_la u) (sg_st u) (jm_ag j) (jm_de j) (jm_ru j) (jm_nx j) (jm_th j)) H := hP
  have hD : va_D A (mv ad cs (sg_im u) (sg_ap u) (sg_ag u) (vp_updL (sg_he u) r.toNatClampNeg (sp_h (sg_he u r.toNatClampNeg) v)) (upd (sg_er u) (sg_en u).toNatClampNeg r) (vp_updL (sg_ev u) (sg_en u).toNatClampNeg v) ((sg_en u) + (1)) (sg_ma u) (sg_po u) (sg_se u) (sg_ac u) (sg_fa u) (sg_la u) (sg_st u) (jm_ag j) (jm_de j) (jm_ru j) (jm_nx j) (jm_th j)) := hD
  refine lv_iconst (v := 1) hx hb d_md_note_57 (by decide) ?_
  obtain ⟨v1, ev1⟩ : ∃ z : Sg, z = (sg_im u, sg_ap u, sg_ag u, vp_updL (sg_he u) r.toNatClampNeg (sp_h (sg_he u r.toNatClampNeg) v), upd (sg_er u) (sg_en u).toNatClampNeg r, vp_updL (sg_ev u) (sg_en u).toNatClampNeg v, (sg_en u) + (1), sg_ma u, sg_po u, sg_se u, sg_ac u, sg_fa u, sg_la u, sg_st u) := ⟨_, rfl⟩
  have hP : va_P D cx (mw ad cs v1 j) H := by rw [ev1, mw_u]; exact hP
  have hD : va_D A (mw ad cs v1 j) := by rw [ev1, mw_u]; exact hD
  subst ev1
  exact W.zret hx hb hret rfl (fun t ht hW => ⟨⟨_, j, rfl, ⟨rfl, (by rfl)⟩, by rw [ht]; exact hP, va_K.moved hW.alike hK, hD⟩, hS.F ht⟩) hS.2.2 d_md_note_58
set_option maxHeartbeats 4000000 in
set_option maxRecDepth 100000 in
theorem c_md_fill (l : Launch) (D : va_G) (cs : Nat → ClassId) (ad : Nat → Nat) (sz : Nat) (u : Sg) (j : Jm) (k mask : Int32) (x : Int64) (hk : vp_in k 8) : Met l y_md_fill (Cond.code y_md_fill b_md_fill 5 none :: TB) { frames := 2, cells := 0, slots := 0, locals := 49 } (va_Pc [.ref (ad 0), .int k, .int mask, .long x] (mw_Pre D cs ad u j sz)) (va_Qv (fun (j1 : Jm) => j1 = j) (fun (j1 : Jm) t => mw_B D cs ad (va_A (mw ad cs u j) sz) (sp_fi u k mask x) j1 t) (va_A (mw ad cs u j) sz)) 0 0 (va_A (mw ad cs u j) sz) := by
  refine Met.ofW (cc := b_md_fill) (maxL := 5) (ret := none) (by decide) rfl ?_
  intro p e s m args below meth c s₁ B hml hv
  obtain ⟨rfl, hsz, hP, hK, hD, hN⟩ := hv
  have hx := B.exec
  have hb := B.bytes
  have hret := B.returns
  have hts := atoms_spec (ws := Cond.code y_md_fill b_md_fill 5 none :: TB) B.pre
  have hT : ∀ w ∈ TB, w.before _ s = true := fun w h => hts w (List.mem_cons_of_mem _ h)
  have hown : s.vm.findClass "MeasuredStagesModel" = some m.cls := findClass_of_methodNamed B.named
  have hlocks := B.notSynchronized
  subst hsz
  have hD := hD.self (sz := s.heap.size)
  generalize hAe : va_A (mw ad cs u j) s.heap.size = A at hD ⊢
  have hA : ∀ q : Nat, s.heap.size ≤ q → A q := fun q h => by rw [← hAe]; exact Or.inr h
  have hS : va_S A s.heap s.heap [] := va_S.rf
  have hl := lv_entry ([.ref (ad 0), .int k, .int mask, .long x]) (n := 5) (Nat.le_of_ble_eq_true rfl)
  rw [lg_entry_eq]
  generalize (lg_sl ([.ref (ad 0), .int k, .int mask, .long x]) ++ List.replicate (5 - (lg_sl ([.ref (ad 0), .int k, .int mask, .long x])).length) Slot.unset).toArray = ls at hl ⊢
  have hl : lv_has ls 5 [(0, .ref (ad 0)), (1, .int k), (2, .int mask), (3, .long x)] := hl
  skip
  refine lv_aload_n hx hb d_md_fill_0 rfl (lv_at hl 0 rfl) ?_
  refine va_get (D := D) (ci := 3) (v := .ref (ad 6)) (C := "MeasuredStagesModel") (T := F_md) (N := 19) hx hb hts (fun w h => List.mem_cons_of_mem _ (i_md w h)) hown hK hP 0 rfl rfl 5 (by decide) (hT _ tb_464) (fun _ h9 => h9) rfl d_md_fill_1 ?_
  refine lv_iload_n hx hb d_md_fill_4 rfl (lv_at hl 1 rfl) ?_
  refine lv_aload_n hx hb d_md_fill_5 rfl (lv_at hl 0 rfl) ?_
  refine lv_iload_n hx hb d_md_fill_6 rfl (lv_at hl 2 rfl) ?_
  refine mw_rdl (v := sp_po u mask) (As := [.int mask]) (rest := [.int k, .ref (ad 6)]) ⟨hx, hb, hml, hown, hts⟩ (c_md_policy l D cs ad _ u j mask) tb_565 tb_567 sl_21 tb_4 tb_568 ⟨rfl, hd_md_policy⟩ ⟨Nat.le_of_ble_eq_true rfl, Nat.le_of_ble_eq_true rfl⟩ rfl rfl hK hP hD hN 0 3 rfl rfl hl.1 rfl (Nat.le_of_ble_eq_true rfl) d_md_fill_7 ⟨Nat.zero_le _, Nat.zero_le _⟩ ?_
  refine va_last hx hb hK hP hD hS 6 5 rfl rfl hk d_md_fill_10 (fun H locs hP hD hS => ?_)
  have hP : va_P D cx (mv ad cs (sg_im u) (sg_ap u) (sg_ag u) (sg_he u) (sg_er u) (sg_ev u) (sg_en u) (sg_ma u) (vp_updL (sg_po u) k.toNatClampNeg (sp_po u mask)) (sg_se u) (sg_ac u) (sg_fa u) (sg_la u) (sg_st u) (jm_ag j) (jm_de j) (jm_ru j) (jm_nx j) (jm_th j)) H := hP
  have hD : va_D A (mv ad cs (sg_im u) (sg_ap u) (sg_ag u) (sg_he u) (sg_er u) (sg_ev u) (sg_en u) (sg_ma u) (vp_updL (sg_po u) k.toNatClampNeg (sp_po u mask)) (sg_se u) (sg_ac u) (sg_fa u) (sg_la u) (sg_st u) (jm_ag j) (jm_de j) (jm_ru j) (jm_nx j) (jm_th j)) := hD
  refine lv_aload_n hx hb d_md_fill_11 rfl (lv_at hl 0 rfl) ?_
  refine va_get (D := D) (ci := 3) (v := .ref (ad 5)) (C := "MeasuredStagesModel") (T := F_md) (N := 19) hx hb hts (fun w h => List.mem_cons_of_mem _ (i_md w h)) hown hK hP 0 rfl rfl 4 (by decide) (hT _ tb_463) (fun _ h9 => h9) rfl d_md_fill_12 ?_
  refine lv_iload_n hx hb d_md_fill_15 rfl (lv_at hl 1 rfl) ?_
  refine lv_iload_n hx hb d_md_fill_16 rfl (lv_at hl 2 rfl) ?_
  refine va_iast hx hb hK hP hD hS 5 4 rfl rfl hk d_md_fill_17 (fun H locs hP hD hS => ?_)
  have hP : va_P D cx (mv ad cs (sg_im u) (sg_ap u) (sg_ag u) (sg_he u) (sg_er u) (sg_ev u) (sg_en u) (upd (sg_ma u) k.toNatClampNeg mask) (vp_updL (sg_po u) k.toNatClampNeg (sp_po u mask)) (sg_se u) (sg_ac u) (sg_fa u) (sg_la u) (sg_st u) (jm_ag j) (jm_de j) (jm_ru j) (jm_nx j) (jm_th j)) H := hP
  have hD : va_D A (mv ad cs (sg_im u) (sg_ap u) (sg_ag u) (sg_he u) (sg_er u) (sg_ev u) (sg_en u) (upd (sg_ma u) k.toNatClampNeg mask) (vp_updL (sg_po u) k.toNatClampNeg (sp_po u mask)) (sg_se u) (sg_ac u) (sg_fa u) (sg_la u) (sg_st u) (jm_ag j) (jm_de j) (jm_ru j) (jm_nx j) (jm_th j)) := hD
  refine lv_aload_n hx hb d_md_fill_18 rfl (lv_at hl 0 rfl) ?_
  refine va_get (D := D) (ci := 3) (v := .ref (ad 7)) (C := "MeasuredStagesModel") (T := F_md) (N := 19) hx hb hts (fun w h => List.mem_cons_of_mem _ (i_md w h)) hown hK hP 0 rfl rfl 6 (by decide) (hT _ tb_465) (fun _ h9 => h9) rfl d_md_fill_19 ?_
  refine lv_iload_n hx hb d_md_fill_22 rfl (lv_at hl 1 rfl) ?_
  refine lv_lload_n hx hb d_md_fill_23 rfl (lv_at hl 3 rfl) ?_
  refine va_last hx hb hK hP hD hS 7 6 rfl rfl hk d_md_fill_24 (fun H locs hP hD hS => ?_)
  have hP : va_P D cx (mv ad cs (sg_im u) (sg_ap u) (sg_ag u) (sg_he u) (sg_er u) (sg_ev u) (sg_en u) (upd (sg_ma u) k.toNatClampNeg mask) (vp_updL (sg_po u) k.toNatClampNeg (sp_po u mask)) (vp_updL (sg_se u) k.toNatClampNeg x) (sg_ac u) (sg_fa u) (sg_la u) (sg_st u) (jm_ag j) (jm_de j) (jm_ru j) (jm_nx j) (jm_th j)) H := hP
  have hD : va_D A (mv ad cs (sg_im u) (sg_ap u) (sg_ag u) (sg_he u) (sg_er u) (sg_ev u) (sg_en u) (upd (sg_ma u) k.toNatClampNeg mask) (vp_updL (sg_po u) k.toNatClampNeg (sp_po u mask)) (vp_updL (sg_se u) k.toNatClampNeg x) (sg_ac u) (sg_fa u) (sg_la u) (sg_st u) (jm_ag j) (jm_de j) (jm_ru j) (jm_nx j) (jm_th j)) := hD
  obtain ⟨v1, ev1⟩ : ∃ z : Sg, z = (sg_im u, sg_ap u, sg_ag u, sg_he u, sg_er u, sg_ev u, sg_en u, upd (sg_ma u) k.toNatClampNeg mask, vp_updL (sg_po u) k.toNatClampNeg (sp_po u mask), vp_updL (sg_se u) k.toNatClampNeg x, sg_ac u, sg_fa u, sg_la u, sg_st u) := ⟨_, rfl⟩
  have hP : va_P D cx (mw ad cs v1 j) H := by rw [ev1, mw_u]; exact hP
  have hD : va_D A (mw ad cs v1 j) := by rw [ev1, mw_u]; exact hD
  subst ev1
  exact W.vret hx hb hret (fun t ht hW => ⟨⟨j, rfl, (by rfl), by rw [ht]; exact hP, va_K.moved hW.alike hK, hD⟩, hS.F ht⟩) hS.2.2 d_md_fill_25
set_option maxHeartbeats 4000000 in
set_option maxRecDepth 100000 in
theorem c_md_launch (l : Launch) (D : va_G) (cs : Nat → ClassId) (ad : Nat → Nat) (sz : Nat) (u : Sg) (j : Jm) (n d : Int32) (hn : vp_in n 8) (hd : vp_in d 6) (he : vp_in (sg_en u) 32) : Met l y_md_launch (Cond.code y_md_launch b_md_launch 3 (some .boolean) :: TB) { frames := 2, cells := 0, slots := 0, locals := 48 } (va_Pc [.ref (ad 0), .int n, .int d] (mw_Pre D cs ad u j sz)) (va_Qi (fun (r : Int32) (j1 : Jm) => r = 1 ∧ j1 = sm_nx (sm_ru (sm_de j d) (upd (jm_ru j) d.toNatClampNeg n)) (upd (jm_nx j) d.toNatClampNeg 0)) (fun (j1 : Jm) t => mw_B D cs ad (va_A (mw ad cs u j) sz) ((fun v : Sg => ss_la v (sg_la v + 1)) (sp_no u d (sp_di u n))) j1 t) (va_A (mw ad cs u j) sz)) 0 0 (va_A (mw ad cs u j) sz) := by
  refine Met.ofW (cc := b_md_launch) (maxL := 3) (ret := (some .boolean)) (by decide) rfl ?_
  intro p e s m args below meth c s₁ B hml hv
  obtain ⟨rfl, hsz, hP, hK, hD, hN⟩ := hv
  have hx := B.exec
  have hb := B.bytes
  have hret := B.returns
  have hts := atoms_spec (ws := Cond.code y_md_launch b_md_launch 3 (some .boolean) :: TB) B.pre
  have hT : ∀ w ∈ TB, w.before _ s = true := fun w h => hts w (List.mem_cons_of_mem _ h)
  have hown : s.vm.findClass "MeasuredStagesModel" = some m.cls := findClass_of_methodNamed B.named
  have hlocks := B.notSynchronized
  subst hsz
  have hD := hD.self (sz := s.heap.size)
  generalize hAe : va_A (mw ad cs u j) s.heap.size = A at hD ⊢
  have hA : ∀ q : Nat, s.heap.size ≤ q → A q := fun q h => by rw [← hAe]; exact Or.inr h
  have hS : va_S A s.heap s.heap [] := va_S.rf
  have hl := lv_entry ([.ref (ad 0), .int n, .int d]) (n := 3) (Nat.le_of_ble_eq_true rfl)
  rw [lg_entry_eq]
  generalize (lg_sl ([.ref (ad 0), .int n, .int d]) ++ List.replicate (3 - (lg_sl ([.ref (ad 0), .int n, .int d])).length) Slot.unset).toArray = ls at hl ⊢
  have hl : lv_has ls 3 [(0, .ref (ad 0)), (1, .int n), (2, .int d)] := hl
  skip
  refine lv_aload_n hx hb d_md_launch_0 rfl (lv_at hl 0 rfl) ?_
  refine lv_iload_n hx hb d_md_launch_1 rfl (lv_at hl 2 rfl) ?_
  refine lv_aload_n hx hb d_md_launch_2 rfl (lv_at hl 0 rfl) ?_
  refine lv_iload_n hx hb d_md_launch_3 rfl (lv_at hl 1 rfl) ?_
  refine mw_rdl (v := sp_di u n) (As := [.int n]) (rest := [.int d, .ref (ad 0)]) ⟨hx, hb, hml, hown, hts⟩ (c_md_digest l D cs ad _ u j n hn) tb_529 tb_531 sl_15 tb_4 tb_532 ⟨rfl, hd_md_digest⟩ ⟨Nat.le_of_ble_eq_true rfl, Nat.le_of_ble_eq_true rfl⟩ rfl rfl hK hP hD hN 0 3 rfl rfl hl.1 rfl (Nat.le_of_ble_eq_true rfl) d_md_launch_4 ⟨Nat.zero_le _, Nat.zero_le _⟩ ?_
  refine mw_wri (v := 1) (u' := sp_no u d (sp_di u n)) (As := [.int d, .long (sp_di u n)]) (rest := []) ⟨hx, hb, hml, hown, hts⟩ (c_md_note l D cs ad _ u j d (sp_di u n) hd he) tb_548 tb_550 sl_17 tb_4 tb_551 ⟨rfl, hd_md_note⟩ ⟨Nat.le_of_ble_eq_true rfl, Nat.le_of_ble_eq_true rfl⟩ rfl rfl hK hP hD hN 0 3 rfl rfl hl.1 rfl (Nat.le_of_ble_eq_true rfl) d_md_launch_7 ⟨Nat.zero_le _, Nat.zero_le _⟩ hS hA (fun j1 H locs hj2 hP hD hS => ?_)
  obtain ⟨v3, ev3⟩ : ∃ z : Sg, z = sp_no u d (sp_di u n) := ⟨_, rfl⟩
  rw [← ev3] at hP hD
  rw [hj2] at hP hD
  refine lv_if_ne hx hb d_md_launch_10 (tgt := 15) (by decide) (fun _ => ?_) (fun z => absurd z (by decide))
  refine lv_aload_n hx hb d_md_launch_15 rfl (lv_at hl 0 rfl) ?_
  refine lv_dup hx hb d_md_launch_16 rfl ?_
  refine va_get (D := D) (ci := 3) (v := .int (sg_la v3)) (C := "MeasuredStagesModel") (T := F_md) (N := 19) hx hb hts (fun w h => List.mem_cons_of_mem _ (i_md w h)) hown hK hP 0 rfl rfl 12 (by decide) (hT _ tb_471) (fun _ h9 => h9) rfl d_md_launch_17 ?_
  refine lv_iconst (v := 1) hx hb d_md_launch_20 (by decide) ?_
  refine lv_iadd hx hb d_md_launch_21 ?_
  refine va_put (D := D) (ci := 3) (v := .int ((sg_la v3) + (1))) (ty := .int) (C := "MeasuredStagesModel") (T := F_md) (N := 19) hx hb hts (fun w h => List.mem_cons_of_mem _ (i_md w h)) t_md o_md n_md hown hK hP hD hS 0 rfl rfl 12 (by decide) (hT _ tb_471) (fun _ h9 => h9) rfl (by decide +kernel) rfl rfl (Nat.le_of_ble_eq_true rfl) d_md_launch_22 (fun H locs hP hD hS => ?_)
  have hP : va_P D cx (mv ad cs (sg_im v3) (sg_ap v3) (sg_ag v3) (sg_he v3) (sg_er v3) (sg_ev v3) (sg_en v3) (sg_ma v3) (sg_po v3) (sg_se v3) (sg_ac v3) (sg_fa v3) ((sg_la v3) + (1)) (sg_st v3) (jm_ag j) (jm_de j) (jm_ru j) (jm_nx j) (jm_th j)) H := hP
  have hD : va_D A (mv ad cs (sg_im v3) (sg_ap v3) (sg_ag v3) (sg_he v3) (sg_er v3) (sg_ev v3) (sg_en v3) (sg_ma v3) (sg_po v3) (sg_se v3) (sg_ac v3) (sg_fa v3) ((sg_la v3) + (1)) (sg_st v3) (jm_ag j) (jm_de j) (jm_ru j) (jm_nx j) (jm_th j)) := hD
  refine lv_aload_n hx hb d_md_launch_25 rfl (lv_at hl 0 rfl) ?_
  refine lv_iload_n hx hb d_md_launch_26 rfl (lv_at hl 2 rfl) ?_
  refine va_put (D := D) (ci := 3) (v := .int d) (ty := .int) (C := "MeasuredStagesModel") (T := F_md) (N := 19) hx hb hts (fun w h => List.mem_cons_of_mem _ (i_md w h)) t_md o_md n_md hown hK hP hD hS 0 rfl rfl 15 (by decide) (hT _ tb_474) (fun _ h9 => h9) rfl (by decide +kernel) rfl rfl (Nat.le_of_ble_eq_true rfl) d_md_launch_27 (fun H locs hP hD hS => ?_)
  have hP : va_P D cx (mv ad cs (sg_im v3) (sg_ap v3) (sg_ag v3) (sg_he v3) (sg_er v3) (sg_ev v3) (sg_en v3) (sg_ma v3) (sg_po v3) (sg_se v3) (sg_ac v3) (sg_fa v3) ((sg_la v3) + (1)) (sg_st v3) (jm_ag j) d (jm_ru j) (jm_nx j) (jm_th j)) H := hP
  have hD : va_D A (mv ad cs (sg_im v3) (sg_ap v3) (sg_ag v3) (sg_he v3) (sg_er v3) (sg_ev v3) (sg_en v3) (sg_ma v3) (sg_po v3) (sg_se v3) (sg_ac v3) (sg_fa v3) ((sg_la v3) + (1)) (sg_st v3) (jm_ag j) d (jm_ru j) (jm_nx j) (jm_th j)) := hD
  refine lv_aload_n hx hb d_md_launch_30 rfl (lv_at hl 0 rfl) ?_
  refine va_get (D := D) (ci := 3) (v := .ref (ad 11)) (C := "MeasuredStagesModel") (T := F_md) (N := 19) hx hb hts (fun w h => List.mem_cons_of_mem _ (i_md w h)) hown hK hP 0 rfl rfl 16 (by decide) (hT _ tb_475) (fun _ h9 => h9) rfl d_md_launch_31 ?_
  refine lv_iload_n hx hb d_md_launch_34 rfl (lv_at hl 2 rfl) ?_
  refine lv_iload_n hx hb d_md_launch_35 rfl (lv_at hl 1 rfl) ?_
  refine va_iast hx hb hK hP hD hS 11 10 rfl rfl hd d_md_launch_36 (fun H locs hP hD hS => ?_)
  have hP : va_P D cx (mv ad cs (sg_im v3) (sg_ap v3) (sg_ag v3) (sg_he v3) (sg_er v3) (sg_ev v3) (sg_en v3) (sg_ma v3) (sg_po v3) (sg_se v3) (sg_ac v3) (sg_fa v3) ((sg_la v3) + (1)) (sg_st v3) (jm_ag j) d (upd (jm_ru j) d.toNatClampNeg n) (jm_nx j) (jm_th j)) H := hP
  have hD : va_D A (mv ad cs (sg_im v3) (sg_ap v3) (sg_ag v3) (sg_he v3) (sg_er v3) (sg_ev v3) (sg_en v3) (sg_ma v3) (sg_po v3) (sg_se v3) (sg_ac v3) (sg_fa v3) ((sg_la v3) + (1)) (sg_st v3) (jm_ag j) d (upd (jm_ru j) d.toNatClampNeg n) (jm_nx j) (jm_th j)) := hD
  refine lv_aload_n hx hb d_md_launch_37 rfl (lv_at hl 0 rfl) ?_
  refine va_get (D := D) (ci := 3) (v := .ref (ad 12)) (C := "MeasuredStagesModel") (T := F_md) (N := 19) hx hb hts (fun w h => List.mem_cons_of_mem _ (i_md w h)) hown hK hP 0 rfl rfl 17 (by decide) (hT _ tb_476) (fun _ h9 => h9) rfl d_md_launch_38 ?_
  refine lv_iload_n hx hb d_md_launch_41 rfl (lv_at hl 2 rfl) ?_
  refine lv_iconst (v := 0) hx hb d_md_launch_42 (by decide) ?_
  refine va_iast hx hb hK hP hD hS 12 11 rfl rfl hd d_md_launch_43 (fun H locs hP hD hS => ?_)
  have hP : va_P D cx (mv ad cs (sg_im v3) (sg_ap v3) (sg_ag v3) (sg_he v3) (sg_er v3) (sg_ev v3) (sg_en v3) (sg_ma v3) (sg_po v3) (sg_se v3) (sg_ac v3) (sg_fa v3) ((sg_la v3) + (1)) (sg_st v3) (jm_ag j) d (upd (jm_ru j) d.toNatClampNeg n) (upd (jm_nx j) d.toNatClampNeg (0)) (jm_th j)) H := hP
  have hD : va_D A (mv ad cs (sg_im v3) (sg_ap v3) (sg_ag v3) (sg_he v3) (sg_er v3) (sg_ev v3) (sg_en v3) (sg_ma v3) (sg_po v3) (sg_se v3) (sg_ac v3) (sg_fa v3) ((sg_la v3) + (1)) (sg_st v3) (jm_ag j) d (upd (jm_ru j) d.toNatClampNeg n) (upd (jm_nx j) d.toNatClampNeg (0)) (jm_th j)) := hD
  refine lv_iconst (v := 1) hx hb d_md_launch_44 (by decide) ?_
  obtain ⟨v4, ev4⟩ : ∃ z : Sg, z = (sg_im v3, sg_ap v3, sg_ag v3, sg_he v3, sg_er v3, sg_ev v3, sg_en v3, sg_ma v3, sg_po v3, sg_se v3, sg_ac v3, sg_fa v3, (sg_la v3) + (1), sg_st v3) := ⟨_, rfl⟩
  obtain ⟨q5, eq5⟩ : ∃ z : Jm, z = (jm_ag j, d, upd (jm_ru j) d.toNatClampNeg n, upd (jm_nx j) d.toNatClampNeg (0), jm_th j) := ⟨_, rfl⟩
  have hP : va_P D cx (mw ad cs v4 q5) H := by rw [ev4, eq5, mw_uj]; exact hP
  have hD : va_D A (mw ad cs v4 q5) := by rw [ev4, eq5, mw_uj]; exact hD
  subst ev4
  subst ev3
  exact W.zret hx hb hret rfl (fun t ht hW => ⟨⟨_, q5, rfl, ⟨rfl, (by subst eq5; rfl)⟩, by rw [ht]; exact hP, va_K.moved hW.alike hK, hD⟩, hS.F ht⟩) hS.2.2 d_md_launch_45
set_option maxHeartbeats 4000000 in
set_option maxRecDepth 100000 in
theorem c_act_0 (l : Launch) (D : va_G) (cs : Nat → ClassId) (ad : Nat → Nat) (sz : Nat) (u : Sg) (j : Jm) (code x y d : Int32) (hc : code = 0)  : Met l y_md_act (Cond.code y_md_act b_md_act 6 none :: TB) { frames := 4, cells := 0, slots := 0, locals := 110 } (va_Pc [.ref (ad 0), .int code, .int x, .int y, .int d] (mw_Pre D cs ad u j sz)) (va_Qv (fun (j1 : Jm) => jm_de j1 = d - 1 ∧ jm_ru j1 = jm_ru j ∧ jm_nx j1 = (jm_nx j)) (fun (j1 : Jm) t => mw_B D cs ad (va_A (mw ad cs u j) sz) u j1 t) (va_A (mw ad cs u j) sz)) 0 0 (va_A (mw ad cs u j) sz) := by
  refine Met.ofW (cc := b_md_act) (maxL := 6) (ret := none) (by decide) rfl ?_
  intro p e s m args below meth c s₁ B hml hv
  obtain ⟨rfl, hsz, hP, hK, hD, hN⟩ := hv
  have hx := B.exec
  have hb := B.bytes
  have hret := B.returns
  have hts := atoms_spec (ws := Cond.code y_md_act b_md_act 6 none :: TB) B.pre
  have hT : ∀ w ∈ TB, w.before _ s = true := fun w h => hts w (List.mem_cons_of_mem _ h)
  have hown : s.vm.findClass "MeasuredStagesModel" = some m.cls := findClass_of_methodNamed B.named
  have hlocks := B.notSynchronized
  subst hsz
  have hD := hD.self (sz := s.heap.size)
  generalize hAe : va_A (mw ad cs u j) s.heap.size = A at hD ⊢
  have hA : ∀ q : Nat, s.heap.size ≤ q → A q := fun q h => by rw [← hAe]; exact Or.inr h
  have hS : va_S A s.heap s.heap [] := va_S.rf
  have hl := lv_entry ([.ref (ad 0), .int code, .int x, .int y, .int d]) (n := 6) (Nat.le_of_ble_eq_true rfl)
  rw [lg_entry_eq]
  generalize (lg_sl ([.ref (ad 0), .int code, .int x, .int y, .int d]) ++ List.replicate (6 - (lg_sl ([.ref (ad 0), .int code, .int x, .int y, .int d])).length) Slot.unset).toArray = ls at hl ⊢
  have hl : lv_has ls 6 [(0, .ref (ad 0)), (1, .int code), (2, .int x), (3, .int y), (4, .int d)] := hl
  skip
  refine lv_iconst (v := 1) hx hb d_md_act_0 (by decide) ?_
  refine lv_istore (nL := 6) (lv' := [(5, .int (1)), (0, .ref (ad 0)), (1, .int code), (2, .int x), (3, .int y), (4, .int d)]) hx hb d_md_act_1 hl (by decide) rfl (fun ls hl => ?_)
  refine lv_iload_n hx hb d_md_act_3 rfl (lv_at hl 2 rfl) ?_
  refine W.eq (g2 := F0 m 4 ls (.int 0 :: [])) (by rw [hc]) ?_
  refine lv_tableIn hx hb d_md_act_4 (off := 52) (tgt := 56) (by decide) (by decide) rfl (by decide) ?_
  refine lv_aload_n hx hb d_md_act_56 rfl (lv_at hl 1 rfl) ?_
  refine lv_iload hx hb d_md_act_57 (lv_at hl 5 rfl) ?_
  refine lv_iconst (v := 1) hx hb d_md_act_59 (by decide) ?_
  refine lv_isub hx hb d_md_act_60 ?_
  refine va_put (D := D) (ci := 3) (v := .int (d - (1))) (ty := .int) (C := "MeasuredStagesModel") (T := F_md) (N := 19) hx hb hts (fun w h => List.mem_cons_of_mem _ (i_md w h)) t_md o_md n_md hown hK hP hD hS 0 rfl rfl 15 (by decide) (hT _ tb_474) (fun _ h9 => h9) rfl (by decide +kernel) rfl rfl (Nat.le_of_ble_eq_true rfl) d_md_act_61 (fun H locs hP hD hS => ?_)
  have hP : va_P D cx (mv ad cs (sg_im u) (sg_ap u) (sg_ag u) (sg_he u) (sg_er u) (sg_ev u) (sg_en u) (sg_ma u) (sg_po u) (sg_se u) (sg_ac u) (sg_fa u) (sg_la u) (sg_st u) (jm_ag j) (d - (1)) (jm_ru j) (jm_nx j) (jm_th j)) H := hP
  have hD : va_D A (mv ad cs (sg_im u) (sg_ap u) (sg_ag u) (sg_he u) (sg_er u) (sg_ev u) (sg_en u) (sg_ma u) (sg_po u) (sg_se u) (sg_ac u) (sg_fa u) (sg_la u) (sg_st u) (jm_ag j) (d - (1)) (jm_ru j) (jm_nx j) (jm_th j)) := hD
  refine lv_goto hx hb d_md_act_64 (tgt := 204) (by decide) ?_
  refine lv_aload_n hx hb d_md_act_204 rfl (lv_at hl 1 rfl) ?_
  refine lv_iload hx hb d_md_act_205 (lv_at hl 0 rfl) ?_
  refine lv_if_eq hx hb d_md_act_207 (tgt := 217) (by decide) (fun z => absurd z (by decide)) (fun _ => ?_)
  refine lv_aload_n hx hb d_md_act_210 rfl (lv_at hl 1 rfl) ?_
  refine va_get (D := D) (ci := 3) (v := .int (sg_fa u)) (C := "MeasuredStagesModel") (T := F_md) (N := 19) hx hb hts (fun w h => List.mem_cons_of_mem _ (i_md w h)) hown hK hP 0 rfl rfl 14 (by decide) (hT _ tb_473) (fun _ h9 => h9) rfl d_md_act_211 ?_
  refine lv_goto hx hb d_md_act_214 (tgt := 218) (by decide) ?_
  refine va_put (D := D) (ci := 3) (v := .int (sg_fa u)) (ty := .int) (C := "MeasuredStagesModel") (T := F_md) (N := 19) hx hb hts (fun w h => List.mem_cons_of_mem _ (i_md w h)) t_md o_md n_md hown hK hP hD hS 0 rfl rfl 14 (by decide) (hT _ tb_473) (fun _ h9 => h9) rfl (by decide +kernel) rfl rfl (Nat.le_of_ble_eq_true rfl) d_md_act_218 (fun H locs hP hD hS => ?_)
  have hP : va_P D cx (mv ad cs (sg_im u) (sg_ap u) (sg_ag u) (sg_he u) (sg_er u) (sg_ev u) (sg_en u) (sg_ma u) (sg_po u) (sg_se u) (sg_ac u) (sg_fa u) (sg_la u) (sg_st u) (jm_ag j) (d - (1)) (jm_ru j) (jm_nx j) (jm_th j)) H := hP
  have hD : va_D A (mv ad cs (sg_im u) (sg_ap u) (sg_ag u) (sg_he u) (sg_er u) (sg_ev u) (sg_en u) (sg_ma u) (sg_po u) (sg_se u) (sg_ac u) (sg_fa u) (sg_la u) (sg_st u) (jm_ag j) (d - (1)) (jm_ru j) (jm_nx j) (jm_th j)) := hD
  obtain ⟨q1, eq1⟩ : ∃ z : Jm, z = (jm_ag j, d - (1), jm_ru j, jm_nx j, jm_th j) := ⟨_, rfl⟩
  have hP : va_P D cx (mw ad cs u q1) H := by rw [eq1, mw_j]; exact hP
  have hD : va_D A (mw ad cs u q1) := by rw [eq1, mw_j]; exact hD
  exact W.vret hx hb hret (fun t ht hW => ⟨⟨q1, rfl, (by subst eq1; exact ⟨rfl, rfl, rfl⟩), by rw [ht]; exact hP, va_K.moved hW.alike hK, hD⟩, hS.F ht⟩) hS.2.2 d_md_act_221
set_option maxHeartbeats 4000000 in
set_option maxRecDepth 100000 in
theorem c_act_1 (l : Launch) (D : va_G) (cs : Nat → ClassId) (ad : Nat → Nat) (sz : Nat) (u : Sg) (j : Jm) (code x y d : Int32) (hc : code = 1) (h8 : vp_in (sp_rm x 8) 8) (hd : vp_in (d + 1) 6) (he : vp_in (sg_en u) 32) : Met l y_md_act (Cond.code y_md_act b_md_act 6 none :: TB) { frames := 4, cells := 0, slots := 0, locals := 110 } (va_Pc [.ref (ad 0), .int code, .int x, .int y, .int d] (mw_Pre D cs ad u j sz)) (va_Qv (fun (j1 : Jm) => jm_de j1 = d + 1 ∧ jm_ru j1 = upd (jm_ru j) (d + 1).toNatClampNeg (sp_rm x 8) ∧ jm_nx j1 = (upd (jm_nx j) (d + 1).toNatClampNeg 0)) (fun (j1 : Jm) t => mw_B D cs ad (va_A (mw ad cs u j) sz) ((fun v : Sg => ss_la v (sg_la v + 1)) (sp_no u (d + 1) (sp_di u (sp_rm x 8)))) j1 t) (va_A (mw ad cs u j) sz)) 0 0 (va_A (mw ad cs u j) sz) := by
  refine Met.ofW (cc := b_md_act) (maxL := 6) (ret := none) (by decide) rfl ?_
  intro p e s m args below meth c s₁ B hml hv
  obtain ⟨rfl, hsz, hP, hK, hD, hN⟩ := hv
  have hx := B.exec
  have hb := B.bytes
  have hret := B.returns
  have hts := atoms_spec (ws := Cond.code y_md_act b_md_act 6 none :: TB) B.pre
  have hT : ∀ w ∈ TB, w.before _ s = true := fun w h => hts w (List.mem_cons_of_mem _ h)
  have hown : s.vm.findClass "MeasuredStagesModel" = some m.cls := findClass_of_methodNamed B.named
  have hlocks := B.notSynchronized
  subst hsz
  have hD := hD.self (sz := s.heap.size)
  generalize hAe : va_A (mw ad cs u j) s.heap.size = A at hD ⊢
  have hA : ∀ q : Nat, s.heap.size ≤ q → A q := fun q h => by rw [← hAe]; exact Or.inr h
  have hS : va_S A s.heap s.heap [] := va_S.rf
  have hl := lv_entry ([.ref (ad 0), .int code, .int x, .int y, .int d]) (n := 6) (Nat.le_of_ble_eq_true rfl)
  rw [lg_entry_eq]
  generalize (lg_sl ([.ref (ad 0), .int code, .int x, .int y, .int d]) ++ List.replicate (6 - (lg_sl ([.ref (ad 0), .int code, .int x, .int y, .int d])).length) Slot.unset).toArray = ls at hl ⊢
  have hl : lv_has ls 6 [(0, .ref (ad 0)), (1, .int code), (2, .int x), (3, .int y), (4, .int d)] := hl
  skip
  refine lv_iconst (v := 1) hx hb d_md_act_0 (by decide) ?_
  refine lv_istore (nL := 6) (lv' := [(5, .int (1)), (0, .ref (ad 0)), (1, .int code), (2, .int x), (3, .int y), (4, .int d)]) hx hb d_md_act_1 hl (by decide) rfl (fun ls hl => ?_)
  refine lv_iload_n hx hb d_md_act_3 rfl (lv_at hl 2 rfl) ?_
  refine W.eq (g2 := F0 m 4 ls (.int 1 :: [])) (by rw [hc]) ?_
  refine lv_tableIn hx hb d_md_act_4 (off := 63) (tgt := 67) (by decide) (by decide) rfl (by decide) ?_
  refine lv_aload_n hx hb d_md_act_67 rfl (lv_at hl 1 rfl) ?_
  refine lv_iload_n hx hb d_md_act_68 rfl (lv_at hl 3 rfl) ?_
  refine lv_bipush (v := 8) hx hb d_md_act_69 (by decide) ?_
  refine lv_irem hx hb d_md_act_71 (by decide) ?_
  refine lv_iload hx hb d_md_act_72 (lv_at hl 5 rfl) ?_
  refine lv_iconst (v := 1) hx hb d_md_act_74 (by decide) ?_
  refine lv_iadd hx hb d_md_act_75 ?_
  refine mw_wri (v := 1) (u' := (fun v : Sg => ss_la v (sg_la v + 1)) (sp_no u (d + (1)) (sp_di u (sp_rm x (8))))) (As := [.int (sp_rm x (8)), .int (d + (1))]) (rest := []) ⟨hx, hb, hml, hown, hts⟩ (c_md_launch l D cs ad _ u j (sp_rm x (8)) (d + (1)) h8 hd he) tb_544 tb_546 sl_16 tb_4 tb_547 ⟨rfl, hd_md_launch⟩ ⟨Nat.le_of_ble_eq_true rfl, Nat.le_of_ble_eq_true rfl⟩ rfl rfl hK hP hD hN 0 3 rfl rfl hl.1 rfl (Nat.le_of_ble_eq_true rfl) d_md_act_76 ⟨Nat.zero_le _, Nat.zero_le _⟩ hS hA (fun j1 H locs hj2 hP hD hS => ?_)
  obtain ⟨v3, ev3⟩ : ∃ z : Sg, z = (fun v : Sg => ss_la v (sg_la v + 1)) (sp_no u (d + (1)) (sp_di u (sp_rm x (8)))) := ⟨_, rfl⟩
  rw [← ev3] at hP hD
  refine lv_istore (nL := 6) (lv' := [(5, .int (1)), (0, .ref (ad 0)), (1, .int code), (2, .int x), (3, .int y), (4, .int d)]) hx hb d_md_act_79 hl (by decide) rfl (fun ls hl => ?_)
  refine lv_goto hx hb d_md_act_81 (tgt := 204) (by decide) ?_
  refine lv_aload_n hx hb d_md_act_204 rfl (lv_at hl 1 rfl) ?_
  refine lv_iload hx hb d_md_act_205 (lv_at hl 0 rfl) ?_
  refine lv_if_eq hx hb d_md_act_207 (tgt := 217) (by decide) (fun z => absurd z (by decide)) (fun _ => ?_)
  refine lv_aload_n hx hb d_md_act_210 rfl (lv_at hl 1 rfl) ?_
  refine va_get (D := D) (ci := 3) (v := .int (sg_fa v3)) (C := "MeasuredStagesModel") (T := F_md) (N := 19) hx hb hts (fun w h => List.mem_cons_of_mem _ (i_md w h)) hown hK hP 0 rfl rfl 14 (by decide) (hT _ tb_473) (fun _ h9 => h9) rfl d_md_act_211 ?_
  refine lv_goto hx hb d_md_act_214 (tgt := 218) (by decide) ?_
  refine va_put (D := D) (ci := 3) (v := .int (sg_fa v3)) (ty := .int) (C := "MeasuredStagesModel") (T := F_md) (N := 19) hx hb hts (fun w h => List.mem_cons_of_mem _ (i_md w h)) t_md o_md n_md hown hK hP hD hS 0 rfl rfl 14 (by decide) (hT _ tb_473) (fun _ h9 => h9) rfl (by decide +kernel) rfl rfl (Nat.le_of_ble_eq_true rfl) d_md_act_218 (fun H locs hP hD hS => ?_)
  have hP : va_P D cx (mw ad cs v3 j1) H := hP
  have hD : va_D A (mw ad cs v3 j1) := hD
  subst ev3
  exact W.vret hx hb hret (fun t ht hW => ⟨⟨j1, rfl, (by subst hj2; exact ⟨rfl, rfl, rfl⟩), by rw [ht]; exact hP, va_K.moved hW.alike hK, hD⟩, hS.F ht⟩) hS.2.2 d_md_act_221
set_option maxHeartbeats 4000000 in
set_option maxRecDepth 100000 in
theorem c_act_2 (l : Launch) (D : va_G) (cs : Nat → ClassId) (ad : Nat → Nat) (sz : Nat) (u : Sg) (j : Jm) (code x y d : Int32) (hc : code = 2) (h6 : vp_in (sp_rm x 6) 6) (he : vp_in (sg_en u) 32) : Met l y_md_act (Cond.code y_md_act b_md_act 6 none :: TB) { frames := 4, cells := 0, slots := 0, locals := 110 } (va_Pc [.ref (ad 0), .int code, .int x, .int y, .int d] (mw_Pre D cs ad u j sz)) (va_Qv (fun (j1 : Jm) => jm_de j1 = jm_de j ∧ jm_ru j1 = jm_ru j ∧ jm_nx j1 = (jm_nx j)) (fun (j1 : Jm) t => mw_B D cs ad (va_A (mw ad cs u j) sz) (sp_no u (sp_rm x 6) y.toInt64) j1 t) (va_A (mw ad cs u j) sz)) 0 0 (va_A (mw ad cs u j) sz) := by
  refine Met.ofW (cc := b_md_act) (maxL := 6) (ret := none) (by decide) rfl ?_
  intro p e s m args below meth c s₁ B hml hv
  obtain ⟨rfl, hsz, hP, hK, hD, hN⟩ := hv
  have hx := B.exec
  have hb := B.bytes
  have hret := B.returns
  have hts := atoms_spec (ws := Cond.code y_md_act b_md_act 6 none :: TB) B.pre
  have hT : ∀ w ∈ TB, w.before _ s = true := fun w h => hts w (List.mem_cons_of_mem _ h)
  have hown : s.vm.findClass "MeasuredStagesModel" = some m.cls := findClass_of_methodNamed B.named
  have hlocks := B.notSynchronized
  subst hsz
  have hD := hD.self (sz := s.heap.size)
  generalize hAe : va_A (mw ad cs u j) s.heap.size = A at hD ⊢
  have hA : ∀ q : Nat, s.heap.size ≤ q → A q := fun q h => by rw [← hAe]; exact Or.inr h
  have hS : va_S A s.heap s.heap [] := va_S.rf
  have hl := lv_entry ([.ref (ad 0), .int code, .int x, .int y, .int d]) (n := 6) (Nat.le_of_ble_eq_true rfl)
  rw [lg_entry_eq]
  generalize (lg_sl ([.ref (ad 0), .int code, .int x, .int y, .int d]) ++ List.replicate (6 - (lg_sl ([.ref (ad 0), .int code, .int x, .int y, .int d])).length) Slot.unset).toArray = ls at hl ⊢
  have hl : lv_has ls 6 [(0, .ref (ad 0)), (1, .int code), (2, .int x), (3, .int y), (4, .int d)] := hl
  skip
  refine lv_iconst (v := 1) hx hb d_md_act_0 (by decide) ?_
  refine lv_istore (nL := 6) (lv' := [(5, .int (1)), (0, .ref (ad 0)), (1, .int code), (2, .int x), (3, .int y), (4, .int d)]) hx hb d_md_act_1 hl (by decide) rfl (fun ls hl => ?_)
  refine lv_iload_n hx hb d_md_act_3 rfl (lv_at hl 2 rfl) ?_
  refine W.eq (g2 := F0 m 4 ls (.int 2 :: [])) (by rw [hc]) ?_
  refine lv_tableIn hx hb d_md_act_4 (off := 80) (tgt := 84) (by decide) (by decide) rfl (by decide) ?_
  refine lv_aload_n hx hb d_md_act_84 rfl (lv_at hl 1 rfl) ?_
  refine lv_iload_n hx hb d_md_act_85 rfl (lv_at hl 3 rfl) ?_
  refine lv_bipush (v := 6) hx hb d_md_act_86 (by decide) ?_
  refine lv_irem hx hb d_md_act_88 (by decide) ?_
  refine lv_iload_n hx hb d_md_act_89 rfl (lv_at hl 4 rfl) ?_
  refine lv_i2l hx hb d_md_act_90 rfl ?_
  refine mw_wri (v := 1) (u' := sp_no u (sp_rm x (6)) (y.toInt64)) (As := [.int (sp_rm x (6)), .long (y.toInt64)]) (rest := []) ⟨hx, hb, hml, hown, hts⟩ (c_md_note l D cs ad _ u j (sp_rm x (6)) (y.toInt64) h6 he) tb_548 tb_550 sl_17 tb_4 tb_551 ⟨rfl, hd_md_note⟩ ⟨Nat.le_of_ble_eq_true rfl, Nat.le_of_ble_eq_true rfl⟩ rfl rfl hK hP hD hN 0 3 rfl rfl hl.1 rfl (Nat.le_of_ble_eq_true rfl) d_md_act_91 ⟨Nat.zero_le _, Nat.zero_le _⟩ hS hA (fun j1 H locs hj2 hP hD hS => ?_)
  obtain ⟨v3, ev3⟩ : ∃ z : Sg, z = sp_no u (sp_rm x (6)) (y.toInt64) := ⟨_, rfl⟩
  rw [← ev3] at hP hD
  rw [hj2] at hP hD
  refine lv_istore (nL := 6) (lv' := [(5, .int (1)), (0, .ref (ad 0)), (1, .int code), (2, .int x), (3, .int y), (4, .int d)]) hx hb d_md_act_94 hl (by decide) rfl (fun ls hl => ?_)
  refine lv_goto hx hb d_md_act_96 (tgt := 204) (by decide) ?_
  refine lv_aload_n hx hb d_md_act_204 rfl (lv_at hl 1 rfl) ?_
  refine lv_iload hx hb d_md_act_205 (lv_at hl 0 rfl) ?_
  refine lv_if_eq hx hb d_md_act_207 (tgt := 217) (by decide) (fun z => absurd z (by decide)) (fun _ => ?_)
  refine lv_aload_n hx hb d_md_act_210 rfl (lv_at hl 1 rfl) ?_
  refine va_get (D := D) (ci := 3) (v := .int (sg_fa v3)) (C := "MeasuredStagesModel") (T := F_md) (N := 19) hx hb hts (fun w h => List.mem_cons_of_mem _ (i_md w h)) hown hK hP 0 rfl rfl 14 (by decide) (hT _ tb_473) (fun _ h9 => h9) rfl d_md_act_211 ?_
  refine lv_goto hx hb d_md_act_214 (tgt := 218) (by decide) ?_
  refine va_put (D := D) (ci := 3) (v := .int (sg_fa v3)) (ty := .int) (C := "MeasuredStagesModel") (T := F_md) (N := 19) hx hb hts (fun w h => List.mem_cons_of_mem _ (i_md w h)) t_md o_md n_md hown hK hP hD hS 0 rfl rfl 14 (by decide) (hT _ tb_473) (fun _ h9 => h9) rfl (by decide +kernel) rfl rfl (Nat.le_of_ble_eq_true rfl) d_md_act_218 (fun H locs hP hD hS => ?_)
  have hP : va_P D cx (mw ad cs v3 j) H := hP
  have hD : va_D A (mw ad cs v3 j) := hD
  subst ev3
  exact W.vret hx hb hret (fun t ht hW => ⟨⟨j, rfl, (by exact ⟨rfl, rfl, rfl⟩), by rw [ht]; exact hP, va_K.moved hW.alike hK, hD⟩, hS.F ht⟩) hS.2.2 d_md_act_221
set_option maxHeartbeats 4000000 in
set_option maxRecDepth 100000 in
theorem c_act_3 (l : Launch) (D : va_G) (cs : Nat → ClassId) (ad : Nat → Nat) (sz : Nat) (u : Sg) (j : Jm) (code x y d : Int32) (hc : code = 3)  : Met l y_md_act (Cond.code y_md_act b_md_act 6 none :: TB) { frames := 4, cells := 0, slots := 0, locals := 110 } (va_Pc [.ref (ad 0), .int code, .int x, .int y, .int d] (mw_Pre D cs ad u j sz)) (va_Qv (fun (j1 : Jm) => jm_de j1 = jm_de j ∧ jm_ru j1 = jm_ru j ∧ jm_nx j1 = (jm_nx j)) (fun (j1 : Jm) t => mw_B D cs ad (va_A (mw ad cs u j) sz) u j1 t) (va_A (mw ad cs u j) sz)) 0 0 (va_A (mw ad cs u j) sz) := by
  refine Met.ofW (cc := b_md_act) (maxL := 6) (ret := none) (by decide) rfl ?_
  intro p e s m args below meth c s₁ B hml hv
  obtain ⟨rfl, hsz, hP, hK, hD, hN⟩ := hv
  have hx := B.exec
  have hb := B.bytes
  have hret := B.returns
  have hts := atoms_spec (ws := Cond.code y_md_act b_md_act 6 none :: TB) B.pre
  have hT : ∀ w ∈ TB, w.before _ s = true := fun w h => hts w (List.mem_cons_of_mem _ h)
  have hown : s.vm.findClass "MeasuredStagesModel" = some m.cls := findClass_of_methodNamed B.named
  have hlocks := B.notSynchronized
  subst hsz
  have hD := hD.self (sz := s.heap.size)
  generalize hAe : va_A (mw ad cs u j) s.heap.size = A at hD ⊢
  have hA : ∀ q : Nat, s.heap.size ≤ q → A q := fun q h => by rw [← hAe]; exact Or.inr h
  have hS : va_S A s.heap s.heap [] := va_S.rf
  have hl := lv_entry ([.ref (ad 0), .int code, .int x, .int y, .int d]) (n := 6) (Nat.le_of_ble_eq_true rfl)
  rw [lg_entry_eq]
  generalize (lg_sl ([.ref (ad 0), .int code, .int x, .int y, .int d]) ++ List.replicate (6 - (lg_sl ([.ref (ad 0), .int code, .int x, .int y, .int d])).length) Slot.unset).toArray = ls at hl ⊢
  have hl : lv_has ls 6 [(0, .ref (ad 0)), (1, .int code), (2, .int x), (3, .int y), (4, .int d)] := hl
  skip
  refine lv_iconst (v := 1) hx hb d_md_act_0 (by decide) ?_
  refine lv_istore (nL := 6) (lv' := [(5, .int (1)), (0, .ref (ad 0)), (1, .int code), (2, .int x), (3, .int y), (4, .int d)]) hx hb d_md_act_1 hl (by decide) rfl (fun ls hl => ?_)
  refine lv_iload_n hx hb d_md_act_3 rfl (lv_at hl 2 rfl) ?_
  refine W.eq (g2 := F0 m 4 ls (.int 3 :: [])) (by rw [hc]) ?_
  refine lv_tableIn hx hb d_md_act_4 (off := 200) (tgt := 204) (by decide) (by decide) rfl (by decide) ?_
  refine lv_aload_n hx hb d_md_act_204 rfl (lv_at hl 1 rfl) ?_
  refine lv_iload hx hb d_md_act_205 (lv_at hl 0 rfl) ?_
  refine lv_if_eq hx hb d_md_act_207 (tgt := 217) (by decide) (fun z => absurd z (by decide)) (fun _ => ?_)
  refine lv_aload_n hx hb d_md_act_210 rfl (lv_at hl 1 rfl) ?_
  refine va_get (D := D) (ci := 3) (v := .int (sg_fa u)) (C := "MeasuredStagesModel") (T := F_md) (N := 19) hx hb hts (fun w h => List.mem_cons_of_mem _ (i_md w h)) hown hK hP 0 rfl rfl 14 (by decide) (hT _ tb_473) (fun _ h9 => h9) rfl d_md_act_211 ?_
  refine lv_goto hx hb d_md_act_214 (tgt := 218) (by decide) ?_
  refine va_put (D := D) (ci := 3) (v := .int (sg_fa u)) (ty := .int) (C := "MeasuredStagesModel") (T := F_md) (N := 19) hx hb hts (fun w h => List.mem_cons_of_mem _ (i_md w h)) t_md o_md n_md hown hK hP hD hS 0 rfl rfl 14 (by decide) (hT _ tb_473) (fun _ h9 => h9) rfl (by decide +kernel) rfl rfl (Nat.le_of_ble_eq_true rfl) d_md_act_218 (fun H locs hP hD hS => ?_)
  have hP : va_P D cx (mw ad cs u j) H := hP
  have hD : va_D A (mw ad cs u j) := hD
  exact W.vret hx hb hret (fun t ht hW => ⟨⟨j, rfl, (by exact ⟨rfl, rfl, rfl⟩), by rw [ht]; exact hP, va_K.moved hW.alike hK, hD⟩, hS.F ht⟩) hS.2.2 d_md_act_221
set_option maxHeartbeats 4000000 in
set_option maxRecDepth 100000 in
theorem c_act_4 (l : Launch) (D : va_G) (cs : Nat → ClassId) (ad : Nat → Nat) (sz : Nat) (u : Sg) (j : Jm) (code x y d : Int32) (hc : code = 4) (h8 : vp_in (sp_rm x 8) 8) : Met l y_md_act (Cond.code y_md_act b_md_act 6 none :: TB) { frames := 4, cells := 0, slots := 0, locals := 110 } (va_Pc [.ref (ad 0), .int code, .int x, .int y, .int d] (mw_Pre D cs ad u j sz)) (va_Qv (fun (j1 : Jm) => jm_de j1 = jm_de j ∧ jm_ru j1 = jm_ru j ∧ jm_nx j1 = (jm_nx j)) (fun (j1 : Jm) t => mw_B D cs ad (va_A (mw ad cs u j) sz) (ss_ac u (sg_se u (sp_rm x 8).toNatClampNeg)) j1 t) (va_A (mw ad cs u j) sz)) 0 0 (va_A (mw ad cs u j) sz) := by
  refine Met.ofW (cc := b_md_act) (maxL := 6) (ret := none) (by decide) rfl ?_
  intro p e s m args below meth c s₁ B hml hv
  obtain ⟨rfl, hsz, hP, hK, hD, hN⟩ := hv
  have hx := B.exec
  have hb := B.bytes
  have hret := B.returns
  have hts := atoms_spec (ws := Cond.code y_md_act b_md_act 6 none :: TB) B.pre
  have hT : ∀ w ∈ TB, w.before _ s = true := fun w h => hts w (List.mem_cons_of_mem _ h)
  have hown : s.vm.findClass "MeasuredStagesModel" = some m.cls := findClass_of_methodNamed B.named
  have hlocks := B.notSynchronized
  subst hsz
  have hD := hD.self (sz := s.heap.size)
  generalize hAe : va_A (mw ad cs u j) s.heap.size = A at hD ⊢
  have hA : ∀ q : Nat, s.heap.size ≤ q → A q := fun q h => by rw [← hAe]; exact Or.inr h
  have hS : va_S A s.heap s.heap [] := va_S.rf
  have hl := lv_entry ([.ref (ad 0), .int code, .int x, .int y, .int d]) (n := 6) (Nat.le_of_ble_eq_true rfl)
  rw [lg_entry_eq]
  generalize (lg_sl ([.ref (ad 0), .int code, .int x, .int y, .int d]) ++ List.replicate (6 - (lg_sl ([.ref (ad 0), .int code, .int x, .int y, .int d])).length) Slot.unset).toArray = ls at hl ⊢
  have hl : lv_has ls 6 [(0, .ref (ad 0)), (1, .int code), (2, .int x), (3, .int y), (4, .int d)] := hl
  skip
  refine lv_iconst (v := 1) hx hb d_md_act_0 (by decide) ?_
  refine lv_istore (nL := 6) (lv' := [(5, .int (1)), (0, .ref (ad 0)), (1, .int code), (2, .int x), (3, .int y), (4, .int d)]) hx hb d_md_act_1 hl (by decide) rfl (fun ls hl => ?_)
  refine lv_iload_n hx hb d_md_act_3 rfl (lv_at hl 2 rfl) ?_
  refine W.eq (g2 := F0 m 4 ls (.int 4 :: [])) (by rw [hc]) ?_
  refine lv_tableIn hx hb d_md_act_4 (off := 95) (tgt := 99) (by decide) (by decide) rfl (by decide) ?_
  refine lv_aload_n hx hb d_md_act_99 rfl (lv_at hl 1 rfl) ?_
  refine lv_aload_n hx hb d_md_act_100 rfl (lv_at hl 1 rfl) ?_
  refine va_get (D := D) (ci := 3) (v := .ref (ad 7)) (C := "MeasuredStagesModel") (T := F_md) (N := 19) hx hb hts (fun w h => List.mem_cons_of_mem _ (i_md w h)) hown hK hP 0 rfl rfl 6 (by decide) (hT _ tb_465) (fun _ h9 => h9) rfl d_md_act_101 ?_
  refine lv_iload_n hx hb d_md_act_104 rfl (lv_at hl 3 rfl) ?_
  refine lv_bipush (v := 8) hx hb d_md_act_105 (by decide) ?_
  refine lv_irem hx hb d_md_act_107 (by decide) ?_
  refine va_lald hx hb hK hP 7 6 rfl rfl h8 d_md_act_108 ?_
  refine va_put (D := D) (ci := 3) (v := .long (sg_se u (sp_rm x (8)).toNatClampNeg)) (ty := .long) (C := "MeasuredStagesModel") (T := F_md) (N := 19) hx hb hts (fun w h => List.mem_cons_of_mem _ (i_md w h)) t_md o_md n_md hown hK hP hD hS 0 rfl rfl 11 (by decide) (hT _ tb_470) (fun _ h9 => h9) rfl (by decide +kernel) rfl rfl (Nat.le_of_ble_eq_true rfl) d_md_act_109 (fun H locs hP hD hS => ?_)
  have hP : va_P D cx (mv ad cs (sg_im u) (sg_ap u) (sg_ag u) (sg_he u) (sg_er u) (sg_ev u) (sg_en u) (sg_ma u) (sg_po u) (sg_se u) (sg_se u (sp_rm x (8)).toNatClampNeg) (sg_fa u) (sg_la u) (sg_st u) (jm_ag j) (jm_de j) (jm_ru j) (jm_nx j) (jm_th j)) H := hP
  have hD : va_D A (mv ad cs (sg_im u) (sg_ap u) (sg_ag u) (sg_he u) (sg_er u) (sg_ev u) (sg_en u) (sg_ma u) (sg_po u) (sg_se u) (sg_se u (sp_rm x (8)).toNatClampNeg) (sg_fa u) (sg_la u) (sg_st u) (jm_ag j) (jm_de j) (jm_ru j) (jm_nx j) (jm_th j)) := hD
  refine lv_goto hx hb d_md_act_112 (tgt := 204) (by decide) ?_
  refine lv_aload_n hx hb d_md_act_204 rfl (lv_at hl 1 rfl) ?_
  refine lv_iload hx hb d_md_act_205 (lv_at hl 0 rfl) ?_
  refine lv_if_eq hx hb d_md_act_207 (tgt := 217) (by decide) (fun z => absurd z (by decide)) (fun _ => ?_)
  refine lv_aload_n hx hb d_md_act_210 rfl (lv_at hl 1 rfl) ?_
  refine va_get (D := D) (ci := 3) (v := .int (sg_fa u)) (C := "MeasuredStagesModel") (T := F_md) (N := 19) hx hb hts (fun w h => List.mem_cons_of_mem _ (i_md w h)) hown hK hP 0 rfl rfl 14 (by decide) (hT _ tb_473) (fun _ h9 => h9) rfl d_md_act_211 ?_
  refine lv_goto hx hb d_md_act_214 (tgt := 218) (by decide) ?_
  refine va_put (D := D) (ci := 3) (v := .int (sg_fa u)) (ty := .int) (C := "MeasuredStagesModel") (T := F_md) (N := 19) hx hb hts (fun w h => List.mem_cons_of_mem _ (i_md w h)) t_md o_md n_md hown hK hP hD hS 0 rfl rfl 14 (by decide) (hT _ tb_473) (fun _ h9 => h9) rfl (by decide +kernel) rfl rfl (Nat.le_of_ble_eq_true rfl) d_md_act_218 (fun H locs hP hD hS => ?_)
  have hP : va_P D cx (mv ad cs (sg_im u) (sg_ap u) (sg_ag u) (sg_he u) (sg_er u) (sg_ev u) (sg_en u) (sg_ma u) (sg_po u) (sg_se u) (sg_se u (sp_rm x (8)).toNatClampNeg) (sg_fa u) (sg_la u) (sg_st u) (jm_ag j) (jm_de j) (jm_ru j) (jm_nx j) (jm_th j)) H := hP
  have hD : va_D A (mv ad cs (sg_im u) (sg_ap u) (sg_ag u) (sg_he u) (sg_er u) (sg_ev u) (sg_en u) (sg_ma u) (sg_po u) (sg_se u) (sg_se u (sp_rm x (8)).toNatClampNeg) (sg_fa u) (sg_la u) (sg_st u) (jm_ag j) (jm_de j) (jm_ru j) (jm_nx j) (jm_th j)) := hD
  obtain ⟨v1, ev1⟩ : ∃ z : Sg, z = (sg_im u, sg_ap u, sg_ag u, sg_he u, sg_er u, sg_ev u, sg_en u, sg_ma u, sg_po u, sg_se u, sg_se u (sp_rm x (8)).toNatClampNeg, sg_fa u, sg_la u, sg_st u) := ⟨_, rfl⟩
  have hP : va_P D cx (mw ad cs v1 j) H := by rw [ev1, mw_u]; exact hP
  have hD : va_D A (mw ad cs v1 j) := by rw [ev1, mw_u]; exact hD
  subst ev1
  exact W.vret hx hb hret (fun t ht hW => ⟨⟨j, rfl, (by exact ⟨rfl, rfl, rfl⟩), by rw [ht]; exact hP, va_K.moved hW.alike hK, hD⟩, hS.F ht⟩) hS.2.2 d_md_act_221
set_option maxHeartbeats 4000000 in
set_option maxRecDepth 100000 in
theorem c_act_5 (l : Launch) (D : va_G) (cs : Nat → ClassId) (ad : Nat → Nat) (sz : Nat) (u : Sg) (j : Jm) (code x y d : Int32) (hc : code = 5)  : Met l y_md_act (Cond.code y_md_act b_md_act 6 none :: TB) { frames := 4, cells := 0, slots := 0, locals := 110 } (va_Pc [.ref (ad 0), .int code, .int x, .int y, .int d] (mw_Pre D cs ad u j sz)) (va_Qv (fun (j1 : Jm) => jm_de j1 = jm_de j ∧ jm_ru j1 = jm_ru j ∧ jm_nx j1 = (jm_nx j)) (fun (j1 : Jm) t => mw_B D cs ad (va_A (mw ad cs u j) sz) (ss_ac u (sp_h (sg_ac u) x.toInt64)) j1 t) (va_A (mw ad cs u j) sz)) 0 0 (va_A (mw ad cs u j) sz) := by
  refine Met.ofW (cc := b_md_act) (maxL := 6) (ret := none) (by decide) rfl ?_
  intro p e s m args below meth c s₁ B hml hv
  obtain ⟨rfl, hsz, hP, hK, hD, hN⟩ := hv
  have hx := B.exec
  have hb := B.bytes
  have hret := B.returns
  have hts := atoms_spec (ws := Cond.code y_md_act b_md_act 6 none :: TB) B.pre
  have hT : ∀ w ∈ TB, w.before _ s = true := fun w h => hts w (List.mem_cons_of_mem _ h)
  have hown : s.vm.findClass "MeasuredStagesModel" = some m.cls := findClass_of_methodNamed B.named
  have hlocks := B.notSynchronized
  subst hsz
  have hD := hD.self (sz := s.heap.size)
  generalize hAe : va_A (mw ad cs u j) s.heap.size = A at hD ⊢
  have hA : ∀ q : Nat, s.heap.size ≤ q → A q := fun q h => by rw [← hAe]; exact Or.inr h
  have hS : va_S A s.heap s.heap [] := va_S.rf
  have hl := lv_entry ([.ref (ad 0), .int code, .int x, .int y, .int d]) (n := 6) (Nat.le_of_ble_eq_true rfl)
  rw [lg_entry_eq]
  generalize (lg_sl ([.ref (ad 0), .int code, .int x, .int y, .int d]) ++ List.replicate (6 - (lg_sl ([.ref (ad 0), .int code, .int x, .int y, .int d])).length) Slot.unset).toArray = ls at hl ⊢
  have hl : lv_has ls 6 [(0, .ref (ad 0)), (1, .int code), (2, .int x), (3, .int y), (4, .int d)] := hl
  skip
  refine lv_iconst (v := 1) hx hb d_md_act_0 (by decide) ?_
  refine lv_istore (nL := 6) (lv' := [(5, .int (1)), (0, .ref (ad 0)), (1, .int code), (2, .int x), (3, .int y), (4, .int d)]) hx hb d_md_act_1 hl (by decide) rfl (fun ls hl => ?_)
  refine lv_iload_n hx hb d_md_act_3 rfl (lv_at hl 2 rfl) ?_
  refine W.eq (g2 := F0 m 4 ls (.int 5 :: [])) (by rw [hc]) ?_
  refine lv_tableIn hx hb d_md_act_4 (off := 111) (tgt := 115) (by decide) (by decide) rfl (by decide) ?_
  refine lv_aload_n hx hb d_md_act_115 rfl (lv_at hl 1 rfl) ?_
  refine lv_aload_n hx hb d_md_act_116 rfl (lv_at hl 1 rfl) ?_
  refine va_get (D := D) (ci := 3) (v := .long (sg_ac u)) (C := "MeasuredStagesModel") (T := F_md) (N := 19) hx hb hts (fun w h => List.mem_cons_of_mem _ (i_md w h)) hown hK hP 0 rfl rfl 11 (by decide) (hT _ tb_470) (fun _ h9 => h9) rfl d_md_act_117 ?_
  refine lv_iload_n hx hb d_md_act_120 rfl (lv_at hl 3 rfl) ?_
  refine lv_i2l hx hb d_md_act_121 rfl ?_
  refine st_l (v := sp_h (sg_ac u) (x.toInt64)) (As := [.long (sg_ac u), .long (x.toInt64)]) (rest := [.ref (ad 0)]) ⟨hx, hb, hml, hown, hts⟩ (c_md_h l (sg_ac u) (x.toInt64)) tb_534 tb_535 tb_4 tb_536 hd_md_h ⟨Nat.le_of_ble_eq_true rfl, Nat.le_of_ble_eq_true rfl⟩ rfl rfl hl.1 rfl (Nat.le_of_ble_eq_true rfl) d_md_act_122 ⟨Nat.zero_le _, Nat.zero_le _⟩ ?_
  refine va_put (D := D) (ci := 3) (v := .long (sp_h (sg_ac u) (x.toInt64))) (ty := .long) (C := "MeasuredStagesModel") (T := F_md) (N := 19) hx hb hts (fun w h => List.mem_cons_of_mem _ (i_md w h)) t_md o_md n_md hown hK hP hD hS 0 rfl rfl 11 (by decide) (hT _ tb_470) (fun _ h9 => h9) rfl (by decide +kernel) rfl rfl (Nat.le_of_ble_eq_true rfl) d_md_act_125 (fun H locs hP hD hS => ?_)
  have hP : va_P D cx (mv ad cs (sg_im u) (sg_ap u) (sg_ag u) (sg_he u) (sg_er u) (sg_ev u) (sg_en u) (sg_ma u) (sg_po u) (sg_se u) (sp_h (sg_ac u) (x.toInt64)) (sg_fa u) (sg_la u) (sg_st u) (jm_ag j) (jm_de j) (jm_ru j) (jm_nx j) (jm_th j)) H := hP
  have hD : va_D A (mv ad cs (sg_im u) (sg_ap u) (sg_ag u) (sg_he u) (sg_er u) (sg_ev u) (sg_en u) (sg_ma u) (sg_po u) (sg_se u) (sp_h (sg_ac u) (x.toInt64)) (sg_fa u) (sg_la u) (sg_st u) (jm_ag j) (jm_de j) (jm_ru j) (jm_nx j) (jm_th j)) := hD
  refine lv_goto hx hb d_md_act_128 (tgt := 204) (by decide) ?_
  refine lv_aload_n hx hb d_md_act_204 rfl (lv_at hl 1 rfl) ?_
  refine lv_iload hx hb d_md_act_205 (lv_at hl 0 rfl) ?_
  refine lv_if_eq hx hb d_md_act_207 (tgt := 217) (by decide) (fun z => absurd z (by decide)) (fun _ => ?_)
  refine lv_aload_n hx hb d_md_act_210 rfl (lv_at hl 1 rfl) ?_
  refine va_get (D := D) (ci := 3) (v := .int (sg_fa u)) (C := "MeasuredStagesModel") (T := F_md) (N := 19) hx hb hts (fun w h => List.mem_cons_of_mem _ (i_md w h)) hown hK hP 0 rfl rfl 14 (by decide) (hT _ tb_473) (fun _ h9 => h9) rfl d_md_act_211 ?_
  refine lv_goto hx hb d_md_act_214 (tgt := 218) (by decide) ?_
  refine va_put (D := D) (ci := 3) (v := .int (sg_fa u)) (ty := .int) (C := "MeasuredStagesModel") (T := F_md) (N := 19) hx hb hts (fun w h => List.mem_cons_of_mem _ (i_md w h)) t_md o_md n_md hown hK hP hD hS 0 rfl rfl 14 (by decide) (hT _ tb_473) (fun _ h9 => h9) rfl (by decide +kernel) rfl rfl (Nat.le_of_ble_eq_true rfl) d_md_act_218 (fun H locs hP hD hS => ?_)
  have hP : va_P D cx (mv ad cs (sg_im u) (sg_ap u) (sg_ag u) (sg_he u) (sg_er u) (sg_ev u) (sg_en u) (sg_ma u) (sg_po u) (sg_se u) (sp_h (sg_ac u) (x.toInt64)) (sg_fa u) (sg_la u) (sg_st u) (jm_ag j) (jm_de j) (jm_ru j) (jm_nx j) (jm_th j)) H := hP
  have hD : va_D A (mv ad cs (sg_im u) (sg_ap u) (sg_ag u) (sg_he u) (sg_er u) (sg_ev u) (sg_en u) (sg_ma u) (sg_po u) (sg_se u) (sp_h (sg_ac u) (x.toInt64)) (sg_fa u) (sg_la u) (sg_st u) (jm_ag j) (jm_de j) (jm_ru j) (jm_nx j) (jm_th j)) := hD
  obtain ⟨v1, ev1⟩ : ∃ z : Sg, z = (sg_im u, sg_ap u, sg_ag u, sg_he u, sg_er u, sg_ev u, sg_en u, sg_ma u, sg_po u, sg_se u, sp_h (sg_ac u) (x.toInt64), sg_fa u, sg_la u, sg_st u) := ⟨_, rfl⟩
  have hP : va_P D cx (mw ad cs v1 j) H := by rw [ev1, mw_u]; exact hP
  have hD : va_D A (mw ad cs v1 j) := by rw [ev1, mw_u]; exact hD
  subst ev1
  exact W.vret hx hb hret (fun t ht hW => ⟨⟨j, rfl, (by exact ⟨rfl, rfl, rfl⟩), by rw [ht]; exact hP, va_K.moved hW.alike hK, hD⟩, hS.F ht⟩) hS.2.2 d_md_act_221
set_option maxHeartbeats 4000000 in
set_option maxRecDepth 100000 in
theorem c_act_6 (l : Launch) (D : va_G) (cs : Nat → ClassId) (ad : Nat → Nat) (sz : Nat) (u : Sg) (j : Jm) (code x y d : Int32) (hc : code = 6) (h6 : vp_in (sp_rm x 6) 6) (he : vp_in (sg_en u) 32) : Met l y_md_act (Cond.code y_md_act b_md_act 6 none :: TB) { frames := 4, cells := 0, slots := 0, locals := 110 } (va_Pc [.ref (ad 0), .int code, .int x, .int y, .int d] (mw_Pre D cs ad u j sz)) (va_Qv (fun (j1 : Jm) => jm_de j1 = jm_de j ∧ jm_ru j1 = jm_ru j ∧ jm_nx j1 = (jm_nx j)) (fun (j1 : Jm) t => mw_B D cs ad (va_A (mw ad cs u j) sz) (sp_no u (sp_rm x 6) (sg_ac u)) j1 t) (va_A (mw ad cs u j) sz)) 0 0 (va_A (mw ad cs u j) sz) := by
  refine Met.ofW (cc := b_md_act) (maxL := 6) (ret := none) (by decide) rfl ?_
  intro p e s m args below meth c s₁ B hml hv
  obtain ⟨rfl, hsz, hP, hK, hD, hN⟩ := hv
  have hx := B.exec
  have hb := B.bytes
  have hret := B.returns
  have hts := atoms_spec (ws := Cond.code y_md_act b_md_act 6 none :: TB) B.pre
  have hT : ∀ w ∈ TB, w.before _ s = true := fun w h => hts w (List.mem_cons_of_mem _ h)
  have hown : s.vm.findClass "MeasuredStagesModel" = some m.cls := findClass_of_methodNamed B.named
  have hlocks := B.notSynchronized
  subst hsz
  have hD := hD.self (sz := s.heap.size)
  generalize hAe : va_A (mw ad cs u j) s.heap.size = A at hD ⊢
  have hA : ∀ q : Nat, s.heap.size ≤ q → A q := fun q h => by rw [← hAe]; exact Or.inr h
  have hS : va_S A s.heap s.heap [] := va_S.rf
  have hl := lv_entry ([.ref (ad 0), .int code, .int x, .int y, .int d]) (n := 6) (Nat.le_of_ble_eq_true rfl)
  rw [lg_entry_eq]
  generalize (lg_sl ([.ref (ad 0), .int code, .int x, .int y, .int d]) ++ List.replicate (6 - (lg_sl ([.ref (ad 0), .int code, .int x, .int y, .int d])).length) Slot.unset).toArray = ls at hl ⊢
  have hl : lv_has ls 6 [(0, .ref (ad 0)), (1, .int code), (2, .int x), (3, .int y), (4, .int d)] := hl
  skip
  refine lv_iconst (v := 1) hx hb d_md_act_0 (by decide) ?_
  refine lv_istore (nL := 6) (lv' := [(5, .int (1)), (0, .ref (ad 0)), (1, .int code), (2, .int x), (3, .int y), (4, .int d)]) hx hb d_md_act_1 hl (by decide) rfl (fun ls hl => ?_)
  refine lv_iload_n hx hb d_md_act_3 rfl (lv_at hl 2 rfl) ?_
  refine W.eq (g2 := F0 m 4 ls (.int 6 :: [])) (by rw [hc]) ?_
  refine lv_tableIn hx hb d_md_act_4 (off := 127) (tgt := 131) (by decide) (by decide) rfl (by decide) ?_
  refine lv_aload_n hx hb d_md_act_131 rfl (lv_at hl 1 rfl) ?_
  refine lv_iload_n hx hb d_md_act_132 rfl (lv_at hl 3 rfl) ?_
  refine lv_bipush (v := 6) hx hb d_md_act_133 (by decide) ?_
  refine lv_irem hx hb d_md_act_135 (by decide) ?_
  refine lv_aload_n hx hb d_md_act_136 rfl (lv_at hl 1 rfl) ?_
  refine va_get (D := D) (ci := 3) (v := .long (sg_ac u)) (C := "MeasuredStagesModel") (T := F_md) (N := 19) hx hb hts (fun w h => List.mem_cons_of_mem _ (i_md w h)) hown hK hP 0 rfl rfl 11 (by decide) (hT _ tb_470) (fun _ h9 => h9) rfl d_md_act_137 ?_
  refine mw_wri (v := 1) (u' := sp_no u (sp_rm x (6)) (sg_ac u)) (As := [.int (sp_rm x (6)), .long (sg_ac u)]) (rest := []) ⟨hx, hb, hml, hown, hts⟩ (c_md_note l D cs ad _ u j (sp_rm x (6)) (sg_ac u) h6 he) tb_548 tb_550 sl_17 tb_4 tb_551 ⟨rfl, hd_md_note⟩ ⟨Nat.le_of_ble_eq_true rfl, Nat.le_of_ble_eq_true rfl⟩ rfl rfl hK hP hD hN 0 3 rfl rfl hl.1 rfl (Nat.le_of_ble_eq_true rfl) d_md_act_140 ⟨Nat.zero_le _, Nat.zero_le _⟩ hS hA (fun j1 H locs hj2 hP hD hS => ?_)
  obtain ⟨v3, ev3⟩ : ∃ z : Sg, z = sp_no u (sp_rm x (6)) (sg_ac u) := ⟨_, rfl⟩
  rw [← ev3] at hP hD
  rw [hj2] at hP hD
  refine lv_istore (nL := 6) (lv' := [(5, .int (1)), (0, .ref (ad 0)), (1, .int code), (2, .int x), (3, .int y), (4, .int d)]) hx hb d_md_act_143 hl (by decide) rfl (fun ls hl => ?_)
  refine lv_goto hx hb d_md_act_145 (tgt := 204) (by decide) ?_
  refine lv_aload_n hx hb d_md_act_204 rfl (lv_at hl 1 rfl) ?_
  refine lv_iload hx hb d_md_act_205 (lv_at hl 0 rfl) ?_
  refine lv_if_eq hx hb d_md_act_207 (tgt := 217) (by decide) (fun z => absurd z (by decide)) (fun _ => ?_)
  refine lv_aload_n hx hb d_md_act_210 rfl (lv_at hl 1 rfl) ?_
  refine va_get (D := D) (ci := 3) (v := .int (sg_fa v3)) (C := "MeasuredStagesModel") (T := F_md) (N := 19) hx hb hts (fun w h => List.mem_cons_of_mem _ (i_md w h)) hown hK hP 0 rfl rfl 14 (by decide) (hT _ tb_473) (fun _ h9 => h9) rfl d_md_act_211 ?_
  refine lv_goto hx hb d_md_act_214 (tgt := 218) (by decide) ?_
  refine va_put (D := D) (ci := 3) (v := .int (sg_fa v3)) (ty := .int) (C := "MeasuredStagesModel") (T := F_md) (N := 19) hx hb hts (fun w h => List.mem_cons_of_mem _ (i_md w h)) t_md o_md n_md hown hK hP hD hS 0 rfl rfl 14 (by decide) (hT _ tb_473) (fun _ h9 => h9) rfl (by decide +kernel) rfl rfl (Nat.le_of_ble_eq_true rfl) d_md_act_218 (fun H locs hP hD hS => ?_)
  have hP : va_P D cx (mw ad cs v3 j) H := hP
  have hD : va_D A (mw ad cs v3 j) := hD
  subst ev3
  exact W.vret hx hb hret (fun t ht hW => ⟨⟨j, rfl, (by exact ⟨rfl, rfl, rfl⟩), by rw [ht]; exact hP, va_K.moved hW.alike hK, hD⟩, hS.F ht⟩) hS.2.2 d_md_act_221
set_option maxHeartbeats 4000000 in
set_option maxRecDepth 100000 in
theorem c_act_7 (l : Launch) (D : va_G) (cs : Nat → ClassId) (ad : Nat → Nat) (sz : Nat) (u : Sg) (j : Jm) (code x y d : Int32) (hc : code = 7) (hd : vp_in d 6) : Met l y_md_act (Cond.code y_md_act b_md_act 6 none :: TB) { frames := 4, cells := 0, slots := 0, locals := 110 } (va_Pc [.ref (ad 0), .int code, .int x, .int y, .int d] (mw_Pre D cs ad u j sz)) (va_Qv (fun (j1 : Jm) => jm_de j1 = jm_de j ∧ jm_ru j1 = jm_ru j ∧ jm_nx j1 = (if sg_ac u = 0 then upd (jm_nx j) d.toNatClampNeg (jm_nx j d.toNatClampNeg + x) else jm_nx j)) (fun (j1 : Jm) t => mw_B D cs ad (va_A (mw ad cs u j) sz) u j1 t) (va_A (mw ad cs u j) sz)) 0 0 (va_A (mw ad cs u j) sz) := by
  refine Met.ofW (cc := b_md_act) (maxL := 6) (ret := none) (by decide) rfl ?_
  intro p e s m args below meth c s₁ B hml hv
  obtain ⟨rfl, hsz, hP, hK, hD, hN⟩ := hv
  have hx := B.exec
  have hb := B.bytes
  have hret := B.returns
  have hts := atoms_spec (ws := Cond.code y_md_act b_md_act 6 none :: TB) B.pre
  have hT : ∀ w ∈ TB, w.before _ s = true := fun w h => hts w (List.mem_cons_of_mem _ h)
  have hown : s.vm.findClass "MeasuredStagesModel" = some m.cls := findClass_of_methodNamed B.named
  have hlocks := B.notSynchronized
  subst hsz
  have hD := hD.self (sz := s.heap.size)
  generalize hAe : va_A (mw ad cs u j) s.heap.size = A at hD ⊢
  have hA : ∀ q : Nat, s.heap.size ≤ q → A q := fun q h => by rw [← hAe]; exact Or.inr h
  have hS : va_S A s.heap s.heap [] := va_S.rf
  have hl := lv_entry ([.ref (ad 0), .int code, .int x, .int y, .int d]) (n := 6) (Nat.le_of_ble_eq_true rfl)
  rw [lg_entry_eq]
  generalize (lg_sl ([.ref (ad 0), .int code, .int x, .int y, .int d]) ++ List.replicate (6 - (lg_sl ([.ref (ad 0), .int code, .int x, .int y, .int d])).length) Slot.unset).toArray = ls at hl ⊢
  have hl : lv_has ls 6 [(0, .ref (ad 0)), (1, .int code), (2, .int x), (3, .int y), (4, .int d)] := hl
  skip
  refine lv_iconst (v := 1) hx hb d_md_act_0 (by decide) ?_
  refine lv_istore (nL := 6) (lv' := [(5, .int (1)), (0, .ref (ad 0)), (1, .int code), (2, .int x), (3, .int y), (4, .int d)]) hx hb d_md_act_1 hl (by decide) rfl (fun ls hl => ?_)
  refine lv_iload_n hx hb d_md_act_3 rfl (lv_at hl 2 rfl) ?_
  refine W.eq (g2 := F0 m 4 ls (.int 7 :: [])) (by rw [hc]) ?_
  refine lv_tableIn hx hb d_md_act_4 (off := 144) (tgt := 148) (by decide) (by decide) rfl (by decide) ?_
  refine lv_aload_n hx hb d_md_act_148 rfl (lv_at hl 1 rfl) ?_
  refine va_get (D := D) (ci := 3) (v := .ref (ad 12)) (C := "MeasuredStagesModel") (T := F_md) (N := 19) hx hb hts (fun w h => List.mem_cons_of_mem _ (i_md w h)) hown hK hP 0 rfl rfl 17 (by decide) (hT _ tb_476) (fun _ h9 => h9) rfl d_md_act_149 ?_
  refine lv_iload hx hb d_md_act_152 (lv_at hl 5 rfl) ?_
  refine lv_aload_n hx hb d_md_act_154 rfl (lv_at hl 1 rfl) ?_
  refine va_get (D := D) (ci := 3) (v := .long (sg_ac u)) (C := "MeasuredStagesModel") (T := F_md) (N := 19) hx hb hts (fun w h => List.mem_cons_of_mem _ (i_md w h)) hown hK hP 0 rfl rfl 11 (by decide) (hT _ tb_470) (fun _ h9 => h9) rfl d_md_act_155 ?_
  refine lv_lconst (v := 0) hx hb d_md_act_158 (by decide) ?_
  refine W.lcmp hx hb d_md_act_159 ?_
  refine lv_if_ne hx hb d_md_act_160 (tgt := 175) (by decide) (fun h1 => ?_) (fun h1 => ?_)
  · skip
    have h1 := mt sp_cmp.mpr h1
    refine lv_aload_n hx hb d_md_act_175 rfl (lv_at hl 1 rfl) ?_
    refine va_get (D := D) (ci := 3) (v := .ref (ad 12)) (C := "MeasuredStagesModel") (T := F_md) (N := 19) hx hb hts (fun w h => List.mem_cons_of_mem _ (i_md w h)) hown hK hP 0 rfl rfl 17 (by decide) (hT _ tb_476) (fun _ h9 => h9) rfl d_md_act_176 ?_
    refine lv_iload hx hb d_md_act_179 (lv_at hl 5 rfl) ?_
    refine va_iald hx hb hK hP 12 11 rfl rfl hd d_md_act_181 ?_
    refine va_iast hx hb hK hP hD hS 12 11 rfl rfl hd d_md_act_182 (fun H locs hP hD hS => ?_)
    have hP : va_P D cx (mv ad cs (sg_im u) (sg_ap u) (sg_ag u) (sg_he u) (sg_er u) (sg_ev u) (sg_en u) (sg_ma u) (sg_po u) (sg_se u) (sg_ac u) (sg_fa u) (sg_la u) (sg_st u) (jm_ag j) (jm_de j) (jm_ru j) (upd (jm_nx j) d.toNatClampNeg (jm_nx j d.toNatClampNeg)) (jm_th j)) H := hP
    have hD : va_D A (mv ad cs (sg_im u) (sg_ap u) (sg_ag u) (sg_he u) (sg_er u) (sg_ev u) (sg_en u) (sg_ma u) (sg_po u) (sg_se u) (sg_ac u) (sg_fa u) (sg_la u) (sg_st u) (jm_ag j) (jm_de j) (jm_ru j) (upd (jm_nx j) d.toNatClampNeg (jm_nx j d.toNatClampNeg)) (jm_th j)) := hD
    refine lv_goto hx hb d_md_act_183 (tgt := 204) (by decide) ?_
    refine lv_aload_n hx hb d_md_act_204 rfl (lv_at hl 1 rfl) ?_
    refine lv_iload hx hb d_md_act_205 (lv_at hl 0 rfl) ?_
    refine lv_if_eq hx hb d_md_act_207 (tgt := 217) (by decide) (fun z => absurd z (by decide)) (fun _ => ?_)
    refine lv_aload_n hx hb d_md_act_210 rfl (lv_at hl 1 rfl) ?_
    refine va_get (D := D) (ci := 3) (v := .int (sg_fa u)) (C := "MeasuredStagesModel") (T := F_md) (N := 19) hx hb hts (fun w h => List.mem_cons_of_mem _ (i_md w h)) hown hK hP 0 rfl rfl 14 (by decide) (hT _ tb_473) (fun _ h9 => h9) rfl d_md_act_211 ?_
    refine lv_goto hx hb d_md_act_214 (tgt := 218) (by decide) ?_
    refine va_put (D := D) (ci := 3) (v := .int (sg_fa u)) (ty := .int) (C := "MeasuredStagesModel") (T := F_md) (N := 19) hx hb hts (fun w h => List.mem_cons_of_mem _ (i_md w h)) t_md o_md n_md hown hK hP hD hS 0 rfl rfl 14 (by decide) (hT _ tb_473) (fun _ h9 => h9) rfl (by decide +kernel) rfl rfl (Nat.le_of_ble_eq_true rfl) d_md_act_218 (fun H locs hP hD hS => ?_)
    have hP : va_P D cx (mv ad cs (sg_im u) (sg_ap u) (sg_ag u) (sg_he u) (sg_er u) (sg_ev u) (sg_en u) (sg_ma u) (sg_po u) (sg_se u) (sg_ac u) (sg_fa u) (sg_la u) (sg_st u) (jm_ag j) (jm_de j) (jm_ru j) (upd (jm_nx j) d.toNatClampNeg (jm_nx j d.toNatClampNeg)) (jm_th j)) H := hP
    have hD : va_D A (mv ad cs (sg_im u) (sg_ap u) (sg_ag u) (sg_he u) (sg_er u) (sg_ev u) (sg_en u) (sg_ma u) (sg_po u) (sg_se u) (sg_ac u) (sg_fa u) (sg_la u) (sg_st u) (jm_ag j) (jm_de j) (jm_ru j) (upd (jm_nx j) d.toNatClampNeg (jm_nx j d.toNatClampNeg)) (jm_th j)) := hD
    obtain ⟨q2, eq2⟩ : ∃ z : Jm, z = (jm_ag j, jm_de j, jm_ru j, upd (jm_nx j) d.toNatClampNeg (jm_nx j d.toNatClampNeg), jm_th j) := ⟨_, rfl⟩
    have hP : va_P D cx (mw ad cs u q2) H := by rw [eq2, mw_j]; exact hP
    have hD : va_D A (mw ad cs u q2) := by rw [eq2, mw_j]; exact hD
    exact W.vret hx hb hret (fun t ht hW => ⟨⟨q2, rfl, (by subst eq2; exact ⟨rfl, rfl, by rw [if_neg h1]; exact up_self⟩), by rw [ht]; exact hP, va_K.moved hW.alike hK, hD⟩, hS.F ht⟩) hS.2.2 d_md_act_221
  · skip
    have h1 := sp_cmp.mp h1
    refine lv_aload_n hx hb d_md_act_163 rfl (lv_at hl 1 rfl) ?_
    refine va_get (D := D) (ci := 3) (v := .ref (ad 12)) (C := "MeasuredStagesModel") (T := F_md) (N := 19) hx hb hts (fun w h => List.mem_cons_of_mem _ (i_md w h)) hown hK hP 0 rfl rfl 17 (by decide) (hT _ tb_476) (fun _ h9 => h9) rfl d_md_act_164 ?_
    refine lv_iload hx hb d_md_act_167 (lv_at hl 5 rfl) ?_
    refine va_iald hx hb hK hP 12 11 rfl rfl hd d_md_act_169 ?_
    refine lv_iload_n hx hb d_md_act_170 rfl (lv_at hl 3 rfl) ?_
    refine lv_iadd hx hb d_md_act_171 ?_
    refine lv_goto hx hb d_md_act_172 (tgt := 182) (by decide) ?_
    refine va_iast hx hb hK hP hD hS 12 11 rfl rfl hd d_md_act_182 (fun H locs hP hD hS => ?_)
    have hP : va_P D cx (mv ad cs (sg_im u) (sg_ap u) (sg_ag u) (sg_he u) (sg_er u) (sg_ev u) (sg_en u) (sg_ma u) (sg_po u) (sg_se u) (sg_ac u) (sg_fa u) (sg_la u) (sg_st u) (jm_ag j) (jm_de j) (jm_ru j) (upd (jm_nx j) d.toNatClampNeg ((jm_nx j d.toNatClampNeg) + x)) (jm_th j)) H := hP
    have hD : va_D A (mv ad cs (sg_im u) (sg_ap u) (sg_ag u) (sg_he u) (sg_er u) (sg_ev u) (sg_en u) (sg_ma u) (sg_po u) (sg_se u) (sg_ac u) (sg_fa u) (sg_la u) (sg_st u) (jm_ag j) (jm_de j) (jm_ru j) (upd (jm_nx j) d.toNatClampNeg ((jm_nx j d.toNatClampNeg) + x)) (jm_th j)) := hD
    refine lv_goto hx hb d_md_act_183 (tgt := 204) (by decide) ?_
    refine lv_aload_n hx hb d_md_act_204 rfl (lv_at hl 1 rfl) ?_
    refine lv_iload hx hb d_md_act_205 (lv_at hl 0 rfl) ?_
    refine lv_if_eq hx hb d_md_act_207 (tgt := 217) (by decide) (fun z => absurd z (by decide)) (fun _ => ?_)
    refine lv_aload_n hx hb d_md_act_210 rfl (lv_at hl 1 rfl) ?_
    refine va_get (D := D) (ci := 3) (v := .int (sg_fa u)) (C := "MeasuredStagesModel") (T := F_md) (N := 19) hx hb hts (fun w h => List.mem_cons_of_mem _ (i_md w h)) hown hK hP 0 rfl rfl 14 (by decide) (hT _ tb_473) (fun _ h9 => h9) rfl d_md_act_211 ?_
    refine lv_goto hx hb d_md_act_214 (tgt := 218) (by decide) ?_
    refine va_put (D := D) (ci := 3) (v := .int (sg_fa u)) (ty := .int) (C := "MeasuredStagesModel") (T := F_md) (N := 19) hx hb hts (fun w h => List.mem_cons_of_mem _ (i_md w h)) t_md o_md n_md hown hK hP hD hS 0 rfl rfl 14 (by decide) (hT _ tb_473) (fun _ h9 => h9) rfl (by decide +kernel) rfl rfl (Nat.le_of_ble_eq_true rfl) d_md_act_218 (fun H locs hP hD hS => ?_)
    have hP : va_P D cx (mv ad cs (sg_im u) (sg_ap u) (sg_ag u) (sg_he u) (sg_er u) (sg_ev u) (sg_en u) (sg_ma u) (sg_po u) (sg_se u) (sg_ac u) (sg_fa u) (sg_la u) (sg_st u) (jm_ag j) (jm_de j) (jm_ru j) (upd (jm_nx j) d.toNatClampNeg ((jm_nx j d.toNatClampNeg) + x)) (jm_th j)) H := hP
    have hD : va_D A (mv ad cs (sg_im u) (sg_ap u) (sg_ag u) (sg_he u) (sg_er u) (sg_ev u) (sg_en u) (sg_ma u) (sg_po u) (sg_se u) (sg_ac u) (sg_fa u) (sg_la u) (sg_st u) (jm_ag j) (jm_de j) (jm_ru j) (upd (jm_nx j) d.toNatClampNeg ((jm_nx j d.toNatClampNeg) + x)) (jm_th j)) := hD
    obtain ⟨q3, eq3⟩ : ∃ z : Jm, z = (jm_ag j, jm_de j, jm_ru j, upd (jm_nx j) d.toNatClampNeg ((jm_nx j d.toNatClampNeg) + x), jm_th j) := ⟨_, rfl⟩
    have hP : va_P D cx (mw ad cs u q3) H := by rw [eq3, mw_j]; exact hP
    have hD : va_D A (mw ad cs u q3) := by rw [eq3, mw_j]; exact hD
    exact W.vret hx hb hret (fun t ht hW => ⟨⟨q3, rfl, (by subst eq3; exact ⟨rfl, rfl, by rw [if_pos h1]; rfl⟩), by rw [ht]; exact hP, va_K.moved hW.alike hK, hD⟩, hS.F ht⟩) hS.2.2 d_md_act_221
set_option maxHeartbeats 4000000 in
set_option maxRecDepth 100000 in
theorem c_act_8 (l : Launch) (D : va_G) (cs : Nat → ClassId) (ad : Nat → Nat) (sz : Nat) (u : Sg) (j : Jm) (code x y d : Int32) (hc : code = 8) (hk : vp_in (sp_lf (sg_ma u)) 8) : Met l y_md_act (Cond.code y_md_act b_md_act 6 none :: TB) { frames := 4, cells := 0, slots := 0, locals := 110 } (va_Pc [.ref (ad 0), .int code, .int x, .int y, .int d] (mw_Pre D cs ad u j sz)) (va_Qv (fun (j1 : Jm) => jm_de j1 = jm_de j ∧ jm_ru j1 = jm_ru j ∧ jm_nx j1 = (jm_nx j)) (fun (j1 : Jm) t => mw_B D cs ad (va_A (mw ad cs u j) sz) (sp_fi u (sp_lf (sg_ma u)) (x + 1) (sg_ac u)) j1 t) (va_A (mw ad cs u j) sz)) 0 0 (va_A (mw ad cs u j) sz) := by
  refine Met.ofW (cc := b_md_act) (maxL := 6) (ret := none) (by decide) rfl ?_
  intro p e s m args below meth c s₁ B hml hv
  obtain ⟨rfl, hsz, hP, hK, hD, hN⟩ := hv
  have hx := B.exec
  have hb := B.bytes
  have hret := B.returns
  have hts := atoms_spec (ws := Cond.code y_md_act b_md_act 6 none :: TB) B.pre
  have hT : ∀ w ∈ TB, w.before _ s = true := fun w h => hts w (List.mem_cons_of_mem _ h)
  have hown : s.vm.findClass "MeasuredStagesModel" = some m.cls := findClass_of_methodNamed B.named
  have hlocks := B.notSynchronized
  subst hsz
  have hD := hD.self (sz := s.heap.size)
  generalize hAe : va_A (mw ad cs u j) s.heap.size = A at hD ⊢
  have hA : ∀ q : Nat, s.heap.size ≤ q → A q := fun q h => by rw [← hAe]; exact Or.inr h
  have hS : va_S A s.heap s.heap [] := va_S.rf
  have hl := lv_entry ([.ref (ad 0), .int code, .int x, .int y, .int d]) (n := 6) (Nat.le_of_ble_eq_true rfl)
  rw [lg_entry_eq]
  generalize (lg_sl ([.ref (ad 0), .int code, .int x, .int y, .int d]) ++ List.replicate (6 - (lg_sl ([.ref (ad 0), .int code, .int x, .int y, .int d])).length) Slot.unset).toArray = ls at hl ⊢
  have hl : lv_has ls 6 [(0, .ref (ad 0)), (1, .int code), (2, .int x), (3, .int y), (4, .int d)] := hl
  skip
  refine lv_iconst (v := 1) hx hb d_md_act_0 (by decide) ?_
  refine lv_istore (nL := 6) (lv' := [(5, .int (1)), (0, .ref (ad 0)), (1, .int code), (2, .int x), (3, .int y), (4, .int d)]) hx hb d_md_act_1 hl (by decide) rfl (fun ls hl => ?_)
  refine lv_iload_n hx hb d_md_act_3 rfl (lv_at hl 2 rfl) ?_
  refine W.eq (g2 := F0 m 4 ls (.int 8 :: [])) (by rw [hc]) ?_
  refine lv_tableIn hx hb d_md_act_4 (off := 182) (tgt := 186) (by decide) (by decide) rfl (by decide) ?_
  refine lv_aload_n hx hb d_md_act_186 rfl (lv_at hl 1 rfl) ?_
  refine lv_aload_n hx hb d_md_act_187 rfl (lv_at hl 1 rfl) ?_
  refine mw_rdi (v := sp_lf (sg_ma u)) (As := []) (rest := [.ref (ad 0)]) ⟨hx, hb, hml, hown, hts⟩ (c_md_freeBlob l D cs ad _ u j ) tb_570 tb_572 sl_22 tb_4 tb_573 ⟨rfl, hd_md_freeBlob⟩ ⟨Nat.le_of_ble_eq_true rfl, Nat.le_of_ble_eq_true rfl⟩ rfl rfl hK hP hD hN 0 3 rfl rfl hl.1 rfl (Nat.le_of_ble_eq_true rfl) d_md_act_188 ⟨Nat.zero_le _, Nat.zero_le _⟩ ?_
  refine lv_iload_n hx hb d_md_act_191 rfl (lv_at hl 3 rfl) ?_
  refine lv_iconst (v := 1) hx hb d_md_act_192 (by decide) ?_
  refine lv_iadd hx hb d_md_act_193 ?_
  refine lv_aload_n hx hb d_md_act_194 rfl (lv_at hl 1 rfl) ?_
  refine va_get (D := D) (ci := 3) (v := .long (sg_ac u)) (C := "MeasuredStagesModel") (T := F_md) (N := 19) hx hb hts (fun w h => List.mem_cons_of_mem _ (i_md w h)) hown hK hP 0 rfl rfl 11 (by decide) (hT _ tb_470) (fun _ h9 => h9) rfl d_md_act_195 ?_
  refine mw_wrv (u' := sp_fi u (sp_lf (sg_ma u)) (x + (1)) (sg_ac u)) (As := [.int (sp_lf (sg_ma u)), .int (x + (1)), .long (sg_ac u)]) (rest := []) ⟨hx, hb, hml, hown, hts⟩ (c_md_fill l D cs ad _ u j (sp_lf (sg_ma u)) (x + (1)) (sg_ac u) hk) tb_581 tb_583 sl_24 tb_4 tb_584 ⟨rfl, hd_md_fill⟩ ⟨Nat.le_of_ble_eq_true rfl, Nat.le_of_ble_eq_true rfl⟩ rfl rfl hK hP hD hN 0 3 rfl rfl hl.1 rfl (Nat.le_of_ble_eq_true rfl) d_md_act_198 ⟨Nat.zero_le _, Nat.zero_le _⟩ hS hA (fun j1 H locs hj2 hP hD hS => ?_)
  obtain ⟨v3, ev3⟩ : ∃ z : Sg, z = sp_fi u (sp_lf (sg_ma u)) (x + (1)) (sg_ac u) := ⟨_, rfl⟩
  rw [← ev3] at hP hD
  rw [hj2] at hP hD
  refine lv_goto hx hb d_md_act_201 (tgt := 204) (by decide) ?_
  refine lv_aload_n hx hb d_md_act_204 rfl (lv_at hl 1 rfl) ?_
  refine lv_iload hx hb d_md_act_205 (lv_at hl 0 rfl) ?_
  refine lv_if_eq hx hb d_md_act_207 (tgt := 217) (by decide) (fun z => absurd z (by decide)) (fun _ => ?_)
  refine lv_aload_n hx hb d_md_act_210 rfl (lv_at hl 1 rfl) ?_
  refine va_get (D := D) (ci := 3) (v := .int (sg_fa v3)) (C := "MeasuredStagesModel") (T := F_md) (N := 19) hx hb hts (fun w h => List.mem_cons_of_mem _ (i_md w h)) hown hK hP 0 rfl rfl 14 (by decide) (hT _ tb_473) (fun _ h9 => h9) rfl d_md_act_211 ?_
  refine lv_goto hx hb d_md_act_214 (tgt := 218) (by decide) ?_
  refine va_put (D := D) (ci := 3) (v := .int (sg_fa v3)) (ty := .int) (C := "MeasuredStagesModel") (T := F_md) (N := 19) hx hb hts (fun w h => List.mem_cons_of_mem _ (i_md w h)) t_md o_md n_md hown hK hP hD hS 0 rfl rfl 14 (by decide) (hT _ tb_473) (fun _ h9 => h9) rfl (by decide +kernel) rfl rfl (Nat.le_of_ble_eq_true rfl) d_md_act_218 (fun H locs hP hD hS => ?_)
  have hP : va_P D cx (mw ad cs v3 j) H := hP
  have hD : va_D A (mw ad cs v3 j) := hD
  subst ev3
  exact W.vret hx hb hret (fun t ht hW => ⟨⟨j, rfl, (by exact ⟨rfl, rfl, rfl⟩), by rw [ht]; exact hP, va_K.moved hW.alike hK, hD⟩, hS.F ht⟩) hS.2.2 d_md_act_221
