theorem rg_ne {n : Int32} {k : Nat} (hk : k < 2 ^ 31) (h : vp_in n k) : ¬ sp_rg n (nI k) = 0 := fun z => absurd ((sp_rg_t k hk h).symm.trans z) (by decide)
theorem rg8 {n : Int32} (h : vp_in n 8) : ¬ sp_rg n 8 = 0 := rg_ne (k := 8) (by decide) h
theorem rg6 {n : Int32} (h : vp_in n 6) : ¬ sp_rg n 6 = 0 := rg_ne (k := 6) (by decide) h
theorem ev_in {u : Sg} {k : Int32} (hok : sp_ok u) (h : sp_rg k (sg_en u) = 1) : vp_in k 32 := by
  obtain ⟨⟨n, h1, h2⟩, -⟩ := hok
  unfold sp_rg at h
  by_cases a : k < 0
  · rw [if_pos a] at h; exact absurd h (by decide)
  rw [if_neg a] at h
  by_cases b : sg_en u ≤ k
  · rw [if_pos b] at h; exact absurd h (by decide)
  rw [h2] at b
  obtain ⟨j, hj, e⟩ := vp_in_of (xn_in (by omega) a (Int32.not_le.mp b)) (by omega)
  rw [e]
  exact vp_in_nI (by omega) (by decide)
theorem tk_vp {ma : Nat → Int32} {k : Int32} (h : sp_tk ma k = 1) : vp_in k 8 := by
  unfold sp_tk at h
  by_cases a : k < 0
  · rw [if_pos a] at h; exact absurd h (by decide)
  rw [if_neg a] at h
  by_cases b : (8 : Int32) ≤ k
  · rw [if_pos b] at h; exact absurd h (by decide)
  exact xn_in (k := 8) (by decide) a (Int32.not_le.mp b)
theorem d_ms_image_0 : decode b_ms_image 0 = .ok (.iload_n 1, 1) := by decide +kernel
theorem d_ms_image_1 : decode b_ms_image 1 = .ok (.invokestatic 41, 3) := by decide +kernel
theorem d_ms_image_4 : decode b_ms_image 4 = .ok (.ifCond .ne 13, 3) := by decide +kernel
theorem d_ms_image_7 : decode b_ms_image 7 = .ok (.new 45, 3) := by decide +kernel
theorem d_ms_image_10 : decode b_ms_image 10 = .ok (.dup, 1) := by decide +kernel
theorem d_ms_image_11 : decode b_ms_image 11 = .ok (.ldc 47, 2) := by decide +kernel
theorem d_ms_image_13 : decode b_ms_image 13 = .ok (.invokespecial 49, 3) := by decide +kernel
theorem d_ms_image_16 : decode b_ms_image 16 = .ok (.athrow, 1) := by decide +kernel
theorem d_ms_image_17 : decode b_ms_image 17 = .ok (.aload_n 0, 1) := by decide +kernel
theorem d_ms_image_18 : decode b_ms_image 18 = .ok (.getfield 9, 3) := by decide +kernel
theorem d_ms_image_21 : decode b_ms_image 21 = .ok (.iload_n 1, 1) := by decide +kernel
theorem d_ms_image_22 : decode b_ms_image 22 = .ok (.lload_n 2, 1) := by decide +kernel
theorem d_ms_image_23 : decode b_ms_image 23 = .ok (.lastore, 1) := by decide +kernel
theorem d_ms_image_24 : decode b_ms_image 24 = .ok (.return_, 1) := by decide +kernel
theorem d_ms_approve_0 : decode b_ms_approve 0 = .ok (.iload_n 1, 1) := by decide +kernel
theorem d_ms_approve_1 : decode b_ms_approve 1 = .ok (.invokestatic 41, 3) := by decide +kernel
theorem d_ms_approve_4 : decode b_ms_approve 4 = .ok (.ifCond .ne 13, 3) := by decide +kernel
theorem d_ms_approve_7 : decode b_ms_approve 7 = .ok (.new 45, 3) := by decide +kernel
theorem d_ms_approve_10 : decode b_ms_approve 10 = .ok (.dup, 1) := by decide +kernel
theorem d_ms_approve_11 : decode b_ms_approve 11 = .ok (.ldc 47, 2) := by decide +kernel
theorem d_ms_approve_13 : decode b_ms_approve 13 = .ok (.invokespecial 49, 3) := by decide +kernel
theorem d_ms_approve_16 : decode b_ms_approve 16 = .ok (.athrow, 1) := by decide +kernel
theorem d_ms_approve_17 : decode b_ms_approve 17 = .ok (.aload_n 0, 1) := by decide +kernel
theorem d_ms_approve_18 : decode b_ms_approve 18 = .ok (.getfield 13, 3) := by decide +kernel
theorem d_ms_approve_21 : decode b_ms_approve 21 = .ok (.iload_n 1, 1) := by decide +kernel
theorem d_ms_approve_22 : decode b_ms_approve 22 = .ok (.iconst 1, 1) := by decide +kernel
theorem d_ms_approve_23 : decode b_ms_approve 23 = .ok (.bastore, 1) := by decide +kernel
theorem d_ms_approve_24 : decode b_ms_approve 24 = .ok (.aload_n 0, 1) := by decide +kernel
theorem d_ms_approve_25 : decode b_ms_approve 25 = .ok (.getfield 17, 3) := by decide +kernel
theorem d_ms_approve_28 : decode b_ms_approve 28 = .ok (.iload_n 1, 1) := by decide +kernel
theorem d_ms_approve_29 : decode b_ms_approve 29 = .ok (.aload_n 0, 1) := by decide +kernel
theorem d_ms_approve_30 : decode b_ms_approve 30 = .ok (.iload_n 1, 1) := by decide +kernel
theorem d_ms_approve_31 : decode b_ms_approve 31 = .ok (.invokevirtual 52, 3) := by decide +kernel
theorem d_ms_approve_34 : decode b_ms_approve 34 = .ok (.lastore, 1) := by decide +kernel
theorem d_ms_approve_35 : decode b_ms_approve 35 = .ok (.return_, 1) := by decide +kernel
theorem d_ms_register_0 : decode b_ms_register 0 = .ok (.iload_n 1, 1) := by decide +kernel
theorem d_ms_register_1 : decode b_ms_register 1 = .ok (.invokestatic 85, 3) := by decide +kernel
theorem d_ms_register_4 : decode b_ms_register 4 = .ok (.ifCond .ne 13, 3) := by decide +kernel
theorem d_ms_register_7 : decode b_ms_register 7 = .ok (.new 88, 3) := by decide +kernel
theorem d_ms_register_10 : decode b_ms_register 10 = .ok (.dup, 1) := by decide +kernel
theorem d_ms_register_11 : decode b_ms_register 11 = .ok (.ldc 90, 2) := by decide +kernel
theorem d_ms_register_13 : decode b_ms_register 13 = .ok (.invokespecial 92, 3) := by decide +kernel
theorem d_ms_register_16 : decode b_ms_register 16 = .ok (.athrow, 1) := by decide +kernel
theorem d_ms_register_17 : decode b_ms_register 17 = .ok (.aload_n 0, 1) := by decide +kernel
theorem d_ms_register_18 : decode b_ms_register 18 = .ok (.getfield 23, 3) := by decide +kernel
theorem d_ms_register_21 : decode b_ms_register 21 = .ok (.getfield 93, 3) := by decide +kernel
theorem d_ms_register_24 : decode b_ms_register 24 = .ok (.iload_n 1, 1) := by decide +kernel
theorem d_ms_register_25 : decode b_ms_register 25 = .ok (.laload, 1) := by decide +kernel
theorem d_ms_register_26 : decode b_ms_register 26 = .ok (.lreturn, 1) := by decide +kernel
theorem d_ms_extend_0 : decode b_ms_extend 0 = .ok (.iload_n 1, 1) := by decide +kernel
theorem d_ms_extend_1 : decode b_ms_extend 1 = .ok (.invokestatic 85, 3) := by decide +kernel
theorem d_ms_extend_4 : decode b_ms_extend 4 = .ok (.ifCond .ne 13, 3) := by decide +kernel
theorem d_ms_extend_7 : decode b_ms_extend 7 = .ok (.new 88, 3) := by decide +kernel
theorem d_ms_extend_10 : decode b_ms_extend 10 = .ok (.dup, 1) := by decide +kernel
theorem d_ms_extend_11 : decode b_ms_extend 11 = .ok (.ldc 90, 2) := by decide +kernel
theorem d_ms_extend_13 : decode b_ms_extend 13 = .ok (.invokespecial 92, 3) := by decide +kernel
theorem d_ms_extend_16 : decode b_ms_extend 16 = .ok (.athrow, 1) := by decide +kernel
theorem d_ms_extend_17 : decode b_ms_extend 17 = .ok (.aload_n 0, 1) := by decide +kernel
theorem d_ms_extend_18 : decode b_ms_extend 18 = .ok (.getfield 23, 3) := by decide +kernel
theorem d_ms_extend_21 : decode b_ms_extend 21 = .ok (.iload_n 1, 1) := by decide +kernel
theorem d_ms_extend_22 : decode b_ms_extend 22 = .ok (.lload_n 2, 1) := by decide +kernel
theorem d_ms_extend_23 : decode b_ms_extend 23 = .ok (.invokevirtual 96, 3) := by decide +kernel
theorem d_ms_extend_26 : decode b_ms_extend 26 = .ok (.ifCond .ne 13, 3) := by decide +kernel
theorem d_ms_extend_29 : decode b_ms_extend 29 = .ok (.new 70, 3) := by decide +kernel
theorem d_ms_extend_32 : decode b_ms_extend 32 = .ok (.dup, 1) := by decide +kernel
theorem d_ms_extend_33 : decode b_ms_extend 33 = .ok (.ldc 100, 2) := by decide +kernel
theorem d_ms_extend_35 : decode b_ms_extend 35 = .ok (.invokespecial 74, 3) := by decide +kernel
theorem d_ms_extend_38 : decode b_ms_extend 38 = .ok (.athrow, 1) := by decide +kernel
theorem d_ms_extend_39 : decode b_ms_extend 39 = .ok (.return_, 1) := by decide +kernel
theorem d_ms_eventRegister_0 : decode b_ms_eventRegister 0 = .ok (.aload_n 0, 1) := by decide +kernel
theorem d_ms_eventRegister_1 : decode b_ms_eventRegister 1 = .ok (.getfield 23, 3) := by decide +kernel
theorem d_ms_eventRegister_4 : decode b_ms_eventRegister 4 = .ok (.iload_n 1, 1) := by decide +kernel
theorem d_ms_eventRegister_5 : decode b_ms_eventRegister 5 = .ok (.invokevirtual 105, 3) := by decide +kernel
theorem d_ms_eventRegister_8 : decode b_ms_eventRegister 8 = .ok (.ifCond .ne 13, 3) := by decide +kernel
theorem d_ms_eventRegister_11 : decode b_ms_eventRegister 11 = .ok (.new 108, 3) := by decide +kernel
theorem d_ms_eventRegister_14 : decode b_ms_eventRegister 14 = .ok (.dup, 1) := by decide +kernel
theorem d_ms_eventRegister_15 : decode b_ms_eventRegister 15 = .ok (.ldc 110, 2) := by decide +kernel
theorem d_ms_eventRegister_17 : decode b_ms_eventRegister 17 = .ok (.invokespecial 112, 3) := by decide +kernel
theorem d_ms_eventRegister_20 : decode b_ms_eventRegister 20 = .ok (.athrow, 1) := by decide +kernel
theorem d_ms_eventRegister_21 : decode b_ms_eventRegister 21 = .ok (.aload_n 0, 1) := by decide +kernel
theorem d_ms_eventRegister_22 : decode b_ms_eventRegister 22 = .ok (.getfield 23, 3) := by decide +kernel
theorem d_ms_eventRegister_25 : decode b_ms_eventRegister 25 = .ok (.getfield 113, 3) := by decide +kernel
theorem d_ms_eventRegister_28 : decode b_ms_eventRegister 28 = .ok (.iload_n 1, 1) := by decide +kernel
theorem d_ms_eventRegister_29 : decode b_ms_eventRegister 29 = .ok (.iaload, 1) := by decide +kernel
theorem d_ms_eventRegister_30 : decode b_ms_eventRegister 30 = .ok (.ireturn, 1) := by decide +kernel
theorem d_ms_eventValue_0 : decode b_ms_eventValue 0 = .ok (.aload_n 0, 1) := by decide +kernel
theorem d_ms_eventValue_1 : decode b_ms_eventValue 1 = .ok (.getfield 23, 3) := by decide +kernel
theorem d_ms_eventValue_4 : decode b_ms_eventValue 4 = .ok (.iload_n 1, 1) := by decide +kernel
theorem d_ms_eventValue_5 : decode b_ms_eventValue 5 = .ok (.invokevirtual 105, 3) := by decide +kernel
theorem d_ms_eventValue_8 : decode b_ms_eventValue 8 = .ok (.ifCond .ne 13, 3) := by decide +kernel
theorem d_ms_eventValue_11 : decode b_ms_eventValue 11 = .ok (.new 108, 3) := by decide +kernel
theorem d_ms_eventValue_14 : decode b_ms_eventValue 14 = .ok (.dup, 1) := by decide +kernel
theorem d_ms_eventValue_15 : decode b_ms_eventValue 15 = .ok (.ldc 110, 2) := by decide +kernel
theorem d_ms_eventValue_17 : decode b_ms_eventValue 17 = .ok (.invokespecial 112, 3) := by decide +kernel
theorem d_ms_eventValue_20 : decode b_ms_eventValue 20 = .ok (.athrow, 1) := by decide +kernel
theorem d_ms_eventValue_21 : decode b_ms_eventValue 21 = .ok (.aload_n 0, 1) := by decide +kernel
theorem d_ms_eventValue_22 : decode b_ms_eventValue 22 = .ok (.getfield 23, 3) := by decide +kernel
theorem d_ms_eventValue_25 : decode b_ms_eventValue 25 = .ok (.getfield 116, 3) := by decide +kernel
theorem d_ms_eventValue_28 : decode b_ms_eventValue 28 = .ok (.iload_n 1, 1) := by decide +kernel
theorem d_ms_eventValue_29 : decode b_ms_eventValue 29 = .ok (.laload, 1) := by decide +kernel
theorem d_ms_eventValue_30 : decode b_ms_eventValue 30 = .ok (.lreturn, 1) := by decide +kernel
theorem d_ms_tamper_0 : decode b_ms_tamper 0 = .ok (.aload_n 0, 1) := by decide +kernel
theorem d_ms_tamper_1 : decode b_ms_tamper 1 = .ok (.getfield 23, 3) := by decide +kernel
theorem d_ms_tamper_4 : decode b_ms_tamper 4 = .ok (.iload_n 1, 1) := by decide +kernel
theorem d_ms_tamper_5 : decode b_ms_tamper 5 = .ok (.invokevirtual 105, 3) := by decide +kernel
theorem d_ms_tamper_8 : decode b_ms_tamper 8 = .ok (.ifCond .ne 13, 3) := by decide +kernel
theorem d_ms_tamper_11 : decode b_ms_tamper 11 = .ok (.new 108, 3) := by decide +kernel
theorem d_ms_tamper_14 : decode b_ms_tamper 14 = .ok (.dup, 1) := by decide +kernel
theorem d_ms_tamper_15 : decode b_ms_tamper 15 = .ok (.ldc 110, 2) := by decide +kernel
theorem d_ms_tamper_17 : decode b_ms_tamper 17 = .ok (.invokespecial 112, 3) := by decide +kernel
theorem d_ms_tamper_20 : decode b_ms_tamper 20 = .ok (.athrow, 1) := by decide +kernel
theorem d_ms_tamper_21 : decode b_ms_tamper 21 = .ok (.aload_n 0, 1) := by decide +kernel
theorem d_ms_tamper_22 : decode b_ms_tamper 22 = .ok (.getfield 23, 3) := by decide +kernel
theorem d_ms_tamper_25 : decode b_ms_tamper 25 = .ok (.getfield 116, 3) := by decide +kernel
theorem d_ms_tamper_28 : decode b_ms_tamper 28 = .ok (.iload_n 1, 1) := by decide +kernel
theorem d_ms_tamper_29 : decode b_ms_tamper 29 = .ok (.dup2, 1) := by decide +kernel
theorem d_ms_tamper_30 : decode b_ms_tamper 30 = .ok (.laload, 1) := by decide +kernel
theorem d_ms_tamper_31 : decode b_ms_tamper 31 = .ok (.lload_n 2, 1) := by decide +kernel
theorem d_ms_tamper_32 : decode b_ms_tamper 32 = .ok (.lxor, 1) := by decide +kernel
theorem d_ms_tamper_33 : decode b_ms_tamper 33 = .ok (.lastore, 1) := by decide +kernel
theorem d_ms_tamper_34 : decode b_ms_tamper 34 = .ok (.return_, 1) := by decide +kernel
theorem d_ms_seal_0 : decode b_ms_seal 0 = .ok (.iload_n 1, 1) := by decide +kernel
theorem d_ms_seal_1 : decode b_ms_seal 1 = .ok (.invokestatic 123, 3) := by decide +kernel
theorem d_ms_seal_4 : decode b_ms_seal 4 = .ok (.ifCond .ne 13, 3) := by decide +kernel
theorem d_ms_seal_7 : decode b_ms_seal 7 = .ok (.new 45, 3) := by decide +kernel
theorem d_ms_seal_10 : decode b_ms_seal 10 = .ok (.dup, 1) := by decide +kernel
theorem d_ms_seal_11 : decode b_ms_seal 11 = .ok (.ldc 126, 2) := by decide +kernel
theorem d_ms_seal_13 : decode b_ms_seal 13 = .ok (.invokespecial 49, 3) := by decide +kernel
theorem d_ms_seal_16 : decode b_ms_seal 16 = .ok (.athrow, 1) := by decide +kernel
theorem d_ms_seal_17 : decode b_ms_seal 17 = .ok (.aload_n 0, 1) := by decide +kernel
theorem d_ms_seal_18 : decode b_ms_seal 18 = .ok (.getfield 30, 3) := by decide +kernel
theorem d_ms_seal_21 : decode b_ms_seal 21 = .ok (.invokevirtual 128, 3) := by decide +kernel
theorem d_ms_seal_24 : decode b_ms_seal 24 = .ok (.istore 4, 2) := by decide +kernel
theorem d_ms_seal_26 : decode b_ms_seal 26 = .ok (.iload 4, 2) := by decide +kernel
theorem d_ms_seal_28 : decode b_ms_seal 28 = .ok (.iconst (-1), 1) := by decide +kernel
theorem d_ms_seal_29 : decode b_ms_seal 29 = .ok (.if_icmp .ne 13, 3) := by decide +kernel
theorem d_ms_seal_32 : decode b_ms_seal 32 = .ok (.new 70, 3) := by decide +kernel
theorem d_ms_seal_35 : decode b_ms_seal 35 = .ok (.dup, 1) := by decide +kernel
theorem d_ms_seal_36 : decode b_ms_seal 36 = .ok (.ldc 132, 2) := by decide +kernel
theorem d_ms_seal_38 : decode b_ms_seal 38 = .ok (.invokespecial 74, 3) := by decide +kernel
theorem d_ms_seal_41 : decode b_ms_seal 41 = .ok (.athrow, 1) := by decide +kernel
theorem d_ms_seal_42 : decode b_ms_seal 42 = .ok (.aload_n 0, 1) := by decide +kernel
theorem d_ms_seal_43 : decode b_ms_seal 43 = .ok (.getfield 30, 3) := by decide +kernel
theorem d_ms_seal_46 : decode b_ms_seal 46 = .ok (.iload 4, 2) := by decide +kernel
theorem d_ms_seal_48 : decode b_ms_seal 48 = .ok (.iload_n 1, 1) := by decide +kernel
theorem d_ms_seal_49 : decode b_ms_seal 49 = .ok (.aload_n 0, 1) := by decide +kernel
theorem d_ms_seal_50 : decode b_ms_seal 50 = .ok (.getfield 23, 3) := by decide +kernel
theorem d_ms_seal_53 : decode b_ms_seal 53 = .ok (.iload_n 1, 1) := by decide +kernel
theorem d_ms_seal_54 : decode b_ms_seal 54 = .ok (.invokevirtual 134, 3) := by decide +kernel
theorem d_ms_seal_57 : decode b_ms_seal 57 = .ok (.lload_n 2, 1) := by decide +kernel
theorem d_ms_seal_58 : decode b_ms_seal 58 = .ok (.invokevirtual 137, 3) := by decide +kernel
theorem d_ms_seal_61 : decode b_ms_seal 61 = .ok (.iload 4, 2) := by decide +kernel
theorem d_ms_seal_63 : decode b_ms_seal 63 = .ok (.ireturn, 1) := by decide +kernel
theorem d_ms_unseal_0 : decode b_ms_unseal 0 = .ok (.aload_n 0, 1) := by decide +kernel
theorem d_ms_unseal_1 : decode b_ms_unseal 1 = .ok (.getfield 30, 3) := by decide +kernel
theorem d_ms_unseal_4 : decode b_ms_unseal 4 = .ok (.iload_n 1, 1) := by decide +kernel
theorem d_ms_unseal_5 : decode b_ms_unseal 5 = .ok (.invokevirtual 141, 3) := by decide +kernel
theorem d_ms_unseal_8 : decode b_ms_unseal 8 = .ok (.ifCond .ne 13, 3) := by decide +kernel
theorem d_ms_unseal_11 : decode b_ms_unseal 11 = .ok (.new 108, 3) := by decide +kernel
theorem d_ms_unseal_14 : decode b_ms_unseal 14 = .ok (.dup, 1) := by decide +kernel
theorem d_ms_unseal_15 : decode b_ms_unseal 15 = .ok (.ldc 144, 2) := by decide +kernel
theorem d_ms_unseal_17 : decode b_ms_unseal 17 = .ok (.invokespecial 112, 3) := by decide +kernel
theorem d_ms_unseal_20 : decode b_ms_unseal 20 = .ok (.athrow, 1) := by decide +kernel
theorem d_ms_unseal_21 : decode b_ms_unseal 21 = .ok (.aload_n 0, 1) := by decide +kernel
theorem d_ms_unseal_22 : decode b_ms_unseal 22 = .ok (.iload_n 1, 1) := by decide +kernel
theorem d_ms_unseal_23 : decode b_ms_unseal 23 = .ok (.invokevirtual 146, 3) := by decide +kernel
theorem d_ms_unseal_26 : decode b_ms_unseal 26 = .ok (.ifCond .ne 13, 3) := by decide +kernel
theorem d_ms_unseal_29 : decode b_ms_unseal 29 = .ok (.new 70, 3) := by decide +kernel
theorem d_ms_unseal_32 : decode b_ms_unseal 32 = .ok (.dup, 1) := by decide +kernel
theorem d_ms_unseal_33 : decode b_ms_unseal 33 = .ok (.ldc 149, 2) := by decide +kernel
theorem d_ms_unseal_35 : decode b_ms_unseal 35 = .ok (.invokespecial 74, 3) := by decide +kernel
theorem d_ms_unseal_38 : decode b_ms_unseal 38 = .ok (.athrow, 1) := by decide +kernel
theorem d_ms_unseal_39 : decode b_ms_unseal 39 = .ok (.aload_n 0, 1) := by decide +kernel
theorem d_ms_unseal_40 : decode b_ms_unseal 40 = .ok (.getfield 30, 3) := by decide +kernel
theorem d_ms_unseal_43 : decode b_ms_unseal 43 = .ok (.getfield 151, 3) := by decide +kernel
theorem d_ms_unseal_46 : decode b_ms_unseal 46 = .ok (.iload_n 1, 1) := by decide +kernel
theorem d_ms_unseal_47 : decode b_ms_unseal 47 = .ok (.laload, 1) := by decide +kernel
theorem d_ms_unseal_48 : decode b_ms_unseal 48 = .ok (.lreturn, 1) := by decide +kernel
theorem d_ms_discard_0 : decode b_ms_discard 0 = .ok (.aload_n 0, 1) := by decide +kernel
theorem d_ms_discard_1 : decode b_ms_discard 1 = .ok (.getfield 30, 3) := by decide +kernel
theorem d_ms_discard_4 : decode b_ms_discard 4 = .ok (.iload_n 1, 1) := by decide +kernel
theorem d_ms_discard_5 : decode b_ms_discard 5 = .ok (.invokevirtual 141, 3) := by decide +kernel
theorem d_ms_discard_8 : decode b_ms_discard 8 = .ok (.ifCond .ne 13, 3) := by decide +kernel
theorem d_ms_discard_11 : decode b_ms_discard 11 = .ok (.new 108, 3) := by decide +kernel
theorem d_ms_discard_14 : decode b_ms_discard 14 = .ok (.dup, 1) := by decide +kernel
theorem d_ms_discard_15 : decode b_ms_discard 15 = .ok (.ldc 144, 2) := by decide +kernel
theorem d_ms_discard_17 : decode b_ms_discard 17 = .ok (.invokespecial 112, 3) := by decide +kernel
theorem d_ms_discard_20 : decode b_ms_discard 20 = .ok (.athrow, 1) := by decide +kernel
theorem d_ms_discard_21 : decode b_ms_discard 21 = .ok (.aload_n 0, 1) := by decide +kernel
theorem d_ms_discard_22 : decode b_ms_discard 22 = .ok (.getfield 30, 3) := by decide +kernel
theorem d_ms_discard_25 : decode b_ms_discard 25 = .ok (.iload_n 1, 1) := by decide +kernel
theorem d_ms_discard_26 : decode b_ms_discard 26 = .ok (.invokevirtual 154, 3) := by decide +kernel
theorem d_ms_discard_29 : decode b_ms_discard 29 = .ok (.return_, 1) := by decide +kernel
theorem d_ms_quote_0 : decode b_ms_quote 0 = .ok (.iload 5, 2) := by decide +kernel
theorem d_ms_quote_2 : decode b_ms_quote 2 = .ok (.invokestatic 123, 3) := by decide +kernel
theorem d_ms_quote_5 : decode b_ms_quote 5 = .ok (.ifCond .ne 13, 3) := by decide +kernel
theorem d_ms_quote_8 : decode b_ms_quote 8 = .ok (.new 45, 3) := by decide +kernel
theorem d_ms_quote_11 : decode b_ms_quote 11 = .ok (.dup, 1) := by decide +kernel
theorem d_ms_quote_12 : decode b_ms_quote 12 = .ok (.ldc 126, 2) := by decide +kernel
theorem d_ms_quote_14 : decode b_ms_quote 14 = .ok (.invokespecial 49, 3) := by decide +kernel
theorem d_ms_quote_17 : decode b_ms_quote 17 = .ok (.athrow, 1) := by decide +kernel
theorem d_ms_quote_18 : decode b_ms_quote 18 = .ok (.lload_n 1, 1) := by decide +kernel
theorem d_ms_quote_19 : decode b_ms_quote 19 = .ok (.lload_n 3, 1) := by decide +kernel
theorem d_ms_quote_20 : decode b_ms_quote 20 = .ok (.invokestatic 158, 3) := by decide +kernel
theorem d_ms_quote_23 : decode b_ms_quote 23 = .ok (.aload_n 0, 1) := by decide +kernel
theorem d_ms_quote_24 : decode b_ms_quote 24 = .ok (.getfield 23, 3) := by decide +kernel
theorem d_ms_quote_27 : decode b_ms_quote 27 = .ok (.iload 5, 2) := by decide +kernel
theorem d_ms_quote_29 : decode b_ms_quote 29 = .ok (.invokevirtual 134, 3) := by decide +kernel
theorem d_ms_quote_32 : decode b_ms_quote 32 = .ok (.invokestatic 158, 3) := by decide +kernel
theorem d_ms_quote_35 : decode b_ms_quote 35 = .ok (.lreturn, 1) := by decide +kernel
set_option maxHeartbeats 4000000 in
set_option maxRecDepth 100000 in
theorem k_ms_image (l : Launch) (D : va_G) (cs : Nat → ClassId) (ad : Nat → Nat) (sz : Nat) (u : Sg) (j : Jx) (n : Int32) (x : Int64) (hn : vp_in n 8) : Met l y_ms_image (Cond.code y_ms_image b_ms_image 4 none :: TB) { frames := 7, cells := 0, slots := 0, locals := 200 } (va_Pc [.ref (ad 0), .int n, .long x] (xw_Pre D cs ad u j sz)) (va_Qv (fun (j1 : Jx) => j1 = j) (fun (j1 : Jx) t => xw_B D cs ad (va_A (xw ad cs u j) sz) (ss_im u (vp_updL (sg_im u) n.toNatClampNeg x)) j1 t) (va_A (xw ad cs u j) sz)) 0 0 (va_A (xw ad cs u j) sz) := by
  refine Met.ofW (cc := b_ms_image) (maxL := 4) (ret := none) (by decide) rfl ?_
  intro p e s m args below meth c s₁ B hml hv
  obtain ⟨rfl, hsz, hP, hK, hD, hN⟩ := hv
  have hx := B.exec
  have hb := B.bytes
  have hret := B.returns
  have hts := atoms_spec (ws := Cond.code y_ms_image b_ms_image 4 none :: TB) B.pre
  have hT : ∀ w ∈ TB, w.before _ s = true := fun w h => hts w (List.mem_cons_of_mem _ h)
  have hown : s.vm.findClass "MeasuredStages" = some m.cls := findClass_of_methodNamed B.named
  have hlocks := B.notSynchronized
  subst hsz
  have hD := hD.self (sz := s.heap.size)
  generalize hAe : va_A (xw ad cs u j) s.heap.size = A at hD ⊢
  have hA : ∀ q : Nat, s.heap.size ≤ q → A q := fun q h => by rw [← hAe]; exact Or.inr h
  have hS : va_S A s.heap s.heap [] := va_S.rf
  have hl := lv_entry ([.ref (ad 0), .int n, .long x]) (n := 4) (Nat.le_of_ble_eq_true rfl)
  rw [lg_entry_eq]
  generalize (lg_sl ([.ref (ad 0), .int n, .long x]) ++ List.replicate (4 - (lg_sl ([.ref (ad 0), .int n, .long x])).length) Slot.unset).toArray = ls at hl ⊢
  have hl : lv_has ls 4 [(0, .ref (ad 0)), (1, .int n), (2, .long x)] := hl
  skip
  refine lv_iload_n hx hb d_ms_image_0 rfl (lv_at hl 1 rfl) ?_
  refine st_i (v := sp_rg n 8) (As := [.int n]) (rest := []) ⟨hx, hb, hml, hown, hts⟩ (c_ms_isImage l n) tb_151 tb_152 tb_1 tb_153 hd_ms_isImage ⟨Nat.le_of_ble_eq_true rfl, Nat.le_of_ble_eq_true rfl⟩ rfl rfl hl.1 rfl (Nat.le_of_ble_eq_true rfl) d_ms_image_1 ⟨Nat.zero_le _, Nat.zero_le _⟩ ?_
  refine lv_if_ne hx hb d_ms_image_4 (tgt := 17) (by decide) (fun _ => ?_) (fun z => absurd z (rg8 hn))
  refine lv_aload_n hx hb d_ms_image_17 rfl (lv_at hl 0 rfl) ?_
  refine va_get (D := D) (ci := 0) (v := .ref (ad 1)) (C := "MeasuredStages") (T := F_ms) (N := 12) hx hb hts (fun w h => List.mem_cons_of_mem _ (i_ms w h)) hown hK hP 0 rfl rfl 0 (by decide) (hT _ tb_69) (fun _ h9 => h9) rfl d_ms_image_18 ?_
  refine lv_iload_n hx hb d_ms_image_21 rfl (lv_at hl 1 rfl) ?_
  refine lv_lload_n hx hb d_ms_image_22 rfl (lv_at hl 2 rfl) ?_
  refine va_last hx hb hK hP hD hS 1 0 rfl rfl hn d_ms_image_23 (fun H locs hP hD hS => ?_)
  have hP : va_P D cx (xv ad cs (vp_updL (sg_im u) n.toNatClampNeg x) (sg_ap u) (sg_ag u) (sg_he u) (sg_er u) (sg_ev u) (sg_en u) (sg_ma u) (sg_po u) (sg_se u) (sg_ac u) (sg_fa u) (sg_la u) (sg_st u) (jx_ru j) (jx_nd j) (jx_de j) (jx_rp j)) H := hP
  have hD : va_D A (xv ad cs (vp_updL (sg_im u) n.toNatClampNeg x) (sg_ap u) (sg_ag u) (sg_he u) (sg_er u) (sg_ev u) (sg_en u) (sg_ma u) (sg_po u) (sg_se u) (sg_ac u) (sg_fa u) (sg_la u) (sg_st u) (jx_ru j) (jx_nd j) (jx_de j) (jx_rp j)) := hD
  obtain ⟨v1, ev1⟩ : ∃ z : Sg, z = (vp_updL (sg_im u) n.toNatClampNeg x, sg_ap u, sg_ag u, sg_he u, sg_er u, sg_ev u, sg_en u, sg_ma u, sg_po u, sg_se u, sg_ac u, sg_fa u, sg_la u, sg_st u) := ⟨_, rfl⟩
  have hP : va_P D cx (xw ad cs v1 j) H := by rw [ev1, xw_u]; exact hP
  have hD : va_D A (xw ad cs v1 j) := by rw [ev1, xw_u]; exact hD
  subst ev1
  exact W.vret hx hb hret (fun t ht hW => ⟨⟨j, rfl, (by rfl), by rw [ht]; exact hP, va_K.moved hW.alike hK, hD⟩, hS.F ht⟩) hS.2.2 d_ms_image_24
set_option maxHeartbeats 4000000 in
set_option maxRecDepth 100000 in
theorem k_ms_approve (l : Launch) (D : va_G) (cs : Nat → ClassId) (ad : Nat → Nat) (sz : Nat) (u : Sg) (j : Jx) (n : Int32) (hn : vp_in n 8) : Met l y_ms_approve (Cond.code y_ms_approve b_ms_approve 2 none :: TB) { frames := 7, cells := 0, slots := 0, locals := 200 } (va_Pc [.ref (ad 0), .int n] (xw_Pre D cs ad u j sz)) (va_Qv (fun (j1 : Jx) => j1 = j) (fun (j1 : Jx) t => xw_B D cs ad (va_A (xw ad cs u j) sz) (ss_ag (ss_ap u (upd (sg_ap u) n.toNatClampNeg 1)) (vp_updL (sg_ag u) n.toNatClampNeg (sp_di u n))) j1 t) (va_A (xw ad cs u j) sz)) 0 0 (va_A (xw ad cs u j) sz) := by
  refine Met.ofW (cc := b_ms_approve) (maxL := 2) (ret := none) (by decide) rfl ?_
  intro p e s m args below meth c s₁ B hml hv
  obtain ⟨rfl, hsz, hP, hK, hD, hN⟩ := hv
  have hx := B.exec
  have hb := B.bytes
  have hret := B.returns
  have hts := atoms_spec (ws := Cond.code y_ms_approve b_ms_approve 2 none :: TB) B.pre
  have hT : ∀ w ∈ TB, w.before _ s = true := fun w h => hts w (List.mem_cons_of_mem _ h)
  have hown : s.vm.findClass "MeasuredStages" = some m.cls := findClass_of_methodNamed B.named
  have hlocks := B.notSynchronized
  subst hsz
  have hD := hD.self (sz := s.heap.size)
  generalize hAe : va_A (xw ad cs u j) s.heap.size = A at hD ⊢
  have hA : ∀ q : Nat, s.heap.size ≤ q → A q := fun q h => by rw [← hAe]; exact Or.inr h
  have hS : va_S A s.heap s.heap [] := va_S.rf
  have hl := lv_entry ([.ref (ad 0), .int n]) (n := 2) (Nat.le_of_ble_eq_true rfl)
  rw [lg_entry_eq]
  generalize (lg_sl ([.ref (ad 0), .int n]) ++ List.replicate (2 - (lg_sl ([.ref (ad 0), .int n])).length) Slot.unset).toArray = ls at hl ⊢
  have hl : lv_has ls 2 [(0, .ref (ad 0)), (1, .int n)] := hl
  skip
  refine lv_iload_n hx hb d_ms_approve_0 rfl (lv_at hl 1 rfl) ?_
  refine st_i (v := sp_rg n 8) (As := [.int n]) (rest := []) ⟨hx, hb, hml, hown, hts⟩ (c_ms_isImage l n) tb_151 tb_152 tb_1 tb_153 hd_ms_isImage ⟨Nat.le_of_ble_eq_true rfl, Nat.le_of_ble_eq_true rfl⟩ rfl rfl hl.1 rfl (Nat.le_of_ble_eq_true rfl) d_ms_approve_1 ⟨Nat.zero_le _, Nat.zero_le _⟩ ?_
  refine lv_if_ne hx hb d_ms_approve_4 (tgt := 17) (by decide) (fun _ => ?_) (fun z => absurd z (rg8 hn))
  refine lv_aload_n hx hb d_ms_approve_17 rfl (lv_at hl 0 rfl) ?_
  refine va_get (D := D) (ci := 0) (v := .ref (ad 2)) (C := "MeasuredStages") (T := F_ms) (N := 12) hx hb hts (fun w h => List.mem_cons_of_mem _ (i_ms w h)) hown hK hP 0 rfl rfl 1 (by decide) (hT _ tb_70) (fun _ h9 => h9) rfl d_ms_approve_18 ?_
  refine lv_iload_n hx hb d_ms_approve_21 rfl (lv_at hl 1 rfl) ?_
  refine lv_iconst (v := 1) hx hb d_ms_approve_22 (by decide) ?_
  refine va_zast hx hb hK hP hD hS 2 1 rfl rfl hn d_ms_approve_23 (fun H locs hP hD hS => ?_)
  have hP : va_P D cx (xv ad cs (sg_im u) (upd (sg_ap u) n.toNatClampNeg (1)) (sg_ag u) (sg_he u) (sg_er u) (sg_ev u) (sg_en u) (sg_ma u) (sg_po u) (sg_se u) (sg_ac u) (sg_fa u) (sg_la u) (sg_st u) (jx_ru j) (jx_nd j) (jx_de j) (jx_rp j)) H := hP
  have hD : va_D A (xv ad cs (sg_im u) (upd (sg_ap u) n.toNatClampNeg (1)) (sg_ag u) (sg_he u) (sg_er u) (sg_ev u) (sg_en u) (sg_ma u) (sg_po u) (sg_se u) (sg_ac u) (sg_fa u) (sg_la u) (sg_st u) (jx_ru j) (jx_nd j) (jx_de j) (jx_rp j)) := hD
  refine lv_aload_n hx hb d_ms_approve_24 rfl (lv_at hl 0 rfl) ?_
  refine va_get (D := D) (ci := 0) (v := .ref (ad 3)) (C := "MeasuredStages") (T := F_ms) (N := 12) hx hb hts (fun w h => List.mem_cons_of_mem _ (i_ms w h)) hown hK hP 0 rfl rfl 2 (by decide) (hT _ tb_71) (fun _ h9 => h9) rfl d_ms_approve_25 ?_
  refine lv_iload_n hx hb d_ms_approve_28 rfl (lv_at hl 1 rfl) ?_
  refine lv_aload_n hx hb d_ms_approve_29 rfl (lv_at hl 0 rfl) ?_
  refine lv_iload_n hx hb d_ms_approve_30 rfl (lv_at hl 1 rfl) ?_
  obtain ⟨v1, ev1⟩ : ∃ z : Sg, z = (sg_im u, upd (sg_ap u) n.toNatClampNeg (1), sg_ag u, sg_he u, sg_er u, sg_ev u, sg_en u, sg_ma u, sg_po u, sg_se u, sg_ac u, sg_fa u, sg_la u, sg_st u) := ⟨_, rfl⟩
  have hP : va_P D cx (xw ad cs v1 j) H := by rw [ev1, xw_u]; exact hP
  have hD : va_D A (xw ad cs v1 j) := by rw [ev1, xw_u]; exact hD
  refine xw_rdl (v := sp_di v1 n) (As := [.int n]) (rest := [.int n, .ref (ad 3)]) ⟨hx, hb, hml, hown, hts⟩ (c_ms_digestOf l D cs ad _ v1 j n hn) tb_230 tb_232 sl_1 tb_1 tb_233 ⟨rfl, hd_ms_digestOf⟩ ⟨Nat.le_of_ble_eq_true rfl, Nat.le_of_ble_eq_true rfl⟩ rfl rfl hK hP hD hN 0 0 rfl rfl hl.1 rfl (Nat.le_of_ble_eq_true rfl) d_ms_approve_31 ⟨Nat.zero_le _, Nat.zero_le _⟩ ?_
  refine va_last hx hb hK hP hD hS 3 2 rfl rfl hn d_ms_approve_34 (fun H locs hP hD hS => ?_)
  have hP : va_P D cx (xv ad cs (sg_im v1) (sg_ap v1) (vp_updL (sg_ag v1) n.toNatClampNeg (sp_di v1 n)) (sg_he v1) (sg_er v1) (sg_ev v1) (sg_en v1) (sg_ma v1) (sg_po v1) (sg_se v1) (sg_ac v1) (sg_fa v1) (sg_la v1) (sg_st v1) (jx_ru j) (jx_nd j) (jx_de j) (jx_rp j)) H := hP
  have hD : va_D A (xv ad cs (sg_im v1) (sg_ap v1) (vp_updL (sg_ag v1) n.toNatClampNeg (sp_di v1 n)) (sg_he v1) (sg_er v1) (sg_ev v1) (sg_en v1) (sg_ma v1) (sg_po v1) (sg_se v1) (sg_ac v1) (sg_fa v1) (sg_la v1) (sg_st v1) (jx_ru j) (jx_nd j) (jx_de j) (jx_rp j)) := hD
  obtain ⟨v2, ev2⟩ : ∃ z : Sg, z = (sg_im v1, sg_ap v1, vp_updL (sg_ag v1) n.toNatClampNeg (sp_di v1 n), sg_he v1, sg_er v1, sg_ev v1, sg_en v1, sg_ma v1, sg_po v1, sg_se v1, sg_ac v1, sg_fa v1, sg_la v1, sg_st v1) := ⟨_, rfl⟩
  have hP : va_P D cx (xw ad cs v2 j) H := by rw [ev2, xw_u]; exact hP
  have hD : va_D A (xw ad cs v2 j) := by rw [ev2, xw_u]; exact hD
  subst ev2
  subst ev1
  exact W.vret hx hb hret (fun t ht hW => ⟨⟨j, rfl, (by rfl), by rw [ht]; exact hP, va_K.moved hW.alike hK, hD⟩, hS.F ht⟩) hS.2.2 d_ms_approve_35
set_option maxHeartbeats 4000000 in
set_option maxRecDepth 100000 in
theorem k_ms_register (l : Launch) (D : va_G) (cs : Nat → ClassId) (ad : Nat → Nat) (sz : Nat) (u : Sg) (j : Jx) (n : Int32) (hr : vp_in n 6) : Met l y_ms_register (Cond.code y_ms_register b_ms_register 2 (some .long) :: TB) { frames := 7, cells := 0, slots := 0, locals := 200 } (va_Pc [.ref (ad 0), .int n] (xw_Pre D cs ad u j sz)) (vp_Sl (fun r => r = sg_he u n.toNatClampNeg)) 0 0 (fun _ => False) := by
  refine Met.ofW (cc := b_ms_register) (maxL := 2) (ret := (some .long)) (by decide) rfl ?_
  intro p e s m args below meth c s₁ B hml hv
  obtain ⟨rfl, hsz, hP, hK, hD, hN⟩ := hv
  have hx := B.exec
  have hb := B.bytes
  have hret := B.returns
  have hts := atoms_spec (ws := Cond.code y_ms_register b_ms_register 2 (some .long) :: TB) B.pre
  have hT : ∀ w ∈ TB, w.before _ s = true := fun w h => hts w (List.mem_cons_of_mem _ h)
  have hown : s.vm.findClass "MeasuredStages" = some m.cls := findClass_of_methodNamed B.named
  have hlocks := B.notSynchronized
  subst hsz
  have hl := lv_entry ([.ref (ad 0), .int n]) (n := 2) (Nat.le_of_ble_eq_true rfl)
  rw [lg_entry_eq]
  generalize (lg_sl ([.ref (ad 0), .int n]) ++ List.replicate (2 - (lg_sl ([.ref (ad 0), .int n])).length) Slot.unset).toArray = ls at hl ⊢
  have hl : lv_has ls 2 [(0, .ref (ad 0)), (1, .int n)] := hl
  refine lv_iload_n hx hb d_ms_register_0 rfl (lv_at hl 1 rfl) ?_
  refine st_i (v := sp_rg n 6) (As := [.int n]) (rest := []) ⟨hx, hb, hml, hown, hts⟩ (c_rg_isRegister l n) tb_345 tb_346 tb_2 tb_347 hd_rg_isRegister ⟨Nat.le_of_ble_eq_true rfl, Nat.le_of_ble_eq_true rfl⟩ rfl rfl hl.1 rfl (Nat.le_of_ble_eq_true rfl) d_ms_register_1 ⟨Nat.zero_le _, Nat.zero_le _⟩ ?_
  refine lv_if_ne hx hb d_ms_register_4 (tgt := 17) (by decide) (fun _ => ?_) (fun z => absurd z (rg6 hr))
  refine lv_aload_n hx hb d_ms_register_17 rfl (lv_at hl 0 rfl) ?_
  refine va_get (D := D) (ci := 0) (v := .ref (ad 4)) (C := "MeasuredStages") (T := F_ms) (N := 12) hx hb hts (fun w h => List.mem_cons_of_mem _ (i_ms w h)) hown hK hP 0 rfl rfl 3 (by decide) (hT _ tb_72) (fun _ h9 => h9) rfl d_ms_register_18 ?_
  refine va_get (D := D) (ci := 1) (v := .ref (ad 8)) (C := "MeasuredStages$Registers") (T := F_rg) (N := 5) hx hb hts (fun w h => List.mem_cons_of_mem _ (i_rg w h)) hown hK hP 4 rfl rfl 0 (by decide) (hT _ tb_28) (fun _ h9 => h9) rfl d_ms_register_21 ?_
  refine lv_iload_n hx hb d_ms_register_24 rfl (lv_at hl 1 rfl) ?_
  refine va_lald hx hb hK hP 8 5 rfl rfl hr d_ms_register_25 ?_
  exact W.lret (v := sg_he u n.toNatClampNeg) hx hb hret (fun t ht hW => ⟨_, rfl, rfl, ht⟩) (fun q h => by cases h) d_ms_register_26
set_option maxHeartbeats 4000000 in
set_option maxRecDepth 100000 in
theorem k_ms_extend (l : Launch) (D : va_G) (cs : Nat → ClassId) (ad : Nat → Nat) (sz : Nat) (u : Sg) (j : Jx) (r : Int32) (v : Int64) (hr : vp_in r 6) (he : vp_in (sg_en u) 32) : Met l y_ms_extend (Cond.code y_ms_extend b_ms_extend 4 none :: TB) { frames := 7, cells := 0, slots := 0, locals := 200 } (va_Pc [.ref (ad 0), .int r, .long v] (xw_Pre D cs ad u j sz)) (va_Qv (fun (j1 : Jx) => j1 = j) (fun (j1 : Jx) t => xw_B D cs ad (va_A (xw ad cs u j) sz) (sp_no u r v) j1 t) (va_A (xw ad cs u j) sz)) 0 0 (va_A (xw ad cs u j) sz) := by
  refine Met.ofW (cc := b_ms_extend) (maxL := 4) (ret := none) (by decide) rfl ?_
  intro p e s m args below meth c s₁ B hml hv
  obtain ⟨rfl, hsz, hP, hK, hD, hN⟩ := hv
  have hx := B.exec
  have hb := B.bytes
  have hret := B.returns
  have hts := atoms_spec (ws := Cond.code y_ms_extend b_ms_extend 4 none :: TB) B.pre
  have hT : ∀ w ∈ TB, w.before _ s = true := fun w h => hts w (List.mem_cons_of_mem _ h)
  have hown : s.vm.findClass "MeasuredStages" = some m.cls := findClass_of_methodNamed B.named
  have hlocks := B.notSynchronized
  subst hsz
  have hD := hD.self (sz := s.heap.size)
  generalize hAe : va_A (xw ad cs u j) s.heap.size = A at hD ⊢
  have hA : ∀ q : Nat, s.heap.size ≤ q → A q := fun q h => by rw [← hAe]; exact Or.inr h
  have hS : va_S A s.heap s.heap [] := va_S.rf
  have hl := lv_entry ([.ref (ad 0), .int r, .long v]) (n := 4) (Nat.le_of_ble_eq_true rfl)
  rw [lg_entry_eq]
  generalize (lg_sl ([.ref (ad 0), .int r, .long v]) ++ List.replicate (4 - (lg_sl ([.ref (ad 0), .int r, .long v])).length) Slot.unset).toArray = ls at hl ⊢
  have hl : lv_has ls 4 [(0, .ref (ad 0)), (1, .int r), (2, .long v)] := hl
  skip
  refine lv_iload_n hx hb d_ms_extend_0 rfl (lv_at hl 1 rfl) ?_
  refine st_i (v := sp_rg r 6) (As := [.int r]) (rest := []) ⟨hx, hb, hml, hown, hts⟩ (c_rg_isRegister l r) tb_345 tb_346 tb_2 tb_347 hd_rg_isRegister ⟨Nat.le_of_ble_eq_true rfl, Nat.le_of_ble_eq_true rfl⟩ rfl rfl hl.1 rfl (Nat.le_of_ble_eq_true rfl) d_ms_extend_1 ⟨Nat.zero_le _, Nat.zero_le _⟩ ?_
  refine lv_if_ne hx hb d_ms_extend_4 (tgt := 17) (by decide) (fun _ => ?_) (fun z => absurd z (rg6 hr))
  refine lv_aload_n hx hb d_ms_extend_17 rfl (lv_at hl 0 rfl) ?_
  refine va_get (D := D) (ci := 0) (v := .ref (ad 4)) (C := "MeasuredStages") (T := F_ms) (N := 12) hx hb hts (fun w h => List.mem_cons_of_mem _ (i_ms w h)) hown hK hP 0 rfl rfl 3 (by decide) (hT _ tb_72) (fun _ h9 => h9) rfl d_ms_extend_18 ?_
  refine lv_iload_n hx hb d_ms_extend_21 rfl (lv_at hl 1 rfl) ?_
  refine lv_lload_n hx hb d_ms_extend_22 rfl (lv_at hl 2 rfl) ?_
  refine xw_wri (v := 1) (u' := sp_no u r v) (As := [.int r, .long v]) (rest := []) ⟨hx, hb, hml, hown, hts⟩ (c_rg_measure l D cs ad _ u j r v hr he) tb_260 tb_261 tb_262 tb_2 tb_263 ⟨rfl, hd_rg_measure⟩ ⟨Nat.le_of_ble_eq_true rfl, Nat.le_of_ble_eq_true rfl⟩ rfl rfl hK hP hD hN 4 1 rfl rfl hl.1 rfl (Nat.le_of_ble_eq_true rfl) d_ms_extend_23 ⟨Nat.zero_le _, Nat.zero_le _⟩ hS hA (fun j1 H locs hj2 hP hD hS => ?_)
  obtain ⟨v3, ev3⟩ : ∃ z : Sg, z = sp_no u r v := ⟨_, rfl⟩
  rw [← ev3] at hP hD
  rw [hj2] at hP hD
  refine lv_if_ne hx hb d_ms_extend_26 (tgt := 39) (by decide) (fun _ => ?_) (fun z => absurd z (by decide))
  subst ev3
  exact W.vret hx hb hret (fun t ht hW => ⟨⟨j, rfl, (by rfl), by rw [ht]; exact hP, va_K.moved hW.alike hK, hD⟩, hS.F ht⟩) hS.2.2 d_ms_extend_39
set_option maxHeartbeats 4000000 in
set_option maxRecDepth 100000 in
theorem k_ms_eventRegister (l : Launch) (D : va_G) (cs : Nat → ClassId) (ad : Nat → Nat) (sz : Nat) (u : Sg) (j : Jx) (k : Int32) (hok : sp_ok u) (hk : sp_rg k (sg_en u) = 1) : Met l y_ms_eventRegister (Cond.code y_ms_eventRegister b_ms_eventRegister 2 (some .int) :: TB) { frames := 7, cells := 0, slots := 0, locals := 200 } (va_Pc [.ref (ad 0), .int k] (xw_Pre D cs ad u j sz)) (vp_Si (fun r => r = sg_er u k.toNatClampNeg)) 0 0 (fun _ => False) := by
  refine Met.ofW (cc := b_ms_eventRegister) (maxL := 2) (ret := (some .int)) (by decide) rfl ?_
  intro p e s m args below meth c s₁ B hml hv
  obtain ⟨rfl, hsz, hP, hK, hD, hN⟩ := hv
  have hx := B.exec
  have hb := B.bytes
  have hret := B.returns
  have hts := atoms_spec (ws := Cond.code y_ms_eventRegister b_ms_eventRegister 2 (some .int) :: TB) B.pre
  have hT : ∀ w ∈ TB, w.before _ s = true := fun w h => hts w (List.mem_cons_of_mem _ h)
  have hown : s.vm.findClass "MeasuredStages" = some m.cls := findClass_of_methodNamed B.named
  have hlocks := B.notSynchronized
  subst hsz
  have hl := lv_entry ([.ref (ad 0), .int k]) (n := 2) (Nat.le_of_ble_eq_true rfl)
  rw [lg_entry_eq]
  generalize (lg_sl ([.ref (ad 0), .int k]) ++ List.replicate (2 - (lg_sl ([.ref (ad 0), .int k])).length) Slot.unset).toArray = ls at hl ⊢
  have hl : lv_has ls 2 [(0, .ref (ad 0)), (1, .int k)] := hl
  refine lv_aload_n hx hb d_ms_eventRegister_0 rfl (lv_at hl 0 rfl) ?_
  refine va_get (D := D) (ci := 0) (v := .ref (ad 4)) (C := "MeasuredStages") (T := F_ms) (N := 12) hx hb hts (fun w h => List.mem_cons_of_mem _ (i_ms w h)) hown hK hP 0 rfl rfl 3 (by decide) (hT _ tb_72) (fun _ h9 => h9) rfl d_ms_eventRegister_1 ?_
  refine lv_iload_n hx hb d_ms_eventRegister_4 rfl (lv_at hl 1 rfl) ?_
  refine xw_rdi (v := sp_rg k (sg_en u)) (As := [.int k]) (rest := []) ⟨hx, hb, hml, hown, hts⟩ (c_rg_hasEvent l D cs ad _ u j k) tb_380 tb_381 tb_382 tb_2 tb_383 ⟨rfl, hd_rg_hasEvent⟩ ⟨Nat.le_of_ble_eq_true rfl, Nat.le_of_ble_eq_true rfl⟩ rfl rfl hK hP hD hN 4 1 rfl rfl hl.1 rfl (Nat.le_of_ble_eq_true rfl) d_ms_eventRegister_5 ⟨Nat.zero_le _, Nat.zero_le _⟩ ?_
  refine lv_if_ne hx hb d_ms_eventRegister_8 (tgt := 21) (by decide) (fun _ => ?_) (fun z => absurd z (by rw [hk]; decide))
  refine lv_aload_n hx hb d_ms_eventRegister_21 rfl (lv_at hl 0 rfl) ?_
  refine va_get (D := D) (ci := 0) (v := .ref (ad 4)) (C := "MeasuredStages") (T := F_ms) (N := 12) hx hb hts (fun w h => List.mem_cons_of_mem _ (i_ms w h)) hown hK hP 0 rfl rfl 3 (by decide) (hT _ tb_72) (fun _ h9 => h9) rfl d_ms_eventRegister_22 ?_
  refine va_get (D := D) (ci := 1) (v := .ref (ad 9)) (C := "MeasuredStages$Registers") (T := F_rg) (N := 5) hx hb hts (fun w h => List.mem_cons_of_mem _ (i_rg w h)) hown hK hP 4 rfl rfl 1 (by decide) (hT _ tb_30) (fun _ h9 => h9) rfl d_ms_eventRegister_25 ?_
  refine lv_iload_n hx hb d_ms_eventRegister_28 rfl (lv_at hl 1 rfl) ?_
  refine va_iald hx hb hK hP 9 6 rfl rfl (ev_in hok hk) d_ms_eventRegister_29 ?_
  exact W.iret (v := sg_er u k.toNatClampNeg) hx hb hret (fun t ht hW => ⟨_, rfl, rfl, ht⟩) (fun q h => by cases h) d_ms_eventRegister_30
set_option maxHeartbeats 4000000 in
set_option maxRecDepth 100000 in
theorem k_ms_eventValue (l : Launch) (D : va_G) (cs : Nat → ClassId) (ad : Nat → Nat) (sz : Nat) (u : Sg) (j : Jx) (k : Int32) (hok : sp_ok u) (hk : sp_rg k (sg_en u) = 1) : Met l y_ms_eventValue (Cond.code y_ms_eventValue b_ms_eventValue 2 (some .long) :: TB) { frames := 7, cells := 0, slots := 0, locals := 200 } (va_Pc [.ref (ad 0), .int k] (xw_Pre D cs ad u j sz)) (vp_Sl (fun r => r = sg_ev u k.toNatClampNeg)) 0 0 (fun _ => False) := by
  refine Met.ofW (cc := b_ms_eventValue) (maxL := 2) (ret := (some .long)) (by decide) rfl ?_
  intro p e s m args below meth c s₁ B hml hv
  obtain ⟨rfl, hsz, hP, hK, hD, hN⟩ := hv
  have hx := B.exec
  have hb := B.bytes
  have hret := B.returns
  have hts := atoms_spec (ws := Cond.code y_ms_eventValue b_ms_eventValue 2 (some .long) :: TB) B.pre
  have hT : ∀ w ∈ TB, w.before _ s = true := fun w h => hts w (List.mem_cons_of_mem _ h)
  have hown : s.vm.findClass "MeasuredStages" = some m.cls := findClass_of_methodNamed B.named
  have hlocks := B.notSynchronized
  subst hsz
  have hl := lv_entry ([.ref (ad 0), .int k]) (n := 2) (Nat.le_of_ble_eq_true rfl)
  rw [lg_entry_eq]
  generalize (lg_sl ([.ref (ad 0), .int k]) ++ List.replicate (2 - (lg_sl ([.ref (ad 0), .int k])).length) Slot.unset).toArray = ls at hl ⊢
  have hl : lv_has ls 2 [(0, .ref (ad 0)), (1, .int k)] := hl
  refine lv_aload_n hx hb d_ms_eventValue_0 rfl (lv_at hl 0 rfl) ?_
  refine va_get (D := D) (ci := 0) (v := .ref (ad 4)) (C := "MeasuredStages") (T := F_ms) (N := 12) hx hb hts (fun w h => List.mem_cons_of_mem _ (i_ms w h)) hown hK hP 0 rfl rfl 3 (by decide) (hT _ tb_72) (fun _ h9 => h9) rfl d_ms_eventValue_1 ?_
  refine lv_iload_n hx hb d_ms_eventValue_4 rfl (lv_at hl 1 rfl) ?_
  refine xw_rdi (v := sp_rg k (sg_en u)) (As := [.int k]) (rest := []) ⟨hx, hb, hml, hown, hts⟩ (c_rg_hasEvent l D cs ad _ u j k) tb_380 tb_381 tb_382 tb_2 tb_383 ⟨rfl, hd_rg_hasEvent⟩ ⟨Nat.le_of_ble_eq_true rfl, Nat.le_of_ble_eq_true rfl⟩ rfl rfl hK hP hD hN 4 1 rfl rfl hl.1 rfl (Nat.le_of_ble_eq_true rfl) d_ms_eventValue_5 ⟨Nat.zero_le _, Nat.zero_le _⟩ ?_
  refine lv_if_ne hx hb d_ms_eventValue_8 (tgt := 21) (by decide) (fun _ => ?_) (fun z => absurd z (by rw [hk]; decide))
  refine lv_aload_n hx hb d_ms_eventValue_21 rfl (lv_at hl 0 rfl) ?_
  refine va_get (D := D) (ci := 0) (v := .ref (ad 4)) (C := "MeasuredStages") (T := F_ms) (N := 12) hx hb hts (fun w h => List.mem_cons_of_mem _ (i_ms w h)) hown hK hP 0 rfl rfl 3 (by decide) (hT _ tb_72) (fun _ h9 => h9) rfl d_ms_eventValue_22 ?_
  refine va_get (D := D) (ci := 1) (v := .ref (ad 10)) (C := "MeasuredStages$Registers") (T := F_rg) (N := 5) hx hb hts (fun w h => List.mem_cons_of_mem _ (i_rg w h)) hown hK hP 4 rfl rfl 2 (by decide) (hT _ tb_32) (fun _ h9 => h9) rfl d_ms_eventValue_25 ?_
  refine lv_iload_n hx hb d_ms_eventValue_28 rfl (lv_at hl 1 rfl) ?_
  refine va_lald hx hb hK hP 10 7 rfl rfl (ev_in hok hk) d_ms_eventValue_29 ?_
  exact W.lret (v := sg_ev u k.toNatClampNeg) hx hb hret (fun t ht hW => ⟨_, rfl, rfl, ht⟩) (fun q h => by cases h) d_ms_eventValue_30
set_option maxHeartbeats 4000000 in
set_option maxRecDepth 100000 in
theorem k_ms_tamper (l : Launch) (D : va_G) (cs : Nat → ClassId) (ad : Nat → Nat) (sz : Nat) (u : Sg) (j : Jx) (k : Int32) (x : Int64) (hok : sp_ok u) (hk : sp_rg k (sg_en u) = 1) : Met l y_ms_tamper (Cond.code y_ms_tamper b_ms_tamper 4 none :: TB) { frames := 7, cells := 0, slots := 0, locals := 200 } (va_Pc [.ref (ad 0), .int k, .long x] (xw_Pre D cs ad u j sz)) (va_Qv (fun (j1 : Jx) => j1 = j) (fun (j1 : Jx) t => xw_B D cs ad (va_A (xw ad cs u j) sz) (ss_ev u (vp_updL (sg_ev u) k.toNatClampNeg (sg_ev u k.toNatClampNeg ^^^ x))) j1 t) (va_A (xw ad cs u j) sz)) 0 0 (va_A (xw ad cs u j) sz) := by
  refine Met.ofW (cc := b_ms_tamper) (maxL := 4) (ret := none) (by decide) rfl ?_
  intro p e s m args below meth c s₁ B hml hv
  obtain ⟨rfl, hsz, hP, hK, hD, hN⟩ := hv
  have hx := B.exec
  have hb := B.bytes
  have hret := B.returns
  have hts := atoms_spec (ws := Cond.code y_ms_tamper b_ms_tamper 4 none :: TB) B.pre
  have hT : ∀ w ∈ TB, w.before _ s = true := fun w h => hts w (List.mem_cons_of_mem _ h)
  have hown : s.vm.findClass "MeasuredStages" = some m.cls := findClass_of_methodNamed B.named
  have hlocks := B.notSynchronized
  subst hsz
  have hD := hD.self (sz := s.heap.size)
  generalize hAe : va_A (xw ad cs u j) s.heap.size = A at hD ⊢
  have hA : ∀ q : Nat, s.heap.size ≤ q → A q := fun q h => by rw [← hAe]; exact Or.inr h
  have hS : va_S A s.heap s.heap [] := va_S.rf
  have hl := lv_entry ([.ref (ad 0), .int k, .long x]) (n := 4) (Nat.le_of_ble_eq_true rfl)
  rw [lg_entry_eq]
  generalize (lg_sl ([.ref (ad 0), .int k, .long x]) ++ List.replicate (4 - (lg_sl ([.ref (ad 0), .int k, .long x])).length) Slot.unset).toArray = ls at hl ⊢
  have hl : lv_has ls 4 [(0, .ref (ad 0)), (1, .int k), (2, .long x)] := hl
  skip
  refine lv_aload_n hx hb d_ms_tamper_0 rfl (lv_at hl 0 rfl) ?_
  refine va_get (D := D) (ci := 0) (v := .ref (ad 4)) (C := "MeasuredStages") (T := F_ms) (N := 12) hx hb hts (fun w h => List.mem_cons_of_mem _ (i_ms w h)) hown hK hP 0 rfl rfl 3 (by decide) (hT _ tb_72) (fun _ h9 => h9) rfl d_ms_tamper_1 ?_
  refine lv_iload_n hx hb d_ms_tamper_4 rfl (lv_at hl 1 rfl) ?_
  refine xw_rdi (v := sp_rg k (sg_en u)) (As := [.int k]) (rest := []) ⟨hx, hb, hml, hown, hts⟩ (c_rg_hasEvent l D cs ad _ u j k) tb_380 tb_381 tb_382 tb_2 tb_383 ⟨rfl, hd_rg_hasEvent⟩ ⟨Nat.le_of_ble_eq_true rfl, Nat.le_of_ble_eq_true rfl⟩ rfl rfl hK hP hD hN 4 1 rfl rfl hl.1 rfl (Nat.le_of_ble_eq_true rfl) d_ms_tamper_5 ⟨Nat.zero_le _, Nat.zero_le _⟩ ?_
  refine lv_if_ne hx hb d_ms_tamper_8 (tgt := 21) (by decide) (fun _ => ?_) (fun z => absurd z (by rw [hk]; decide))
  refine lv_aload_n hx hb d_ms_tamper_21 rfl (lv_at hl 0 rfl) ?_
  refine va_get (D := D) (ci := 0) (v := .ref (ad 4)) (C := "MeasuredStages") (T := F_ms) (N := 12) hx hb hts (fun w h => List.mem_cons_of_mem _ (i_ms w h)) hown hK hP 0 rfl rfl 3 (by decide) (hT _ tb_72) (fun _ h9 => h9) rfl d_ms_tamper_22 ?_
  refine va_get (D := D) (ci := 1) (v := .ref (ad 10)) (C := "MeasuredStages$Registers") (T := F_rg) (N := 5) hx hb hts (fun w h => List.mem_cons_of_mem _ (i_rg w h)) hown hK hP 4 rfl rfl 2 (by decide) (hT _ tb_32) (fun _ h9 => h9) rfl d_ms_tamper_25 ?_
  refine lv_iload_n hx hb d_ms_tamper_28 rfl (lv_at hl 1 rfl) ?_
  refine lv_dup2_11 hx hb d_ms_tamper_29 rfl rfl ?_
  refine va_lald hx hb hK hP 10 7 rfl rfl (ev_in hok hk) d_ms_tamper_30 ?_
  refine lv_lload_n hx hb d_ms_tamper_31 rfl (lv_at hl 2 rfl) ?_
  refine lv_lxor hx hb d_ms_tamper_32 ?_
  refine va_last hx hb hK hP hD hS 10 7 rfl rfl (ev_in hok hk) d_ms_tamper_33 (fun H locs hP hD hS => ?_)
  have hP : va_P D cx (xv ad cs (sg_im u) (sg_ap u) (sg_ag u) (sg_he u) (sg_er u) (vp_updL (sg_ev u) k.toNatClampNeg ((sg_ev u k.toNatClampNeg) ^^^ x)) (sg_en u) (sg_ma u) (sg_po u) (sg_se u) (sg_ac u) (sg_fa u) (sg_la u) (sg_st u) (jx_ru j) (jx_nd j) (jx_de j) (jx_rp j)) H := hP
  have hD : va_D A (xv ad cs (sg_im u) (sg_ap u) (sg_ag u) (sg_he u) (sg_er u) (vp_updL (sg_ev u) k.toNatClampNeg ((sg_ev u k.toNatClampNeg) ^^^ x)) (sg_en u) (sg_ma u) (sg_po u) (sg_se u) (sg_ac u) (sg_fa u) (sg_la u) (sg_st u) (jx_ru j) (jx_nd j) (jx_de j) (jx_rp j)) := hD
  obtain ⟨v1, ev1⟩ : ∃ z : Sg, z = (sg_im u, sg_ap u, sg_ag u, sg_he u, sg_er u, vp_updL (sg_ev u) k.toNatClampNeg ((sg_ev u k.toNatClampNeg) ^^^ x), sg_en u, sg_ma u, sg_po u, sg_se u, sg_ac u, sg_fa u, sg_la u, sg_st u) := ⟨_, rfl⟩
  have hP : va_P D cx (xw ad cs v1 j) H := by rw [ev1, xw_u]; exact hP
  have hD : va_D A (xw ad cs v1 j) := by rw [ev1, xw_u]; exact hD
  subst ev1
  exact W.vret hx hb hret (fun t ht hW => ⟨⟨j, rfl, (by rfl), by rw [ht]; exact hP, va_K.moved hW.alike hK, hD⟩, hS.F ht⟩) hS.2.2 d_ms_tamper_34
set_option maxHeartbeats 4000000 in
set_option maxRecDepth 100000 in
theorem k_ms_seal (l : Launch) (D : va_G) (cs : Nat → ClassId) (ad : Nat → Nat) (sz : Nat) (u : Sg) (j : Jx) (mask : Int32) (x : Int64) (hm : sp_mk mask = 1) (hk : vp_in (sp_lf (sg_ma u)) 8) : Met l y_ms_seal (Cond.code y_ms_seal b_ms_seal 5 (some .int) :: TB) { frames := 7, cells := 0, slots := 0, locals := 200 } (va_Pc [.ref (ad 0), .int mask, .long x] (xw_Pre D cs ad u j sz)) (va_Qi (fun (r : Int32) (j1 : Jx) => r = sp_lf (sg_ma u) ∧ j1 = j) (fun (j1 : Jx) t => xw_B D cs ad (va_A (xw ad cs u j) sz) (sp_fi u (sp_lf (sg_ma u)) mask x) j1 t) (va_A (xw ad cs u j) sz)) 0 0 (va_A (xw ad cs u j) sz) := by
  refine Met.ofW (cc := b_ms_seal) (maxL := 5) (ret := (some .int)) (by decide) rfl ?_
  intro p e s m args below meth c s₁ B hml hv
  obtain ⟨rfl, hsz, hP, hK, hD, hN⟩ := hv
  have hx := B.exec
  have hb := B.bytes
  have hret := B.returns
  have hts := atoms_spec (ws := Cond.code y_ms_seal b_ms_seal 5 (some .int) :: TB) B.pre
  have hT : ∀ w ∈ TB, w.before _ s = true := fun w h => hts w (List.mem_cons_of_mem _ h)
  have hown : s.vm.findClass "MeasuredStages" = some m.cls := findClass_of_methodNamed B.named
  have hlocks := B.notSynchronized
  subst hsz
  have hD := hD.self (sz := s.heap.size)
  generalize hAe : va_A (xw ad cs u j) s.heap.size = A at hD ⊢
  have hA : ∀ q : Nat, s.heap.size ≤ q → A q := fun q h => by rw [← hAe]; exact Or.inr h
  have hS : va_S A s.heap s.heap [] := va_S.rf
  have hl := lv_entry ([.ref (ad 0), .int mask, .long x]) (n := 5) (Nat.le_of_ble_eq_true rfl)
  rw [lg_entry_eq]
  generalize (lg_sl ([.ref (ad 0), .int mask, .long x]) ++ List.replicate (5 - (lg_sl ([.ref (ad 0), .int mask, .long x])).length) Slot.unset).toArray = ls at hl ⊢
  have hl : lv_has ls 5 [(0, .ref (ad 0)), (1, .int mask), (2, .long x)] := hl
  skip
  refine lv_iload_n hx hb d_ms_seal_0 rfl (lv_at hl 1 rfl) ?_
  refine st_i (v := sp_mk mask) (As := [.int mask]) (rest := []) ⟨hx, hb, hml, hown, hts⟩ (c_ms_isMask l mask) tb_421 tb_422 tb_1 tb_423 hd_ms_isMask ⟨Nat.le_of_ble_eq_true rfl, Nat.le_of_ble_eq_true rfl⟩ rfl rfl hl.1 rfl (Nat.le_of_ble_eq_true rfl) d_ms_seal_1 ⟨Nat.zero_le _, Nat.zero_le _⟩ ?_
  refine lv_if_ne hx hb d_ms_seal_4 (tgt := 17) (by decide) (fun _ => ?_) (fun z => absurd z (by rw [hm]; decide))
  refine lv_aload_n hx hb d_ms_seal_17 rfl (lv_at hl 0 rfl) ?_
  refine va_get (D := D) (ci := 0) (v := .ref (ad 5)) (C := "MeasuredStages") (T := F_ms) (N := 12) hx hb hts (fun w h => List.mem_cons_of_mem _ (i_ms w h)) hown hK hP 0 rfl rfl 4 (by decide) (hT _ tb_73) (fun _ h9 => h9) rfl d_ms_seal_18 ?_
  refine xw_rdi (v := sp_lf (sg_ma u)) (As := []) (rest := []) ⟨hx, hb, hml, hown, hts⟩ (c_bl_leastFree l D cs ad _ u j ) tb_313 tb_314 tb_315 tb_3 tb_316 ⟨rfl, hd_bl_leastFree⟩ ⟨Nat.le_of_ble_eq_true rfl, Nat.le_of_ble_eq_true rfl⟩ rfl rfl hK hP hD hN 5 2 rfl rfl hl.1 rfl (Nat.le_of_ble_eq_true rfl) d_ms_seal_21 ⟨Nat.zero_le _, Nat.zero_le _⟩ ?_
  refine lv_istore (nL := 5) (lv' := [(4, .int (sp_lf (sg_ma u))), (0, .ref (ad 0)), (1, .int mask), (2, .long x)]) hx hb d_ms_seal_24 hl (by decide) rfl (fun ls hl => ?_)
  refine lv_iload hx hb d_ms_seal_26 (lv_at hl 0 rfl) ?_
  refine lv_iconst (v := (-1)) hx hb d_ms_seal_28 (by decide) ?_
  refine lv_icmp_ne hx hb d_ms_seal_29 (tgt := 42) (by decide) (fun _ => ?_) (fun z => absurd z (fun z => xn_ge hk (by rw [z]; decide)))
  refine lv_aload_n hx hb d_ms_seal_42 rfl (lv_at hl 1 rfl) ?_
  refine va_get (D := D) (ci := 0) (v := .ref (ad 5)) (C := "MeasuredStages") (T := F_ms) (N := 12) hx hb hts (fun w h => List.mem_cons_of_mem _ (i_ms w h)) hown hK hP 0 rfl rfl 4 (by decide) (hT _ tb_73) (fun _ h9 => h9) rfl d_ms_seal_43 ?_
  refine lv_iload hx hb d_ms_seal_46 (lv_at hl 0 rfl) ?_
  refine lv_iload_n hx hb d_ms_seal_48 rfl (lv_at hl 2 rfl) ?_
  refine lv_aload_n hx hb d_ms_seal_49 rfl (lv_at hl 1 rfl) ?_
  refine va_get (D := D) (ci := 0) (v := .ref (ad 4)) (C := "MeasuredStages") (T := F_ms) (N := 12) hx hb hts (fun w h => List.mem_cons_of_mem _ (i_ms w h)) hown hK hP 0 rfl rfl 3 (by decide) (hT _ tb_72) (fun _ h9 => h9) rfl d_ms_seal_50 ?_
  refine lv_iload_n hx hb d_ms_seal_53 rfl (lv_at hl 2 rfl) ?_
  refine xw_rdl (v := sp_po u mask) (As := [.int mask]) (rest := [.int mask, .int (sp_lf (sg_ma u)), .ref (ad 5)]) ⟨hx, hb, hml, hown, hts⟩ (c_rg_policyOf l D cs ad _ u j mask) tb_300 tb_301 tb_302 tb_2 tb_303 ⟨rfl, hd_rg_policyOf⟩ ⟨Nat.le_of_ble_eq_true rfl, Nat.le_of_ble_eq_true rfl⟩ rfl rfl hK hP hD hN 4 1 rfl rfl hl.1 rfl (Nat.le_of_ble_eq_true rfl) d_ms_seal_54 ⟨Nat.zero_le _, Nat.zero_le _⟩ ?_
  refine lv_lload_n hx hb d_ms_seal_57 rfl (lv_at hl 3 rfl) ?_
  refine xw_wrv (u' := ss_se (ss_po (ss_ma u (upd (sg_ma u) (sp_lf (sg_ma u)).toNatClampNeg mask)) (vp_updL (sg_po u) (sp_lf (sg_ma u)).toNatClampNeg (sp_po u mask))) (vp_updL (sg_se u) (sp_lf (sg_ma u)).toNatClampNeg x)) (As := [.int (sp_lf (sg_ma u)), .int mask, .long (sp_po u mask), .long x]) (rest := []) ⟨hx, hb, hml, hown, hts⟩ (c_bl_fill l D cs ad _ u j (sp_lf (sg_ma u)) mask (sp_po u mask) x hk) tb_317 tb_318 tb_319 tb_3 tb_320 ⟨rfl, hd_bl_fill⟩ ⟨Nat.le_of_ble_eq_true rfl, Nat.le_of_ble_eq_true rfl⟩ rfl rfl hK hP hD hN 5 2 rfl rfl hl.1 rfl (Nat.le_of_ble_eq_true rfl) d_ms_seal_58 ⟨Nat.zero_le _, Nat.zero_le _⟩ hS hA (fun j1 H locs hj2 hP hD hS => ?_)
  obtain ⟨v3, ev3⟩ : ∃ z : Sg, z = ss_se (ss_po (ss_ma u (upd (sg_ma u) (sp_lf (sg_ma u)).toNatClampNeg mask)) (vp_updL (sg_po u) (sp_lf (sg_ma u)).toNatClampNeg (sp_po u mask))) (vp_updL (sg_se u) (sp_lf (sg_ma u)).toNatClampNeg x) := ⟨_, rfl⟩
  rw [← ev3] at hP hD
  rw [hj2] at hP hD
  refine lv_iload hx hb d_ms_seal_61 (lv_at hl 0 rfl) ?_
  subst ev3
  exact W.iret hx hb hret (fun t ht hW => ⟨⟨_, j, rfl, ⟨rfl, (by rfl)⟩, by rw [ht]; exact hP, va_K.moved hW.alike hK, hD⟩, hS.F ht⟩) hS.2.2 d_ms_seal_63
set_option maxHeartbeats 4000000 in
set_option maxRecDepth 100000 in
theorem k_ms_unseal (l : Launch) (D : va_G) (cs : Nat → ClassId) (ad : Nat → Nat) (sz : Nat) (u : Sg) (j : Jx) (k : Int32) (h0 : sp_tk (sg_ma u) k = 1) (h1 : sp_on u k = 1) : Met l y_ms_unseal (Cond.code y_ms_unseal b_ms_unseal 2 (some .long) :: TB) { frames := 7, cells := 0, slots := 0, locals := 200 } (va_Pc [.ref (ad 0), .int k] (xw_Pre D cs ad u j sz)) (vp_Sl (fun r => r = sg_se u k.toNatClampNeg)) 0 0 (fun _ => False) := by
  refine Met.ofW (cc := b_ms_unseal) (maxL := 2) (ret := (some .long)) (by decide) rfl ?_
  intro p e s m args below meth c s₁ B hml hv
  obtain ⟨rfl, hsz, hP, hK, hD, hN⟩ := hv
  have hx := B.exec
  have hb := B.bytes
  have hret := B.returns
  have hts := atoms_spec (ws := Cond.code y_ms_unseal b_ms_unseal 2 (some .long) :: TB) B.pre
  have hT : ∀ w ∈ TB, w.before _ s = true := fun w h => hts w (List.mem_cons_of_mem _ h)
  have hown : s.vm.findClass "MeasuredStages" = some m.cls := findClass_of_methodNamed B.named
  have hlocks := B.notSynchronized
  subst hsz
  have hl := lv_entry ([.ref (ad 0), .int k]) (n := 2) (Nat.le_of_ble_eq_true rfl)
  rw [lg_entry_eq]
  generalize (lg_sl ([.ref (ad 0), .int k]) ++ List.replicate (2 - (lg_sl ([.ref (ad 0), .int k])).length) Slot.unset).toArray = ls at hl ⊢
  have hl : lv_has ls 2 [(0, .ref (ad 0)), (1, .int k)] := hl
  refine lv_aload_n hx hb d_ms_unseal_0 rfl (lv_at hl 0 rfl) ?_
  refine va_get (D := D) (ci := 0) (v := .ref (ad 5)) (C := "MeasuredStages") (T := F_ms) (N := 12) hx hb hts (fun w h => List.mem_cons_of_mem _ (i_ms w h)) hown hK hP 0 rfl rfl 4 (by decide) (hT _ tb_73) (fun _ h9 => h9) rfl d_ms_unseal_1 ?_
  refine lv_iload_n hx hb d_ms_unseal_4 rfl (lv_at hl 1 rfl) ?_
  refine xw_rdi (v := sp_tk (sg_ma u) k) (As := [.int k]) (rest := []) ⟨hx, hb, hml, hown, hts⟩ (c_bl_isTaken l D cs ad _ u j k) tb_292 tb_293 tb_294 tb_3 tb_295 ⟨rfl, hd_bl_isTaken⟩ ⟨Nat.le_of_ble_eq_true rfl, Nat.le_of_ble_eq_true rfl⟩ rfl rfl hK hP hD hN 5 2 rfl rfl hl.1 rfl (Nat.le_of_ble_eq_true rfl) d_ms_unseal_5 ⟨Nat.zero_le _, Nat.zero_le _⟩ ?_
  refine lv_if_ne hx hb d_ms_unseal_8 (tgt := 21) (by decide) (fun _ => ?_) (fun z => absurd z (by rw [h0]; decide))
  refine lv_aload_n hx hb d_ms_unseal_21 rfl (lv_at hl 0 rfl) ?_
  refine lv_iload_n hx hb d_ms_unseal_22 rfl (lv_at hl 1 rfl) ?_
  refine xw_rdi (v := sp_on u k) (As := [.int k]) (rest := []) ⟨hx, hb, hml, hown, hts⟩ (c_ms_isOpen l D cs ad _ u j k (tk_vp h0)) tb_296 tb_298 sl_12 tb_1 tb_299 ⟨rfl, hd_ms_isOpen⟩ ⟨Nat.le_of_ble_eq_true rfl, Nat.le_of_ble_eq_true rfl⟩ rfl rfl hK hP hD hN 0 0 rfl rfl hl.1 rfl (Nat.le_of_ble_eq_true rfl) d_ms_unseal_23 ⟨Nat.zero_le _, Nat.zero_le _⟩ ?_
  refine lv_if_ne hx hb d_ms_unseal_26 (tgt := 39) (by decide) (fun _ => ?_) (fun z => absurd z (by rw [h1]; decide))
  refine lv_aload_n hx hb d_ms_unseal_39 rfl (lv_at hl 0 rfl) ?_
  refine va_get (D := D) (ci := 0) (v := .ref (ad 5)) (C := "MeasuredStages") (T := F_ms) (N := 12) hx hb hts (fun w h => List.mem_cons_of_mem _ (i_ms w h)) hown hK hP 0 rfl rfl 4 (by decide) (hT _ tb_73) (fun _ h9 => h9) rfl d_ms_unseal_40 ?_
  refine va_get (D := D) (ci := 2) (v := .ref (ad 14)) (C := "MeasuredStages$Blobs") (T := F_bl) (N := 3) hx hb hts (fun w h => List.mem_cons_of_mem _ (i_bl w h)) hown hK hP 5 rfl rfl 2 (by decide) (hT _ tb_61) (fun _ h9 => h9) rfl d_ms_unseal_43 ?_
  refine lv_iload_n hx hb d_ms_unseal_46 rfl (lv_at hl 1 rfl) ?_
  refine va_lald hx hb hK hP 14 11 rfl rfl (tk_vp h0) d_ms_unseal_47 ?_
  exact W.lret (v := sg_se u k.toNatClampNeg) hx hb hret (fun t ht hW => ⟨_, rfl, rfl, ht⟩) (fun q h => by cases h) d_ms_unseal_48
set_option maxHeartbeats 4000000 in
set_option maxRecDepth 100000 in
theorem k_ms_discard (l : Launch) (D : va_G) (cs : Nat → ClassId) (ad : Nat → Nat) (sz : Nat) (u : Sg) (j : Jx) (k : Int32) (h0 : sp_tk (sg_ma u) k = 1) : Met l y_ms_discard (Cond.code y_ms_discard b_ms_discard 2 none :: TB) { frames := 7, cells := 0, slots := 0, locals := 200 } (va_Pc [.ref (ad 0), .int k] (xw_Pre D cs ad u j sz)) (va_Qv (fun (j1 : Jx) => j1 = j) (fun (j1 : Jx) t => xw_B D cs ad (va_A (xw ad cs u j) sz) (ss_ma u (upd (sg_ma u) k.toNatClampNeg 0)) j1 t) (va_A (xw ad cs u j) sz)) 0 0 (va_A (xw ad cs u j) sz) := by
  refine Met.ofW (cc := b_ms_discard) (maxL := 2) (ret := none) (by decide) rfl ?_
  intro p e s m args below meth c s₁ B hml hv
  obtain ⟨rfl, hsz, hP, hK, hD, hN⟩ := hv
  have hx := B.exec
  have hb := B.bytes
  have hret := B.returns
  have hts := atoms_spec (ws := Cond.code y_ms_discard b_ms_discard 2 none :: TB) B.pre
  have hT : ∀ w ∈ TB, w.before _ s = true := fun w h => hts w (List.mem_cons_of_mem _ h)
  have hown : s.vm.findClass "MeasuredStages" = some m.cls := findClass_of_methodNamed B.named
  have hlocks := B.notSynchronized
  subst hsz
  have hD := hD.self (sz := s.heap.size)
  generalize hAe : va_A (xw ad cs u j) s.heap.size = A at hD ⊢
  have hA : ∀ q : Nat, s.heap.size ≤ q → A q := fun q h => by rw [← hAe]; exact Or.inr h
  have hS : va_S A s.heap s.heap [] := va_S.rf
  have hl := lv_entry ([.ref (ad 0), .int k]) (n := 2) (Nat.le_of_ble_eq_true rfl)
  rw [lg_entry_eq]
  generalize (lg_sl ([.ref (ad 0), .int k]) ++ List.replicate (2 - (lg_sl ([.ref (ad 0), .int k])).length) Slot.unset).toArray = ls at hl ⊢
  have hl : lv_has ls 2 [(0, .ref (ad 0)), (1, .int k)] := hl
  skip
  refine lv_aload_n hx hb d_ms_discard_0 rfl (lv_at hl 0 rfl) ?_
  refine va_get (D := D) (ci := 0) (v := .ref (ad 5)) (C := "MeasuredStages") (T := F_ms) (N := 12) hx hb hts (fun w h => List.mem_cons_of_mem _ (i_ms w h)) hown hK hP 0 rfl rfl 4 (by decide) (hT _ tb_73) (fun _ h9 => h9) rfl d_ms_discard_1 ?_
  refine lv_iload_n hx hb d_ms_discard_4 rfl (lv_at hl 1 rfl) ?_
  refine xw_rdi (v := sp_tk (sg_ma u) k) (As := [.int k]) (rest := []) ⟨hx, hb, hml, hown, hts⟩ (c_bl_isTaken l D cs ad _ u j k) tb_292 tb_293 tb_294 tb_3 tb_295 ⟨rfl, hd_bl_isTaken⟩ ⟨Nat.le_of_ble_eq_true rfl, Nat.le_of_ble_eq_true rfl⟩ rfl rfl hK hP hD hN 5 2 rfl rfl hl.1 rfl (Nat.le_of_ble_eq_true rfl) d_ms_discard_5 ⟨Nat.zero_le _, Nat.zero_le _⟩ ?_
  refine lv_if_ne hx hb d_ms_discard_8 (tgt := 21) (by decide) (fun _ => ?_) (fun z => absurd z (by rw [h0]; decide))
  refine lv_aload_n hx hb d_ms_discard_21 rfl (lv_at hl 0 rfl) ?_
  refine va_get (D := D) (ci := 0) (v := .ref (ad 5)) (C := "MeasuredStages") (T := F_ms) (N := 12) hx hb hts (fun w h => List.mem_cons_of_mem _ (i_ms w h)) hown hK hP 0 rfl rfl 4 (by decide) (hT _ tb_73) (fun _ h9 => h9) rfl d_ms_discard_22 ?_
  refine lv_iload_n hx hb d_ms_discard_25 rfl (lv_at hl 1 rfl) ?_
  refine xw_wrv (u' := ss_ma u (upd (sg_ma u) k.toNatClampNeg 0)) (As := [.int k]) (rest := []) ⟨hx, hb, hml, hown, hts⟩ (c_bl_free l D cs ad _ u j k (tk_vp h0)) tb_442 tb_443 tb_444 tb_3 tb_445 ⟨rfl, hd_bl_free⟩ ⟨Nat.le_of_ble_eq_true rfl, Nat.le_of_ble_eq_true rfl⟩ rfl rfl hK hP hD hN 5 2 rfl rfl hl.1 rfl (Nat.le_of_ble_eq_true rfl) d_ms_discard_26 ⟨Nat.zero_le _, Nat.zero_le _⟩ hS hA (fun j1 H locs hj2 hP hD hS => ?_)
  obtain ⟨v3, ev3⟩ : ∃ z : Sg, z = ss_ma u (upd (sg_ma u) k.toNatClampNeg 0) := ⟨_, rfl⟩
  rw [← ev3] at hP hD
  rw [hj2] at hP hD
  subst ev3
  exact W.vret hx hb hret (fun t ht hW => ⟨⟨j, rfl, (by rfl), by rw [ht]; exact hP, va_K.moved hW.alike hK, hD⟩, hS.F ht⟩) hS.2.2 d_ms_discard_29
set_option maxHeartbeats 4000000 in
set_option maxRecDepth 100000 in
theorem k_ms_quote (l : Launch) (D : va_G) (cs : Nat → ClassId) (ad : Nat → Nat) (sz : Nat) (u : Sg) (j : Jx) (a b : Int64) (mask : Int32) (hm : sp_mk mask = 1) : Met l y_ms_quote (Cond.code y_ms_quote b_ms_quote 6 (some .long) :: TB) { frames := 7, cells := 0, slots := 0, locals := 200 } (va_Pc [.ref (ad 0), .long a, .long b, .int mask] (xw_Pre D cs ad u j sz)) (vp_Sl (fun r => r = sp_h (sp_h a b) (sp_po u mask))) 0 0 (fun _ => False) := by
  refine Met.ofW (cc := b_ms_quote) (maxL := 6) (ret := (some .long)) (by decide) rfl ?_
  intro p e s m args below meth c s₁ B hml hv
  obtain ⟨rfl, hsz, hP, hK, hD, hN⟩ := hv
  have hx := B.exec
  have hb := B.bytes
  have hret := B.returns
  have hts := atoms_spec (ws := Cond.code y_ms_quote b_ms_quote 6 (some .long) :: TB) B.pre
  have hT : ∀ w ∈ TB, w.before _ s = true := fun w h => hts w (List.mem_cons_of_mem _ h)
  have hown : s.vm.findClass "MeasuredStages" = some m.cls := findClass_of_methodNamed B.named
  have hlocks := B.notSynchronized
  subst hsz
  have hl := lv_entry ([.ref (ad 0), .long a, .long b, .int mask]) (n := 6) (Nat.le_of_ble_eq_true rfl)
  rw [lg_entry_eq]
  generalize (lg_sl ([.ref (ad 0), .long a, .long b, .int mask]) ++ List.replicate (6 - (lg_sl ([.ref (ad 0), .long a, .long b, .int mask])).length) Slot.unset).toArray = ls at hl ⊢
  have hl : lv_has ls 6 [(0, .ref (ad 0)), (1, .long a), (3, .long b), (5, .int mask)] := hl
  refine lv_iload hx hb d_ms_quote_0 (lv_at hl 3 rfl) ?_
  refine st_i (v := sp_mk mask) (As := [.int mask]) (rest := []) ⟨hx, hb, hml, hown, hts⟩ (c_ms_isMask l mask) tb_421 tb_422 tb_1 tb_423 hd_ms_isMask ⟨Nat.le_of_ble_eq_true rfl, Nat.le_of_ble_eq_true rfl⟩ rfl rfl hl.1 rfl (Nat.le_of_ble_eq_true rfl) d_ms_quote_2 ⟨Nat.zero_le _, Nat.zero_le _⟩ ?_
  refine lv_if_ne hx hb d_ms_quote_5 (tgt := 18) (by decide) (fun _ => ?_) (fun z => absurd z (by rw [hm]; decide))
  refine lv_lload_n hx hb d_ms_quote_18 rfl (lv_at hl 1 rfl) ?_
  refine lv_lload_n hx hb d_ms_quote_19 rfl (lv_at hl 2 rfl) ?_
  refine st_l (v := sp_h a b) (As := [.long a, .long b]) (rest := []) ⟨hx, hb, hml, hown, hts⟩ (c_ms_hash l a b) tb_235 tb_138 tb_1 tb_139 hd_ms_hash ⟨Nat.le_of_ble_eq_true rfl, Nat.le_of_ble_eq_true rfl⟩ rfl rfl hl.1 rfl (Nat.le_of_ble_eq_true rfl) d_ms_quote_20 ⟨Nat.zero_le _, Nat.zero_le _⟩ ?_
  refine lv_aload_n hx hb d_ms_quote_23 rfl (lv_at hl 0 rfl) ?_
  refine va_get (D := D) (ci := 0) (v := .ref (ad 4)) (C := "MeasuredStages") (T := F_ms) (N := 12) hx hb hts (fun w h => List.mem_cons_of_mem _ (i_ms w h)) hown hK hP 0 rfl rfl 3 (by decide) (hT _ tb_72) (fun _ h9 => h9) rfl d_ms_quote_24 ?_
  refine lv_iload hx hb d_ms_quote_27 (lv_at hl 3 rfl) ?_
  refine xw_rdl (v := sp_po u mask) (As := [.int mask]) (rest := [.long (sp_h a b)]) ⟨hx, hb, hml, hown, hts⟩ (c_rg_policyOf l D cs ad _ u j mask) tb_300 tb_301 tb_302 tb_2 tb_303 ⟨rfl, hd_rg_policyOf⟩ ⟨Nat.le_of_ble_eq_true rfl, Nat.le_of_ble_eq_true rfl⟩ rfl rfl hK hP hD hN 4 1 rfl rfl hl.1 rfl (Nat.le_of_ble_eq_true rfl) d_ms_quote_29 ⟨Nat.zero_le _, Nat.zero_le _⟩ ?_
  refine st_l (v := sp_h (sp_h a b) (sp_po u mask)) (As := [.long (sp_h a b), .long (sp_po u mask)]) (rest := []) ⟨hx, hb, hml, hown, hts⟩ (c_ms_hash l (sp_h a b) (sp_po u mask)) tb_235 tb_138 tb_1 tb_139 hd_ms_hash ⟨Nat.le_of_ble_eq_true rfl, Nat.le_of_ble_eq_true rfl⟩ rfl rfl hl.1 rfl (Nat.le_of_ble_eq_true rfl) d_ms_quote_32 ⟨Nat.zero_le _, Nat.zero_le _⟩ ?_
  exact W.lret (v := sp_h (sp_h a b) (sp_po u mask)) hx hb hret (fun t ht hW => ⟨_, rfl, rfl, ht⟩) (fun q h => by cases h) d_ms_quote_35
