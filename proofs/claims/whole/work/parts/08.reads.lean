theorem d_ms_isOpen_0 : decode b_ms_isOpen 0 = .ok (.aload_n 0, 1) := by decide +kernel
theorem d_ms_isOpen_1 : decode b_ms_isOpen 1 = .ok (.getfield 30, 3) := by decide +kernel
theorem d_ms_isOpen_4 : decode b_ms_isOpen 4 = .ok (.getfield 170, 3) := by decide +kernel
theorem d_ms_isOpen_7 : decode b_ms_isOpen 7 = .ok (.iload_n 1, 1) := by decide +kernel
theorem d_ms_isOpen_8 : decode b_ms_isOpen 8 = .ok (.laload, 1) := by decide +kernel
theorem d_ms_isOpen_9 : decode b_ms_isOpen 9 = .ok (.aload_n 0, 1) := by decide +kernel
theorem d_ms_isOpen_10 : decode b_ms_isOpen 10 = .ok (.getfield 23, 3) := by decide +kernel
theorem d_ms_isOpen_13 : decode b_ms_isOpen 13 = .ok (.aload_n 0, 1) := by decide +kernel
theorem d_ms_isOpen_14 : decode b_ms_isOpen 14 = .ok (.getfield 30, 3) := by decide +kernel
theorem d_ms_isOpen_17 : decode b_ms_isOpen 17 = .ok (.getfield 173, 3) := by decide +kernel
theorem d_ms_isOpen_20 : decode b_ms_isOpen 20 = .ok (.iload_n 1, 1) := by decide +kernel
theorem d_ms_isOpen_21 : decode b_ms_isOpen 21 = .ok (.iaload, 1) := by decide +kernel
theorem d_ms_isOpen_22 : decode b_ms_isOpen 22 = .ok (.invokevirtual 134, 3) := by decide +kernel
theorem d_ms_isOpen_25 : decode b_ms_isOpen 25 = .ok (.lcmp, 1) := by decide +kernel
theorem d_ms_isOpen_26 : decode b_ms_isOpen 26 = .ok (.ifCond .ne 7, 3) := by decide +kernel
theorem d_ms_isOpen_29 : decode b_ms_isOpen 29 = .ok (.iconst 1, 1) := by decide +kernel
theorem d_ms_isOpen_30 : decode b_ms_isOpen 30 = .ok (.goto 4, 3) := by decide +kernel
theorem d_ms_isOpen_33 : decode b_ms_isOpen 33 = .ok (.iconst 0, 1) := by decide +kernel
theorem d_ms_isOpen_34 : decode b_ms_isOpen 34 = .ok (.ireturn, 1) := by decide +kernel
theorem d_ms_isApproved_0 : decode b_ms_isApproved 0 = .ok (.aload_n 0, 1) := by decide +kernel
theorem d_ms_isApproved_1 : decode b_ms_isApproved 1 = .ok (.getfield 13, 3) := by decide +kernel
theorem d_ms_isApproved_4 : decode b_ms_isApproved 4 = .ok (.iload_n 1, 1) := by decide +kernel
theorem d_ms_isApproved_5 : decode b_ms_isApproved 5 = .ok (.baload, 1) := by decide +kernel
theorem d_ms_isApproved_6 : decode b_ms_isApproved 6 = .ok (.ifCond .eq 22, 3) := by decide +kernel
theorem d_ms_isApproved_9 : decode b_ms_isApproved 9 = .ok (.aload_n 0, 1) := by decide +kernel
theorem d_ms_isApproved_10 : decode b_ms_isApproved 10 = .ok (.getfield 17, 3) := by decide +kernel
theorem d_ms_isApproved_13 : decode b_ms_isApproved 13 = .ok (.iload_n 1, 1) := by decide +kernel
theorem d_ms_isApproved_14 : decode b_ms_isApproved 14 = .ok (.laload, 1) := by decide +kernel
theorem d_ms_isApproved_15 : decode b_ms_isApproved 15 = .ok (.aload_n 0, 1) := by decide +kernel
theorem d_ms_isApproved_16 : decode b_ms_isApproved 16 = .ok (.iload_n 1, 1) := by decide +kernel
theorem d_ms_isApproved_17 : decode b_ms_isApproved 17 = .ok (.invokevirtual 52, 3) := by decide +kernel
theorem d_ms_isApproved_20 : decode b_ms_isApproved 20 = .ok (.lcmp, 1) := by decide +kernel
theorem d_ms_isApproved_21 : decode b_ms_isApproved 21 = .ok (.ifCond .ne 7, 3) := by decide +kernel
theorem d_ms_isApproved_24 : decode b_ms_isApproved 24 = .ok (.iconst 1, 1) := by decide +kernel
theorem d_ms_isApproved_25 : decode b_ms_isApproved 25 = .ok (.goto 4, 3) := by decide +kernel
theorem d_ms_isApproved_28 : decode b_ms_isApproved 28 = .ok (.iconst 0, 1) := by decide +kernel
theorem d_ms_isApproved_29 : decode b_ms_isApproved 29 = .ok (.ireturn, 1) := by decide +kernel
theorem d_ms_fault_0 : decode b_ms_fault 0 = .ok (.aload_n 0, 1) := by decide +kernel
theorem d_ms_fault_1 : decode b_ms_fault 1 = .ok (.getfield 63, 3) := by decide +kernel
theorem d_ms_fault_4 : decode b_ms_fault 4 = .ok (.ireturn, 1) := by decide +kernel
theorem d_ms_launched_0 : decode b_ms_launched 0 = .ok (.aload_n 0, 1) := by decide +kernel
theorem d_ms_launched_1 : decode b_ms_launched 1 = .ok (.getfield 75, 3) := by decide +kernel
theorem d_ms_launched_4 : decode b_ms_launched 4 = .ok (.ireturn, 1) := by decide +kernel
theorem d_ms_steps_0 : decode b_ms_steps 0 = .ok (.aload_n 0, 1) := by decide +kernel
theorem d_ms_steps_1 : decode b_ms_steps 1 = .ok (.getfield 78, 3) := by decide +kernel
theorem d_ms_steps_4 : decode b_ms_steps 4 = .ok (.ireturn, 1) := by decide +kernel
theorem d_ms_acc_0 : decode b_ms_acc 0 = .ok (.aload_n 0, 1) := by decide +kernel
theorem d_ms_acc_1 : decode b_ms_acc 1 = .ok (.getfield 81, 3) := by decide +kernel
theorem d_ms_acc_4 : decode b_ms_acc 4 = .ok (.lreturn, 1) := by decide +kernel
theorem d_ms_events_0 : decode b_ms_events 0 = .ok (.aload_n 0, 1) := by decide +kernel
theorem d_ms_events_1 : decode b_ms_events 1 = .ok (.getfield 23, 3) := by decide +kernel
theorem d_ms_events_4 : decode b_ms_events 4 = .ok (.getfield 102, 3) := by decide +kernel
theorem d_ms_events_7 : decode b_ms_events 7 = .ok (.ireturn, 1) := by decide +kernel
theorem d_md_thrown_0 : decode b_md_thrown 0 = .ok (.aload_n 0, 1) := by decide +kernel
theorem d_md_thrown_1 : decode b_md_thrown 1 = .ok (.getfield 48, 3) := by decide +kernel
theorem d_md_thrown_4 : decode b_md_thrown 4 = .ok (.ireturn, 1) := by decide +kernel
theorem d_md_digit_0 : decode b_md_digit 0 = .ok (.iload_n 2, 1) := by decide +kernel
theorem d_md_digit_1 : decode b_md_digit 1 = .ok (.bipush 16, 2) := by decide +kernel
theorem d_md_digit_3 : decode b_md_digit 3 = .ok (.if_icmp .ge 21, 3) := by decide +kernel
theorem d_md_digit_6 : decode b_md_digit 6 = .ok (.aload_n 0, 1) := by decide +kernel
theorem d_md_digit_7 : decode b_md_digit 7 = .ok (.getfield 13, 3) := by decide +kernel
theorem d_md_digit_10 : decode b_md_digit 10 = .ok (.iload_n 1, 1) := by decide +kernel
theorem d_md_digit_11 : decode b_md_digit 11 = .ok (.laload, 1) := by decide +kernel
theorem d_md_digit_12 : decode b_md_digit 12 = .ok (.iconst 4, 1) := by decide +kernel
theorem d_md_digit_13 : decode b_md_digit 13 = .ok (.iload_n 2, 1) := by decide +kernel
theorem d_md_digit_14 : decode b_md_digit 14 = .ok (.imul, 1) := by decide +kernel
theorem d_md_digit_15 : decode b_md_digit 15 = .ok (.lushr, 1) := by decide +kernel
theorem d_md_digit_16 : decode b_md_digit 16 = .ok (.ldc2_w 58, 3) := by decide +kernel
theorem d_md_digit_19 : decode b_md_digit 19 = .ok (.land, 1) := by decide +kernel
theorem d_md_digit_20 : decode b_md_digit 20 = .ok (.l2i, 1) := by decide +kernel
theorem d_md_digit_21 : decode b_md_digit 21 = .ok (.goto 4, 3) := by decide +kernel
theorem d_md_digit_24 : decode b_md_digit 24 = .ok (.iconst 0, 1) := by decide +kernel
theorem d_md_digit_25 : decode b_md_digit 25 = .ok (.ireturn, 1) := by decide +kernel
theorem d_md_digest_0 : decode b_md_digest 0 = .ok (.ldc2_w 60, 3) := by decide +kernel
theorem d_md_digest_3 : decode b_md_digest 3 = .ok (.aload_n 0, 1) := by decide +kernel
theorem d_md_digest_4 : decode b_md_digest 4 = .ok (.getfield 13, 3) := by decide +kernel
theorem d_md_digest_7 : decode b_md_digest 7 = .ok (.iload_n 1, 1) := by decide +kernel
theorem d_md_digest_8 : decode b_md_digest 8 = .ok (.laload, 1) := by decide +kernel
theorem d_md_digest_9 : decode b_md_digest 9 = .ok (.invokestatic 62, 3) := by decide +kernel
theorem d_md_digest_12 : decode b_md_digest 12 = .ok (.lreturn, 1) := by decide +kernel
theorem d_md_policy_0 : decode b_md_policy 0 = .ok (.ldc2_w 66, 3) := by decide +kernel
theorem d_md_policy_3 : decode b_md_policy 3 = .ok (.iload_n 1, 1) := by decide +kernel
theorem d_md_policy_4 : decode b_md_policy 4 = .ok (.i2l, 1) := by decide +kernel
theorem d_md_policy_5 : decode b_md_policy 5 = .ok (.invokestatic 62, 3) := by decide +kernel
theorem d_md_policy_8 : decode b_md_policy 8 = .ok (.lstore_n 2, 1) := by decide +kernel
theorem d_md_policy_9 : decode b_md_policy 9 = .ok (.iconst 0, 1) := by decide +kernel
theorem d_md_policy_10 : decode b_md_policy 10 = .ok (.istore 4, 2) := by decide +kernel
theorem d_md_policy_12 : decode b_md_policy 12 = .ok (.iload 4, 2) := by decide +kernel
theorem d_md_policy_14 : decode b_md_policy 14 = .ok (.bipush 6, 2) := by decide +kernel
theorem d_md_policy_16 : decode b_md_policy 16 = .ok (.if_icmp .ge 35, 3) := by decide +kernel
theorem d_md_policy_19 : decode b_md_policy 19 = .ok (.iload_n 1, 1) := by decide +kernel
theorem d_md_policy_20 : decode b_md_policy 20 = .ok (.iload 4, 2) := by decide +kernel
theorem d_md_policy_22 : decode b_md_policy 22 = .ok (.ishr, 1) := by decide +kernel
theorem d_md_policy_23 : decode b_md_policy 23 = .ok (.iconst 1, 1) := by decide +kernel
theorem d_md_policy_24 : decode b_md_policy 24 = .ok (.iand, 1) := by decide +kernel
theorem d_md_policy_25 : decode b_md_policy 25 = .ok (.iconst 1, 1) := by decide +kernel
theorem d_md_policy_26 : decode b_md_policy 26 = .ok (.if_icmp .ne 17, 3) := by decide +kernel
theorem d_md_policy_29 : decode b_md_policy 29 = .ok (.lload_n 2, 1) := by decide +kernel
theorem d_md_policy_30 : decode b_md_policy 30 = .ok (.aload_n 0, 1) := by decide +kernel
theorem d_md_policy_31 : decode b_md_policy 31 = .ok (.getfield 7, 3) := by decide +kernel
theorem d_md_policy_34 : decode b_md_policy 34 = .ok (.iload 4, 2) := by decide +kernel
theorem d_md_policy_36 : decode b_md_policy 36 = .ok (.laload, 1) := by decide +kernel
theorem d_md_policy_37 : decode b_md_policy 37 = .ok (.invokestatic 62, 3) := by decide +kernel
theorem d_md_policy_40 : decode b_md_policy 40 = .ok (.goto 4, 3) := by decide +kernel
theorem d_md_policy_43 : decode b_md_policy 43 = .ok (.lload_n 2, 1) := by decide +kernel
theorem d_md_policy_44 : decode b_md_policy 44 = .ok (.lstore_n 2, 1) := by decide +kernel
theorem d_md_policy_45 : decode b_md_policy 45 = .ok (.iinc 4 1, 3) := by decide +kernel
theorem d_md_policy_48 : decode b_md_policy 48 = .ok (.goto (-36), 3) := by decide +kernel
theorem d_md_policy_51 : decode b_md_policy 51 = .ok (.lload_n 2, 1) := by decide +kernel
theorem d_md_policy_52 : decode b_md_policy 52 = .ok (.lreturn, 1) := by decide +kernel
theorem d_md_freeBlob_0 : decode b_md_freeBlob 0 = .ok (.iconst 0, 1) := by decide +kernel
theorem d_md_freeBlob_1 : decode b_md_freeBlob 1 = .ok (.istore_n 1, 1) := by decide +kernel
theorem d_md_freeBlob_2 : decode b_md_freeBlob 2 = .ok (.iload_n 1, 1) := by decide +kernel
theorem d_md_freeBlob_3 : decode b_md_freeBlob 3 = .ok (.bipush 8, 2) := by decide +kernel
theorem d_md_freeBlob_5 : decode b_md_freeBlob 5 = .ok (.if_icmp .ge 20, 3) := by decide +kernel
theorem d_md_freeBlob_8 : decode b_md_freeBlob 8 = .ok (.aload_n 0, 1) := by decide +kernel
theorem d_md_freeBlob_9 : decode b_md_freeBlob 9 = .ok (.getfield 23, 3) := by decide +kernel
theorem d_md_freeBlob_12 : decode b_md_freeBlob 12 = .ok (.iload_n 1, 1) := by decide +kernel
theorem d_md_freeBlob_13 : decode b_md_freeBlob 13 = .ok (.iaload, 1) := by decide +kernel
theorem d_md_freeBlob_14 : decode b_md_freeBlob 14 = .ok (.ifCond .ne 5, 3) := by decide +kernel
theorem d_md_freeBlob_17 : decode b_md_freeBlob 17 = .ok (.iload_n 1, 1) := by decide +kernel
theorem d_md_freeBlob_18 : decode b_md_freeBlob 18 = .ok (.ireturn, 1) := by decide +kernel
theorem d_md_freeBlob_19 : decode b_md_freeBlob 19 = .ok (.iinc 1 1, 3) := by decide +kernel
theorem d_md_freeBlob_22 : decode b_md_freeBlob 22 = .ok (.goto (-20), 3) := by decide +kernel
theorem d_md_freeBlob_25 : decode b_md_freeBlob 25 = .ok (.iconst (-1), 1) := by decide +kernel
theorem d_md_freeBlob_26 : decode b_md_freeBlob 26 = .ok (.ireturn, 1) := by decide +kernel
theorem d_md_faultOf_0 : decode b_md_faultOf 0 = .ok (.iload_n 2, 1) := by decide +kernel
theorem d_md_faultOf_1 : decode b_md_faultOf 1 = .ok (.bipush 8, 2) := by decide +kernel
theorem d_md_faultOf_3 : decode b_md_faultOf 3 = .ok (.irem, 1) := by decide +kernel
theorem d_md_faultOf_4 : decode b_md_faultOf 4 = .ok (.istore 4, 2) := by decide +kernel
theorem d_md_faultOf_6 : decode b_md_faultOf 6 = .ok (.iload_n 1, 1) := by decide +kernel
theorem d_md_faultOf_7 : decode b_md_faultOf 7 = .ok (.bipush 8, 2) := by decide +kernel
theorem d_md_faultOf_9 : decode b_md_faultOf 9 = .ok (.if_icmp .le 5, 3) := by decide +kernel
theorem d_md_faultOf_12 : decode b_md_faultOf 12 = .ok (.iconst 1, 1) := by decide +kernel
theorem d_md_faultOf_13 : decode b_md_faultOf 13 = .ok (.ireturn, 1) := by decide +kernel
theorem d_md_faultOf_14 : decode b_md_faultOf 14 = .ok (.iload_n 1, 1) := by decide +kernel
theorem d_md_faultOf_15 : decode b_md_faultOf 15 = .ok (.iconst 1, 1) := by decide +kernel
theorem d_md_faultOf_16 : decode b_md_faultOf 16 = .ok (.if_icmp .ne 10, 3) := by decide +kernel
theorem d_md_faultOf_19 : decode b_md_faultOf 19 = .ok (.iload_n 3, 1) := by decide +kernel
theorem d_md_faultOf_20 : decode b_md_faultOf 20 = .ok (.iconst 5, 1) := by decide +kernel
theorem d_md_faultOf_21 : decode b_md_faultOf 21 = .ok (.if_icmp .ne 5, 3) := by decide +kernel
theorem d_md_faultOf_24 : decode b_md_faultOf 24 = .ok (.iconst 2, 1) := by decide +kernel
theorem d_md_faultOf_25 : decode b_md_faultOf 25 = .ok (.ireturn, 1) := by decide +kernel
theorem d_md_faultOf_26 : decode b_md_faultOf 26 = .ok (.iload_n 1, 1) := by decide +kernel
theorem d_md_faultOf_27 : decode b_md_faultOf 27 = .ok (.iconst 3, 1) := by decide +kernel
theorem d_md_faultOf_28 : decode b_md_faultOf 28 = .ok (.if_icmp .ne 36, 3) := by decide +kernel
theorem d_md_faultOf_31 : decode b_md_faultOf 31 = .ok (.aload_n 0, 1) := by decide +kernel
theorem d_md_faultOf_32 : decode b_md_faultOf 32 = .ok (.getfield 16, 3) := by decide +kernel
theorem d_md_faultOf_35 : decode b_md_faultOf 35 = .ok (.iload 4, 2) := by decide +kernel
theorem d_md_faultOf_37 : decode b_md_faultOf 37 = .ok (.baload, 1) := by decide +kernel
theorem d_md_faultOf_38 : decode b_md_faultOf 38 = .ok (.ifCond .eq 24, 3) := by decide +kernel
theorem d_md_faultOf_41 : decode b_md_faultOf 41 = .ok (.aload_n 0, 1) := by decide +kernel
theorem d_md_faultOf_42 : decode b_md_faultOf 42 = .ok (.getfield 20, 3) := by decide +kernel
theorem d_md_faultOf_45 : decode b_md_faultOf 45 = .ok (.iload 4, 2) := by decide +kernel
theorem d_md_faultOf_47 : decode b_md_faultOf 47 = .ok (.laload, 1) := by decide +kernel
theorem d_md_faultOf_48 : decode b_md_faultOf 48 = .ok (.aload_n 0, 1) := by decide +kernel
theorem d_md_faultOf_49 : decode b_md_faultOf 49 = .ok (.iload 4, 2) := by decide +kernel
theorem d_md_faultOf_51 : decode b_md_faultOf 51 = .ok (.invokevirtual 75, 3) := by decide +kernel
theorem d_md_faultOf_54 : decode b_md_faultOf 54 = .ok (.lcmp, 1) := by decide +kernel
theorem d_md_faultOf_55 : decode b_md_faultOf 55 = .ok (.ifCond .ne 7, 3) := by decide +kernel
theorem d_md_faultOf_58 : decode b_md_faultOf 58 = .ok (.iconst 0, 1) := by decide +kernel
theorem d_md_faultOf_59 : decode b_md_faultOf 59 = .ok (.goto 4, 3) := by decide +kernel
theorem d_md_faultOf_62 : decode b_md_faultOf 62 = .ok (.iconst 5, 1) := by decide +kernel
theorem d_md_faultOf_63 : decode b_md_faultOf 63 = .ok (.ireturn, 1) := by decide +kernel
theorem d_md_faultOf_64 : decode b_md_faultOf 64 = .ok (.iload_n 1, 1) := by decide +kernel
theorem d_md_faultOf_65 : decode b_md_faultOf 65 = .ok (.iconst 4, 1) := by decide +kernel
theorem d_md_faultOf_66 : decode b_md_faultOf 66 = .ok (.if_icmp .ne 47, 3) := by decide +kernel
theorem d_md_faultOf_69 : decode b_md_faultOf 69 = .ok (.aload_n 0, 1) := by decide +kernel
theorem d_md_faultOf_70 : decode b_md_faultOf 70 = .ok (.getfield 23, 3) := by decide +kernel
theorem d_md_faultOf_73 : decode b_md_faultOf 73 = .ok (.iload 4, 2) := by decide +kernel
theorem d_md_faultOf_75 : decode b_md_faultOf 75 = .ok (.iaload, 1) := by decide +kernel
theorem d_md_faultOf_76 : decode b_md_faultOf 76 = .ok (.ifCond .ne 8, 3) := by decide +kernel
theorem d_md_faultOf_79 : decode b_md_faultOf 79 = .ok (.bipush 6, 2) := by decide +kernel
theorem d_md_faultOf_81 : decode b_md_faultOf 81 = .ok (.goto 31, 3) := by decide +kernel
theorem d_md_faultOf_84 : decode b_md_faultOf 84 = .ok (.aload_n 0, 1) := by decide +kernel
theorem d_md_faultOf_85 : decode b_md_faultOf 85 = .ok (.getfield 27, 3) := by decide +kernel
theorem d_md_faultOf_88 : decode b_md_faultOf 88 = .ok (.iload 4, 2) := by decide +kernel
theorem d_md_faultOf_90 : decode b_md_faultOf 90 = .ok (.laload, 1) := by decide +kernel
theorem d_md_faultOf_91 : decode b_md_faultOf 91 = .ok (.aload_n 0, 1) := by decide +kernel
theorem d_md_faultOf_92 : decode b_md_faultOf 92 = .ok (.aload_n 0, 1) := by decide +kernel
theorem d_md_faultOf_93 : decode b_md_faultOf 93 = .ok (.getfield 23, 3) := by decide +kernel
theorem d_md_faultOf_96 : decode b_md_faultOf 96 = .ok (.iload 4, 2) := by decide +kernel
theorem d_md_faultOf_98 : decode b_md_faultOf 98 = .ok (.iaload, 1) := by decide +kernel
theorem d_md_faultOf_99 : decode b_md_faultOf 99 = .ok (.invokevirtual 71, 3) := by decide +kernel
theorem d_md_faultOf_102 : decode b_md_faultOf 102 = .ok (.lcmp, 1) := by decide +kernel
theorem d_md_faultOf_103 : decode b_md_faultOf 103 = .ok (.ifCond .ne 7, 3) := by decide +kernel
theorem d_md_faultOf_106 : decode b_md_faultOf 106 = .ok (.iconst 0, 1) := by decide +kernel
theorem d_md_faultOf_107 : decode b_md_faultOf 107 = .ok (.goto 5, 3) := by decide +kernel
theorem d_md_faultOf_110 : decode b_md_faultOf 110 = .ok (.bipush 7, 2) := by decide +kernel
theorem d_md_faultOf_112 : decode b_md_faultOf 112 = .ok (.ireturn, 1) := by decide +kernel
theorem d_md_faultOf_113 : decode b_md_faultOf 113 = .ok (.iload_n 1, 1) := by decide +kernel
theorem d_md_faultOf_114 : decode b_md_faultOf 114 = .ok (.bipush 8, 2) := by decide +kernel
theorem d_md_faultOf_116 : decode b_md_faultOf 116 = .ok (.if_icmp .ne 17, 3) := by decide +kernel
theorem d_md_faultOf_119 : decode b_md_faultOf 119 = .ok (.aload_n 0, 1) := by decide +kernel
theorem d_md_faultOf_120 : decode b_md_faultOf 120 = .ok (.invokevirtual 122, 3) := by decide +kernel
theorem d_md_faultOf_123 : decode b_md_faultOf 123 = .ok (.ifCond .ge 8, 3) := by decide +kernel
theorem d_md_faultOf_126 : decode b_md_faultOf 126 = .ok (.bipush 8, 2) := by decide +kernel
theorem d_md_faultOf_128 : decode b_md_faultOf 128 = .ok (.goto 4, 3) := by decide +kernel
theorem d_md_faultOf_131 : decode b_md_faultOf 131 = .ok (.iconst 0, 1) := by decide +kernel
theorem d_md_faultOf_132 : decode b_md_faultOf 132 = .ok (.ireturn, 1) := by decide +kernel
theorem d_md_faultOf_133 : decode b_md_faultOf 133 = .ok (.iload_n 1, 1) := by decide +kernel
theorem d_md_faultOf_134 : decode b_md_faultOf 134 = .ok (.iconst 1, 1) := by decide +kernel
theorem d_md_faultOf_135 : decode b_md_faultOf 135 = .ok (.if_icmp .eq 14, 3) := by decide +kernel
theorem d_md_faultOf_138 : decode b_md_faultOf 138 = .ok (.iload_n 1, 1) := by decide +kernel
theorem d_md_faultOf_139 : decode b_md_faultOf 139 = .ok (.iconst 2, 1) := by decide +kernel
theorem d_md_faultOf_140 : decode b_md_faultOf 140 = .ok (.if_icmp .eq 9, 3) := by decide +kernel
theorem d_md_faultOf_143 : decode b_md_faultOf 143 = .ok (.iload_n 1, 1) := by decide +kernel
theorem d_md_faultOf_144 : decode b_md_faultOf 144 = .ok (.bipush 6, 2) := by decide +kernel
theorem d_md_faultOf_146 : decode b_md_faultOf 146 = .ok (.if_icmp .ne 16, 3) := by decide +kernel
theorem d_md_faultOf_149 : decode b_md_faultOf 149 = .ok (.aload_n 0, 1) := by decide +kernel
theorem d_md_faultOf_150 : decode b_md_faultOf 150 = .ok (.getfield 68, 3) := by decide +kernel
theorem d_md_faultOf_153 : decode b_md_faultOf 153 = .ok (.bipush 32, 2) := by decide +kernel
theorem d_md_faultOf_155 : decode b_md_faultOf 155 = .ok (.if_icmp .ne 7, 3) := by decide +kernel
theorem d_md_faultOf_158 : decode b_md_faultOf 158 = .ok (.iconst 4, 1) := by decide +kernel
theorem d_md_faultOf_159 : decode b_md_faultOf 159 = .ok (.goto 4, 3) := by decide +kernel
theorem d_md_faultOf_162 : decode b_md_faultOf 162 = .ok (.iconst 0, 1) := by decide +kernel
theorem d_md_faultOf_163 : decode b_md_faultOf 163 = .ok (.ireturn, 1) := by decide +kernel
set_option maxHeartbeats 4000000 in
set_option maxRecDepth 100000 in
theorem c_ms_isOpen (l : Launch) (D : va_G) (cs : Nat → ClassId) (ad : Nat → Nat) (sz : Nat) (u : Sg) (j : Jx) (k : Int32) (hk : vp_in k 8) : Met l y_ms_isOpen (Cond.code y_ms_isOpen b_ms_isOpen 2 (some .boolean) :: TB) { frames := 2, cells := 0, slots := 0, locals := 49 } (va_Pc [.ref (ad 0), .int k] (xw_Pre D cs ad u j sz)) (vp_Si (fun r => r = sp_on u k)) 0 0 (fun _ => False) := by
  refine Met.ofW (cc := b_ms_isOpen) (maxL := 2) (ret := (some .boolean)) (by decide) rfl ?_
  intro p e s m args below meth c s₁ B hml hv
  obtain ⟨rfl, hsz, hP, hK, hD, hN⟩ := hv
  have hx := B.exec
  have hb := B.bytes
  have hret := B.returns
  have hts := atoms_spec (ws := Cond.code y_ms_isOpen b_ms_isOpen 2 (some .boolean) :: TB) B.pre
  have hT : ∀ w ∈ TB, w.before _ s = true := fun w h => hts w (List.mem_cons_of_mem _ h)
  have hown : s.vm.findClass "MeasuredStages" = some m.cls := findClass_of_methodNamed B.named
  have hlocks := B.notSynchronized
  subst hsz
  have hl := lv_entry ([.ref (ad 0), .int k]) (n := 2) (Nat.le_of_ble_eq_true rfl)
  rw [lg_entry_eq]
  generalize (lg_sl ([.ref (ad 0), .int k]) ++ List.replicate (2 - (lg_sl ([.ref (ad 0), .int k])).length) Slot.unset).toArray = ls at hl ⊢
  have hl : lv_has ls 2 [(0, .ref (ad 0)), (1, .int k)] := hl
  refine lv_aload_n hx hb d_ms_isOpen_0 rfl (lv_at hl 0 rfl) ?_
  refine va_get (D := D) (ci := 0) (v := .ref (ad 5)) (C := "MeasuredStages") (T := F_ms) (N := 12) hx hb hts (fun w h => List.mem_cons_of_mem _ (i_ms w h)) hown hK hP 0 rfl rfl 4 (by decide) (hT _ tb_73) (fun _ h9 => h9) rfl d_ms_isOpen_1 ?_
  refine va_get (D := D) (ci := 2) (v := .ref (ad 13)) (C := "MeasuredStages$Blobs") (T := F_bl) (N := 3) hx hb hts (fun w h => List.mem_cons_of_mem _ (i_bl w h)) hown hK hP 5 rfl rfl 1 (by decide) (hT _ tb_59) (fun _ h9 => h9) rfl d_ms_isOpen_4 ?_
  refine lv_iload_n hx hb d_ms_isOpen_7 rfl (lv_at hl 1 rfl) ?_
  refine va_lald hx hb hK hP 13 10 rfl rfl hk d_ms_isOpen_8 ?_
  refine lv_aload_n hx hb d_ms_isOpen_9 rfl (lv_at hl 0 rfl) ?_
  refine va_get (D := D) (ci := 0) (v := .ref (ad 4)) (C := "MeasuredStages") (T := F_ms) (N := 12) hx hb hts (fun w h => List.mem_cons_of_mem _ (i_ms w h)) hown hK hP 0 rfl rfl 3 (by decide) (hT _ tb_72) (fun _ h9 => h9) rfl d_ms_isOpen_10 ?_
  refine lv_aload_n hx hb d_ms_isOpen_13 rfl (lv_at hl 0 rfl) ?_
  refine va_get (D := D) (ci := 0) (v := .ref (ad 5)) (C := "MeasuredStages") (T := F_ms) (N := 12) hx hb hts (fun w h => List.mem_cons_of_mem _ (i_ms w h)) hown hK hP 0 rfl rfl 4 (by decide) (hT _ tb_73) (fun _ h9 => h9) rfl d_ms_isOpen_14 ?_
  refine va_get (D := D) (ci := 2) (v := .ref (ad 12)) (C := "MeasuredStages$Blobs") (T := F_bl) (N := 3) hx hb hts (fun w h => List.mem_cons_of_mem _ (i_bl w h)) hown hK hP 5 rfl rfl 0 (by decide) (hT _ tb_57) (fun _ h9 => h9) rfl d_ms_isOpen_17 ?_
  refine lv_iload_n hx hb d_ms_isOpen_20 rfl (lv_at hl 1 rfl) ?_
  refine va_iald hx hb hK hP 12 9 rfl rfl hk d_ms_isOpen_21 ?_
  refine xw_rdl (v := sp_po u (sg_ma u k.toNatClampNeg)) (As := [.int (sg_ma u k.toNatClampNeg)]) (rest := [.long (sg_po u k.toNatClampNeg)]) ⟨hx, hb, hml, hown, hts⟩ (c_rg_policyOf l D cs ad _ u j (sg_ma u k.toNatClampNeg)) tb_300 tb_301 tb_302 tb_2 tb_303 ⟨rfl, hd_rg_policyOf⟩ ⟨Nat.le_of_ble_eq_true rfl, Nat.le_of_ble_eq_true rfl⟩ rfl rfl hK hP hD hN 4 1 rfl rfl hl.1 rfl (Nat.le_of_ble_eq_true rfl) d_ms_isOpen_22 ⟨Nat.zero_le _, Nat.zero_le _⟩ ?_
  refine W.lcmp hx hb d_ms_isOpen_25 ?_
  refine lv_if_ne hx hb d_ms_isOpen_26 (tgt := 33) (by decide) (fun h1 => ?_) (fun h1 => ?_)
  · skip
    have h1 := mt sp_cmp.mpr h1
    refine lv_iconst (v := 0) hx hb d_ms_isOpen_33 (by decide) ?_
    exact W.zret (v := 0) hx hb hret rfl (fun t ht hW => ⟨_, rfl, by simp [sp_on, h1], ht⟩) (fun q h => by cases h) d_ms_isOpen_34
  · skip
    have h1 := sp_cmp.mp h1
    refine lv_iconst (v := 1) hx hb d_ms_isOpen_29 (by decide) ?_
    refine lv_goto hx hb d_ms_isOpen_30 (tgt := 34) (by decide) ?_
    exact W.zret (v := 1) hx hb hret rfl (fun t ht hW => ⟨_, rfl, by simp [sp_on, h1], ht⟩) (fun q h => by cases h) d_ms_isOpen_34
set_option maxHeartbeats 4000000 in
set_option maxRecDepth 100000 in
theorem c_ms_isApproved (l : Launch) (D : va_G) (cs : Nat → ClassId) (ad : Nat → Nat) (sz : Nat) (u : Sg) (j : Jx) (n : Int32) (hn : vp_in n 8) : Met l y_ms_isApproved (Cond.code y_ms_isApproved b_ms_isApproved 2 (some .boolean) :: TB) { frames := 2, cells := 0, slots := 0, locals := 46 } (va_Pc [.ref (ad 0), .int n] (xw_Pre D cs ad u j sz)) (vp_Si (fun r => r = sp_ia u n)) 0 0 (fun _ => False) := by
  refine Met.ofW (cc := b_ms_isApproved) (maxL := 2) (ret := (some .boolean)) (by decide) rfl ?_
  intro p e s m args below meth c s₁ B hml hv
  obtain ⟨rfl, hsz, hP, hK, hD, hN⟩ := hv
  have hx := B.exec
  have hb := B.bytes
  have hret := B.returns
  have hts := atoms_spec (ws := Cond.code y_ms_isApproved b_ms_isApproved 2 (some .boolean) :: TB) B.pre
  have hT : ∀ w ∈ TB, w.before _ s = true := fun w h => hts w (List.mem_cons_of_mem _ h)
  have hown : s.vm.findClass "MeasuredStages" = some m.cls := findClass_of_methodNamed B.named
  have hlocks := B.notSynchronized
  subst hsz
  have hl := lv_entry ([.ref (ad 0), .int n]) (n := 2) (Nat.le_of_ble_eq_true rfl)
  rw [lg_entry_eq]
  generalize (lg_sl ([.ref (ad 0), .int n]) ++ List.replicate (2 - (lg_sl ([.ref (ad 0), .int n])).length) Slot.unset).toArray = ls at hl ⊢
  have hl : lv_has ls 2 [(0, .ref (ad 0)), (1, .int n)] := hl
  refine lv_aload_n hx hb d_ms_isApproved_0 rfl (lv_at hl 0 rfl) ?_
  refine va_get (D := D) (ci := 0) (v := .ref (ad 2)) (C := "MeasuredStages") (T := F_ms) (N := 12) hx hb hts (fun w h => List.mem_cons_of_mem _ (i_ms w h)) hown hK hP 0 rfl rfl 1 (by decide) (hT _ tb_70) (fun _ h9 => h9) rfl d_ms_isApproved_1 ?_
  refine lv_iload_n hx hb d_ms_isApproved_4 rfl (lv_at hl 1 rfl) ?_
  refine va_zald hx hb hK hP 2 1 rfl rfl hn d_ms_isApproved_5 ?_
  refine lv_if_eq hx hb d_ms_isApproved_6 (tgt := 28) (by decide) (fun h1 => ?_) (fun h1 => ?_)
  · skip
    refine lv_iconst (v := 0) hx hb d_ms_isApproved_28 (by decide) ?_
    exact W.zret (v := 0) hx hb hret rfl (fun t ht hW => ⟨_, rfl, by simp [sp_ia, h1], ht⟩) (fun q h => by cases h) d_ms_isApproved_29
  · skip
    refine lv_aload_n hx hb d_ms_isApproved_9 rfl (lv_at hl 0 rfl) ?_
    refine va_get (D := D) (ci := 0) (v := .ref (ad 3)) (C := "MeasuredStages") (T := F_ms) (N := 12) hx hb hts (fun w h => List.mem_cons_of_mem _ (i_ms w h)) hown hK hP 0 rfl rfl 2 (by decide) (hT _ tb_71) (fun _ h9 => h9) rfl d_ms_isApproved_10 ?_
    refine lv_iload_n hx hb d_ms_isApproved_13 rfl (lv_at hl 1 rfl) ?_
    refine va_lald hx hb hK hP 3 2 rfl rfl hn d_ms_isApproved_14 ?_
    refine lv_aload_n hx hb d_ms_isApproved_15 rfl (lv_at hl 0 rfl) ?_
    refine lv_iload_n hx hb d_ms_isApproved_16 rfl (lv_at hl 1 rfl) ?_
    refine xw_rdl (v := sp_di u n) (As := [.int n]) (rest := [.long (sg_ag u n.toNatClampNeg)]) ⟨hx, hb, hml, hown, hts⟩ (c_ms_digestOf l D cs ad _ u j n hn) tb_230 tb_232 sl_1 tb_1 tb_233 ⟨rfl, hd_ms_digestOf⟩ ⟨Nat.le_of_ble_eq_true rfl, Nat.le_of_ble_eq_true rfl⟩ rfl rfl hK hP hD hN 0 0 rfl rfl hl.1 rfl (Nat.le_of_ble_eq_true rfl) d_ms_isApproved_17 ⟨Nat.zero_le _, Nat.zero_le _⟩ ?_
    refine W.lcmp hx hb d_ms_isApproved_20 ?_
    refine lv_if_ne hx hb d_ms_isApproved_21 (tgt := 28) (by decide) (fun h2 => ?_) (fun h2 => ?_)
    · skip
      have h2 := mt sp_cmp.mpr h2
      refine lv_iconst (v := 0) hx hb d_ms_isApproved_28 (by decide) ?_
      exact W.zret (v := 0) hx hb hret rfl (fun t ht hW => ⟨_, rfl, by simp [sp_ia, h1, h2], ht⟩) (fun q h => by cases h) d_ms_isApproved_29
    · skip
      have h2 := sp_cmp.mp h2
      refine lv_iconst (v := 1) hx hb d_ms_isApproved_24 (by decide) ?_
      refine lv_goto hx hb d_ms_isApproved_25 (tgt := 29) (by decide) ?_
      exact W.zret (v := 1) hx hb hret rfl (fun t ht hW => ⟨_, rfl, by simp [sp_ia, h1, h2], ht⟩) (fun q h => by cases h) d_ms_isApproved_29
set_option maxHeartbeats 4000000 in
set_option maxRecDepth 100000 in
theorem c_ms_fault (l : Launch) (D : va_G) (cs : Nat → ClassId) (ad : Nat → Nat) (sz : Nat) (u : Sg) (j : Jx)   : Met l y_ms_fault (Cond.code y_ms_fault b_ms_fault 1 (some .int) :: TB) { frames := 0, cells := 0, slots := 0, locals := 0 } (va_Pc [.ref (ad 0)] (xw_Pre D cs ad u j sz)) (vp_Si (fun r => r = sg_fa u)) 0 0 (fun _ => False) := by
  refine Met.ofW (cc := b_ms_fault) (maxL := 1) (ret := (some .int)) (by decide) rfl ?_
  intro p e s m args below meth c s₁ B hml hv
  obtain ⟨rfl, hsz, hP, hK, hD, hN⟩ := hv
  have hx := B.exec
  have hb := B.bytes
  have hret := B.returns
  have hts := atoms_spec (ws := Cond.code y_ms_fault b_ms_fault 1 (some .int) :: TB) B.pre
  have hT : ∀ w ∈ TB, w.before _ s = true := fun w h => hts w (List.mem_cons_of_mem _ h)
  have hown : s.vm.findClass "MeasuredStages" = some m.cls := findClass_of_methodNamed B.named
  have hlocks := B.notSynchronized
  subst hsz
  have hl := lv_entry ([.ref (ad 0)]) (n := 1) (Nat.le_of_ble_eq_true rfl)
  rw [lg_entry_eq]
  generalize (lg_sl ([.ref (ad 0)]) ++ List.replicate (1 - (lg_sl ([.ref (ad 0)])).length) Slot.unset).toArray = ls at hl ⊢
  have hl : lv_has ls 1 [(0, .ref (ad 0))] := hl
  refine lv_aload_n hx hb d_ms_fault_0 rfl (lv_at hl 0 rfl) ?_
  refine va_get (D := D) (ci := 0) (v := .int (sg_fa u)) (C := "MeasuredStages") (T := F_ms) (N := 12) hx hb hts (fun w h => List.mem_cons_of_mem _ (i_ms w h)) hown hK hP 0 rfl rfl 9 (by decide) (hT _ tb_78) (fun _ h9 => h9) rfl d_ms_fault_1 ?_
  exact W.iret (v := sg_fa u) hx hb hret (fun t ht hW => ⟨_, rfl, rfl, ht⟩) (fun q h => by cases h) d_ms_fault_4
set_option maxHeartbeats 4000000 in
set_option maxRecDepth 100000 in
theorem c_ms_launched (l : Launch) (D : va_G) (cs : Nat → ClassId) (ad : Nat → Nat) (sz : Nat) (u : Sg) (j : Jx)   : Met l y_ms_launched (Cond.code y_ms_launched b_ms_launched 1 (some .int) :: TB) { frames := 0, cells := 0, slots := 0, locals := 0 } (va_Pc [.ref (ad 0)] (xw_Pre D cs ad u j sz)) (vp_Si (fun r => r = sg_la u)) 0 0 (fun _ => False) := by
  refine Met.ofW (cc := b_ms_launched) (maxL := 1) (ret := (some .int)) (by decide) rfl ?_
  intro p e s m args below meth c s₁ B hml hv
  obtain ⟨rfl, hsz, hP, hK, hD, hN⟩ := hv
  have hx := B.exec
  have hb := B.bytes
  have hret := B.returns
  have hts := atoms_spec (ws := Cond.code y_ms_launched b_ms_launched 1 (some .int) :: TB) B.pre
  have hT : ∀ w ∈ TB, w.before _ s = true := fun w h => hts w (List.mem_cons_of_mem _ h)
  have hown : s.vm.findClass "MeasuredStages" = some m.cls := findClass_of_methodNamed B.named
  have hlocks := B.notSynchronized
  subst hsz
  have hl := lv_entry ([.ref (ad 0)]) (n := 1) (Nat.le_of_ble_eq_true rfl)
  rw [lg_entry_eq]
  generalize (lg_sl ([.ref (ad 0)]) ++ List.replicate (1 - (lg_sl ([.ref (ad 0)])).length) Slot.unset).toArray = ls at hl ⊢
  have hl : lv_has ls 1 [(0, .ref (ad 0))] := hl
  refine lv_aload_n hx hb d_ms_launched_0 rfl (lv_at hl 0 rfl) ?_
  refine va_get (D := D) (ci := 0) (v := .int (sg_la u)) (C := "MeasuredStages") (T := F_ms) (N := 12) hx hb hts (fun w h => List.mem_cons_of_mem _ (i_ms w h)) hown hK hP 0 rfl rfl 10 (by decide) (hT _ tb_79) (fun _ h9 => h9) rfl d_ms_launched_1 ?_
  exact W.iret (v := sg_la u) hx hb hret (fun t ht hW => ⟨_, rfl, rfl, ht⟩) (fun q h => by cases h) d_ms_launched_4
set_option maxHeartbeats 4000000 in
set_option maxRecDepth 100000 in
theorem c_ms_steps (l : Launch) (D : va_G) (cs : Nat → ClassId) (ad : Nat → Nat) (sz : Nat) (u : Sg) (j : Jx)   : Met l y_ms_steps (Cond.code y_ms_steps b_ms_steps 1 (some .int) :: TB) { frames := 0, cells := 0, slots := 0, locals := 0 } (va_Pc [.ref (ad 0)] (xw_Pre D cs ad u j sz)) (vp_Si (fun r => r = sg_st u)) 0 0 (fun _ => False) := by
  refine Met.ofW (cc := b_ms_steps) (maxL := 1) (ret := (some .int)) (by decide) rfl ?_
  intro p e s m args below meth c s₁ B hml hv
  obtain ⟨rfl, hsz, hP, hK, hD, hN⟩ := hv
  have hx := B.exec
  have hb := B.bytes
  have hret := B.returns
  have hts := atoms_spec (ws := Cond.code y_ms_steps b_ms_steps 1 (some .int) :: TB) B.pre
  have hT : ∀ w ∈ TB, w.before _ s = true := fun w h => hts w (List.mem_cons_of_mem _ h)
  have hown : s.vm.findClass "MeasuredStages" = some m.cls := findClass_of_methodNamed B.named
  have hlocks := B.notSynchronized
  subst hsz
  have hl := lv_entry ([.ref (ad 0)]) (n := 1) (Nat.le_of_ble_eq_true rfl)
  rw [lg_entry_eq]
  generalize (lg_sl ([.ref (ad 0)]) ++ List.replicate (1 - (lg_sl ([.ref (ad 0)])).length) Slot.unset).toArray = ls at hl ⊢
  have hl : lv_has ls 1 [(0, .ref (ad 0))] := hl
  refine lv_aload_n hx hb d_ms_steps_0 rfl (lv_at hl 0 rfl) ?_
  refine va_get (D := D) (ci := 0) (v := .int (sg_st u)) (C := "MeasuredStages") (T := F_ms) (N := 12) hx hb hts (fun w h => List.mem_cons_of_mem _ (i_ms w h)) hown hK hP 0 rfl rfl 11 (by decide) (hT _ tb_80) (fun _ h9 => h9) rfl d_ms_steps_1 ?_
  exact W.iret (v := sg_st u) hx hb hret (fun t ht hW => ⟨_, rfl, rfl, ht⟩) (fun q h => by cases h) d_ms_steps_4
set_option maxHeartbeats 4000000 in
set_option maxRecDepth 100000 in
theorem c_ms_acc (l : Launch) (D : va_G) (cs : Nat → ClassId) (ad : Nat → Nat) (sz : Nat) (u : Sg) (j : Jx)   : Met l y_ms_acc (Cond.code y_ms_acc b_ms_acc 1 (some .long) :: TB) { frames := 0, cells := 0, slots := 0, locals := 0 } (va_Pc [.ref (ad 0)] (xw_Pre D cs ad u j sz)) (vp_Sl (fun r => r = sg_ac u)) 0 0 (fun _ => False) := by
  refine Met.ofW (cc := b_ms_acc) (maxL := 1) (ret := (some .long)) (by decide) rfl ?_
  intro p e s m args below meth c s₁ B hml hv
  obtain ⟨rfl, hsz, hP, hK, hD, hN⟩ := hv
  have hx := B.exec
  have hb := B.bytes
  have hret := B.returns
  have hts := atoms_spec (ws := Cond.code y_ms_acc b_ms_acc 1 (some .long) :: TB) B.pre
  have hT : ∀ w ∈ TB, w.before _ s = true := fun w h => hts w (List.mem_cons_of_mem _ h)
  have hown : s.vm.findClass "MeasuredStages" = some m.cls := findClass_of_methodNamed B.named
  have hlocks := B.notSynchronized
  subst hsz
  have hl := lv_entry ([.ref (ad 0)]) (n := 1) (Nat.le_of_ble_eq_true rfl)
  rw [lg_entry_eq]
  generalize (lg_sl ([.ref (ad 0)]) ++ List.replicate (1 - (lg_sl ([.ref (ad 0)])).length) Slot.unset).toArray = ls at hl ⊢
  have hl : lv_has ls 1 [(0, .ref (ad 0))] := hl
  refine lv_aload_n hx hb d_ms_acc_0 rfl (lv_at hl 0 rfl) ?_
  refine va_get (D := D) (ci := 0) (v := .long (sg_ac u)) (C := "MeasuredStages") (T := F_ms) (N := 12) hx hb hts (fun w h => List.mem_cons_of_mem _ (i_ms w h)) hown hK hP 0 rfl rfl 8 (by decide) (hT _ tb_77) (fun _ h9 => h9) rfl d_ms_acc_1 ?_
  exact W.lret (v := sg_ac u) hx hb hret (fun t ht hW => ⟨_, rfl, rfl, ht⟩) (fun q h => by cases h) d_ms_acc_4
set_option maxHeartbeats 4000000 in
set_option maxRecDepth 100000 in
theorem c_ms_events (l : Launch) (D : va_G) (cs : Nat → ClassId) (ad : Nat → Nat) (sz : Nat) (u : Sg) (j : Jx)   : Met l y_ms_events (Cond.code y_ms_events b_ms_events 1 (some .int) :: TB) { frames := 0, cells := 0, slots := 0, locals := 0 } (va_Pc [.ref (ad 0)] (xw_Pre D cs ad u j sz)) (vp_Si (fun r => r = sg_en u)) 0 0 (fun _ => False) := by
  refine Met.ofW (cc := b_ms_events) (maxL := 1) (ret := (some .int)) (by decide) rfl ?_
  intro p e s m args below meth c s₁ B hml hv
  obtain ⟨rfl, hsz, hP, hK, hD, hN⟩ := hv
  have hx := B.exec
  have hb := B.bytes
  have hret := B.returns
  have hts := atoms_spec (ws := Cond.code y_ms_events b_ms_events 1 (some .int) :: TB) B.pre
  have hT : ∀ w ∈ TB, w.before _ s = true := fun w h => hts w (List.mem_cons_of_mem _ h)
  have hown : s.vm.findClass "MeasuredStages" = some m.cls := findClass_of_methodNamed B.named
  have hlocks := B.notSynchronized
  subst hsz
  have hl := lv_entry ([.ref (ad 0)]) (n := 1) (Nat.le_of_ble_eq_true rfl)
  rw [lg_entry_eq]
  generalize (lg_sl ([.ref (ad 0)]) ++ List.replicate (1 - (lg_sl ([.ref (ad 0)])).length) Slot.unset).toArray = ls at hl ⊢
  have hl : lv_has ls 1 [(0, .ref (ad 0))] := hl
  refine lv_aload_n hx hb d_ms_events_0 rfl (lv_at hl 0 rfl) ?_
  refine va_get (D := D) (ci := 0) (v := .ref (ad 4)) (C := "MeasuredStages") (T := F_ms) (N := 12) hx hb hts (fun w h => List.mem_cons_of_mem _ (i_ms w h)) hown hK hP 0 rfl rfl 3 (by decide) (hT _ tb_72) (fun _ h9 => h9) rfl d_ms_events_1 ?_
  refine va_get (D := D) (ci := 1) (v := .int (sg_en u)) (C := "MeasuredStages$Registers") (T := F_rg) (N := 5) hx hb hts (fun w h => List.mem_cons_of_mem _ (i_rg w h)) hown hK hP 4 rfl rfl 3 (by decide) (hT _ tb_34) (fun _ h9 => h9) rfl d_ms_events_4 ?_
  exact W.iret (v := sg_en u) hx hb hret (fun t ht hW => ⟨_, rfl, rfl, ht⟩) (fun q h => by cases h) d_ms_events_7
set_option maxHeartbeats 4000000 in
set_option maxRecDepth 100000 in
theorem c_md_thrown (l : Launch) (D : va_G) (cs : Nat → ClassId) (ad : Nat → Nat) (sz : Nat) (u : Sg) (j : Jm)   : Met l y_md_thrown (Cond.code y_md_thrown b_md_thrown 1 (some .int) :: TB) { frames := 0, cells := 0, slots := 0, locals := 0 } (va_Pc [.ref (ad 0)] (mw_Pre D cs ad u j sz)) (vp_Si (fun r => r = jm_th j)) 0 0 (fun _ => False) := by
  refine Met.ofW (cc := b_md_thrown) (maxL := 1) (ret := (some .int)) (by decide) rfl ?_
  intro p e s m args below meth c s₁ B hml hv
  obtain ⟨rfl, hsz, hP, hK, hD, hN⟩ := hv
  have hx := B.exec
  have hb := B.bytes
  have hret := B.returns
  have hts := atoms_spec (ws := Cond.code y_md_thrown b_md_thrown 1 (some .int) :: TB) B.pre
  have hT : ∀ w ∈ TB, w.before _ s = true := fun w h => hts w (List.mem_cons_of_mem _ h)
  have hown : s.vm.findClass "MeasuredStagesModel" = some m.cls := findClass_of_methodNamed B.named
  have hlocks := B.notSynchronized
  subst hsz
  have hl := lv_entry ([.ref (ad 0)]) (n := 1) (Nat.le_of_ble_eq_true rfl)
  rw [lg_entry_eq]
  generalize (lg_sl ([.ref (ad 0)]) ++ List.replicate (1 - (lg_sl ([.ref (ad 0)])).length) Slot.unset).toArray = ls at hl ⊢
  have hl : lv_has ls 1 [(0, .ref (ad 0))] := hl
  refine lv_aload_n hx hb d_md_thrown_0 rfl (lv_at hl 0 rfl) ?_
  refine va_get (D := D) (ci := 3) (v := .int (jm_th j)) (C := "MeasuredStagesModel") (T := F_md) (N := 19) hx hb hts (fun w h => List.mem_cons_of_mem _ (i_md w h)) hown hK hP 0 rfl rfl 18 (by decide) (hT _ tb_477) (fun _ h9 => h9) rfl d_md_thrown_1 ?_
  exact W.iret (v := jm_th j) hx hb hret (fun t ht hW => ⟨_, rfl, rfl, ht⟩) (fun q h => by cases h) d_md_thrown_4
set_option maxHeartbeats 4000000 in
set_option maxRecDepth 100000 in
theorem c_md_digit (l : Launch) (D : va_G) (cs : Nat → ClassId) (ad : Nat → Nat) (sz : Nat) (u : Sg) (j : Jm) (n i : Int32) (hn : vp_in n 8) : Met l y_md_digit (Cond.code y_md_digit b_md_digit 3 (some .int) :: TB) { frames := 0, cells := 0, slots := 0, locals := 0 } (va_Pc [.ref (ad 0), .int n, .int i] (mw_Pre D cs ad u j sz)) (vp_Si (fun r => r = sp_dg (sg_im u n.toNatClampNeg) i)) 0 0 (fun _ => False) := by
  refine Met.ofW (cc := b_md_digit) (maxL := 3) (ret := (some .int)) (by decide) rfl ?_
  intro p e s m args below meth c s₁ B hml hv
  obtain ⟨rfl, hsz, hP, hK, hD, hN⟩ := hv
  have hx := B.exec
  have hb := B.bytes
  have hret := B.returns
  have hts := atoms_spec (ws := Cond.code y_md_digit b_md_digit 3 (some .int) :: TB) B.pre
  have hT : ∀ w ∈ TB, w.before _ s = true := fun w h => hts w (List.mem_cons_of_mem _ h)
  have hown : s.vm.findClass "MeasuredStagesModel" = some m.cls := findClass_of_methodNamed B.named
  have hlocks := B.notSynchronized
  subst hsz
  have hl := lv_entry ([.ref (ad 0), .int n, .int i]) (n := 3) (Nat.le_of_ble_eq_true rfl)
  rw [lg_entry_eq]
  generalize (lg_sl ([.ref (ad 0), .int n, .int i]) ++ List.replicate (3 - (lg_sl ([.ref (ad 0), .int n, .int i])).length) Slot.unset).toArray = ls at hl ⊢
  have hl : lv_has ls 3 [(0, .ref (ad 0)), (1, .int n), (2, .int i)] := hl
  refine lv_iload_n hx hb d_md_digit_0 rfl (lv_at hl 2 rfl) ?_
  refine lv_bipush (v := 16) hx hb d_md_digit_1 (by decide) ?_
  refine lv_icmp_ge hx hb d_md_digit_3 (tgt := 24) (by decide) (fun h1 => ?_) (fun h1 => ?_)
  · skip
    refine lv_iconst (v := 0) hx hb d_md_digit_24 (by decide) ?_
    exact W.iret (v := 0) hx hb hret (fun t ht hW => ⟨_, rfl, by show _ = sp_dg _ _; unfold sp_dg; rw [if_neg (Int32.not_lt.mpr h1)], ht⟩) (fun q h => by cases h) d_md_digit_25
  · skip
    refine lv_aload_n hx hb d_md_digit_6 rfl (lv_at hl 0 rfl) ?_
    refine va_get (D := D) (ci := 3) (v := .ref (ad 2)) (C := "MeasuredStagesModel") (T := F_md) (N := 19) hx hb hts (fun w h => List.mem_cons_of_mem _ (i_md w h)) hown hK hP 0 rfl rfl 1 (by decide) (hT _ tb_460) (fun _ h9 => h9) rfl d_md_digit_7 ?_
    refine lv_iload_n hx hb d_md_digit_10 rfl (lv_at hl 1 rfl) ?_
    refine va_lald hx hb hK hP 2 1 rfl rfl hn d_md_digit_11 ?_
    refine lv_iconst (v := 4) hx hb d_md_digit_12 (by decide) ?_
    refine lv_iload_n hx hb d_md_digit_13 rfl (lv_at hl 2 rfl) ?_
    refine lv_imul hx hb d_md_digit_14 ?_
    refine lv_lushr (v := sp_sh (sg_im u n.toNatClampNeg) ((4) * i)) hx hb d_md_digit_15 rfl ?_
    refine lv_ldc2 (v := 15) hx hb hown (hT _ tb_560) d_md_digit_16 ?_
    refine lv_land hx hb d_md_digit_19 ?_
    refine lv_l2i hx hb d_md_digit_20 rfl ?_
    refine lv_goto hx hb d_md_digit_21 (tgt := 25) (by decide) ?_
    exact W.iret (v := ((sp_sh (sg_im u n.toNatClampNeg) ((4) * i)) &&& (15)).toInt32) hx hb hret (fun t ht hW => ⟨_, rfl, by show _ = sp_dg _ _; unfold sp_dg; rw [if_pos (Int32.not_le.mp h1), sp_and], ht⟩) (fun q h => by cases h) d_md_digit_25
set_option maxHeartbeats 4000000 in
set_option maxRecDepth 100000 in
theorem c_md_digest (l : Launch) (D : va_G) (cs : Nat → ClassId) (ad : Nat → Nat) (sz : Nat) (u : Sg) (j : Jm) (n : Int32) (hn : vp_in n 8) : Met l y_md_digest (Cond.code y_md_digest b_md_digest 2 (some .long) :: TB) { frames := 1, cells := 0, slots := 0, locals := 25 } (va_Pc [.ref (ad 0), .int n] (mw_Pre D cs ad u j sz)) (vp_Sl (fun r => r = sp_di u n)) 0 0 (fun _ => False) := by
  refine Met.ofW (cc := b_md_digest) (maxL := 2) (ret := (some .long)) (by decide) rfl ?_
  intro p e s m args below meth c s₁ B hml hv
  obtain ⟨rfl, hsz, hP, hK, hD, hN⟩ := hv
  have hx := B.exec
  have hb := B.bytes
  have hret := B.returns
  have hts := atoms_spec (ws := Cond.code y_md_digest b_md_digest 2 (some .long) :: TB) B.pre
  have hT : ∀ w ∈ TB, w.before _ s = true := fun w h => hts w (List.mem_cons_of_mem _ h)
  have hown : s.vm.findClass "MeasuredStagesModel" = some m.cls := findClass_of_methodNamed B.named
  have hlocks := B.notSynchronized
  subst hsz
  have hl := lv_entry ([.ref (ad 0), .int n]) (n := 2) (Nat.le_of_ble_eq_true rfl)
  rw [lg_entry_eq]
  generalize (lg_sl ([.ref (ad 0), .int n]) ++ List.replicate (2 - (lg_sl ([.ref (ad 0), .int n])).length) Slot.unset).toArray = ls at hl ⊢
  have hl : lv_has ls 2 [(0, .ref (ad 0)), (1, .int n)] := hl
  refine lv_ldc2 (v := 5) hx hb hown (hT _ tb_533) d_md_digest_0 ?_
  refine lv_aload_n hx hb d_md_digest_3 rfl (lv_at hl 0 rfl) ?_
  refine va_get (D := D) (ci := 3) (v := .ref (ad 2)) (C := "MeasuredStagesModel") (T := F_md) (N := 19) hx hb hts (fun w h => List.mem_cons_of_mem _ (i_md w h)) hown hK hP 0 rfl rfl 1 (by decide) (hT _ tb_460) (fun _ h9 => h9) rfl d_md_digest_4 ?_
  refine lv_iload_n hx hb d_md_digest_7 rfl (lv_at hl 1 rfl) ?_
  refine va_lald hx hb hK hP 2 1 rfl rfl hn d_md_digest_8 ?_
  refine st_l (v := sp_h (5) (sg_im u n.toNatClampNeg)) (As := [.long (5), .long (sg_im u n.toNatClampNeg)]) (rest := []) ⟨hx, hb, hml, hown, hts⟩ (c_md_h l 5 (sg_im u n.toNatClampNeg)) tb_534 tb_535 tb_4 tb_536 hd_md_h ⟨Nat.le_of_ble_eq_true rfl, Nat.le_of_ble_eq_true rfl⟩ rfl rfl hl.1 rfl (Nat.le_of_ble_eq_true rfl) d_md_digest_9 ⟨Nat.zero_le _, Nat.zero_le _⟩ ?_
  exact W.lret (v := sp_h (5) (sg_im u n.toNatClampNeg)) hx hb hret (fun t ht hW => ⟨_, rfl, rfl, ht⟩) (fun q h => by cases h) d_md_digest_12
set_option maxHeartbeats 4000000 in
set_option maxRecDepth 100000 in
theorem c_md_policy (l : Launch) (D : va_G) (cs : Nat → ClassId) (ad : Nat → Nat) (sz : Nat) (u : Sg) (j : Jm) (mask : Int32)  : Met l y_md_policy (Cond.code y_md_policy b_md_policy 5 (some .long) :: TB) { frames := 1, cells := 0, slots := 0, locals := 25 } (va_Pc [.ref (ad 0), .int mask] (mw_Pre D cs ad u j sz)) (vp_Sl (fun r => r = sp_po u mask)) 0 0 (fun _ => False) := by
  refine Met.ofW (cc := b_md_policy) (maxL := 5) (ret := (some .long)) (by decide) rfl ?_
  intro p e s m args below meth c s₁ B hml hv
  obtain ⟨rfl, hsz, hP, hK, hD, hN⟩ := hv
  have hx := B.exec
  have hb := B.bytes
  have hret := B.returns
  have hts := atoms_spec (ws := Cond.code y_md_policy b_md_policy 5 (some .long) :: TB) B.pre
  have hT : ∀ w ∈ TB, w.before _ s = true := fun w h => hts w (List.mem_cons_of_mem _ h)
  have hown : s.vm.findClass "MeasuredStagesModel" = some m.cls := findClass_of_methodNamed B.named
  have hlocks := B.notSynchronized
  subst hsz
  have hl := lv_entry ([.ref (ad 0), .int mask]) (n := 5) (Nat.le_of_ble_eq_true rfl)
  rw [lg_entry_eq]
  generalize (lg_sl ([.ref (ad 0), .int mask]) ++ List.replicate (5 - (lg_sl ([.ref (ad 0), .int mask])).length) Slot.unset).toArray = ls at hl ⊢
  have hl : lv_has ls 5 [(0, .ref (ad 0)), (1, .int mask)] := hl
  refine lv_ldc2 (v := 9) hx hb hown (hT _ tb_569) d_md_policy_0 ?_
  refine lv_iload_n hx hb d_md_policy_3 rfl (lv_at hl 1 rfl) ?_
  refine lv_i2l hx hb d_md_policy_4 rfl ?_
  refine st_l (v := sp_h (9) (mask.toInt64)) (As := [.long (9), .long (mask.toInt64)]) (rest := []) ⟨hx, hb, hml, hown, hts⟩ (c_md_h l 9 (mask.toInt64)) tb_534 tb_535 tb_4 tb_536 hd_md_h ⟨Nat.le_of_ble_eq_true rfl, Nat.le_of_ble_eq_true rfl⟩ rfl rfl hl.1 rfl (Nat.le_of_ble_eq_true rfl) d_md_policy_5 ⟨Nat.zero_le _, Nat.zero_le _⟩ ?_
  refine lv_lstore_n (nL := 5) (lv' := [(2, .long (sp_h (9) (mask.toInt64))), (0, .ref (ad 0)), (1, .int mask)]) hx hb d_md_policy_8 rfl hl (by decide) rfl (fun ls hl => ?_)
  refine lv_iconst (v := 0) hx hb d_md_policy_9 (by decide) ?_
  refine lv_istore (nL := 5) (lv' := [(4, .int (0)), (2, .long (sp_h (9) (mask.toInt64))), (0, .ref (ad 0)), (1, .int mask)]) hx hb d_md_policy_10 hl (by decide) rfl (fun ls hl => ?_)
  refine wl_up (α := Unit) 6 (fun r H1 L1 ls _ => H1 = s.heap ∧ L1 = [] ∧ lv_has ls 5 [(4, .int (nI r)), (2, .long (sp_pl (sg_he u) mask r)), (0, .ref (ad 0)), (1, .int mask)]) 12 ?_ ?_ 0 _ _ ls () (Nat.zero_le _) ⟨rfl, rfl, lv_sub hl [0, 1, 2, 3] rfl⟩
  · intro H1 L1 ls _ hI
    obtain ⟨rfl, rfl, hl⟩ := hI
    refine lv_iload hx hb d_md_policy_12 (lv_at hl 0 rfl) ?_
    refine lv_bipush (v := 6) hx hb d_md_policy_14 (by decide) ?_
    refine lv_icmp_ge hx hb d_md_policy_16 (tgt := 51) (by decide) (fun _ => ?_) (fun z => absurd (by decide) z)
    refine lv_lload_n hx hb d_md_policy_51 rfl (lv_at hl 1 rfl) ?_
    exact W.lret (v := sp_pl (sg_he u) mask (6)) hx hb hret (fun t ht hW => ⟨_, rfl, rfl, ht⟩) (fun q h => by cases h) d_md_policy_52
  · intro r H1 L1 ls _ hr hI ih
    obtain ⟨rfl, rfl, hl⟩ := hI
    refine lv_iload hx hb d_md_policy_12 (lv_at hl 0 rfl) ?_
    refine lv_bipush (v := 6) hx hb d_md_policy_14 (by decide) ?_
    refine lv_icmp_ge hx hb d_md_policy_16 (tgt := 51) (by decide) (fun z => absurd z (nI_ge hr (by decide))) (fun _ => ?_)
    refine lv_iload_n hx hb d_md_policy_19 rfl (lv_at hl 3 rfl) ?_
    refine lv_iload hx hb d_md_policy_20 (lv_at hl 0 rfl) ?_
    refine lv_ishr hx hb d_md_policy_22 ?_
    refine lv_iconst (v := 1) hx hb d_md_policy_23 (by decide) ?_
    refine lv_iand hx hb d_md_policy_24 ?_
    refine lv_iconst (v := 1) hx hb d_md_policy_25 (by decide) ?_
    refine lv_icmp_ne hx hb d_md_policy_26 (tgt := 43) (by decide) (fun h1 => ?_) (fun h1 => ?_)
    · skip
      refine lv_lload_n hx hb d_md_policy_43 rfl (lv_at hl 1 rfl) ?_
      refine lv_lstore_n (nL := 5) (lv' := [(2, .long (sp_pl (sg_he u) mask r)), (4, .int (nI r)), (0, .ref (ad 0)), (1, .int mask)]) hx hb d_md_policy_44 rfl hl (by decide) rfl (fun ls hl => ?_)
      refine lv_iinc (nL := 5) (k := 1) (v := nI (r + 1)) (lv' := [(4, .int (nI (r + 1))), (2, .long (sp_pl (sg_he u) mask r)), (0, .ref (ad 0)), (1, .int mask)]) hx hb d_md_policy_45 hl rfl ((nI_succ r).symm) (by decide) rfl (fun ls hl => ?_)
      refine lv_goto hx hb d_md_policy_48 (tgt := 12) (by decide) ?_
      have e9 : sp_pl (sg_he u) mask (r + 1) = sp_pl (sg_he u) mask r := by
        show (if _ then _ else _) = _
        rw [if_neg h1]
      rw [← e9] at hl
      exact ih _ _ ls () ⟨rfl, rfl, lv_sub hl [0, 1, 2, 3] rfl⟩
    · skip
      refine lv_lload_n hx hb d_md_policy_29 rfl (lv_at hl 1 rfl) ?_
      refine lv_aload_n hx hb d_md_policy_30 rfl (lv_at hl 2 rfl) ?_
      refine va_get (D := D) (ci := 3) (v := .ref (ad 1)) (C := "MeasuredStagesModel") (T := F_md) (N := 19) hx hb hts (fun w h => List.mem_cons_of_mem _ (i_md w h)) hown hK hP 0 rfl rfl 0 (by decide) (hT _ tb_459) (fun _ h9 => h9) rfl d_md_policy_31 ?_
      refine lv_iload hx hb d_md_policy_34 (lv_at hl 0 rfl) ?_
      refine va_lald hx hb hK hP 1 0 rfl rfl (vp_in_nI hr (by decide)) d_md_policy_36 ?_
      refine st_l (v := sp_h (sp_pl (sg_he u) mask r) (sg_he u (nI r).toNatClampNeg)) (As := [.long (sp_pl (sg_he u) mask r), .long (sg_he u (nI r).toNatClampNeg)]) (rest := []) ⟨hx, hb, hml, hown, hts⟩ (c_md_h l (sp_pl (sg_he u) mask r) (sg_he u (nI r).toNatClampNeg)) tb_534 tb_535 tb_4 tb_536 hd_md_h ⟨Nat.le_of_ble_eq_true rfl, Nat.le_of_ble_eq_true rfl⟩ rfl rfl hl.1 rfl (Nat.le_of_ble_eq_true rfl) d_md_policy_37 ⟨Nat.zero_le _, Nat.zero_le _⟩ ?_
      refine lv_goto hx hb d_md_policy_40 (tgt := 44) (by decide) ?_
      refine lv_lstore_n (nL := 5) (lv' := [(2, .long (sp_h (sp_pl (sg_he u) mask r) (sg_he u (nI r).toNatClampNeg))), (4, .int (nI r)), (0, .ref (ad 0)), (1, .int mask)]) hx hb d_md_policy_44 rfl hl (by decide) rfl (fun ls hl => ?_)
      refine lv_iinc (nL := 5) (k := 1) (v := nI (r + 1)) (lv' := [(4, .int (nI (r + 1))), (2, .long (sp_h (sp_pl (sg_he u) mask r) (sg_he u (nI r).toNatClampNeg))), (0, .ref (ad 0)), (1, .int mask)]) hx hb d_md_policy_45 hl rfl ((nI_succ r).symm) (by decide) rfl (fun ls hl => ?_)
      refine lv_goto hx hb d_md_policy_48 (tgt := 12) (by decide) ?_
      have e9 : sp_pl (sg_he u) mask (r + 1) = sp_h (sp_pl (sg_he u) mask r) (sg_he u (nI r).toNatClampNeg) := by
        show (if _ then _ else _) = _
        rw [if_pos h1, nI_clamp (by omega)]
      rw [← e9] at hl
      exact ih _ _ ls () ⟨rfl, rfl, lv_sub hl [0, 1, 2, 3] rfl⟩
set_option maxHeartbeats 4000000 in
set_option maxRecDepth 100000 in
theorem c_md_freeBlob (l : Launch) (D : va_G) (cs : Nat → ClassId) (ad : Nat → Nat) (sz : Nat) (u : Sg) (j : Jm)   : Met l y_md_freeBlob (Cond.code y_md_freeBlob b_md_freeBlob 2 (some .int) :: TB) { frames := 0, cells := 0, slots := 0, locals := 0 } (va_Pc [.ref (ad 0)] (mw_Pre D cs ad u j sz)) (vp_Si (fun r => r = sp_lf (sg_ma u))) 0 0 (fun _ => False) := by
  refine Met.ofW (cc := b_md_freeBlob) (maxL := 2) (ret := (some .int)) (by decide) rfl ?_
  intro p e s m args below meth c s₁ B hml hv
  obtain ⟨rfl, hsz, hP, hK, hD, hN⟩ := hv
  have hx := B.exec
  have hb := B.bytes
  have hret := B.returns
  have hts := atoms_spec (ws := Cond.code y_md_freeBlob b_md_freeBlob 2 (some .int) :: TB) B.pre
  have hT : ∀ w ∈ TB, w.before _ s = true := fun w h => hts w (List.mem_cons_of_mem _ h)
  have hown : s.vm.findClass "MeasuredStagesModel" = some m.cls := findClass_of_methodNamed B.named
  have hlocks := B.notSynchronized
  subst hsz
  have hl := lv_entry ([.ref (ad 0)]) (n := 2) (Nat.le_of_ble_eq_true rfl)
  rw [lg_entry_eq]
  generalize (lg_sl ([.ref (ad 0)]) ++ List.replicate (2 - (lg_sl ([.ref (ad 0)])).length) Slot.unset).toArray = ls at hl ⊢
  have hl : lv_has ls 2 [(0, .ref (ad 0))] := hl
  refine lv_iconst (v := 0) hx hb d_md_freeBlob_0 (by decide) ?_
  refine lv_istore_n (nL := 2) (lv' := [(1, .int (0)), (0, .ref (ad 0))]) hx hb d_md_freeBlob_1 rfl hl (by decide) rfl (fun ls hl => ?_)
  refine lv_iload_n hx hb d_md_freeBlob_2 rfl (lv_at hl 0 rfl) ?_
  refine lv_bipush (v := 8) hx hb d_md_freeBlob_3 (by decide) ?_
  refine lv_icmp_ge hx hb d_md_freeBlob_5 (tgt := 25) (by decide) (fun z => absurd z (by decide)) (fun _ => ?_)
  refine lv_aload_n hx hb d_md_freeBlob_8 rfl (lv_at hl 1 rfl) ?_
  refine va_get (D := D) (ci := 3) (v := .ref (ad 5)) (C := "MeasuredStagesModel") (T := F_md) (N := 19) hx hb hts (fun w h => List.mem_cons_of_mem _ (i_md w h)) hown hK hP 0 rfl rfl 4 (by decide) (hT _ tb_463) (fun _ h9 => h9) rfl d_md_freeBlob_9 ?_
  refine lv_iload_n hx hb d_md_freeBlob_12 rfl (lv_at hl 0 rfl) ?_
  refine va_iald hx hb hK hP 5 4 rfl rfl (by unfold vp_in; decide) d_md_freeBlob_13 ?_
  refine lv_if_ne hx hb d_md_freeBlob_14 (tgt := 19) (by decide) (fun h1 => ?_) (fun h1 => ?_)
  · skip
    refine lv_iinc (nL := 2) (k := 0) (v := 1) (lv' := [(1, .int (1)), (0, .ref (ad 0))]) hx hb d_md_freeBlob_19 hl rfl (by decide) (by decide) rfl (fun ls hl => ?_)
    refine lv_goto hx hb d_md_freeBlob_22 (tgt := 2) (by decide) ?_
    refine lv_iload_n hx hb d_md_freeBlob_2 rfl (lv_at hl 0 rfl) ?_
    refine lv_bipush (v := 8) hx hb d_md_freeBlob_3 (by decide) ?_
    refine lv_icmp_ge hx hb d_md_freeBlob_5 (tgt := 25) (by decide) (fun z => absurd z (by decide)) (fun _ => ?_)
    refine lv_aload_n hx hb d_md_freeBlob_8 rfl (lv_at hl 1 rfl) ?_
    refine va_get (D := D) (ci := 3) (v := .ref (ad 5)) (C := "MeasuredStagesModel") (T := F_md) (N := 19) hx hb hts (fun w h => List.mem_cons_of_mem _ (i_md w h)) hown hK hP 0 rfl rfl 4 (by decide) (hT _ tb_463) (fun _ h9 => h9) rfl d_md_freeBlob_9 ?_
    refine lv_iload_n hx hb d_md_freeBlob_12 rfl (lv_at hl 0 rfl) ?_
    refine va_iald hx hb hK hP 5 4 rfl rfl (by unfold vp_in; decide) d_md_freeBlob_13 ?_
    refine lv_if_ne hx hb d_md_freeBlob_14 (tgt := 19) (by decide) (fun h2 => ?_) (fun h2 => ?_)
    · skip
      refine lv_iinc (nL := 2) (k := 0) (v := 2) (lv' := [(1, .int (2)), (0, .ref (ad 0))]) hx hb d_md_freeBlob_19 hl rfl (by decide) (by decide) rfl (fun ls hl => ?_)
      refine lv_goto hx hb d_md_freeBlob_22 (tgt := 2) (by decide) ?_
      refine lv_iload_n hx hb d_md_freeBlob_2 rfl (lv_at hl 0 rfl) ?_
      refine lv_bipush (v := 8) hx hb d_md_freeBlob_3 (by decide) ?_
      refine lv_icmp_ge hx hb d_md_freeBlob_5 (tgt := 25) (by decide) (fun z => absurd z (by decide)) (fun _ => ?_)
      refine lv_aload_n hx hb d_md_freeBlob_8 rfl (lv_at hl 1 rfl) ?_
      refine va_get (D := D) (ci := 3) (v := .ref (ad 5)) (C := "MeasuredStagesModel") (T := F_md) (N := 19) hx hb hts (fun w h => List.mem_cons_of_mem _ (i_md w h)) hown hK hP 0 rfl rfl 4 (by decide) (hT _ tb_463) (fun _ h9 => h9) rfl d_md_freeBlob_9 ?_
      refine lv_iload_n hx hb d_md_freeBlob_12 rfl (lv_at hl 0 rfl) ?_
      refine va_iald hx hb hK hP 5 4 rfl rfl (by unfold vp_in; decide) d_md_freeBlob_13 ?_
      refine lv_if_ne hx hb d_md_freeBlob_14 (tgt := 19) (by decide) (fun h3 => ?_) (fun h3 => ?_)
      · skip
        refine lv_iinc (nL := 2) (k := 0) (v := 3) (lv' := [(1, .int (3)), (0, .ref (ad 0))]) hx hb d_md_freeBlob_19 hl rfl (by decide) (by decide) rfl (fun ls hl => ?_)
        refine lv_goto hx hb d_md_freeBlob_22 (tgt := 2) (by decide) ?_
        refine lv_iload_n hx hb d_md_freeBlob_2 rfl (lv_at hl 0 rfl) ?_
        refine lv_bipush (v := 8) hx hb d_md_freeBlob_3 (by decide) ?_
        refine lv_icmp_ge hx hb d_md_freeBlob_5 (tgt := 25) (by decide) (fun z => absurd z (by decide)) (fun _ => ?_)
        refine lv_aload_n hx hb d_md_freeBlob_8 rfl (lv_at hl 1 rfl) ?_
        refine va_get (D := D) (ci := 3) (v := .ref (ad 5)) (C := "MeasuredStagesModel") (T := F_md) (N := 19) hx hb hts (fun w h => List.mem_cons_of_mem _ (i_md w h)) hown hK hP 0 rfl rfl 4 (by decide) (hT _ tb_463) (fun _ h9 => h9) rfl d_md_freeBlob_9 ?_
        refine lv_iload_n hx hb d_md_freeBlob_12 rfl (lv_at hl 0 rfl) ?_
        refine va_iald hx hb hK hP 5 4 rfl rfl (by unfold vp_in; decide) d_md_freeBlob_13 ?_
        refine lv_if_ne hx hb d_md_freeBlob_14 (tgt := 19) (by decide) (fun h4 => ?_) (fun h4 => ?_)
        · skip
          refine lv_iinc (nL := 2) (k := 0) (v := 4) (lv' := [(1, .int (4)), (0, .ref (ad 0))]) hx hb d_md_freeBlob_19 hl rfl (by decide) (by decide) rfl (fun ls hl => ?_)
          refine lv_goto hx hb d_md_freeBlob_22 (tgt := 2) (by decide) ?_
          refine lv_iload_n hx hb d_md_freeBlob_2 rfl (lv_at hl 0 rfl) ?_
          refine lv_bipush (v := 8) hx hb d_md_freeBlob_3 (by decide) ?_
          refine lv_icmp_ge hx hb d_md_freeBlob_5 (tgt := 25) (by decide) (fun z => absurd z (by decide)) (fun _ => ?_)
          refine lv_aload_n hx hb d_md_freeBlob_8 rfl (lv_at hl 1 rfl) ?_
          refine va_get (D := D) (ci := 3) (v := .ref (ad 5)) (C := "MeasuredStagesModel") (T := F_md) (N := 19) hx hb hts (fun w h => List.mem_cons_of_mem _ (i_md w h)) hown hK hP 0 rfl rfl 4 (by decide) (hT _ tb_463) (fun _ h9 => h9) rfl d_md_freeBlob_9 ?_
          refine lv_iload_n hx hb d_md_freeBlob_12 rfl (lv_at hl 0 rfl) ?_
          refine va_iald hx hb hK hP 5 4 rfl rfl (by unfold vp_in; decide) d_md_freeBlob_13 ?_
          refine lv_if_ne hx hb d_md_freeBlob_14 (tgt := 19) (by decide) (fun h5 => ?_) (fun h5 => ?_)
          · skip
            refine lv_iinc (nL := 2) (k := 0) (v := 5) (lv' := [(1, .int (5)), (0, .ref (ad 0))]) hx hb d_md_freeBlob_19 hl rfl (by decide) (by decide) rfl (fun ls hl => ?_)
            refine lv_goto hx hb d_md_freeBlob_22 (tgt := 2) (by decide) ?_
            refine lv_iload_n hx hb d_md_freeBlob_2 rfl (lv_at hl 0 rfl) ?_
            refine lv_bipush (v := 8) hx hb d_md_freeBlob_3 (by decide) ?_
            refine lv_icmp_ge hx hb d_md_freeBlob_5 (tgt := 25) (by decide) (fun z => absurd z (by decide)) (fun _ => ?_)
            refine lv_aload_n hx hb d_md_freeBlob_8 rfl (lv_at hl 1 rfl) ?_
            refine va_get (D := D) (ci := 3) (v := .ref (ad 5)) (C := "MeasuredStagesModel") (T := F_md) (N := 19) hx hb hts (fun w h => List.mem_cons_of_mem _ (i_md w h)) hown hK hP 0 rfl rfl 4 (by decide) (hT _ tb_463) (fun _ h9 => h9) rfl d_md_freeBlob_9 ?_
            refine lv_iload_n hx hb d_md_freeBlob_12 rfl (lv_at hl 0 rfl) ?_
            refine va_iald hx hb hK hP 5 4 rfl rfl (by unfold vp_in; decide) d_md_freeBlob_13 ?_
            refine lv_if_ne hx hb d_md_freeBlob_14 (tgt := 19) (by decide) (fun h6 => ?_) (fun h6 => ?_)
            · skip
              refine lv_iinc (nL := 2) (k := 0) (v := 6) (lv' := [(1, .int (6)), (0, .ref (ad 0))]) hx hb d_md_freeBlob_19 hl rfl (by decide) (by decide) rfl (fun ls hl => ?_)
              refine lv_goto hx hb d_md_freeBlob_22 (tgt := 2) (by decide) ?_
              refine lv_iload_n hx hb d_md_freeBlob_2 rfl (lv_at hl 0 rfl) ?_
              refine lv_bipush (v := 8) hx hb d_md_freeBlob_3 (by decide) ?_
              refine lv_icmp_ge hx hb d_md_freeBlob_5 (tgt := 25) (by decide) (fun z => absurd z (by decide)) (fun _ => ?_)
              refine lv_aload_n hx hb d_md_freeBlob_8 rfl (lv_at hl 1 rfl) ?_
              refine va_get (D := D) (ci := 3) (v := .ref (ad 5)) (C := "MeasuredStagesModel") (T := F_md) (N := 19) hx hb hts (fun w h => List.mem_cons_of_mem _ (i_md w h)) hown hK hP 0 rfl rfl 4 (by decide) (hT _ tb_463) (fun _ h9 => h9) rfl d_md_freeBlob_9 ?_
              refine lv_iload_n hx hb d_md_freeBlob_12 rfl (lv_at hl 0 rfl) ?_
              refine va_iald hx hb hK hP 5 4 rfl rfl (by unfold vp_in; decide) d_md_freeBlob_13 ?_
              refine lv_if_ne hx hb d_md_freeBlob_14 (tgt := 19) (by decide) (fun h7 => ?_) (fun h7 => ?_)
              · skip
                refine lv_iinc (nL := 2) (k := 0) (v := 7) (lv' := [(1, .int (7)), (0, .ref (ad 0))]) hx hb d_md_freeBlob_19 hl rfl (by decide) (by decide) rfl (fun ls hl => ?_)
                refine lv_goto hx hb d_md_freeBlob_22 (tgt := 2) (by decide) ?_
                refine lv_iload_n hx hb d_md_freeBlob_2 rfl (lv_at hl 0 rfl) ?_
                refine lv_bipush (v := 8) hx hb d_md_freeBlob_3 (by decide) ?_
                refine lv_icmp_ge hx hb d_md_freeBlob_5 (tgt := 25) (by decide) (fun z => absurd z (by decide)) (fun _ => ?_)
                refine lv_aload_n hx hb d_md_freeBlob_8 rfl (lv_at hl 1 rfl) ?_
                refine va_get (D := D) (ci := 3) (v := .ref (ad 5)) (C := "MeasuredStagesModel") (T := F_md) (N := 19) hx hb hts (fun w h => List.mem_cons_of_mem _ (i_md w h)) hown hK hP 0 rfl rfl 4 (by decide) (hT _ tb_463) (fun _ h9 => h9) rfl d_md_freeBlob_9 ?_
                refine lv_iload_n hx hb d_md_freeBlob_12 rfl (lv_at hl 0 rfl) ?_
                refine va_iald hx hb hK hP 5 4 rfl rfl (by unfold vp_in; decide) d_md_freeBlob_13 ?_
                refine lv_if_ne hx hb d_md_freeBlob_14 (tgt := 19) (by decide) (fun h8 => ?_) (fun h8 => ?_)
                · skip
                  refine lv_iinc (nL := 2) (k := 0) (v := 8) (lv' := [(1, .int (8)), (0, .ref (ad 0))]) hx hb d_md_freeBlob_19 hl rfl (by decide) (by decide) rfl (fun ls hl => ?_)
                  refine lv_goto hx hb d_md_freeBlob_22 (tgt := 2) (by decide) ?_
                  refine lv_iload_n hx hb d_md_freeBlob_2 rfl (lv_at hl 0 rfl) ?_
                  refine lv_bipush (v := 8) hx hb d_md_freeBlob_3 (by decide) ?_
                  refine lv_icmp_ge hx hb d_md_freeBlob_5 (tgt := 25) (by decide) (fun _ => ?_) (fun z => absurd (by decide) z)
                  refine lv_iconst (v := (-1)) hx hb d_md_freeBlob_25 (by decide) ?_
                  exact W.iret (v := (-1)) hx hb hret (fun t ht hW => ⟨_, rfl, by show _ = sp_lf _; unfold sp_lf; rw [if_neg (show ¬ sg_ma u 0 = 0 from h1), if_neg (show ¬ sg_ma u 1 = 0 from h2), if_neg (show ¬ sg_ma u 2 = 0 from h3), if_neg (show ¬ sg_ma u 3 = 0 from h4), if_neg (show ¬ sg_ma u 4 = 0 from h5), if_neg (show ¬ sg_ma u 5 = 0 from h6), if_neg (show ¬ sg_ma u 6 = 0 from h7), if_neg (show ¬ sg_ma u 7 = 0 from h8)], ht⟩) (fun q h => by cases h) d_md_freeBlob_26
                · skip
                  refine lv_iload_n hx hb d_md_freeBlob_17 rfl (lv_at hl 0 rfl) ?_
                  exact W.iret (v := 7) hx hb hret (fun t ht hW => ⟨_, rfl, by show _ = sp_lf _; unfold sp_lf; rw [if_neg (show ¬ sg_ma u 0 = 0 from h1), if_neg (show ¬ sg_ma u 1 = 0 from h2), if_neg (show ¬ sg_ma u 2 = 0 from h3), if_neg (show ¬ sg_ma u 3 = 0 from h4), if_neg (show ¬ sg_ma u 4 = 0 from h5), if_neg (show ¬ sg_ma u 5 = 0 from h6), if_neg (show ¬ sg_ma u 6 = 0 from h7), if_pos (show sg_ma u 7 = 0 from h8)], ht⟩) (fun q h => by cases h) d_md_freeBlob_18
              · skip
                refine lv_iload_n hx hb d_md_freeBlob_17 rfl (lv_at hl 0 rfl) ?_
                exact W.iret (v := 6) hx hb hret (fun t ht hW => ⟨_, rfl, by show _ = sp_lf _; unfold sp_lf; rw [if_neg (show ¬ sg_ma u 0 = 0 from h1), if_neg (show ¬ sg_ma u 1 = 0 from h2), if_neg (show ¬ sg_ma u 2 = 0 from h3), if_neg (show ¬ sg_ma u 3 = 0 from h4), if_neg (show ¬ sg_ma u 4 = 0 from h5), if_neg (show ¬ sg_ma u 5 = 0 from h6), if_pos (show sg_ma u 6 = 0 from h7)], ht⟩) (fun q h => by cases h) d_md_freeBlob_18
            · skip
              refine lv_iload_n hx hb d_md_freeBlob_17 rfl (lv_at hl 0 rfl) ?_
              exact W.iret (v := 5) hx hb hret (fun t ht hW => ⟨_, rfl, by show _ = sp_lf _; unfold sp_lf; rw [if_neg (show ¬ sg_ma u 0 = 0 from h1), if_neg (show ¬ sg_ma u 1 = 0 from h2), if_neg (show ¬ sg_ma u 2 = 0 from h3), if_neg (show ¬ sg_ma u 3 = 0 from h4), if_neg (show ¬ sg_ma u 4 = 0 from h5), if_pos (show sg_ma u 5 = 0 from h6)], ht⟩) (fun q h => by cases h) d_md_freeBlob_18
          · skip
            refine lv_iload_n hx hb d_md_freeBlob_17 rfl (lv_at hl 0 rfl) ?_
            exact W.iret (v := 4) hx hb hret (fun t ht hW => ⟨_, rfl, by show _ = sp_lf _; unfold sp_lf; rw [if_neg (show ¬ sg_ma u 0 = 0 from h1), if_neg (show ¬ sg_ma u 1 = 0 from h2), if_neg (show ¬ sg_ma u 2 = 0 from h3), if_neg (show ¬ sg_ma u 3 = 0 from h4), if_pos (show sg_ma u 4 = 0 from h5)], ht⟩) (fun q h => by cases h) d_md_freeBlob_18
        · skip
          refine lv_iload_n hx hb d_md_freeBlob_17 rfl (lv_at hl 0 rfl) ?_
          exact W.iret (v := 3) hx hb hret (fun t ht hW => ⟨_, rfl, by show _ = sp_lf _; unfold sp_lf; rw [if_neg (show ¬ sg_ma u 0 = 0 from h1), if_neg (show ¬ sg_ma u 1 = 0 from h2), if_neg (show ¬ sg_ma u 2 = 0 from h3), if_pos (show sg_ma u 3 = 0 from h4)], ht⟩) (fun q h => by cases h) d_md_freeBlob_18
      · skip
        refine lv_iload_n hx hb d_md_freeBlob_17 rfl (lv_at hl 0 rfl) ?_
        exact W.iret (v := 2) hx hb hret (fun t ht hW => ⟨_, rfl, by show _ = sp_lf _; unfold sp_lf; rw [if_neg (show ¬ sg_ma u 0 = 0 from h1), if_neg (show ¬ sg_ma u 1 = 0 from h2), if_pos (show sg_ma u 2 = 0 from h3)], ht⟩) (fun q h => by cases h) d_md_freeBlob_18
    · skip
      refine lv_iload_n hx hb d_md_freeBlob_17 rfl (lv_at hl 0 rfl) ?_
      exact W.iret (v := 1) hx hb hret (fun t ht hW => ⟨_, rfl, by show _ = sp_lf _; unfold sp_lf; rw [if_neg (show ¬ sg_ma u 0 = 0 from h1), if_pos (show sg_ma u 1 = 0 from h2)], ht⟩) (fun q h => by cases h) d_md_freeBlob_18
  · skip
    refine lv_iload_n hx hb d_md_freeBlob_17 rfl (lv_at hl 0 rfl) ?_
    exact W.iret (v := 0) hx hb hret (fun t ht hW => ⟨_, rfl, by show _ = sp_lf _; unfold sp_lf; rw [if_pos (show sg_ma u 0 = 0 from h1)], ht⟩) (fun q h => by cases h) d_md_freeBlob_18
set_option maxHeartbeats 4000000 in
set_option maxRecDepth 100000 in
theorem c_md_faultOf (l : Launch) (D : va_G) (cs : Nat → ClassId) (ad : Nat → Nat) (sz : Nat) (u : Sg) (j : Jm) (code x d : Int32) (hk : vp_in (sp_rm x 8) 8) : Met l y_md_faultOf (Cond.code y_md_faultOf b_md_faultOf 5 (some .int) :: TB) { frames := 2, cells := 0, slots := 0, locals := 49 } (va_Pc [.ref (ad 0), .int code, .int x, .int d] (mw_Pre D cs ad u j sz)) (vp_Si (fun r => r = sp_fo u code x d)) 0 0 (fun _ => False) := by
  refine Met.ofW (cc := b_md_faultOf) (maxL := 5) (ret := (some .int)) (by decide) rfl ?_
  intro p e s m args below meth c s₁ B hml hv
  obtain ⟨rfl, hsz, hP, hK, hD, hN⟩ := hv
  have hx := B.exec
  have hb := B.bytes
  have hret := B.returns
  have hts := atoms_spec (ws := Cond.code y_md_faultOf b_md_faultOf 5 (some .int) :: TB) B.pre
  have hT : ∀ w ∈ TB, w.before _ s = true := fun w h => hts w (List.mem_cons_of_mem _ h)
  have hown : s.vm.findClass "MeasuredStagesModel" = some m.cls := findClass_of_methodNamed B.named
  have hlocks := B.notSynchronized
  subst hsz
  have hl := lv_entry ([.ref (ad 0), .int code, .int x, .int d]) (n := 5) (Nat.le_of_ble_eq_true rfl)
  rw [lg_entry_eq]
  generalize (lg_sl ([.ref (ad 0), .int code, .int x, .int d]) ++ List.replicate (5 - (lg_sl ([.ref (ad 0), .int code, .int x, .int d])).length) Slot.unset).toArray = ls at hl ⊢
  have hl : lv_has ls 5 [(0, .ref (ad 0)), (1, .int code), (2, .int x), (3, .int d)] := hl
  refine lv_iload_n hx hb d_md_faultOf_0 rfl (lv_at hl 2 rfl) ?_
  refine lv_bipush (v := 8) hx hb d_md_faultOf_1 (by decide) ?_
  refine lv_irem hx hb d_md_faultOf_3 (by decide) ?_
  refine lv_istore (nL := 5) (lv' := [(4, .int (sp_rm x (8))), (0, .ref (ad 0)), (1, .int code), (2, .int x), (3, .int d)]) hx hb d_md_faultOf_4 hl (by decide) rfl (fun ls hl => ?_)
  refine lv_iload_n hx hb d_md_faultOf_6 rfl (lv_at hl 2 rfl) ?_
  refine lv_bipush (v := 8) hx hb d_md_faultOf_7 (by decide) ?_
  refine lv_icmp_le hx hb d_md_faultOf_9 (tgt := 14) (by decide) (fun h1 => ?_) (fun h1 => ?_)
  · skip
    refine lv_iload_n hx hb d_md_faultOf_14 rfl (lv_at hl 2 rfl) ?_
    refine lv_iconst (v := 1) hx hb d_md_faultOf_15 (by decide) ?_
    refine lv_icmp_ne hx hb d_md_faultOf_16 (tgt := 26) (by decide) (fun h2 => ?_) (fun h2 => ?_)
    · skip
      refine lv_iload_n hx hb d_md_faultOf_26 rfl (lv_at hl 2 rfl) ?_
      refine lv_iconst (v := 3) hx hb d_md_faultOf_27 (by decide) ?_
      refine lv_icmp_ne hx hb d_md_faultOf_28 (tgt := 64) (by decide) (fun h3 => ?_) (fun h3 => ?_)
      · skip
        refine lv_iload_n hx hb d_md_faultOf_64 rfl (lv_at hl 2 rfl) ?_
        refine lv_iconst (v := 4) hx hb d_md_faultOf_65 (by decide) ?_
        refine lv_icmp_ne hx hb d_md_faultOf_66 (tgt := 113) (by decide) (fun h4 => ?_) (fun h4 => ?_)
        · skip
          refine lv_iload_n hx hb d_md_faultOf_113 rfl (lv_at hl 2 rfl) ?_
          refine lv_bipush (v := 8) hx hb d_md_faultOf_114 (by decide) ?_
          refine lv_icmp_ne hx hb d_md_faultOf_116 (tgt := 133) (by decide) (fun h5 => ?_) (fun h5 => ?_)
          · skip
            refine lv_iload_n hx hb d_md_faultOf_133 rfl (lv_at hl 2 rfl) ?_
            refine lv_iconst (v := 1) hx hb d_md_faultOf_134 (by decide) ?_
            refine lv_icmp_eq hx hb d_md_faultOf_135 (tgt := 149) (by decide) (fun z => absurd z h2) (fun _ => ?_)
            refine lv_iload_n hx hb d_md_faultOf_138 rfl (lv_at hl 2 rfl) ?_
            refine lv_iconst (v := 2) hx hb d_md_faultOf_139 (by decide) ?_
            refine lv_icmp_eq hx hb d_md_faultOf_140 (tgt := 149) (by decide) (fun h6 => ?_) (fun h6 => ?_)
            · skip
              refine lv_aload_n hx hb d_md_faultOf_149 rfl (lv_at hl 1 rfl) ?_
              refine va_get (D := D) (ci := 3) (v := .int (sg_en u)) (C := "MeasuredStagesModel") (T := F_md) (N := 19) hx hb hts (fun w h => List.mem_cons_of_mem _ (i_md w h)) hown hK hP 0 rfl rfl 7 (by decide) (hT _ tb_466) (fun _ h9 => h9) rfl d_md_faultOf_150 ?_
              refine lv_bipush (v := 32) hx hb d_md_faultOf_153 (by decide) ?_
              refine lv_icmp_ne hx hb d_md_faultOf_155 (tgt := 162) (by decide) (fun h7 => ?_) (fun h7 => ?_)
              · skip
                refine lv_iconst (v := 0) hx hb d_md_faultOf_162 (by decide) ?_
                exact W.iret (v := 0) hx hb hret (fun t ht hW => ⟨_, rfl, by simp [sp_fo, h1, h2, h3, h4, h5, h6, h7], ht⟩) (fun q h => by cases h) d_md_faultOf_163
              · skip
                refine lv_iconst (v := 4) hx hb d_md_faultOf_158 (by decide) ?_
                refine lv_goto hx hb d_md_faultOf_159 (tgt := 163) (by decide) ?_
                exact W.iret (v := 4) hx hb hret (fun t ht hW => ⟨_, rfl, by simp [sp_fo, h1, h2, h3, h4, h5, h6, h7], ht⟩) (fun q h => by cases h) d_md_faultOf_163
            · skip
              refine lv_iload_n hx hb d_md_faultOf_143 rfl (lv_at hl 2 rfl) ?_
              refine lv_bipush (v := 6) hx hb d_md_faultOf_144 (by decide) ?_
              refine lv_icmp_ne hx hb d_md_faultOf_146 (tgt := 162) (by decide) (fun h8 => ?_) (fun h8 => ?_)
              · skip
                refine lv_iconst (v := 0) hx hb d_md_faultOf_162 (by decide) ?_
                exact W.iret (v := 0) hx hb hret (fun t ht hW => ⟨_, rfl, by simp [sp_fo, h1, h2, h3, h4, h5, h6, h8], ht⟩) (fun q h => by cases h) d_md_faultOf_163
              · skip
                refine lv_aload_n hx hb d_md_faultOf_149 rfl (lv_at hl 1 rfl) ?_
                refine va_get (D := D) (ci := 3) (v := .int (sg_en u)) (C := "MeasuredStagesModel") (T := F_md) (N := 19) hx hb hts (fun w h => List.mem_cons_of_mem _ (i_md w h)) hown hK hP 0 rfl rfl 7 (by decide) (hT _ tb_466) (fun _ h9 => h9) rfl d_md_faultOf_150 ?_
                refine lv_bipush (v := 32) hx hb d_md_faultOf_153 (by decide) ?_
                refine lv_icmp_ne hx hb d_md_faultOf_155 (tgt := 162) (by decide) (fun h9 => ?_) (fun h9 => ?_)
                · skip
                  refine lv_iconst (v := 0) hx hb d_md_faultOf_162 (by decide) ?_
                  exact W.iret (v := 0) hx hb hret (fun t ht hW => ⟨_, rfl, by simp [sp_fo, h1, h2, h3, h4, h5, h6, h8, h9], ht⟩) (fun q h => by cases h) d_md_faultOf_163
                · skip
                  refine lv_iconst (v := 4) hx hb d_md_faultOf_158 (by decide) ?_
                  refine lv_goto hx hb d_md_faultOf_159 (tgt := 163) (by decide) ?_
                  exact W.iret (v := 4) hx hb hret (fun t ht hW => ⟨_, rfl, by simp [sp_fo, h1, h2, h3, h4, h5, h6, h8, h9], ht⟩) (fun q h => by cases h) d_md_faultOf_163
          · skip
            refine lv_aload_n hx hb d_md_faultOf_119 rfl (lv_at hl 1 rfl) ?_
            refine mw_rdi (v := sp_lf (sg_ma u)) (As := []) (rest := []) ⟨hx, hb, hml, hown, hts⟩ (c_md_freeBlob l D cs ad _ u j ) tb_570 tb_572 sl_22 tb_4 tb_573 ⟨rfl, hd_md_freeBlob⟩ ⟨Nat.le_of_ble_eq_true rfl, Nat.le_of_ble_eq_true rfl⟩ rfl rfl hK hP hD hN 0 3 rfl rfl hl.1 rfl (Nat.le_of_ble_eq_true rfl) d_md_faultOf_120 ⟨Nat.zero_le _, Nat.zero_le _⟩ ?_
            refine lv_if_ge hx hb d_md_faultOf_123 (tgt := 131) (by decide) (fun h10 => ?_) (fun h10 => ?_)
            · skip
              refine lv_iconst (v := 0) hx hb d_md_faultOf_131 (by decide) ?_
              exact W.iret (v := 0) hx hb hret (fun t ht hW => ⟨_, rfl, by simp [sp_fo, h1, h2, h3, h4, h5, h10], ht⟩) (fun q h => by cases h) d_md_faultOf_132
            · skip
              refine lv_bipush (v := 8) hx hb d_md_faultOf_126 (by decide) ?_
              refine lv_goto hx hb d_md_faultOf_128 (tgt := 132) (by decide) ?_
              exact W.iret (v := 8) hx hb hret (fun t ht hW => ⟨_, rfl, by simp [sp_fo, h1, h2, h3, h4, h5, h10], ht⟩) (fun q h => by cases h) d_md_faultOf_132
        · skip
          refine lv_aload_n hx hb d_md_faultOf_69 rfl (lv_at hl 1 rfl) ?_
          refine va_get (D := D) (ci := 3) (v := .ref (ad 5)) (C := "MeasuredStagesModel") (T := F_md) (N := 19) hx hb hts (fun w h => List.mem_cons_of_mem _ (i_md w h)) hown hK hP 0 rfl rfl 4 (by decide) (hT _ tb_463) (fun _ h9 => h9) rfl d_md_faultOf_70 ?_
          refine lv_iload hx hb d_md_faultOf_73 (lv_at hl 0 rfl) ?_
          refine va_iald hx hb hK hP 5 4 rfl rfl hk d_md_faultOf_75 ?_
          refine lv_if_ne hx hb d_md_faultOf_76 (tgt := 84) (by decide) (fun h11 => ?_) (fun h11 => ?_)
          · skip
            refine lv_aload_n hx hb d_md_faultOf_84 rfl (lv_at hl 1 rfl) ?_
            refine va_get (D := D) (ci := 3) (v := .ref (ad 6)) (C := "MeasuredStagesModel") (T := F_md) (N := 19) hx hb hts (fun w h => List.mem_cons_of_mem _ (i_md w h)) hown hK hP 0 rfl rfl 5 (by decide) (hT _ tb_464) (fun _ h9 => h9) rfl d_md_faultOf_85 ?_
            refine lv_iload hx hb d_md_faultOf_88 (lv_at hl 0 rfl) ?_
            refine va_lald hx hb hK hP 6 5 rfl rfl hk d_md_faultOf_90 ?_
            refine lv_aload_n hx hb d_md_faultOf_91 rfl (lv_at hl 1 rfl) ?_
            refine lv_aload_n hx hb d_md_faultOf_92 rfl (lv_at hl 1 rfl) ?_
            refine va_get (D := D) (ci := 3) (v := .ref (ad 5)) (C := "MeasuredStagesModel") (T := F_md) (N := 19) hx hb hts (fun w h => List.mem_cons_of_mem _ (i_md w h)) hown hK hP 0 rfl rfl 4 (by decide) (hT _ tb_463) (fun _ h9 => h9) rfl d_md_faultOf_93 ?_
            refine lv_iload hx hb d_md_faultOf_96 (lv_at hl 0 rfl) ?_
            refine va_iald hx hb hK hP 5 4 rfl rfl hk d_md_faultOf_98 ?_
            refine mw_rdl (v := sp_po u (sg_ma u (sp_rm x (8)).toNatClampNeg)) (As := [.int (sg_ma u (sp_rm x (8)).toNatClampNeg)]) (rest := [.long (sg_po u (sp_rm x (8)).toNatClampNeg)]) ⟨hx, hb, hml, hown, hts⟩ (c_md_policy l D cs ad _ u j (sg_ma u (sp_rm x (8)).toNatClampNeg)) tb_565 tb_567 sl_21 tb_4 tb_568 ⟨rfl, hd_md_policy⟩ ⟨Nat.le_of_ble_eq_true rfl, Nat.le_of_ble_eq_true rfl⟩ rfl rfl hK hP hD hN 0 3 rfl rfl hl.1 rfl (Nat.le_of_ble_eq_true rfl) d_md_faultOf_99 ⟨Nat.zero_le _, Nat.zero_le _⟩ ?_
            refine W.lcmp hx hb d_md_faultOf_102 ?_
            refine lv_if_ne hx hb d_md_faultOf_103 (tgt := 110) (by decide) (fun h12 => ?_) (fun h12 => ?_)
            · skip
              have h12 := mt sp_cmp.mpr h12
              refine lv_bipush (v := 7) hx hb d_md_faultOf_110 (by decide) ?_
              exact W.iret (v := 7) hx hb hret (fun t ht hW => ⟨_, rfl, by simp [sp_fo, h1, h2, h3, h4, h11, h12], ht⟩) (fun q h => by cases h) d_md_faultOf_112
            · skip
              have h12 := sp_cmp.mp h12
              refine lv_iconst (v := 0) hx hb d_md_faultOf_106 (by decide) ?_
              refine lv_goto hx hb d_md_faultOf_107 (tgt := 112) (by decide) ?_
              exact W.iret (v := 0) hx hb hret (fun t ht hW => ⟨_, rfl, by simp [sp_fo, h1, h2, h3, h4, h11, h12], ht⟩) (fun q h => by cases h) d_md_faultOf_112
          · skip
            refine lv_bipush (v := 6) hx hb d_md_faultOf_79 (by decide) ?_
            refine lv_goto hx hb d_md_faultOf_81 (tgt := 112) (by decide) ?_
            exact W.iret (v := 6) hx hb hret (fun t ht hW => ⟨_, rfl, by simp [sp_fo, h1, h2, h3, h4, h11], ht⟩) (fun q h => by cases h) d_md_faultOf_112
      · skip
        refine lv_aload_n hx hb d_md_faultOf_31 rfl (lv_at hl 1 rfl) ?_
        refine va_get (D := D) (ci := 3) (v := .ref (ad 3)) (C := "MeasuredStagesModel") (T := F_md) (N := 19) hx hb hts (fun w h => List.mem_cons_of_mem _ (i_md w h)) hown hK hP 0 rfl rfl 2 (by decide) (hT _ tb_461) (fun _ h9 => h9) rfl d_md_faultOf_32 ?_
        refine lv_iload hx hb d_md_faultOf_35 (lv_at hl 0 rfl) ?_
        refine va_zald hx hb hK hP 3 2 rfl rfl hk d_md_faultOf_37 ?_
        refine lv_if_eq hx hb d_md_faultOf_38 (tgt := 62) (by decide) (fun h13 => ?_) (fun h13 => ?_)
        · skip
          refine lv_iconst (v := 5) hx hb d_md_faultOf_62 (by decide) ?_
          exact W.iret (v := 5) hx hb hret (fun t ht hW => ⟨_, rfl, by simp [sp_fo, h1, h2, h3, h13], ht⟩) (fun q h => by cases h) d_md_faultOf_63
        · skip
          refine lv_aload_n hx hb d_md_faultOf_41 rfl (lv_at hl 1 rfl) ?_
          refine va_get (D := D) (ci := 3) (v := .ref (ad 4)) (C := "MeasuredStagesModel") (T := F_md) (N := 19) hx hb hts (fun w h => List.mem_cons_of_mem _ (i_md w h)) hown hK hP 0 rfl rfl 3 (by decide) (hT _ tb_462) (fun _ h9 => h9) rfl d_md_faultOf_42 ?_
          refine lv_iload hx hb d_md_faultOf_45 (lv_at hl 0 rfl) ?_
          refine va_lald hx hb hK hP 4 3 rfl rfl hk d_md_faultOf_47 ?_
          refine lv_aload_n hx hb d_md_faultOf_48 rfl (lv_at hl 1 rfl) ?_
          refine lv_iload hx hb d_md_faultOf_49 (lv_at hl 0 rfl) ?_
          refine mw_rdl (v := sp_di u (sp_rm x (8))) (As := [.int (sp_rm x (8))]) (rest := [.long (sg_ag u (sp_rm x (8)).toNatClampNeg)]) ⟨hx, hb, hml, hown, hts⟩ (c_md_digest l D cs ad _ u j (sp_rm x (8)) hk) tb_529 tb_531 sl_15 tb_4 tb_532 ⟨rfl, hd_md_digest⟩ ⟨Nat.le_of_ble_eq_true rfl, Nat.le_of_ble_eq_true rfl⟩ rfl rfl hK hP hD hN 0 3 rfl rfl hl.1 rfl (Nat.le_of_ble_eq_true rfl) d_md_faultOf_51 ⟨Nat.zero_le _, Nat.zero_le _⟩ ?_
          refine W.lcmp hx hb d_md_faultOf_54 ?_
          refine lv_if_ne hx hb d_md_faultOf_55 (tgt := 62) (by decide) (fun h14 => ?_) (fun h14 => ?_)
          · skip
            have h14 := mt sp_cmp.mpr h14
            refine lv_iconst (v := 5) hx hb d_md_faultOf_62 (by decide) ?_
            exact W.iret (v := 5) hx hb hret (fun t ht hW => ⟨_, rfl, by simp [sp_fo, h1, h2, h3, h13, h14], ht⟩) (fun q h => by cases h) d_md_faultOf_63
          · skip
            have h14 := sp_cmp.mp h14
            refine lv_iconst (v := 0) hx hb d_md_faultOf_58 (by decide) ?_
            refine lv_goto hx hb d_md_faultOf_59 (tgt := 63) (by decide) ?_
            exact W.iret (v := 0) hx hb hret (fun t ht hW => ⟨_, rfl, by simp [sp_fo, h1, h2, h3, h13, h14], ht⟩) (fun q h => by cases h) d_md_faultOf_63
    · skip
      refine lv_iload_n hx hb d_md_faultOf_19 rfl (lv_at hl 4 rfl) ?_
      refine lv_iconst (v := 5) hx hb d_md_faultOf_20 (by decide) ?_
      refine lv_icmp_ne hx hb d_md_faultOf_21 (tgt := 26) (by decide) (fun h15 => ?_) (fun h15 => ?_)
      · skip
        refine lv_iload_n hx hb d_md_faultOf_26 rfl (lv_at hl 2 rfl) ?_
        refine lv_iconst (v := 3) hx hb d_md_faultOf_27 (by decide) ?_
        refine lv_icmp_ne hx hb d_md_faultOf_28 (tgt := 64) (by decide) (fun _ => ?_) (fun z => absurd z (by rw [h2]; decide))
        refine lv_iload_n hx hb d_md_faultOf_64 rfl (lv_at hl 2 rfl) ?_
        refine lv_iconst (v := 4) hx hb d_md_faultOf_65 (by decide) ?_
        refine lv_icmp_ne hx hb d_md_faultOf_66 (tgt := 113) (by decide) (fun _ => ?_) (fun z => absurd z (by rw [h2]; decide))
        refine lv_iload_n hx hb d_md_faultOf_113 rfl (lv_at hl 2 rfl) ?_
        refine lv_bipush (v := 8) hx hb d_md_faultOf_114 (by decide) ?_
        refine lv_icmp_ne hx hb d_md_faultOf_116 (tgt := 133) (by decide) (fun _ => ?_) (fun z => absurd z (by rw [h2]; decide))
        refine lv_iload_n hx hb d_md_faultOf_133 rfl (lv_at hl 2 rfl) ?_
        refine lv_iconst (v := 1) hx hb d_md_faultOf_134 (by decide) ?_
        refine lv_icmp_eq hx hb d_md_faultOf_135 (tgt := 149) (by decide) (fun _ => ?_) (fun z => absurd h2 z)
        refine lv_aload_n hx hb d_md_faultOf_149 rfl (lv_at hl 1 rfl) ?_
        refine va_get (D := D) (ci := 3) (v := .int (sg_en u)) (C := "MeasuredStagesModel") (T := F_md) (N := 19) hx hb hts (fun w h => List.mem_cons_of_mem _ (i_md w h)) hown hK hP 0 rfl rfl 7 (by decide) (hT _ tb_466) (fun _ h9 => h9) rfl d_md_faultOf_150 ?_
        refine lv_bipush (v := 32) hx hb d_md_faultOf_153 (by decide) ?_
        refine lv_icmp_ne hx hb d_md_faultOf_155 (tgt := 162) (by decide) (fun h16 => ?_) (fun h16 => ?_)
        · skip
          refine lv_iconst (v := 0) hx hb d_md_faultOf_162 (by decide) ?_
          exact W.iret (v := 0) hx hb hret (fun t ht hW => ⟨_, rfl, by simp [sp_fo, h1, h2, h15, h16], ht⟩) (fun q h => by cases h) d_md_faultOf_163
        · skip
          refine lv_iconst (v := 4) hx hb d_md_faultOf_158 (by decide) ?_
          refine lv_goto hx hb d_md_faultOf_159 (tgt := 163) (by decide) ?_
          exact W.iret (v := 4) hx hb hret (fun t ht hW => ⟨_, rfl, by simp [sp_fo, h1, h2, h15, h16], ht⟩) (fun q h => by cases h) d_md_faultOf_163
      · skip
        refine lv_iconst (v := 2) hx hb d_md_faultOf_24 (by decide) ?_
        exact W.iret (v := 2) hx hb hret (fun t ht hW => ⟨_, rfl, by simp [sp_fo, h1, h2, h15], ht⟩) (fun q h => by cases h) d_md_faultOf_25
  · skip
    refine lv_iconst (v := 1) hx hb d_md_faultOf_12 (by decide) ?_
    exact W.iret (v := 1) hx hb hret (fun t ht hW => ⟨_, rfl, by simp [sp_fo, h1], ht⟩) (fun q h => by cases h) d_md_faultOf_13
