theorem d_md_image_0 : decode b_md_image 0 = .ok (.aload_n 0, 1) := by decide +kernel
theorem d_md_image_1 : decode b_md_image 1 = .ok (.iload_n 1, 1) := by decide +kernel
theorem d_md_image_2 : decode b_md_image 2 = .ok (.ifCond .lt 9, 3) := by decide +kernel
theorem d_md_image_5 : decode b_md_image 5 = .ok (.iload_n 1, 1) := by decide +kernel
theorem d_md_image_6 : decode b_md_image 6 = .ok (.bipush 7, 2) := by decide +kernel
theorem d_md_image_8 : decode b_md_image 8 = .ok (.if_icmp .le 7, 3) := by decide +kernel
theorem d_md_image_11 : decode b_md_image 11 = .ok (.iconst 1, 1) := by decide +kernel
theorem d_md_image_12 : decode b_md_image 12 = .ok (.goto 4, 3) := by decide +kernel
theorem d_md_image_15 : decode b_md_image 15 = .ok (.iconst 0, 1) := by decide +kernel
theorem d_md_image_16 : decode b_md_image 16 = .ok (.putfield 48, 3) := by decide +kernel
theorem d_md_image_19 : decode b_md_image 19 = .ok (.aload_n 0, 1) := by decide +kernel
theorem d_md_image_20 : decode b_md_image 20 = .ok (.getfield 48, 3) := by decide +kernel
theorem d_md_image_23 : decode b_md_image 23 = .ok (.ifCond .ne 10, 3) := by decide +kernel
theorem d_md_image_26 : decode b_md_image 26 = .ok (.aload_n 0, 1) := by decide +kernel
theorem d_md_image_27 : decode b_md_image 27 = .ok (.getfield 13, 3) := by decide +kernel
theorem d_md_image_30 : decode b_md_image 30 = .ok (.iload_n 1, 1) := by decide +kernel
theorem d_md_image_31 : decode b_md_image 31 = .ok (.lload_n 2, 1) := by decide +kernel
theorem d_md_image_32 : decode b_md_image 32 = .ok (.lastore, 1) := by decide +kernel
theorem d_md_image_33 : decode b_md_image 33 = .ok (.return_, 1) := by decide +kernel
theorem d_md_approve_0 : decode b_md_approve 0 = .ok (.aload_n 0, 1) := by decide +kernel
theorem d_md_approve_1 : decode b_md_approve 1 = .ok (.iload_n 1, 1) := by decide +kernel
theorem d_md_approve_2 : decode b_md_approve 2 = .ok (.ifCond .lt 9, 3) := by decide +kernel
theorem d_md_approve_5 : decode b_md_approve 5 = .ok (.iload_n 1, 1) := by decide +kernel
theorem d_md_approve_6 : decode b_md_approve 6 = .ok (.bipush 7, 2) := by decide +kernel
theorem d_md_approve_8 : decode b_md_approve 8 = .ok (.if_icmp .le 7, 3) := by decide +kernel
theorem d_md_approve_11 : decode b_md_approve 11 = .ok (.iconst 1, 1) := by decide +kernel
theorem d_md_approve_12 : decode b_md_approve 12 = .ok (.goto 4, 3) := by decide +kernel
theorem d_md_approve_15 : decode b_md_approve 15 = .ok (.iconst 0, 1) := by decide +kernel
theorem d_md_approve_16 : decode b_md_approve 16 = .ok (.putfield 48, 3) := by decide +kernel
theorem d_md_approve_19 : decode b_md_approve 19 = .ok (.aload_n 0, 1) := by decide +kernel
theorem d_md_approve_20 : decode b_md_approve 20 = .ok (.getfield 48, 3) := by decide +kernel
theorem d_md_approve_23 : decode b_md_approve 23 = .ok (.ifCond .ne 21, 3) := by decide +kernel
theorem d_md_approve_26 : decode b_md_approve 26 = .ok (.aload_n 0, 1) := by decide +kernel
theorem d_md_approve_27 : decode b_md_approve 27 = .ok (.getfield 16, 3) := by decide +kernel
theorem d_md_approve_30 : decode b_md_approve 30 = .ok (.iload_n 1, 1) := by decide +kernel
theorem d_md_approve_31 : decode b_md_approve 31 = .ok (.iconst 1, 1) := by decide +kernel
theorem d_md_approve_32 : decode b_md_approve 32 = .ok (.bastore, 1) := by decide +kernel
theorem d_md_approve_33 : decode b_md_approve 33 = .ok (.aload_n 0, 1) := by decide +kernel
theorem d_md_approve_34 : decode b_md_approve 34 = .ok (.getfield 20, 3) := by decide +kernel
theorem d_md_approve_37 : decode b_md_approve 37 = .ok (.iload_n 1, 1) := by decide +kernel
theorem d_md_approve_38 : decode b_md_approve 38 = .ok (.aload_n 0, 1) := by decide +kernel
theorem d_md_approve_39 : decode b_md_approve 39 = .ok (.iload_n 1, 1) := by decide +kernel
theorem d_md_approve_40 : decode b_md_approve 40 = .ok (.invokevirtual 75, 3) := by decide +kernel
theorem d_md_approve_43 : decode b_md_approve 43 = .ok (.lastore, 1) := by decide +kernel
theorem d_md_approve_44 : decode b_md_approve 44 = .ok (.return_, 1) := by decide +kernel
theorem d_md_fault_0 : decode b_md_fault 0 = .ok (.aload_n 0, 1) := by decide +kernel
theorem d_md_fault_1 : decode b_md_fault 1 = .ok (.iconst 0, 1) := by decide +kernel
theorem d_md_fault_2 : decode b_md_fault 2 = .ok (.putfield 48, 3) := by decide +kernel
theorem d_md_fault_5 : decode b_md_fault 5 = .ok (.aload_n 0, 1) := by decide +kernel
theorem d_md_fault_6 : decode b_md_fault 6 = .ok (.getfield 95, 3) := by decide +kernel
theorem d_md_fault_9 : decode b_md_fault 9 = .ok (.ireturn, 1) := by decide +kernel
theorem d_md_launched_0 : decode b_md_launched 0 = .ok (.aload_n 0, 1) := by decide +kernel
theorem d_md_launched_1 : decode b_md_launched 1 = .ok (.iconst 0, 1) := by decide +kernel
theorem d_md_launched_2 : decode b_md_launched 2 = .ok (.putfield 48, 3) := by decide +kernel
theorem d_md_launched_5 : decode b_md_launched 5 = .ok (.aload_n 0, 1) := by decide +kernel
theorem d_md_launched_6 : decode b_md_launched 6 = .ok (.getfield 82, 3) := by decide +kernel
theorem d_md_launched_9 : decode b_md_launched 9 = .ok (.ireturn, 1) := by decide +kernel
theorem d_md_steps_0 : decode b_md_steps 0 = .ok (.aload_n 0, 1) := by decide +kernel
theorem d_md_steps_1 : decode b_md_steps 1 = .ok (.iconst 0, 1) := by decide +kernel
theorem d_md_steps_2 : decode b_md_steps 2 = .ok (.putfield 48, 3) := by decide +kernel
theorem d_md_steps_5 : decode b_md_steps 5 = .ok (.aload_n 0, 1) := by decide +kernel
theorem d_md_steps_6 : decode b_md_steps 6 = .ok (.getfield 92, 3) := by decide +kernel
theorem d_md_steps_9 : decode b_md_steps 9 = .ok (.ireturn, 1) := by decide +kernel
theorem d_md_events_0 : decode b_md_events 0 = .ok (.aload_n 0, 1) := by decide +kernel
theorem d_md_events_1 : decode b_md_events 1 = .ok (.iconst 0, 1) := by decide +kernel
theorem d_md_events_2 : decode b_md_events 2 = .ok (.putfield 48, 3) := by decide +kernel
theorem d_md_events_5 : decode b_md_events 5 = .ok (.aload_n 0, 1) := by decide +kernel
theorem d_md_events_6 : decode b_md_events 6 = .ok (.getfield 68, 3) := by decide +kernel
theorem d_md_events_9 : decode b_md_events 9 = .ok (.ireturn, 1) := by decide +kernel
theorem d_md_acc_0 : decode b_md_acc 0 = .ok (.aload_n 0, 1) := by decide +kernel
theorem d_md_acc_1 : decode b_md_acc 1 = .ok (.iconst 0, 1) := by decide +kernel
theorem d_md_acc_2 : decode b_md_acc 2 = .ok (.putfield 48, 3) := by decide +kernel
theorem d_md_acc_5 : decode b_md_acc 5 = .ok (.aload_n 0, 1) := by decide +kernel
theorem d_md_acc_6 : decode b_md_acc 6 = .ok (.getfield 88, 3) := by decide +kernel
theorem d_md_acc_9 : decode b_md_acc 9 = .ok (.lreturn, 1) := by decide +kernel
theorem d_md_register_0 : decode b_md_register 0 = .ok (.aload_n 0, 1) := by decide +kernel
theorem d_md_register_1 : decode b_md_register 1 = .ok (.iload_n 1, 1) := by decide +kernel
theorem d_md_register_2 : decode b_md_register 2 = .ok (.ifCond .lt 8, 3) := by decide +kernel
theorem d_md_register_5 : decode b_md_register 5 = .ok (.iload_n 1, 1) := by decide +kernel
theorem d_md_register_6 : decode b_md_register 6 = .ok (.iconst 5, 1) := by decide +kernel
theorem d_md_register_7 : decode b_md_register 7 = .ok (.if_icmp .le 7, 3) := by decide +kernel
theorem d_md_register_10 : decode b_md_register 10 = .ok (.iconst 1, 1) := by decide +kernel
theorem d_md_register_11 : decode b_md_register 11 = .ok (.goto 4, 3) := by decide +kernel
theorem d_md_register_14 : decode b_md_register 14 = .ok (.iconst 0, 1) := by decide +kernel
theorem d_md_register_15 : decode b_md_register 15 = .ok (.putfield 48, 3) := by decide +kernel
theorem d_md_register_18 : decode b_md_register 18 = .ok (.aload_n 0, 1) := by decide +kernel
theorem d_md_register_19 : decode b_md_register 19 = .ok (.getfield 48, 3) := by decide +kernel
theorem d_md_register_22 : decode b_md_register 22 = .ok (.ifCond .ne 12, 3) := by decide +kernel
theorem d_md_register_25 : decode b_md_register 25 = .ok (.aload_n 0, 1) := by decide +kernel
theorem d_md_register_26 : decode b_md_register 26 = .ok (.getfield 7, 3) := by decide +kernel
theorem d_md_register_29 : decode b_md_register 29 = .ok (.iload_n 1, 1) := by decide +kernel
theorem d_md_register_30 : decode b_md_register 30 = .ok (.laload, 1) := by decide +kernel
theorem d_md_register_31 : decode b_md_register 31 = .ok (.goto 4, 3) := by decide +kernel
theorem d_md_register_34 : decode b_md_register 34 = .ok (.lconst 0, 1) := by decide +kernel
theorem d_md_register_35 : decode b_md_register 35 = .ok (.lreturn, 1) := by decide +kernel
theorem d_md_extend_0 : decode b_md_extend 0 = .ok (.aload_n 0, 1) := by decide +kernel
theorem d_md_extend_1 : decode b_md_extend 1 = .ok (.iload_n 1, 1) := by decide +kernel
theorem d_md_extend_2 : decode b_md_extend 2 = .ok (.ifCond .lt 8, 3) := by decide +kernel
theorem d_md_extend_5 : decode b_md_extend 5 = .ok (.iload_n 1, 1) := by decide +kernel
theorem d_md_extend_6 : decode b_md_extend 6 = .ok (.iconst 5, 1) := by decide +kernel
theorem d_md_extend_7 : decode b_md_extend 7 = .ok (.if_icmp .le 7, 3) := by decide +kernel
theorem d_md_extend_10 : decode b_md_extend 10 = .ok (.iconst 1, 1) := by decide +kernel
theorem d_md_extend_11 : decode b_md_extend 11 = .ok (.goto 17, 3) := by decide +kernel
theorem d_md_extend_14 : decode b_md_extend 14 = .ok (.aload_n 0, 1) := by decide +kernel
theorem d_md_extend_15 : decode b_md_extend 15 = .ok (.getfield 68, 3) := by decide +kernel
theorem d_md_extend_18 : decode b_md_extend 18 = .ok (.bipush 32, 2) := by decide +kernel
theorem d_md_extend_20 : decode b_md_extend 20 = .ok (.if_icmp .ne 7, 3) := by decide +kernel
theorem d_md_extend_23 : decode b_md_extend 23 = .ok (.iconst 2, 1) := by decide +kernel
theorem d_md_extend_24 : decode b_md_extend 24 = .ok (.goto 4, 3) := by decide +kernel
theorem d_md_extend_27 : decode b_md_extend 27 = .ok (.iconst 0, 1) := by decide +kernel
theorem d_md_extend_28 : decode b_md_extend 28 = .ok (.putfield 48, 3) := by decide +kernel
theorem d_md_extend_31 : decode b_md_extend 31 = .ok (.aload_n 0, 1) := by decide +kernel
theorem d_md_extend_32 : decode b_md_extend 32 = .ok (.getfield 48, 3) := by decide +kernel
theorem d_md_extend_35 : decode b_md_extend 35 = .ok (.ifCond .ne 25, 3) := by decide +kernel
theorem d_md_extend_38 : decode b_md_extend 38 = .ok (.aload_n 0, 1) := by decide +kernel
theorem d_md_extend_39 : decode b_md_extend 39 = .ok (.iload_n 1, 1) := by decide +kernel
theorem d_md_extend_40 : decode b_md_extend 40 = .ok (.lload_n 2, 1) := by decide +kernel
theorem d_md_extend_41 : decode b_md_extend 41 = .ok (.invokevirtual 78, 3) := by decide +kernel
theorem d_md_extend_44 : decode b_md_extend 44 = .ok (.istore 4, 2) := by decide +kernel
theorem d_md_extend_46 : decode b_md_extend 46 = .ok (.aload_n 0, 1) := by decide +kernel
theorem d_md_extend_47 : decode b_md_extend 47 = .ok (.iload 4, 2) := by decide +kernel
theorem d_md_extend_49 : decode b_md_extend 49 = .ok (.ifCond .eq 7, 3) := by decide +kernel
theorem d_md_extend_52 : decode b_md_extend 52 = .ok (.iconst 0, 1) := by decide +kernel
theorem d_md_extend_53 : decode b_md_extend 53 = .ok (.goto 4, 3) := by decide +kernel
theorem d_md_extend_56 : decode b_md_extend 56 = .ok (.iconst 2, 1) := by decide +kernel
theorem d_md_extend_57 : decode b_md_extend 57 = .ok (.putfield 48, 3) := by decide +kernel
theorem d_md_extend_60 : decode b_md_extend 60 = .ok (.return_, 1) := by decide +kernel
theorem d_md_event_0 : decode b_md_event 0 = .ok (.aload_n 0, 1) := by decide +kernel
theorem d_md_event_1 : decode b_md_event 1 = .ok (.iload_n 1, 1) := by decide +kernel
theorem d_md_event_2 : decode b_md_event 2 = .ok (.ifCond .lt 11, 3) := by decide +kernel
theorem d_md_event_5 : decode b_md_event 5 = .ok (.iload_n 1, 1) := by decide +kernel
theorem d_md_event_6 : decode b_md_event 6 = .ok (.aload_n 0, 1) := by decide +kernel
theorem d_md_event_7 : decode b_md_event 7 = .ok (.getfield 68, 3) := by decide +kernel
theorem d_md_event_10 : decode b_md_event 10 = .ok (.if_icmp .lt 7, 3) := by decide +kernel
theorem d_md_event_13 : decode b_md_event 13 = .ok (.iconst 1, 1) := by decide +kernel
theorem d_md_event_14 : decode b_md_event 14 = .ok (.goto 4, 3) := by decide +kernel
theorem d_md_event_17 : decode b_md_event 17 = .ok (.iconst 0, 1) := by decide +kernel
theorem d_md_event_18 : decode b_md_event 18 = .ok (.putfield 48, 3) := by decide +kernel
theorem d_md_event_21 : decode b_md_event 21 = .ok (.aload_n 0, 1) := by decide +kernel
theorem d_md_event_22 : decode b_md_event 22 = .ok (.getfield 48, 3) := by decide +kernel
theorem d_md_event_25 : decode b_md_event 25 = .ok (.ifCond .ne 7, 3) := by decide +kernel
theorem d_md_event_28 : decode b_md_event 28 = .ok (.iconst 1, 1) := by decide +kernel
theorem d_md_event_29 : decode b_md_event 29 = .ok (.goto 4, 3) := by decide +kernel
theorem d_md_event_32 : decode b_md_event 32 = .ok (.iconst 0, 1) := by decide +kernel
theorem d_md_event_33 : decode b_md_event 33 = .ok (.ireturn, 1) := by decide +kernel
theorem d_md_eventRegister_0 : decode b_md_eventRegister 0 = .ok (.aload_n 0, 1) := by decide +kernel
theorem d_md_eventRegister_1 : decode b_md_eventRegister 1 = .ok (.iload_n 1, 1) := by decide +kernel
theorem d_md_eventRegister_2 : decode b_md_eventRegister 2 = .ok (.invokevirtual 129, 3) := by decide +kernel
theorem d_md_eventRegister_5 : decode b_md_eventRegister 5 = .ok (.ifCond .eq 12, 3) := by decide +kernel
theorem d_md_eventRegister_8 : decode b_md_eventRegister 8 = .ok (.aload_n 0, 1) := by decide +kernel
theorem d_md_eventRegister_9 : decode b_md_eventRegister 9 = .ok (.getfield 33, 3) := by decide +kernel
theorem d_md_eventRegister_12 : decode b_md_eventRegister 12 = .ok (.iload_n 1, 1) := by decide +kernel
theorem d_md_eventRegister_13 : decode b_md_eventRegister 13 = .ok (.iaload, 1) := by decide +kernel
theorem d_md_eventRegister_14 : decode b_md_eventRegister 14 = .ok (.goto 4, 3) := by decide +kernel
theorem d_md_eventRegister_17 : decode b_md_eventRegister 17 = .ok (.iconst 0, 1) := by decide +kernel
theorem d_md_eventRegister_18 : decode b_md_eventRegister 18 = .ok (.ireturn, 1) := by decide +kernel
theorem d_md_eventValue_0 : decode b_md_eventValue 0 = .ok (.aload_n 0, 1) := by decide +kernel
theorem d_md_eventValue_1 : decode b_md_eventValue 1 = .ok (.iload_n 1, 1) := by decide +kernel
theorem d_md_eventValue_2 : decode b_md_eventValue 2 = .ok (.invokevirtual 129, 3) := by decide +kernel
theorem d_md_eventValue_5 : decode b_md_eventValue 5 = .ok (.ifCond .eq 12, 3) := by decide +kernel
theorem d_md_eventValue_8 : decode b_md_eventValue 8 = .ok (.aload_n 0, 1) := by decide +kernel
theorem d_md_eventValue_9 : decode b_md_eventValue 9 = .ok (.getfield 36, 3) := by decide +kernel
theorem d_md_eventValue_12 : decode b_md_eventValue 12 = .ok (.iload_n 1, 1) := by decide +kernel
theorem d_md_eventValue_13 : decode b_md_eventValue 13 = .ok (.laload, 1) := by decide +kernel
theorem d_md_eventValue_14 : decode b_md_eventValue 14 = .ok (.goto 4, 3) := by decide +kernel
theorem d_md_eventValue_17 : decode b_md_eventValue 17 = .ok (.lconst 0, 1) := by decide +kernel
theorem d_md_eventValue_18 : decode b_md_eventValue 18 = .ok (.lreturn, 1) := by decide +kernel
theorem d_md_tamper_0 : decode b_md_tamper 0 = .ok (.aload_n 0, 1) := by decide +kernel
theorem d_md_tamper_1 : decode b_md_tamper 1 = .ok (.iload_n 1, 1) := by decide +kernel
theorem d_md_tamper_2 : decode b_md_tamper 2 = .ok (.invokevirtual 129, 3) := by decide +kernel
theorem d_md_tamper_5 : decode b_md_tamper 5 = .ok (.ifCond .eq 17, 3) := by decide +kernel
theorem d_md_tamper_8 : decode b_md_tamper 8 = .ok (.aload_n 0, 1) := by decide +kernel
theorem d_md_tamper_9 : decode b_md_tamper 9 = .ok (.getfield 36, 3) := by decide +kernel
theorem d_md_tamper_12 : decode b_md_tamper 12 = .ok (.iload_n 1, 1) := by decide +kernel
theorem d_md_tamper_13 : decode b_md_tamper 13 = .ok (.aload_n 0, 1) := by decide +kernel
theorem d_md_tamper_14 : decode b_md_tamper 14 = .ok (.getfield 36, 3) := by decide +kernel
theorem d_md_tamper_17 : decode b_md_tamper 17 = .ok (.iload_n 1, 1) := by decide +kernel
theorem d_md_tamper_18 : decode b_md_tamper 18 = .ok (.laload, 1) := by decide +kernel
theorem d_md_tamper_19 : decode b_md_tamper 19 = .ok (.lload_n 2, 1) := by decide +kernel
theorem d_md_tamper_20 : decode b_md_tamper 20 = .ok (.lxor, 1) := by decide +kernel
theorem d_md_tamper_21 : decode b_md_tamper 21 = .ok (.lastore, 1) := by decide +kernel
theorem d_md_tamper_22 : decode b_md_tamper 22 = .ok (.return_, 1) := by decide +kernel
theorem d_md_seal_0 : decode b_md_seal 0 = .ok (.aload_n 0, 1) := by decide +kernel
theorem d_md_seal_1 : decode b_md_seal 1 = .ok (.invokevirtual 122, 3) := by decide +kernel
theorem d_md_seal_4 : decode b_md_seal 4 = .ok (.istore 4, 2) := by decide +kernel
theorem d_md_seal_6 : decode b_md_seal 6 = .ok (.aload_n 0, 1) := by decide +kernel
theorem d_md_seal_7 : decode b_md_seal 7 = .ok (.iload_n 1, 1) := by decide +kernel
theorem d_md_seal_8 : decode b_md_seal 8 = .ok (.iconst 1, 1) := by decide +kernel
theorem d_md_seal_9 : decode b_md_seal 9 = .ok (.if_icmp .lt 9, 3) := by decide +kernel
theorem d_md_seal_12 : decode b_md_seal 12 = .ok (.iload_n 1, 1) := by decide +kernel
theorem d_md_seal_13 : decode b_md_seal 13 = .ok (.bipush 63, 2) := by decide +kernel
theorem d_md_seal_15 : decode b_md_seal 15 = .ok (.if_icmp .le 7, 3) := by decide +kernel
theorem d_md_seal_18 : decode b_md_seal 18 = .ok (.iconst 1, 1) := by decide +kernel
theorem d_md_seal_19 : decode b_md_seal 19 = .ok (.goto 13, 3) := by decide +kernel
theorem d_md_seal_22 : decode b_md_seal 22 = .ok (.iload 4, 2) := by decide +kernel
theorem d_md_seal_24 : decode b_md_seal 24 = .ok (.ifCond .ge 7, 3) := by decide +kernel
theorem d_md_seal_27 : decode b_md_seal 27 = .ok (.iconst 2, 1) := by decide +kernel
theorem d_md_seal_28 : decode b_md_seal 28 = .ok (.goto 4, 3) := by decide +kernel
theorem d_md_seal_31 : decode b_md_seal 31 = .ok (.iconst 0, 1) := by decide +kernel
theorem d_md_seal_32 : decode b_md_seal 32 = .ok (.putfield 48, 3) := by decide +kernel
theorem d_md_seal_35 : decode b_md_seal 35 = .ok (.aload_n 0, 1) := by decide +kernel
theorem d_md_seal_36 : decode b_md_seal 36 = .ok (.getfield 48, 3) := by decide +kernel
theorem d_md_seal_39 : decode b_md_seal 39 = .ok (.ifCond .eq 5, 3) := by decide +kernel
theorem d_md_seal_42 : decode b_md_seal 42 = .ok (.iconst 0, 1) := by decide +kernel
theorem d_md_seal_43 : decode b_md_seal 43 = .ok (.ireturn, 1) := by decide +kernel
theorem d_md_seal_44 : decode b_md_seal 44 = .ok (.aload_n 0, 1) := by decide +kernel
theorem d_md_seal_45 : decode b_md_seal 45 = .ok (.iload 4, 2) := by decide +kernel
theorem d_md_seal_47 : decode b_md_seal 47 = .ok (.iload_n 1, 1) := by decide +kernel
theorem d_md_seal_48 : decode b_md_seal 48 = .ok (.lload_n 2, 1) := by decide +kernel
theorem d_md_seal_49 : decode b_md_seal 49 = .ok (.invokevirtual 125, 3) := by decide +kernel
theorem d_md_seal_52 : decode b_md_seal 52 = .ok (.iload 4, 2) := by decide +kernel
theorem d_md_seal_54 : decode b_md_seal 54 = .ok (.ireturn, 1) := by decide +kernel
theorem d_md_unseal_0 : decode b_md_unseal 0 = .ok (.iload_n 1, 1) := by decide +kernel
theorem d_md_unseal_1 : decode b_md_unseal 1 = .ok (.ifCond .lt 22, 3) := by decide +kernel
theorem d_md_unseal_4 : decode b_md_unseal 4 = .ok (.iload_n 1, 1) := by decide +kernel
theorem d_md_unseal_5 : decode b_md_unseal 5 = .ok (.bipush 8, 2) := by decide +kernel
theorem d_md_unseal_7 : decode b_md_unseal 7 = .ok (.if_icmp .ge 16, 3) := by decide +kernel
theorem d_md_unseal_10 : decode b_md_unseal 10 = .ok (.aload_n 0, 1) := by decide +kernel
theorem d_md_unseal_11 : decode b_md_unseal 11 = .ok (.getfield 23, 3) := by decide +kernel
theorem d_md_unseal_14 : decode b_md_unseal 14 = .ok (.iload_n 1, 1) := by decide +kernel
theorem d_md_unseal_15 : decode b_md_unseal 15 = .ok (.iaload, 1) := by decide +kernel
theorem d_md_unseal_16 : decode b_md_unseal 16 = .ok (.ifCond .eq 7, 3) := by decide +kernel
theorem d_md_unseal_19 : decode b_md_unseal 19 = .ok (.iconst 1, 1) := by decide +kernel
theorem d_md_unseal_20 : decode b_md_unseal 20 = .ok (.goto 4, 3) := by decide +kernel
theorem d_md_unseal_23 : decode b_md_unseal 23 = .ok (.iconst 0, 1) := by decide +kernel
theorem d_md_unseal_24 : decode b_md_unseal 24 = .ok (.istore_n 2, 1) := by decide +kernel
theorem d_md_unseal_25 : decode b_md_unseal 25 = .ok (.aload_n 0, 1) := by decide +kernel
theorem d_md_unseal_26 : decode b_md_unseal 26 = .ok (.iload_n 2, 1) := by decide +kernel
theorem d_md_unseal_27 : decode b_md_unseal 27 = .ok (.ifCond .ne 7, 3) := by decide +kernel
theorem d_md_unseal_30 : decode b_md_unseal 30 = .ok (.iconst 1, 1) := by decide +kernel
theorem d_md_unseal_31 : decode b_md_unseal 31 = .ok (.goto 28, 3) := by decide +kernel
theorem d_md_unseal_34 : decode b_md_unseal 34 = .ok (.aload_n 0, 1) := by decide +kernel
theorem d_md_unseal_35 : decode b_md_unseal 35 = .ok (.getfield 27, 3) := by decide +kernel
theorem d_md_unseal_38 : decode b_md_unseal 38 = .ok (.iload_n 1, 1) := by decide +kernel
theorem d_md_unseal_39 : decode b_md_unseal 39 = .ok (.laload, 1) := by decide +kernel
theorem d_md_unseal_40 : decode b_md_unseal 40 = .ok (.aload_n 0, 1) := by decide +kernel
theorem d_md_unseal_41 : decode b_md_unseal 41 = .ok (.aload_n 0, 1) := by decide +kernel
theorem d_md_unseal_42 : decode b_md_unseal 42 = .ok (.getfield 23, 3) := by decide +kernel
theorem d_md_unseal_45 : decode b_md_unseal 45 = .ok (.iload_n 1, 1) := by decide +kernel
theorem d_md_unseal_46 : decode b_md_unseal 46 = .ok (.iaload, 1) := by decide +kernel
theorem d_md_unseal_47 : decode b_md_unseal 47 = .ok (.invokevirtual 71, 3) := by decide +kernel
theorem d_md_unseal_50 : decode b_md_unseal 50 = .ok (.lcmp, 1) := by decide +kernel
theorem d_md_unseal_51 : decode b_md_unseal 51 = .ok (.ifCond .eq 7, 3) := by decide +kernel
theorem d_md_unseal_54 : decode b_md_unseal 54 = .ok (.iconst 2, 1) := by decide +kernel
theorem d_md_unseal_55 : decode b_md_unseal 55 = .ok (.goto 4, 3) := by decide +kernel
theorem d_md_unseal_58 : decode b_md_unseal 58 = .ok (.iconst 0, 1) := by decide +kernel
theorem d_md_unseal_59 : decode b_md_unseal 59 = .ok (.putfield 48, 3) := by decide +kernel
theorem d_md_unseal_62 : decode b_md_unseal 62 = .ok (.aload_n 0, 1) := by decide +kernel
theorem d_md_unseal_63 : decode b_md_unseal 63 = .ok (.getfield 48, 3) := by decide +kernel
theorem d_md_unseal_66 : decode b_md_unseal 66 = .ok (.ifCond .ne 12, 3) := by decide +kernel
theorem d_md_unseal_69 : decode b_md_unseal 69 = .ok (.aload_n 0, 1) := by decide +kernel
theorem d_md_unseal_70 : decode b_md_unseal 70 = .ok (.getfield 30, 3) := by decide +kernel
theorem d_md_unseal_73 : decode b_md_unseal 73 = .ok (.iload_n 1, 1) := by decide +kernel
theorem d_md_unseal_74 : decode b_md_unseal 74 = .ok (.laload, 1) := by decide +kernel
theorem d_md_unseal_75 : decode b_md_unseal 75 = .ok (.goto 4, 3) := by decide +kernel
theorem d_md_unseal_78 : decode b_md_unseal 78 = .ok (.lconst 0, 1) := by decide +kernel
theorem d_md_unseal_79 : decode b_md_unseal 79 = .ok (.lreturn, 1) := by decide +kernel
theorem d_md_discard_0 : decode b_md_discard 0 = .ok (.aload_n 0, 1) := by decide +kernel
theorem d_md_discard_1 : decode b_md_discard 1 = .ok (.iload_n 1, 1) := by decide +kernel
theorem d_md_discard_2 : decode b_md_discard 2 = .ok (.ifCond .lt 22, 3) := by decide +kernel
theorem d_md_discard_5 : decode b_md_discard 5 = .ok (.iload_n 1, 1) := by decide +kernel
theorem d_md_discard_6 : decode b_md_discard 6 = .ok (.bipush 8, 2) := by decide +kernel
theorem d_md_discard_8 : decode b_md_discard 8 = .ok (.if_icmp .ge 16, 3) := by decide +kernel
theorem d_md_discard_11 : decode b_md_discard 11 = .ok (.aload_n 0, 1) := by decide +kernel
theorem d_md_discard_12 : decode b_md_discard 12 = .ok (.getfield 23, 3) := by decide +kernel
theorem d_md_discard_15 : decode b_md_discard 15 = .ok (.iload_n 1, 1) := by decide +kernel
theorem d_md_discard_16 : decode b_md_discard 16 = .ok (.iaload, 1) := by decide +kernel
theorem d_md_discard_17 : decode b_md_discard 17 = .ok (.ifCond .eq 7, 3) := by decide +kernel
theorem d_md_discard_20 : decode b_md_discard 20 = .ok (.iconst 0, 1) := by decide +kernel
theorem d_md_discard_21 : decode b_md_discard 21 = .ok (.goto 4, 3) := by decide +kernel
theorem d_md_discard_24 : decode b_md_discard 24 = .ok (.iconst 1, 1) := by decide +kernel
theorem d_md_discard_25 : decode b_md_discard 25 = .ok (.putfield 48, 3) := by decide +kernel
theorem d_md_discard_28 : decode b_md_discard 28 = .ok (.aload_n 0, 1) := by decide +kernel
theorem d_md_discard_29 : decode b_md_discard 29 = .ok (.getfield 48, 3) := by decide +kernel
theorem d_md_discard_32 : decode b_md_discard 32 = .ok (.ifCond .ne 10, 3) := by decide +kernel
theorem d_md_discard_35 : decode b_md_discard 35 = .ok (.aload_n 0, 1) := by decide +kernel
theorem d_md_discard_36 : decode b_md_discard 36 = .ok (.getfield 23, 3) := by decide +kernel
theorem d_md_discard_39 : decode b_md_discard 39 = .ok (.iload_n 1, 1) := by decide +kernel
theorem d_md_discard_40 : decode b_md_discard 40 = .ok (.iconst 0, 1) := by decide +kernel
theorem d_md_discard_41 : decode b_md_discard 41 = .ok (.iastore, 1) := by decide +kernel
theorem d_md_discard_42 : decode b_md_discard 42 = .ok (.return_, 1) := by decide +kernel
theorem d_md_quote_0 : decode b_md_quote 0 = .ok (.aload_n 0, 1) := by decide +kernel
theorem d_md_quote_1 : decode b_md_quote 1 = .ok (.iload 5, 2) := by decide +kernel
theorem d_md_quote_3 : decode b_md_quote 3 = .ok (.iconst 1, 1) := by decide +kernel
theorem d_md_quote_4 : decode b_md_quote 4 = .ok (.if_icmp .lt 10, 3) := by decide +kernel
theorem d_md_quote_7 : decode b_md_quote 7 = .ok (.iload 5, 2) := by decide +kernel
theorem d_md_quote_9 : decode b_md_quote 9 = .ok (.bipush 63, 2) := by decide +kernel
theorem d_md_quote_11 : decode b_md_quote 11 = .ok (.if_icmp .le 7, 3) := by decide +kernel
theorem d_md_quote_14 : decode b_md_quote 14 = .ok (.iconst 1, 1) := by decide +kernel
theorem d_md_quote_15 : decode b_md_quote 15 = .ok (.goto 4, 3) := by decide +kernel
theorem d_md_quote_18 : decode b_md_quote 18 = .ok (.iconst 0, 1) := by decide +kernel
theorem d_md_quote_19 : decode b_md_quote 19 = .ok (.putfield 48, 3) := by decide +kernel
theorem d_md_quote_22 : decode b_md_quote 22 = .ok (.aload_n 0, 1) := by decide +kernel
theorem d_md_quote_23 : decode b_md_quote 23 = .ok (.getfield 48, 3) := by decide +kernel
theorem d_md_quote_26 : decode b_md_quote 26 = .ok (.ifCond .eq 5, 3) := by decide +kernel
theorem d_md_quote_29 : decode b_md_quote 29 = .ok (.lconst 0, 1) := by decide +kernel
theorem d_md_quote_30 : decode b_md_quote 30 = .ok (.lreturn, 1) := by decide +kernel
theorem d_md_quote_31 : decode b_md_quote 31 = .ok (.lload_n 1, 1) := by decide +kernel
theorem d_md_quote_32 : decode b_md_quote 32 = .ok (.lload_n 3, 1) := by decide +kernel
theorem d_md_quote_33 : decode b_md_quote 33 = .ok (.invokestatic 62, 3) := by decide +kernel
theorem d_md_quote_36 : decode b_md_quote 36 = .ok (.lstore 6, 2) := by decide +kernel
theorem d_md_quote_38 : decode b_md_quote 38 = .ok (.lload 6, 2) := by decide +kernel
theorem d_md_quote_40 : decode b_md_quote 40 = .ok (.aload_n 0, 1) := by decide +kernel
theorem d_md_quote_41 : decode b_md_quote 41 = .ok (.iload 5, 2) := by decide +kernel
theorem d_md_quote_43 : decode b_md_quote 43 = .ok (.invokevirtual 71, 3) := by decide +kernel
theorem d_md_quote_46 : decode b_md_quote 46 = .ok (.invokestatic 62, 3) := by decide +kernel
theorem d_md_quote_49 : decode b_md_quote 49 = .ok (.lreturn, 1) := by decide +kernel
theorem d_md_replays_0 : decode b_md_replays 0 = .ok (.aload_n 0, 1) := by decide +kernel
theorem d_md_replays_1 : decode b_md_replays 1 = .ok (.iconst 0, 1) := by decide +kernel
theorem d_md_replays_2 : decode b_md_replays 2 = .ok (.putfield 48, 3) := by decide +kernel
theorem d_md_replays_5 : decode b_md_replays 5 = .ok (.iconst 0, 1) := by decide +kernel
theorem d_md_replays_6 : decode b_md_replays 6 = .ok (.istore_n 1, 1) := by decide +kernel
theorem d_md_replays_7 : decode b_md_replays 7 = .ok (.iload_n 1, 1) := by decide +kernel
theorem d_md_replays_8 : decode b_md_replays 8 = .ok (.bipush 6, 2) := by decide +kernel
theorem d_md_replays_10 : decode b_md_replays 10 = .ok (.if_icmp .ge 16, 3) := by decide +kernel
theorem d_md_replays_13 : decode b_md_replays 13 = .ok (.aload_n 0, 1) := by decide +kernel
theorem d_md_replays_14 : decode b_md_replays 14 = .ok (.getfield 39, 3) := by decide +kernel
theorem d_md_replays_17 : decode b_md_replays 17 = .ok (.iload_n 1, 1) := by decide +kernel
theorem d_md_replays_18 : decode b_md_replays 18 = .ok (.lconst 0, 1) := by decide +kernel
theorem d_md_replays_19 : decode b_md_replays 19 = .ok (.lastore, 1) := by decide +kernel
theorem d_md_replays_20 : decode b_md_replays 20 = .ok (.iinc 1 1, 3) := by decide +kernel
theorem d_md_replays_23 : decode b_md_replays 23 = .ok (.goto (-16), 3) := by decide +kernel
theorem d_md_replays_26 : decode b_md_replays 26 = .ok (.iconst 0, 1) := by decide +kernel
theorem d_md_replays_27 : decode b_md_replays 27 = .ok (.istore_n 1, 1) := by decide +kernel
theorem d_md_replays_28 : decode b_md_replays 28 = .ok (.iload_n 1, 1) := by decide +kernel
theorem d_md_replays_29 : decode b_md_replays 29 = .ok (.aload_n 0, 1) := by decide +kernel
theorem d_md_replays_30 : decode b_md_replays 30 = .ok (.getfield 68, 3) := by decide +kernel
theorem d_md_replays_33 : decode b_md_replays 33 = .ok (.if_icmp .ge 40, 3) := by decide +kernel
theorem d_md_replays_36 : decode b_md_replays 36 = .ok (.aload_n 0, 1) := by decide +kernel
theorem d_md_replays_37 : decode b_md_replays 37 = .ok (.getfield 39, 3) := by decide +kernel
theorem d_md_replays_40 : decode b_md_replays 40 = .ok (.aload_n 0, 1) := by decide +kernel
theorem d_md_replays_41 : decode b_md_replays 41 = .ok (.getfield 33, 3) := by decide +kernel
theorem d_md_replays_44 : decode b_md_replays 44 = .ok (.iload_n 1, 1) := by decide +kernel
theorem d_md_replays_45 : decode b_md_replays 45 = .ok (.iaload, 1) := by decide +kernel
theorem d_md_replays_46 : decode b_md_replays 46 = .ok (.aload_n 0, 1) := by decide +kernel
theorem d_md_replays_47 : decode b_md_replays 47 = .ok (.getfield 39, 3) := by decide +kernel
theorem d_md_replays_50 : decode b_md_replays 50 = .ok (.aload_n 0, 1) := by decide +kernel
theorem d_md_replays_51 : decode b_md_replays 51 = .ok (.getfield 33, 3) := by decide +kernel
theorem d_md_replays_54 : decode b_md_replays 54 = .ok (.iload_n 1, 1) := by decide +kernel
theorem d_md_replays_55 : decode b_md_replays 55 = .ok (.iaload, 1) := by decide +kernel
theorem d_md_replays_56 : decode b_md_replays 56 = .ok (.laload, 1) := by decide +kernel
theorem d_md_replays_57 : decode b_md_replays 57 = .ok (.aload_n 0, 1) := by decide +kernel
theorem d_md_replays_58 : decode b_md_replays 58 = .ok (.getfield 36, 3) := by decide +kernel
theorem d_md_replays_61 : decode b_md_replays 61 = .ok (.iload_n 1, 1) := by decide +kernel
theorem d_md_replays_62 : decode b_md_replays 62 = .ok (.laload, 1) := by decide +kernel
theorem d_md_replays_63 : decode b_md_replays 63 = .ok (.invokestatic 62, 3) := by decide +kernel
theorem d_md_replays_66 : decode b_md_replays 66 = .ok (.lastore, 1) := by decide +kernel
theorem d_md_replays_67 : decode b_md_replays 67 = .ok (.iinc 1 1, 3) := by decide +kernel
theorem d_md_replays_70 : decode b_md_replays 70 = .ok (.goto (-42), 3) := by decide +kernel
theorem d_md_replays_73 : decode b_md_replays 73 = .ok (.iconst 1, 1) := by decide +kernel
theorem d_md_replays_74 : decode b_md_replays 74 = .ok (.istore_n 1, 1) := by decide +kernel
theorem d_md_replays_75 : decode b_md_replays 75 = .ok (.iconst 0, 1) := by decide +kernel
theorem d_md_replays_76 : decode b_md_replays 76 = .ok (.istore_n 2, 1) := by decide +kernel
theorem d_md_replays_77 : decode b_md_replays 77 = .ok (.iload_n 2, 1) := by decide +kernel
theorem d_md_replays_78 : decode b_md_replays 78 = .ok (.bipush 6, 2) := by decide +kernel
theorem d_md_replays_80 : decode b_md_replays 80 = .ok (.if_icmp .ge 35, 3) := by decide +kernel
theorem d_md_replays_83 : decode b_md_replays 83 = .ok (.iload_n 1, 1) := by decide +kernel
theorem d_md_replays_84 : decode b_md_replays 84 = .ok (.ifCond .eq 23, 3) := by decide +kernel
theorem d_md_replays_87 : decode b_md_replays 87 = .ok (.aload_n 0, 1) := by decide +kernel
theorem d_md_replays_88 : decode b_md_replays 88 = .ok (.getfield 39, 3) := by decide +kernel
theorem d_md_replays_91 : decode b_md_replays 91 = .ok (.iload_n 2, 1) := by decide +kernel
theorem d_md_replays_92 : decode b_md_replays 92 = .ok (.laload, 1) := by decide +kernel
theorem d_md_replays_93 : decode b_md_replays 93 = .ok (.aload_n 0, 1) := by decide +kernel
theorem d_md_replays_94 : decode b_md_replays 94 = .ok (.getfield 7, 3) := by decide +kernel
theorem d_md_replays_97 : decode b_md_replays 97 = .ok (.iload_n 2, 1) := by decide +kernel
theorem d_md_replays_98 : decode b_md_replays 98 = .ok (.laload, 1) := by decide +kernel
theorem d_md_replays_99 : decode b_md_replays 99 = .ok (.lcmp, 1) := by decide +kernel
theorem d_md_replays_100 : decode b_md_replays 100 = .ok (.ifCond .ne 7, 3) := by decide +kernel
theorem d_md_replays_103 : decode b_md_replays 103 = .ok (.iconst 1, 1) := by decide +kernel
theorem d_md_replays_104 : decode b_md_replays 104 = .ok (.goto 4, 3) := by decide +kernel
theorem d_md_replays_107 : decode b_md_replays 107 = .ok (.iconst 0, 1) := by decide +kernel
theorem d_md_replays_108 : decode b_md_replays 108 = .ok (.istore_n 1, 1) := by decide +kernel
theorem d_md_replays_109 : decode b_md_replays 109 = .ok (.iinc 2 1, 3) := by decide +kernel
theorem d_md_replays_112 : decode b_md_replays 112 = .ok (.goto (-35), 3) := by decide +kernel
theorem d_md_replays_115 : decode b_md_replays 115 = .ok (.iload_n 1, 1) := by decide +kernel
theorem d_md_replays_116 : decode b_md_replays 116 = .ok (.ireturn, 1) := by decide +kernel
set_option maxHeartbeats 4000000 in
set_option maxRecDepth 100000 in
theorem k_md_image (l : Launch) (D : va_G) (cs : Nat → ClassId) (ad : Nat → Nat) (sz : Nat) (u : Sg) (j : Jm) (n : Int32) (x : Int64) (hn : vp_in n 8) : Met l y_md_image (Cond.code y_md_image b_md_image 4 none :: TB) { frames := 7, cells := 0, slots := 0, locals := 200 } (va_Pc [.ref (ad 0), .int n, .long x] (mw_Pre D cs ad u j sz)) (va_Qv (fun (j1 : Jm) => jm_th j1 = 0) (fun (j1 : Jm) t => mw_B D cs ad (va_A (mw ad cs u j) sz) (ss_im u (vp_updL (sg_im u) n.toNatClampNeg x)) j1 t) (va_A (mw ad cs u j) sz)) 0 0 (va_A (mw ad cs u j) sz) := by
  refine Met.ofW (cc := b_md_image) (maxL := 4) (ret := none) (by decide) rfl ?_
  intro p e s m args below meth c s₁ B hml hv
  obtain ⟨rfl, hsz, hP, hK, hD, hN⟩ := hv
  have hx := B.exec
  have hb := B.bytes
  have hret := B.returns
  have hts := atoms_spec (ws := Cond.code y_md_image b_md_image 4 none :: TB) B.pre
  have hT : ∀ w ∈ TB, w.before _ s = true := fun w h => hts w (List.mem_cons_of_mem _ h)
  have hown : s.vm.findClass "MeasuredStagesModel" = some m.cls := findClass_of_methodNamed B.named
  have hlocks := B.notSynchronized
  subst hsz
  have hD := hD.self (sz := s.heap.size)
  generalize hAe : va_A (mw ad cs u j) s.heap.size = A at hD ⊢
  have hA : ∀ q : Nat, s.heap.size ≤ q → A q := fun q h => by rw [← hAe]; exact Or.inr h
  have hS : va_S A s.heap s.heap [] := va_S.rf
  have hl := lv_entry ([.ref (ad 0), .int n, .long x]) (n := 4) (Nat.le_of_ble_eq_true rfl)
  rw [lg_entry_eq]
  generalize (lg_sl ([.ref (ad 0), .int n, .long x]) ++ List.replicate (4 - (lg_sl ([.ref (ad 0), .int n, .long x])).length) Slot.unset).toArray = ls at hl ⊢
  have hl : lv_has ls 4 [(0, .ref (ad 0)), (1, .int n), (2, .long x)] := hl
  skip
  refine lv_aload_n hx hb d_md_image_0 rfl (lv_at hl 0 rfl) ?_
  refine lv_iload_n hx hb d_md_image_1 rfl (lv_at hl 1 rfl) ?_
  refine lv_if_lt hx hb d_md_image_2 (tgt := 11) (by decide) (fun z => absurd z (xn_ge hn)) (fun _ => ?_)
  refine lv_iload_n hx hb d_md_image_5 rfl (lv_at hl 1 rfl) ?_
  refine lv_bipush (v := 7) hx hb d_md_image_6 (by decide) ?_
  refine lv_icmp_le hx hb d_md_image_8 (tgt := 15) (by decide) (fun _ => ?_) (fun z => absurd (le7 hn) z)
  refine lv_iconst (v := 0) hx hb d_md_image_15 (by decide) ?_
  refine va_put (D := D) (ci := 3) (v := .int (0)) (ty := .int) (C := "MeasuredStagesModel") (T := F_md) (N := 19) hx hb hts (fun w h => List.mem_cons_of_mem _ (i_md w h)) t_md o_md n_md hown hK hP hD hS 0 rfl rfl 18 (by decide) (hT _ tb_477) (fun _ h9 => h9) rfl (by decide +kernel) rfl rfl (Nat.le_of_ble_eq_true rfl) d_md_image_16 (fun H locs hP hD hS => ?_)
  have hP : va_P D cx (mv ad cs (sg_im u) (sg_ap u) (sg_ag u) (sg_he u) (sg_er u) (sg_ev u) (sg_en u) (sg_ma u) (sg_po u) (sg_se u) (sg_ac u) (sg_fa u) (sg_la u) (sg_st u) (jm_ag j) (jm_de j) (jm_ru j) (jm_nx j) (0)) H := hP
  have hD : va_D A (mv ad cs (sg_im u) (sg_ap u) (sg_ag u) (sg_he u) (sg_er u) (sg_ev u) (sg_en u) (sg_ma u) (sg_po u) (sg_se u) (sg_ac u) (sg_fa u) (sg_la u) (sg_st u) (jm_ag j) (jm_de j) (jm_ru j) (jm_nx j) (0)) := hD
  refine lv_aload_n hx hb d_md_image_19 rfl (lv_at hl 0 rfl) ?_
  refine va_get (D := D) (ci := 3) (v := .int (0)) (C := "MeasuredStagesModel") (T := F_md) (N := 19) hx hb hts (fun w h => List.mem_cons_of_mem _ (i_md w h)) hown hK hP 0 rfl rfl 18 (by decide) (hT _ tb_477) (fun _ h9 => h9) rfl d_md_image_20 ?_
  refine lv_if_ne hx hb d_md_image_23 (tgt := 33) (by decide) (fun z => absurd (by decide) z) (fun _ => ?_)
  refine lv_aload_n hx hb d_md_image_26 rfl (lv_at hl 0 rfl) ?_
  refine va_get (D := D) (ci := 3) (v := .ref (ad 2)) (C := "MeasuredStagesModel") (T := F_md) (N := 19) hx hb hts (fun w h => List.mem_cons_of_mem _ (i_md w h)) hown hK hP 0 rfl rfl 1 (by decide) (hT _ tb_460) (fun _ h9 => h9) rfl d_md_image_27 ?_
  refine lv_iload_n hx hb d_md_image_30 rfl (lv_at hl 1 rfl) ?_
  refine lv_lload_n hx hb d_md_image_31 rfl (lv_at hl 2 rfl) ?_
  refine va_last hx hb hK hP hD hS 2 1 rfl rfl hn d_md_image_32 (fun H locs hP hD hS => ?_)
  have hP : va_P D cx (mv ad cs (vp_updL (sg_im u) n.toNatClampNeg x) (sg_ap u) (sg_ag u) (sg_he u) (sg_er u) (sg_ev u) (sg_en u) (sg_ma u) (sg_po u) (sg_se u) (sg_ac u) (sg_fa u) (sg_la u) (sg_st u) (jm_ag j) (jm_de j) (jm_ru j) (jm_nx j) (0)) H := hP
  have hD : va_D A (mv ad cs (vp_updL (sg_im u) n.toNatClampNeg x) (sg_ap u) (sg_ag u) (sg_he u) (sg_er u) (sg_ev u) (sg_en u) (sg_ma u) (sg_po u) (sg_se u) (sg_ac u) (sg_fa u) (sg_la u) (sg_st u) (jm_ag j) (jm_de j) (jm_ru j) (jm_nx j) (0)) := hD
  obtain ⟨v1, ev1⟩ : ∃ z : Sg, z = (vp_updL (sg_im u) n.toNatClampNeg x, sg_ap u, sg_ag u, sg_he u, sg_er u, sg_ev u, sg_en u, sg_ma u, sg_po u, sg_se u, sg_ac u, sg_fa u, sg_la u, sg_st u) := ⟨_, rfl⟩
  obtain ⟨q2, eq2⟩ : ∃ z : Jm, z = (jm_ag j, jm_de j, jm_ru j, jm_nx j, 0) := ⟨_, rfl⟩
  have hP : va_P D cx (mw ad cs v1 q2) H := by rw [ev1, eq2, mw_uj]; exact hP
  have hD : va_D A (mw ad cs v1 q2) := by rw [ev1, eq2, mw_uj]; exact hD
  subst ev1
  exact W.vret hx hb hret (fun t ht hW => ⟨⟨q2, rfl, (by subst eq2; rfl), by rw [ht]; exact hP, va_K.moved hW.alike hK, hD⟩, hS.F ht⟩) hS.2.2 d_md_image_33
set_option maxHeartbeats 4000000 in
set_option maxRecDepth 100000 in
theorem f_md_image (l : Launch) (D : va_G) (cs : Nat → ClassId) (ad : Nat → Nat) (sz : Nat) (u : Sg) (j : Jm) (n : Int32) (x : Int64) (hn : ¬ vp_in n 8) : Met l y_md_image (Cond.code y_md_image b_md_image 4 none :: TB) { frames := 7, cells := 0, slots := 0, locals := 200 } (va_Pc [.ref (ad 0), .int n, .long x] (mw_Pre D cs ad u j sz)) (va_Qv (fun (j1 : Jm) => jm_th j1 = 1) (fun (j1 : Jm) t => mw_B D cs ad (va_A (mw ad cs u j) sz) u j1 t) (va_A (mw ad cs u j) sz)) 0 0 (va_A (mw ad cs u j) sz) := by
  refine Met.ofW (cc := b_md_image) (maxL := 4) (ret := none) (by decide) rfl ?_
  intro p e s m args below meth c s₁ B hml hv
  obtain ⟨rfl, hsz, hP, hK, hD, hN⟩ := hv
  have hx := B.exec
  have hb := B.bytes
  have hret := B.returns
  have hts := atoms_spec (ws := Cond.code y_md_image b_md_image 4 none :: TB) B.pre
  have hT : ∀ w ∈ TB, w.before _ s = true := fun w h => hts w (List.mem_cons_of_mem _ h)
  have hown : s.vm.findClass "MeasuredStagesModel" = some m.cls := findClass_of_methodNamed B.named
  have hlocks := B.notSynchronized
  subst hsz
  have hD := hD.self (sz := s.heap.size)
  generalize hAe : va_A (mw ad cs u j) s.heap.size = A at hD ⊢
  have hA : ∀ q : Nat, s.heap.size ≤ q → A q := fun q h => by rw [← hAe]; exact Or.inr h
  have hS : va_S A s.heap s.heap [] := va_S.rf
  have hl := lv_entry ([.ref (ad 0), .int n, .long x]) (n := 4) (Nat.le_of_ble_eq_true rfl)
  rw [lg_entry_eq]
  generalize (lg_sl ([.ref (ad 0), .int n, .long x]) ++ List.replicate (4 - (lg_sl ([.ref (ad 0), .int n, .long x])).length) Slot.unset).toArray = ls at hl ⊢
  have hl : lv_has ls 4 [(0, .ref (ad 0)), (1, .int n), (2, .long x)] := hl
  skip
  refine lv_aload_n hx hb d_md_image_0 rfl (lv_at hl 0 rfl) ?_
  refine lv_iload_n hx hb d_md_image_1 rfl (lv_at hl 1 rfl) ?_
  refine lv_if_lt hx hb d_md_image_2 (tgt := 11) (by decide) (fun h1 => ?_) (fun h1 => ?_)
  · skip
    refine lv_iconst (v := 1) hx hb d_md_image_11 (by decide) ?_
    refine lv_goto hx hb d_md_image_12 (tgt := 16) (by decide) ?_
    refine va_put (D := D) (ci := 3) (v := .int (1)) (ty := .int) (C := "MeasuredStagesModel") (T := F_md) (N := 19) hx hb hts (fun w h => List.mem_cons_of_mem _ (i_md w h)) t_md o_md n_md hown hK hP hD hS 0 rfl rfl 18 (by decide) (hT _ tb_477) (fun _ h9 => h9) rfl (by decide +kernel) rfl rfl (Nat.le_of_ble_eq_true rfl) d_md_image_16 (fun H locs hP hD hS => ?_)
    have hP : va_P D cx (mv ad cs (sg_im u) (sg_ap u) (sg_ag u) (sg_he u) (sg_er u) (sg_ev u) (sg_en u) (sg_ma u) (sg_po u) (sg_se u) (sg_ac u) (sg_fa u) (sg_la u) (sg_st u) (jm_ag j) (jm_de j) (jm_ru j) (jm_nx j) (1)) H := hP
    have hD : va_D A (mv ad cs (sg_im u) (sg_ap u) (sg_ag u) (sg_he u) (sg_er u) (sg_ev u) (sg_en u) (sg_ma u) (sg_po u) (sg_se u) (sg_ac u) (sg_fa u) (sg_la u) (sg_st u) (jm_ag j) (jm_de j) (jm_ru j) (jm_nx j) (1)) := hD
    refine lv_aload_n hx hb d_md_image_19 rfl (lv_at hl 0 rfl) ?_
    refine va_get (D := D) (ci := 3) (v := .int (1)) (C := "MeasuredStagesModel") (T := F_md) (N := 19) hx hb hts (fun w h => List.mem_cons_of_mem _ (i_md w h)) hown hK hP 0 rfl rfl 18 (by decide) (hT _ tb_477) (fun _ h9 => h9) rfl d_md_image_20 ?_
    refine lv_if_ne hx hb d_md_image_23 (tgt := 33) (by decide) (fun _ => ?_) (fun z => absurd z (by decide))
    obtain ⟨q2, eq2⟩ : ∃ z : Jm, z = (jm_ag j, jm_de j, jm_ru j, jm_nx j, 1) := ⟨_, rfl⟩
    have hP : va_P D cx (mw ad cs u q2) H := by rw [eq2, mw_j]; exact hP
    have hD : va_D A (mw ad cs u q2) := by rw [eq2, mw_j]; exact hD
    exact W.vret hx hb hret (fun t ht hW => ⟨⟨q2, rfl, (by subst eq2; rfl), by rw [ht]; exact hP, va_K.moved hW.alike hK, hD⟩, hS.F ht⟩) hS.2.2 d_md_image_33
  · skip
    refine lv_iload_n hx hb d_md_image_5 rfl (lv_at hl 1 rfl) ?_
    refine lv_bipush (v := 7) hx hb d_md_image_6 (by decide) ?_
    refine lv_icmp_le hx hb d_md_image_8 (tgt := 15) (by decide) (fun z => absurd z (nl7 hn h1)) (fun _ => ?_)
    refine lv_iconst (v := 1) hx hb d_md_image_11 (by decide) ?_
    refine lv_goto hx hb d_md_image_12 (tgt := 16) (by decide) ?_
    refine va_put (D := D) (ci := 3) (v := .int (1)) (ty := .int) (C := "MeasuredStagesModel") (T := F_md) (N := 19) hx hb hts (fun w h => List.mem_cons_of_mem _ (i_md w h)) t_md o_md n_md hown hK hP hD hS 0 rfl rfl 18 (by decide) (hT _ tb_477) (fun _ h9 => h9) rfl (by decide +kernel) rfl rfl (Nat.le_of_ble_eq_true rfl) d_md_image_16 (fun H locs hP hD hS => ?_)
    have hP : va_P D cx (mv ad cs (sg_im u) (sg_ap u) (sg_ag u) (sg_he u) (sg_er u) (sg_ev u) (sg_en u) (sg_ma u) (sg_po u) (sg_se u) (sg_ac u) (sg_fa u) (sg_la u) (sg_st u) (jm_ag j) (jm_de j) (jm_ru j) (jm_nx j) (1)) H := hP
    have hD : va_D A (mv ad cs (sg_im u) (sg_ap u) (sg_ag u) (sg_he u) (sg_er u) (sg_ev u) (sg_en u) (sg_ma u) (sg_po u) (sg_se u) (sg_ac u) (sg_fa u) (sg_la u) (sg_st u) (jm_ag j) (jm_de j) (jm_ru j) (jm_nx j) (1)) := hD
    refine lv_aload_n hx hb d_md_image_19 rfl (lv_at hl 0 rfl) ?_
    refine va_get (D := D) (ci := 3) (v := .int (1)) (C := "MeasuredStagesModel") (T := F_md) (N := 19) hx hb hts (fun w h => List.mem_cons_of_mem _ (i_md w h)) hown hK hP 0 rfl rfl 18 (by decide) (hT _ tb_477) (fun _ h9 => h9) rfl d_md_image_20 ?_
    refine lv_if_ne hx hb d_md_image_23 (tgt := 33) (by decide) (fun _ => ?_) (fun z => absurd z (by decide))
    obtain ⟨q3, eq3⟩ : ∃ z : Jm, z = (jm_ag j, jm_de j, jm_ru j, jm_nx j, 1) := ⟨_, rfl⟩
    have hP : va_P D cx (mw ad cs u q3) H := by rw [eq3, mw_j]; exact hP
    have hD : va_D A (mw ad cs u q3) := by rw [eq3, mw_j]; exact hD
    exact W.vret hx hb hret (fun t ht hW => ⟨⟨q3, rfl, (by subst eq3; rfl), by rw [ht]; exact hP, va_K.moved hW.alike hK, hD⟩, hS.F ht⟩) hS.2.2 d_md_image_33
set_option maxHeartbeats 4000000 in
set_option maxRecDepth 100000 in
theorem k_md_approve (l : Launch) (D : va_G) (cs : Nat → ClassId) (ad : Nat → Nat) (sz : Nat) (u : Sg) (j : Jm) (n : Int32) (hn : vp_in n 8) : Met l y_md_approve (Cond.code y_md_approve b_md_approve 2 none :: TB) { frames := 7, cells := 0, slots := 0, locals := 200 } (va_Pc [.ref (ad 0), .int n] (mw_Pre D cs ad u j sz)) (va_Qv (fun (j1 : Jm) => jm_th j1 = 0) (fun (j1 : Jm) t => mw_B D cs ad (va_A (mw ad cs u j) sz) (ss_ag (ss_ap u (upd (sg_ap u) n.toNatClampNeg 1)) (vp_updL (sg_ag u) n.toNatClampNeg (sp_di u n))) j1 t) (va_A (mw ad cs u j) sz)) 0 0 (va_A (mw ad cs u j) sz) := by
  refine Met.ofW (cc := b_md_approve) (maxL := 2) (ret := none) (by decide) rfl ?_
  intro p e s m args below meth c s₁ B hml hv
  obtain ⟨rfl, hsz, hP, hK, hD, hN⟩ := hv
  have hx := B.exec
  have hb := B.bytes
  have hret := B.returns
  have hts := atoms_spec (ws := Cond.code y_md_approve b_md_approve 2 none :: TB) B.pre
  have hT : ∀ w ∈ TB, w.before _ s = true := fun w h => hts w (List.mem_cons_of_mem _ h)
  have hown : s.vm.findClass "MeasuredStagesModel" = some m.cls := findClass_of_methodNamed B.named
  have hlocks := B.notSynchronized
  subst hsz
  have hD := hD.self (sz := s.heap.size)
  generalize hAe : va_A (mw ad cs u j) s.heap.size = A at hD ⊢
  have hA : ∀ q : Nat, s.heap.size ≤ q → A q := fun q h => by rw [← hAe]; exact Or.inr h
  have hS : va_S A s.heap s.heap [] := va_S.rf
  have hl := lv_entry ([.ref (ad 0), .int n]) (n := 2) (Nat.le_of_ble_eq_true rfl)
  rw [lg_entry_eq]
  generalize (lg_sl ([.ref (ad 0), .int n]) ++ List.replicate (2 - (lg_sl ([.ref (ad 0), .int n])).length) Slot.unset).toArray = ls at hl ⊢
  have hl : lv_has ls 2 [(0, .ref (ad 0)), (1, .int n)] := hl
  skip
  refine lv_aload_n hx hb d_md_approve_0 rfl (lv_at hl 0 rfl) ?_
  refine lv_iload_n hx hb d_md_approve_1 rfl (lv_at hl 1 rfl) ?_
  refine lv_if_lt hx hb d_md_approve_2 (tgt := 11) (by decide) (fun z => absurd z (xn_ge hn)) (fun _ => ?_)
  refine lv_iload_n hx hb d_md_approve_5 rfl (lv_at hl 1 rfl) ?_
  refine lv_bipush (v := 7) hx hb d_md_approve_6 (by decide) ?_
  refine lv_icmp_le hx hb d_md_approve_8 (tgt := 15) (by decide) (fun _ => ?_) (fun z => absurd (le7 hn) z)
  refine lv_iconst (v := 0) hx hb d_md_approve_15 (by decide) ?_
  refine va_put (D := D) (ci := 3) (v := .int (0)) (ty := .int) (C := "MeasuredStagesModel") (T := F_md) (N := 19) hx hb hts (fun w h => List.mem_cons_of_mem _ (i_md w h)) t_md o_md n_md hown hK hP hD hS 0 rfl rfl 18 (by decide) (hT _ tb_477) (fun _ h9 => h9) rfl (by decide +kernel) rfl rfl (Nat.le_of_ble_eq_true rfl) d_md_approve_16 (fun H locs hP hD hS => ?_)
  have hP : va_P D cx (mv ad cs (sg_im u) (sg_ap u) (sg_ag u) (sg_he u) (sg_er u) (sg_ev u) (sg_en u) (sg_ma u) (sg_po u) (sg_se u) (sg_ac u) (sg_fa u) (sg_la u) (sg_st u) (jm_ag j) (jm_de j) (jm_ru j) (jm_nx j) (0)) H := hP
  have hD : va_D A (mv ad cs (sg_im u) (sg_ap u) (sg_ag u) (sg_he u) (sg_er u) (sg_ev u) (sg_en u) (sg_ma u) (sg_po u) (sg_se u) (sg_ac u) (sg_fa u) (sg_la u) (sg_st u) (jm_ag j) (jm_de j) (jm_ru j) (jm_nx j) (0)) := hD
  refine lv_aload_n hx hb d_md_approve_19 rfl (lv_at hl 0 rfl) ?_
  refine va_get (D := D) (ci := 3) (v := .int (0)) (C := "MeasuredStagesModel") (T := F_md) (N := 19) hx hb hts (fun w h => List.mem_cons_of_mem _ (i_md w h)) hown hK hP 0 rfl rfl 18 (by decide) (hT _ tb_477) (fun _ h9 => h9) rfl d_md_approve_20 ?_
  refine lv_if_ne hx hb d_md_approve_23 (tgt := 44) (by decide) (fun z => absurd (by decide) z) (fun _ => ?_)
  refine lv_aload_n hx hb d_md_approve_26 rfl (lv_at hl 0 rfl) ?_
  refine va_get (D := D) (ci := 3) (v := .ref (ad 3)) (C := "MeasuredStagesModel") (T := F_md) (N := 19) hx hb hts (fun w h => List.mem_cons_of_mem _ (i_md w h)) hown hK hP 0 rfl rfl 2 (by decide) (hT _ tb_461) (fun _ h9 => h9) rfl d_md_approve_27 ?_
  refine lv_iload_n hx hb d_md_approve_30 rfl (lv_at hl 1 rfl) ?_
  refine lv_iconst (v := 1) hx hb d_md_approve_31 (by decide) ?_
  refine va_zast hx hb hK hP hD hS 3 2 rfl rfl hn d_md_approve_32 (fun H locs hP hD hS => ?_)
  have hP : va_P D cx (mv ad cs (sg_im u) (upd (sg_ap u) n.toNatClampNeg (1)) (sg_ag u) (sg_he u) (sg_er u) (sg_ev u) (sg_en u) (sg_ma u) (sg_po u) (sg_se u) (sg_ac u) (sg_fa u) (sg_la u) (sg_st u) (jm_ag j) (jm_de j) (jm_ru j) (jm_nx j) (0)) H := hP
  have hD : va_D A (mv ad cs (sg_im u) (upd (sg_ap u) n.toNatClampNeg (1)) (sg_ag u) (sg_he u) (sg_er u) (sg_ev u) (sg_en u) (sg_ma u) (sg_po u) (sg_se u) (sg_ac u) (sg_fa u) (sg_la u) (sg_st u) (jm_ag j) (jm_de j) (jm_ru j) (jm_nx j) (0)) := hD
  refine lv_aload_n hx hb d_md_approve_33 rfl (lv_at hl 0 rfl) ?_
  refine va_get (D := D) (ci := 3) (v := .ref (ad 4)) (C := "MeasuredStagesModel") (T := F_md) (N := 19) hx hb hts (fun w h => List.mem_cons_of_mem _ (i_md w h)) hown hK hP 0 rfl rfl 3 (by decide) (hT _ tb_462) (fun _ h9 => h9) rfl d_md_approve_34 ?_
  refine lv_iload_n hx hb d_md_approve_37 rfl (lv_at hl 1 rfl) ?_
  refine lv_aload_n hx hb d_md_approve_38 rfl (lv_at hl 0 rfl) ?_
  refine lv_iload_n hx hb d_md_approve_39 rfl (lv_at hl 1 rfl) ?_
  obtain ⟨v1, ev1⟩ : ∃ z : Sg, z = (sg_im u, upd (sg_ap u) n.toNatClampNeg (1), sg_ag u, sg_he u, sg_er u, sg_ev u, sg_en u, sg_ma u, sg_po u, sg_se u, sg_ac u, sg_fa u, sg_la u, sg_st u) := ⟨_, rfl⟩
  obtain ⟨q2, eq2⟩ : ∃ z : Jm, z = (jm_ag j, jm_de j, jm_ru j, jm_nx j, 0) := ⟨_, rfl⟩
  have hP : va_P D cx (mw ad cs v1 q2) H := by rw [ev1, eq2, mw_uj]; exact hP
  have hD : va_D A (mw ad cs v1 q2) := by rw [ev1, eq2, mw_uj]; exact hD
  refine mw_rdl (v := sp_di v1 n) (As := [.int n]) (rest := [.int n, .ref (ad 4)]) ⟨hx, hb, hml, hown, hts⟩ (c_md_digest l D cs ad _ v1 q2 n hn) tb_529 tb_531 sl_15 tb_4 tb_532 ⟨rfl, hd_md_digest⟩ ⟨Nat.le_of_ble_eq_true rfl, Nat.le_of_ble_eq_true rfl⟩ rfl rfl hK hP hD hN 0 3 rfl rfl hl.1 rfl (Nat.le_of_ble_eq_true rfl) d_md_approve_40 ⟨Nat.zero_le _, Nat.zero_le _⟩ ?_
  refine va_last hx hb hK hP hD hS 4 3 rfl rfl hn d_md_approve_43 (fun H locs hP hD hS => ?_)
  have hP : va_P D cx (mv ad cs (sg_im v1) (sg_ap v1) (vp_updL (sg_ag v1) n.toNatClampNeg (sp_di v1 n)) (sg_he v1) (sg_er v1) (sg_ev v1) (sg_en v1) (sg_ma v1) (sg_po v1) (sg_se v1) (sg_ac v1) (sg_fa v1) (sg_la v1) (sg_st v1) (jm_ag q2) (jm_de q2) (jm_ru q2) (jm_nx q2) (jm_th q2)) H := hP
  have hD : va_D A (mv ad cs (sg_im v1) (sg_ap v1) (vp_updL (sg_ag v1) n.toNatClampNeg (sp_di v1 n)) (sg_he v1) (sg_er v1) (sg_ev v1) (sg_en v1) (sg_ma v1) (sg_po v1) (sg_se v1) (sg_ac v1) (sg_fa v1) (sg_la v1) (sg_st v1) (jm_ag q2) (jm_de q2) (jm_ru q2) (jm_nx q2) (jm_th q2)) := hD
  obtain ⟨v3, ev3⟩ : ∃ z : Sg, z = (sg_im v1, sg_ap v1, vp_updL (sg_ag v1) n.toNatClampNeg (sp_di v1 n), sg_he v1, sg_er v1, sg_ev v1, sg_en v1, sg_ma v1, sg_po v1, sg_se v1, sg_ac v1, sg_fa v1, sg_la v1, sg_st v1) := ⟨_, rfl⟩
  have hP : va_P D cx (mw ad cs v3 q2) H := by rw [ev3, mw_u]; exact hP
  have hD : va_D A (mw ad cs v3 q2) := by rw [ev3, mw_u]; exact hD
  subst ev3
  subst ev1
  exact W.vret hx hb hret (fun t ht hW => ⟨⟨q2, rfl, (by subst eq2; rfl), by rw [ht]; exact hP, va_K.moved hW.alike hK, hD⟩, hS.F ht⟩) hS.2.2 d_md_approve_44
set_option maxHeartbeats 4000000 in
set_option maxRecDepth 100000 in
theorem f_md_approve (l : Launch) (D : va_G) (cs : Nat → ClassId) (ad : Nat → Nat) (sz : Nat) (u : Sg) (j : Jm) (n : Int32) (hn : ¬ vp_in n 8) : Met l y_md_approve (Cond.code y_md_approve b_md_approve 2 none :: TB) { frames := 7, cells := 0, slots := 0, locals := 200 } (va_Pc [.ref (ad 0), .int n] (mw_Pre D cs ad u j sz)) (va_Qv (fun (j1 : Jm) => jm_th j1 = 1) (fun (j1 : Jm) t => mw_B D cs ad (va_A (mw ad cs u j) sz) u j1 t) (va_A (mw ad cs u j) sz)) 0 0 (va_A (mw ad cs u j) sz) := by
  refine Met.ofW (cc := b_md_approve) (maxL := 2) (ret := none) (by decide) rfl ?_
  intro p e s m args below meth c s₁ B hml hv
  obtain ⟨rfl, hsz, hP, hK, hD, hN⟩ := hv
  have hx := B.exec
  have hb := B.bytes
  have hret := B.returns
  have hts := atoms_spec (ws := Cond.code y_md_approve b_md_approve 2 none :: TB) B.pre
  have hT : ∀ w ∈ TB, w.before _ s = true := fun w h => hts w (List.mem_cons_of_mem _ h)
  have hown : s.vm.findClass "MeasuredStagesModel" = some m.cls := findClass_of_methodNamed B.named
  have hlocks := B.notSynchronized
  subst hsz
  have hD := hD.self (sz := s.heap.size)
  generalize hAe : va_A (mw ad cs u j) s.heap.size = A at hD ⊢
  have hA : ∀ q : Nat, s.heap.size ≤ q → A q := fun q h => by rw [← hAe]; exact Or.inr h
  have hS : va_S A s.heap s.heap [] := va_S.rf
  have hl := lv_entry ([.ref (ad 0), .int n]) (n := 2) (Nat.le_of_ble_eq_true rfl)
  rw [lg_entry_eq]
  generalize (lg_sl ([.ref (ad 0), .int n]) ++ List.replicate (2 - (lg_sl ([.ref (ad 0), .int n])).length) Slot.unset).toArray = ls at hl ⊢
  have hl : lv_has ls 2 [(0, .ref (ad 0)), (1, .int n)] := hl
  skip
  refine lv_aload_n hx hb d_md_approve_0 rfl (lv_at hl 0 rfl) ?_
  refine lv_iload_n hx hb d_md_approve_1 rfl (lv_at hl 1 rfl) ?_
  refine lv_if_lt hx hb d_md_approve_2 (tgt := 11) (by decide) (fun h1 => ?_) (fun h1 => ?_)
  · skip
    refine lv_iconst (v := 1) hx hb d_md_approve_11 (by decide) ?_
    refine lv_goto hx hb d_md_approve_12 (tgt := 16) (by decide) ?_
    refine va_put (D := D) (ci := 3) (v := .int (1)) (ty := .int) (C := "MeasuredStagesModel") (T := F_md) (N := 19) hx hb hts (fun w h => List.mem_cons_of_mem _ (i_md w h)) t_md o_md n_md hown hK hP hD hS 0 rfl rfl 18 (by decide) (hT _ tb_477) (fun _ h9 => h9) rfl (by decide +kernel) rfl rfl (Nat.le_of_ble_eq_true rfl) d_md_approve_16 (fun H locs hP hD hS => ?_)
    have hP : va_P D cx (mv ad cs (sg_im u) (sg_ap u) (sg_ag u) (sg_he u) (sg_er u) (sg_ev u) (sg_en u) (sg_ma u) (sg_po u) (sg_se u) (sg_ac u) (sg_fa u) (sg_la u) (sg_st u) (jm_ag j) (jm_de j) (jm_ru j) (jm_nx j) (1)) H := hP
    have hD : va_D A (mv ad cs (sg_im u) (sg_ap u) (sg_ag u) (sg_he u) (sg_er u) (sg_ev u) (sg_en u) (sg_ma u) (sg_po u) (sg_se u) (sg_ac u) (sg_fa u) (sg_la u) (sg_st u) (jm_ag j) (jm_de j) (jm_ru j) (jm_nx j) (1)) := hD
    refine lv_aload_n hx hb d_md_approve_19 rfl (lv_at hl 0 rfl) ?_
    refine va_get (D := D) (ci := 3) (v := .int (1)) (C := "MeasuredStagesModel") (T := F_md) (N := 19) hx hb hts (fun w h => List.mem_cons_of_mem _ (i_md w h)) hown hK hP 0 rfl rfl 18 (by decide) (hT _ tb_477) (fun _ h9 => h9) rfl d_md_approve_20 ?_
    refine lv_if_ne hx hb d_md_approve_23 (tgt := 44) (by decide) (fun _ => ?_) (fun z => absurd z (by decide))
    obtain ⟨q2, eq2⟩ : ∃ z : Jm, z = (jm_ag j, jm_de j, jm_ru j, jm_nx j, 1) := ⟨_, rfl⟩
    have hP : va_P D cx (mw ad cs u q2) H := by rw [eq2, mw_j]; exact hP
    have hD : va_D A (mw ad cs u q2) := by rw [eq2, mw_j]; exact hD
    exact W.vret hx hb hret (fun t ht hW => ⟨⟨q2, rfl, (by subst eq2; rfl), by rw [ht]; exact hP, va_K.moved hW.alike hK, hD⟩, hS.F ht⟩) hS.2.2 d_md_approve_44
  · skip
    refine lv_iload_n hx hb d_md_approve_5 rfl (lv_at hl 1 rfl) ?_
    refine lv_bipush (v := 7) hx hb d_md_approve_6 (by decide) ?_
    refine lv_icmp_le hx hb d_md_approve_8 (tgt := 15) (by decide) (fun z => absurd z (nl7 hn h1)) (fun _ => ?_)
    refine lv_iconst (v := 1) hx hb d_md_approve_11 (by decide) ?_
    refine lv_goto hx hb d_md_approve_12 (tgt := 16) (by decide) ?_
    refine va_put (D := D) (ci := 3) (v := .int (1)) (ty := .int) (C := "MeasuredStagesModel") (T := F_md) (N := 19) hx hb hts (fun w h => List.mem_cons_of_mem _ (i_md w h)) t_md o_md n_md hown hK hP hD hS 0 rfl rfl 18 (by decide) (hT _ tb_477) (fun _ h9 => h9) rfl (by decide +kernel) rfl rfl (Nat.le_of_ble_eq_true rfl) d_md_approve_16 (fun H locs hP hD hS => ?_)
    have hP : va_P D cx (mv ad cs (sg_im u) (sg_ap u) (sg_ag u) (sg_he u) (sg_er u) (sg_ev u) (sg_en u) (sg_ma u) (sg_po u) (sg_se u) (sg_ac u) (sg_fa u) (sg_la u) (sg_st u) (jm_ag j) (jm_de j) (jm_ru j) (jm_nx j) (1)) H := hP
    have hD : va_D A (mv ad cs (sg_im u) (sg_ap u) (sg_ag u) (sg_he u) (sg_er u) (sg_ev u) (sg_en u) (sg_ma u) (sg_po u) (sg_se u) (sg_ac u) (sg_fa u) (sg_la u) (sg_st u) (jm_ag j) (jm_de j) (jm_ru j) (jm_nx j) (1)) := hD
    refine lv_aload_n hx hb d_md_approve_19 rfl (lv_at hl 0 rfl) ?_
    refine va_get (D := D) (ci := 3) (v := .int (1)) (C := "MeasuredStagesModel") (T := F_md) (N := 19) hx hb hts (fun w h => List.mem_cons_of_mem _ (i_md w h)) hown hK hP 0 rfl rfl 18 (by decide) (hT _ tb_477) (fun _ h9 => h9) rfl d_md_approve_20 ?_
    refine lv_if_ne hx hb d_md_approve_23 (tgt := 44) (by decide) (fun _ => ?_) (fun z => absurd z (by decide))
    obtain ⟨q3, eq3⟩ : ∃ z : Jm, z = (jm_ag j, jm_de j, jm_ru j, jm_nx j, 1) := ⟨_, rfl⟩
    have hP : va_P D cx (mw ad cs u q3) H := by rw [eq3, mw_j]; exact hP
    have hD : va_D A (mw ad cs u q3) := by rw [eq3, mw_j]; exact hD
    exact W.vret hx hb hret (fun t ht hW => ⟨⟨q3, rfl, (by subst eq3; rfl), by rw [ht]; exact hP, va_K.moved hW.alike hK, hD⟩, hS.F ht⟩) hS.2.2 d_md_approve_44
set_option maxHeartbeats 4000000 in
set_option maxRecDepth 100000 in
theorem f_md_boot (l : Launch) (D : va_G) (cs : Nat → ClassId) (ad : Nat → Nat) (sz : Nat) (u : Sg) (j : Jm) (n : Int32) (hn : ¬ vp_in n 8) : Met l y_md_boot (Cond.code y_md_boot b_md_boot 4 (some .int) :: TB) { frames := 7, cells := 0, slots := 0, locals := 200 } (va_Pc [.ref (ad 0), .int n] (mw_Pre D cs ad u j sz)) (va_Qi (fun (r : Int32) (j1 : Jm) => r = 0 ∧ jm_th j1 = 1) (fun (j1 : Jm) t => mw_B D cs ad (va_A (mw ad cs u j) sz) u j1 t) (va_A (mw ad cs u j) sz)) 0 0 (va_A (mw ad cs u j) sz) := by
  refine Met.ofW (cc := b_md_boot) (maxL := 4) (ret := (some .int)) (by decide) rfl ?_
  intro p e s m args below meth c s₁ B hml hv
  obtain ⟨rfl, hsz, hP, hK, hD, hN⟩ := hv
  have hx := B.exec
  have hb := B.bytes
  have hret := B.returns
  have hts := atoms_spec (ws := Cond.code y_md_boot b_md_boot 4 (some .int) :: TB) B.pre
  have hT : ∀ w ∈ TB, w.before _ s = true := fun w h => hts w (List.mem_cons_of_mem _ h)
  have hown : s.vm.findClass "MeasuredStagesModel" = some m.cls := findClass_of_methodNamed B.named
  have hlocks := B.notSynchronized
  subst hsz
  have hD := hD.self (sz := s.heap.size)
  generalize hAe : va_A (mw ad cs u j) s.heap.size = A at hD ⊢
  have hA : ∀ q : Nat, s.heap.size ≤ q → A q := fun q h => by rw [← hAe]; exact Or.inr h
  have hS : va_S A s.heap s.heap [] := va_S.rf
  have hl := lv_entry ([.ref (ad 0), .int n]) (n := 4) (Nat.le_of_ble_eq_true rfl)
  rw [lg_entry_eq]
  generalize (lg_sl ([.ref (ad 0), .int n]) ++ List.replicate (4 - (lg_sl ([.ref (ad 0), .int n])).length) Slot.unset).toArray = ls at hl ⊢
  have hl : lv_has ls 4 [(0, .ref (ad 0)), (1, .int n)] := hl
  skip
  refine lv_aload_n hx hb d_md_boot_0 rfl (lv_at hl 0 rfl) ?_
  refine lv_iload_n hx hb d_md_boot_1 rfl (lv_at hl 1 rfl) ?_
  refine lv_if_lt hx hb d_md_boot_2 (tgt := 11) (by decide) (fun h1 => ?_) (fun h1 => ?_)
  · skip
    refine lv_iconst (v := 1) hx hb d_md_boot_11 (by decide) ?_
    refine lv_goto hx hb d_md_boot_12 (tgt := 16) (by decide) ?_
    refine va_put (D := D) (ci := 3) (v := .int (1)) (ty := .int) (C := "MeasuredStagesModel") (T := F_md) (N := 19) hx hb hts (fun w h => List.mem_cons_of_mem _ (i_md w h)) t_md o_md n_md hown hK hP hD hS 0 rfl rfl 18 (by decide) (hT _ tb_477) (fun _ h9 => h9) rfl (by decide +kernel) rfl rfl (Nat.le_of_ble_eq_true rfl) d_md_boot_16 (fun H locs hP hD hS => ?_)
    have hP : va_P D cx (mv ad cs (sg_im u) (sg_ap u) (sg_ag u) (sg_he u) (sg_er u) (sg_ev u) (sg_en u) (sg_ma u) (sg_po u) (sg_se u) (sg_ac u) (sg_fa u) (sg_la u) (sg_st u) (jm_ag j) (jm_de j) (jm_ru j) (jm_nx j) (1)) H := hP
    have hD : va_D A (mv ad cs (sg_im u) (sg_ap u) (sg_ag u) (sg_he u) (sg_er u) (sg_ev u) (sg_en u) (sg_ma u) (sg_po u) (sg_se u) (sg_ac u) (sg_fa u) (sg_la u) (sg_st u) (jm_ag j) (jm_de j) (jm_ru j) (jm_nx j) (1)) := hD
    refine lv_aload_n hx hb d_md_boot_19 rfl (lv_at hl 0 rfl) ?_
    refine va_get (D := D) (ci := 3) (v := .int (1)) (C := "MeasuredStagesModel") (T := F_md) (N := 19) hx hb hts (fun w h => List.mem_cons_of_mem _ (i_md w h)) hown hK hP 0 rfl rfl 18 (by decide) (hT _ tb_477) (fun _ h9 => h9) rfl d_md_boot_20 ?_
    refine lv_if_eq hx hb d_md_boot_23 (tgt := 28) (by decide) (fun z => absurd z (by decide)) (fun _ => ?_)
    refine lv_iconst (v := 0) hx hb d_md_boot_26 (by decide) ?_
    obtain ⟨q2, eq2⟩ : ∃ z : Jm, z = (jm_ag j, jm_de j, jm_ru j, jm_nx j, 1) := ⟨_, rfl⟩
    have hP : va_P D cx (mw ad cs u q2) H := by rw [eq2, mw_j]; exact hP
    have hD : va_D A (mw ad cs u q2) := by rw [eq2, mw_j]; exact hD
    exact W.iret hx hb hret (fun t ht hW => ⟨⟨_, q2, rfl, ⟨rfl, (by subst eq2; rfl)⟩, by rw [ht]; exact hP, va_K.moved hW.alike hK, hD⟩, hS.F ht⟩) hS.2.2 d_md_boot_27
  · skip
    refine lv_iload_n hx hb d_md_boot_5 rfl (lv_at hl 1 rfl) ?_
    refine lv_bipush (v := 7) hx hb d_md_boot_6 (by decide) ?_
    refine lv_icmp_le hx hb d_md_boot_8 (tgt := 15) (by decide) (fun z => absurd z (nl7 hn h1)) (fun _ => ?_)
    refine lv_iconst (v := 1) hx hb d_md_boot_11 (by decide) ?_
    refine lv_goto hx hb d_md_boot_12 (tgt := 16) (by decide) ?_
    refine va_put (D := D) (ci := 3) (v := .int (1)) (ty := .int) (C := "MeasuredStagesModel") (T := F_md) (N := 19) hx hb hts (fun w h => List.mem_cons_of_mem _ (i_md w h)) t_md o_md n_md hown hK hP hD hS 0 rfl rfl 18 (by decide) (hT _ tb_477) (fun _ h9 => h9) rfl (by decide +kernel) rfl rfl (Nat.le_of_ble_eq_true rfl) d_md_boot_16 (fun H locs hP hD hS => ?_)
    have hP : va_P D cx (mv ad cs (sg_im u) (sg_ap u) (sg_ag u) (sg_he u) (sg_er u) (sg_ev u) (sg_en u) (sg_ma u) (sg_po u) (sg_se u) (sg_ac u) (sg_fa u) (sg_la u) (sg_st u) (jm_ag j) (jm_de j) (jm_ru j) (jm_nx j) (1)) H := hP
    have hD : va_D A (mv ad cs (sg_im u) (sg_ap u) (sg_ag u) (sg_he u) (sg_er u) (sg_ev u) (sg_en u) (sg_ma u) (sg_po u) (sg_se u) (sg_ac u) (sg_fa u) (sg_la u) (sg_st u) (jm_ag j) (jm_de j) (jm_ru j) (jm_nx j) (1)) := hD
    refine lv_aload_n hx hb d_md_boot_19 rfl (lv_at hl 0 rfl) ?_
    refine va_get (D := D) (ci := 3) (v := .int (1)) (C := "MeasuredStagesModel") (T := F_md) (N := 19) hx hb hts (fun w h => List.mem_cons_of_mem _ (i_md w h)) hown hK hP 0 rfl rfl 18 (by decide) (hT _ tb_477) (fun _ h9 => h9) rfl d_md_boot_20 ?_
    refine lv_if_eq hx hb d_md_boot_23 (tgt := 28) (by decide) (fun z => absurd z (by decide)) (fun _ => ?_)
    refine lv_iconst (v := 0) hx hb d_md_boot_26 (by decide) ?_
    obtain ⟨q3, eq3⟩ : ∃ z : Jm, z = (jm_ag j, jm_de j, jm_ru j, jm_nx j, 1) := ⟨_, rfl⟩
    have hP : va_P D cx (mw ad cs u q3) H := by rw [eq3, mw_j]; exact hP
    have hD : va_D A (mw ad cs u q3) := by rw [eq3, mw_j]; exact hD
    exact W.iret hx hb hret (fun t ht hW => ⟨⟨_, q3, rfl, ⟨rfl, (by subst eq3; rfl)⟩, by rw [ht]; exact hP, va_K.moved hW.alike hK, hD⟩, hS.F ht⟩) hS.2.2 d_md_boot_27
set_option maxHeartbeats 4000000 in
set_option maxRecDepth 100000 in
theorem k_md_fault (l : Launch) (D : va_G) (cs : Nat → ClassId) (ad : Nat → Nat) (sz : Nat) (u : Sg) (j : Jm)   : Met l y_md_fault (Cond.code y_md_fault b_md_fault 1 (some .int) :: TB) { frames := 7, cells := 0, slots := 0, locals := 200 } (va_Pc [.ref (ad 0)] (mw_Pre D cs ad u j sz)) (va_Qi (fun (r : Int32) (j1 : Jm) => r = sg_fa u ∧ jm_th j1 = 0) (fun (j1 : Jm) t => mw_B D cs ad (va_A (mw ad cs u j) sz) u j1 t) (va_A (mw ad cs u j) sz)) 0 0 (va_A (mw ad cs u j) sz) := by
  refine Met.ofW (cc := b_md_fault) (maxL := 1) (ret := (some .int)) (by decide) rfl ?_
  intro p e s m args below meth c s₁ B hml hv
  obtain ⟨rfl, hsz, hP, hK, hD, hN⟩ := hv
  have hx := B.exec
  have hb := B.bytes
  have hret := B.returns
  have hts := atoms_spec (ws := Cond.code y_md_fault b_md_fault 1 (some .int) :: TB) B.pre
  have hT : ∀ w ∈ TB, w.before _ s = true := fun w h => hts w (List.mem_cons_of_mem _ h)
  have hown : s.vm.findClass "MeasuredStagesModel" = some m.cls := findClass_of_methodNamed B.named
  have hlocks := B.notSynchronized
  subst hsz
  have hD := hD.self (sz := s.heap.size)
  generalize hAe : va_A (mw ad cs u j) s.heap.size = A at hD ⊢
  have hA : ∀ q : Nat, s.heap.size ≤ q → A q := fun q h => by rw [← hAe]; exact Or.inr h
  have hS : va_S A s.heap s.heap [] := va_S.rf
  have hl := lv_entry ([.ref (ad 0)]) (n := 1) (Nat.le_of_ble_eq_true rfl)
  rw [lg_entry_eq]
  generalize (lg_sl ([.ref (ad 0)]) ++ List.replicate (1 - (lg_sl ([.ref (ad 0)])).length) Slot.unset).toArray = ls at hl ⊢
  have hl : lv_has ls 1 [(0, .ref (ad 0))] := hl
  skip
  refine lv_aload_n hx hb d_md_fault_0 rfl (lv_at hl 0 rfl) ?_
  refine lv_iconst (v := 0) hx hb d_md_fault_1 (by decide) ?_
  refine va_put (D := D) (ci := 3) (v := .int (0)) (ty := .int) (C := "MeasuredStagesModel") (T := F_md) (N := 19) hx hb hts (fun w h => List.mem_cons_of_mem _ (i_md w h)) t_md o_md n_md hown hK hP hD hS 0 rfl rfl 18 (by decide) (hT _ tb_477) (fun _ h9 => h9) rfl (by decide +kernel) rfl rfl (Nat.le_of_ble_eq_true rfl) d_md_fault_2 (fun H locs hP hD hS => ?_)
  have hP : va_P D cx (mv ad cs (sg_im u) (sg_ap u) (sg_ag u) (sg_he u) (sg_er u) (sg_ev u) (sg_en u) (sg_ma u) (sg_po u) (sg_se u) (sg_ac u) (sg_fa u) (sg_la u) (sg_st u) (jm_ag j) (jm_de j) (jm_ru j) (jm_nx j) (0)) H := hP
  have hD : va_D A (mv ad cs (sg_im u) (sg_ap u) (sg_ag u) (sg_he u) (sg_er u) (sg_ev u) (sg_en u) (sg_ma u) (sg_po u) (sg_se u) (sg_ac u) (sg_fa u) (sg_la u) (sg_st u) (jm_ag j) (jm_de j) (jm_ru j) (jm_nx j) (0)) := hD
  refine lv_aload_n hx hb d_md_fault_5 rfl (lv_at hl 0 rfl) ?_
  refine va_get (D := D) (ci := 3) (v := .int (sg_fa u)) (C := "MeasuredStagesModel") (T := F_md) (N := 19) hx hb hts (fun w h => List.mem_cons_of_mem _ (i_md w h)) hown hK hP 0 rfl rfl 14 (by decide) (hT _ tb_473) (fun _ h9 => h9) rfl d_md_fault_6 ?_
  obtain ⟨q1, eq1⟩ : ∃ z : Jm, z = (jm_ag j, jm_de j, jm_ru j, jm_nx j, 0) := ⟨_, rfl⟩
  have hP : va_P D cx (mw ad cs u q1) H := by rw [eq1, mw_j]; exact hP
  have hD : va_D A (mw ad cs u q1) := by rw [eq1, mw_j]; exact hD
  exact W.iret hx hb hret (fun t ht hW => ⟨⟨_, q1, rfl, ⟨rfl, (by subst eq1; rfl)⟩, by rw [ht]; exact hP, va_K.moved hW.alike hK, hD⟩, hS.F ht⟩) hS.2.2 d_md_fault_9
set_option maxHeartbeats 4000000 in
set_option maxRecDepth 100000 in
theorem k_md_launched (l : Launch) (D : va_G) (cs : Nat → ClassId) (ad : Nat → Nat) (sz : Nat) (u : Sg) (j : Jm)   : Met l y_md_launched (Cond.code y_md_launched b_md_launched 1 (some .int) :: TB) { frames := 7, cells := 0, slots := 0, locals := 200 } (va_Pc [.ref (ad 0)] (mw_Pre D cs ad u j sz)) (va_Qi (fun (r : Int32) (j1 : Jm) => r = sg_la u ∧ jm_th j1 = 0) (fun (j1 : Jm) t => mw_B D cs ad (va_A (mw ad cs u j) sz) u j1 t) (va_A (mw ad cs u j) sz)) 0 0 (va_A (mw ad cs u j) sz) := by
  refine Met.ofW (cc := b_md_launched) (maxL := 1) (ret := (some .int)) (by decide) rfl ?_
  intro p e s m args below meth c s₁ B hml hv
  obtain ⟨rfl, hsz, hP, hK, hD, hN⟩ := hv
  have hx := B.exec
  have hb := B.bytes
  have hret := B.returns
  have hts := atoms_spec (ws := Cond.code y_md_launched b_md_launched 1 (some .int) :: TB) B.pre
  have hT : ∀ w ∈ TB, w.before _ s = true := fun w h => hts w (List.mem_cons_of_mem _ h)
  have hown : s.vm.findClass "MeasuredStagesModel" = some m.cls := findClass_of_methodNamed B.named
  have hlocks := B.notSynchronized
  subst hsz
  have hD := hD.self (sz := s.heap.size)
  generalize hAe : va_A (mw ad cs u j) s.heap.size = A at hD ⊢
  have hA : ∀ q : Nat, s.heap.size ≤ q → A q := fun q h => by rw [← hAe]; exact Or.inr h
  have hS : va_S A s.heap s.heap [] := va_S.rf
  have hl := lv_entry ([.ref (ad 0)]) (n := 1) (Nat.le_of_ble_eq_true rfl)
  rw [lg_entry_eq]
  generalize (lg_sl ([.ref (ad 0)]) ++ List.replicate (1 - (lg_sl ([.ref (ad 0)])).length) Slot.unset).toArray = ls at hl ⊢
  have hl : lv_has ls 1 [(0, .ref (ad 0))] := hl
  skip
  refine lv_aload_n hx hb d_md_launched_0 rfl (lv_at hl 0 rfl) ?_
  refine lv_iconst (v := 0) hx hb d_md_launched_1 (by decide) ?_
  refine va_put (D := D) (ci := 3) (v := .int (0)) (ty := .int) (C := "MeasuredStagesModel") (T := F_md) (N := 19) hx hb hts (fun w h => List.mem_cons_of_mem _ (i_md w h)) t_md o_md n_md hown hK hP hD hS 0 rfl rfl 18 (by decide) (hT _ tb_477) (fun _ h9 => h9) rfl (by decide +kernel) rfl rfl (Nat.le_of_ble_eq_true rfl) d_md_launched_2 (fun H locs hP hD hS => ?_)
  have hP : va_P D cx (mv ad cs (sg_im u) (sg_ap u) (sg_ag u) (sg_he u) (sg_er u) (sg_ev u) (sg_en u) (sg_ma u) (sg_po u) (sg_se u) (sg_ac u) (sg_fa u) (sg_la u) (sg_st u) (jm_ag j) (jm_de j) (jm_ru j) (jm_nx j) (0)) H := hP
  have hD : va_D A (mv ad cs (sg_im u) (sg_ap u) (sg_ag u) (sg_he u) (sg_er u) (sg_ev u) (sg_en u) (sg_ma u) (sg_po u) (sg_se u) (sg_ac u) (sg_fa u) (sg_la u) (sg_st u) (jm_ag j) (jm_de j) (jm_ru j) (jm_nx j) (0)) := hD
  refine lv_aload_n hx hb d_md_launched_5 rfl (lv_at hl 0 rfl) ?_
  refine va_get (D := D) (ci := 3) (v := .int (sg_la u)) (C := "MeasuredStagesModel") (T := F_md) (N := 19) hx hb hts (fun w h => List.mem_cons_of_mem _ (i_md w h)) hown hK hP 0 rfl rfl 12 (by decide) (hT _ tb_471) (fun _ h9 => h9) rfl d_md_launched_6 ?_
  obtain ⟨q1, eq1⟩ : ∃ z : Jm, z = (jm_ag j, jm_de j, jm_ru j, jm_nx j, 0) := ⟨_, rfl⟩
  have hP : va_P D cx (mw ad cs u q1) H := by rw [eq1, mw_j]; exact hP
  have hD : va_D A (mw ad cs u q1) := by rw [eq1, mw_j]; exact hD
  exact W.iret hx hb hret (fun t ht hW => ⟨⟨_, q1, rfl, ⟨rfl, (by subst eq1; rfl)⟩, by rw [ht]; exact hP, va_K.moved hW.alike hK, hD⟩, hS.F ht⟩) hS.2.2 d_md_launched_9
set_option maxHeartbeats 4000000 in
set_option maxRecDepth 100000 in
theorem k_md_steps (l : Launch) (D : va_G) (cs : Nat → ClassId) (ad : Nat → Nat) (sz : Nat) (u : Sg) (j : Jm)   : Met l y_md_steps (Cond.code y_md_steps b_md_steps 1 (some .int) :: TB) { frames := 7, cells := 0, slots := 0, locals := 200 } (va_Pc [.ref (ad 0)] (mw_Pre D cs ad u j sz)) (va_Qi (fun (r : Int32) (j1 : Jm) => r = sg_st u ∧ jm_th j1 = 0) (fun (j1 : Jm) t => mw_B D cs ad (va_A (mw ad cs u j) sz) u j1 t) (va_A (mw ad cs u j) sz)) 0 0 (va_A (mw ad cs u j) sz) := by
  refine Met.ofW (cc := b_md_steps) (maxL := 1) (ret := (some .int)) (by decide) rfl ?_
  intro p e s m args below meth c s₁ B hml hv
  obtain ⟨rfl, hsz, hP, hK, hD, hN⟩ := hv
  have hx := B.exec
  have hb := B.bytes
  have hret := B.returns
  have hts := atoms_spec (ws := Cond.code y_md_steps b_md_steps 1 (some .int) :: TB) B.pre
  have hT : ∀ w ∈ TB, w.before _ s = true := fun w h => hts w (List.mem_cons_of_mem _ h)
  have hown : s.vm.findClass "MeasuredStagesModel" = some m.cls := findClass_of_methodNamed B.named
  have hlocks := B.notSynchronized
  subst hsz
  have hD := hD.self (sz := s.heap.size)
  generalize hAe : va_A (mw ad cs u j) s.heap.size = A at hD ⊢
  have hA : ∀ q : Nat, s.heap.size ≤ q → A q := fun q h => by rw [← hAe]; exact Or.inr h
  have hS : va_S A s.heap s.heap [] := va_S.rf
  have hl := lv_entry ([.ref (ad 0)]) (n := 1) (Nat.le_of_ble_eq_true rfl)
  rw [lg_entry_eq]
  generalize (lg_sl ([.ref (ad 0)]) ++ List.replicate (1 - (lg_sl ([.ref (ad 0)])).length) Slot.unset).toArray = ls at hl ⊢
  have hl : lv_has ls 1 [(0, .ref (ad 0))] := hl
  skip
  refine lv_aload_n hx hb d_md_steps_0 rfl (lv_at hl 0 rfl) ?_
  refine lv_iconst (v := 0) hx hb d_md_steps_1 (by decide) ?_
  refine va_put (D := D) (ci := 3) (v := .int (0)) (ty := .int) (C := "MeasuredStagesModel") (T := F_md) (N := 19) hx hb hts (fun w h => List.mem_cons_of_mem _ (i_md w h)) t_md o_md n_md hown hK hP hD hS 0 rfl rfl 18 (by decide) (hT _ tb_477) (fun _ h9 => h9) rfl (by decide +kernel) rfl rfl (Nat.le_of_ble_eq_true rfl) d_md_steps_2 (fun H locs hP hD hS => ?_)
  have hP : va_P D cx (mv ad cs (sg_im u) (sg_ap u) (sg_ag u) (sg_he u) (sg_er u) (sg_ev u) (sg_en u) (sg_ma u) (sg_po u) (sg_se u) (sg_ac u) (sg_fa u) (sg_la u) (sg_st u) (jm_ag j) (jm_de j) (jm_ru j) (jm_nx j) (0)) H := hP
  have hD : va_D A (mv ad cs (sg_im u) (sg_ap u) (sg_ag u) (sg_he u) (sg_er u) (sg_ev u) (sg_en u) (sg_ma u) (sg_po u) (sg_se u) (sg_ac u) (sg_fa u) (sg_la u) (sg_st u) (jm_ag j) (jm_de j) (jm_ru j) (jm_nx j) (0)) := hD
  refine lv_aload_n hx hb d_md_steps_5 rfl (lv_at hl 0 rfl) ?_
  refine va_get (D := D) (ci := 3) (v := .int (sg_st u)) (C := "MeasuredStagesModel") (T := F_md) (N := 19) hx hb hts (fun w h => List.mem_cons_of_mem _ (i_md w h)) hown hK hP 0 rfl rfl 13 (by decide) (hT _ tb_472) (fun _ h9 => h9) rfl d_md_steps_6 ?_
  obtain ⟨q1, eq1⟩ : ∃ z : Jm, z = (jm_ag j, jm_de j, jm_ru j, jm_nx j, 0) := ⟨_, rfl⟩
  have hP : va_P D cx (mw ad cs u q1) H := by rw [eq1, mw_j]; exact hP
  have hD : va_D A (mw ad cs u q1) := by rw [eq1, mw_j]; exact hD
  exact W.iret hx hb hret (fun t ht hW => ⟨⟨_, q1, rfl, ⟨rfl, (by subst eq1; rfl)⟩, by rw [ht]; exact hP, va_K.moved hW.alike hK, hD⟩, hS.F ht⟩) hS.2.2 d_md_steps_9
set_option maxHeartbeats 4000000 in
set_option maxRecDepth 100000 in
theorem k_md_events (l : Launch) (D : va_G) (cs : Nat → ClassId) (ad : Nat → Nat) (sz : Nat) (u : Sg) (j : Jm)   : Met l y_md_events (Cond.code y_md_events b_md_events 1 (some .int) :: TB) { frames := 7, cells := 0, slots := 0, locals := 200 } (va_Pc [.ref (ad 0)] (mw_Pre D cs ad u j sz)) (va_Qi (fun (r : Int32) (j1 : Jm) => r = sg_en u ∧ jm_th j1 = 0) (fun (j1 : Jm) t => mw_B D cs ad (va_A (mw ad cs u j) sz) u j1 t) (va_A (mw ad cs u j) sz)) 0 0 (va_A (mw ad cs u j) sz) := by
  refine Met.ofW (cc := b_md_events) (maxL := 1) (ret := (some .int)) (by decide) rfl ?_
  intro p e s m args below meth c s₁ B hml hv
  obtain ⟨rfl, hsz, hP, hK, hD, hN⟩ := hv
  have hx := B.exec
  have hb := B.bytes
  have hret := B.returns
  have hts := atoms_spec (ws := Cond.code y_md_events b_md_events 1 (some .int) :: TB) B.pre
  have hT : ∀ w ∈ TB, w.before _ s = true := fun w h => hts w (List.mem_cons_of_mem _ h)
  have hown : s.vm.findClass "MeasuredStagesModel" = some m.cls := findClass_of_methodNamed B.named
  have hlocks := B.notSynchronized
  subst hsz
  have hD := hD.self (sz := s.heap.size)
  generalize hAe : va_A (mw ad cs u j) s.heap.size = A at hD ⊢
  have hA : ∀ q : Nat, s.heap.size ≤ q → A q := fun q h => by rw [← hAe]; exact Or.inr h
  have hS : va_S A s.heap s.heap [] := va_S.rf
  have hl := lv_entry ([.ref (ad 0)]) (n := 1) (Nat.le_of_ble_eq_true rfl)
  rw [lg_entry_eq]
  generalize (lg_sl ([.ref (ad 0)]) ++ List.replicate (1 - (lg_sl ([.ref (ad 0)])).length) Slot.unset).toArray = ls at hl ⊢
  have hl : lv_has ls 1 [(0, .ref (ad 0))] := hl
  skip
  refine lv_aload_n hx hb d_md_events_0 rfl (lv_at hl 0 rfl) ?_
  refine lv_iconst (v := 0) hx hb d_md_events_1 (by decide) ?_
  refine va_put (D := D) (ci := 3) (v := .int (0)) (ty := .int) (C := "MeasuredStagesModel") (T := F_md) (N := 19) hx hb hts (fun w h => List.mem_cons_of_mem _ (i_md w h)) t_md o_md n_md hown hK hP hD hS 0 rfl rfl 18 (by decide) (hT _ tb_477) (fun _ h9 => h9) rfl (by decide +kernel) rfl rfl (Nat.le_of_ble_eq_true rfl) d_md_events_2 (fun H locs hP hD hS => ?_)
  have hP : va_P D cx (mv ad cs (sg_im u) (sg_ap u) (sg_ag u) (sg_he u) (sg_er u) (sg_ev u) (sg_en u) (sg_ma u) (sg_po u) (sg_se u) (sg_ac u) (sg_fa u) (sg_la u) (sg_st u) (jm_ag j) (jm_de j) (jm_ru j) (jm_nx j) (0)) H := hP
  have hD : va_D A (mv ad cs (sg_im u) (sg_ap u) (sg_ag u) (sg_he u) (sg_er u) (sg_ev u) (sg_en u) (sg_ma u) (sg_po u) (sg_se u) (sg_ac u) (sg_fa u) (sg_la u) (sg_st u) (jm_ag j) (jm_de j) (jm_ru j) (jm_nx j) (0)) := hD
  refine lv_aload_n hx hb d_md_events_5 rfl (lv_at hl 0 rfl) ?_
  refine va_get (D := D) (ci := 3) (v := .int (sg_en u)) (C := "MeasuredStagesModel") (T := F_md) (N := 19) hx hb hts (fun w h => List.mem_cons_of_mem _ (i_md w h)) hown hK hP 0 rfl rfl 7 (by decide) (hT _ tb_466) (fun _ h9 => h9) rfl d_md_events_6 ?_
  obtain ⟨q1, eq1⟩ : ∃ z : Jm, z = (jm_ag j, jm_de j, jm_ru j, jm_nx j, 0) := ⟨_, rfl⟩
  have hP : va_P D cx (mw ad cs u q1) H := by rw [eq1, mw_j]; exact hP
  have hD : va_D A (mw ad cs u q1) := by rw [eq1, mw_j]; exact hD
  exact W.iret hx hb hret (fun t ht hW => ⟨⟨_, q1, rfl, ⟨rfl, (by subst eq1; rfl)⟩, by rw [ht]; exact hP, va_K.moved hW.alike hK, hD⟩, hS.F ht⟩) hS.2.2 d_md_events_9
set_option maxHeartbeats 4000000 in
set_option maxRecDepth 100000 in
theorem k_md_acc (l : Launch) (D : va_G) (cs : Nat → ClassId) (ad : Nat → Nat) (sz : Nat) (u : Sg) (j : Jm)   : Met l y_md_acc (Cond.code y_md_acc b_md_acc 1 (some .long) :: TB) { frames := 7, cells := 0, slots := 0, locals := 200 } (va_Pc [.ref (ad 0)] (mw_Pre D cs ad u j sz)) (va_Ql (fun (r : Int64) (j1 : Jm) => r = sg_ac u ∧ jm_th j1 = 0) (fun (j1 : Jm) t => mw_B D cs ad (va_A (mw ad cs u j) sz) u j1 t) (va_A (mw ad cs u j) sz)) 0 0 (va_A (mw ad cs u j) sz) := by
  refine Met.ofW (cc := b_md_acc) (maxL := 1) (ret := (some .long)) (by decide) rfl ?_
  intro p e s m args below meth c s₁ B hml hv
  obtain ⟨rfl, hsz, hP, hK, hD, hN⟩ := hv
  have hx := B.exec
  have hb := B.bytes
  have hret := B.returns
  have hts := atoms_spec (ws := Cond.code y_md_acc b_md_acc 1 (some .long) :: TB) B.pre
  have hT : ∀ w ∈ TB, w.before _ s = true := fun w h => hts w (List.mem_cons_of_mem _ h)
  have hown : s.vm.findClass "MeasuredStagesModel" = some m.cls := findClass_of_methodNamed B.named
  have hlocks := B.notSynchronized
  subst hsz
  have hD := hD.self (sz := s.heap.size)
  generalize hAe : va_A (mw ad cs u j) s.heap.size = A at hD ⊢
  have hA : ∀ q : Nat, s.heap.size ≤ q → A q := fun q h => by rw [← hAe]; exact Or.inr h
  have hS : va_S A s.heap s.heap [] := va_S.rf
  have hl := lv_entry ([.ref (ad 0)]) (n := 1) (Nat.le_of_ble_eq_true rfl)
  rw [lg_entry_eq]
  generalize (lg_sl ([.ref (ad 0)]) ++ List.replicate (1 - (lg_sl ([.ref (ad 0)])).length) Slot.unset).toArray = ls at hl ⊢
  have hl : lv_has ls 1 [(0, .ref (ad 0))] := hl
  skip
  refine lv_aload_n hx hb d_md_acc_0 rfl (lv_at hl 0 rfl) ?_
  refine lv_iconst (v := 0) hx hb d_md_acc_1 (by decide) ?_
  refine va_put (D := D) (ci := 3) (v := .int (0)) (ty := .int) (C := "MeasuredStagesModel") (T := F_md) (N := 19) hx hb hts (fun w h => List.mem_cons_of_mem _ (i_md w h)) t_md o_md n_md hown hK hP hD hS 0 rfl rfl 18 (by decide) (hT _ tb_477) (fun _ h9 => h9) rfl (by decide +kernel) rfl rfl (Nat.le_of_ble_eq_true rfl) d_md_acc_2 (fun H locs hP hD hS => ?_)
  have hP : va_P D cx (mv ad cs (sg_im u) (sg_ap u) (sg_ag u) (sg_he u) (sg_er u) (sg_ev u) (sg_en u) (sg_ma u) (sg_po u) (sg_se u) (sg_ac u) (sg_fa u) (sg_la u) (sg_st u) (jm_ag j) (jm_de j) (jm_ru j) (jm_nx j) (0)) H := hP
  have hD : va_D A (mv ad cs (sg_im u) (sg_ap u) (sg_ag u) (sg_he u) (sg_er u) (sg_ev u) (sg_en u) (sg_ma u) (sg_po u) (sg_se u) (sg_ac u) (sg_fa u) (sg_la u) (sg_st u) (jm_ag j) (jm_de j) (jm_ru j) (jm_nx j) (0)) := hD
  refine lv_aload_n hx hb d_md_acc_5 rfl (lv_at hl 0 rfl) ?_
  refine va_get (D := D) (ci := 3) (v := .long (sg_ac u)) (C := "MeasuredStagesModel") (T := F_md) (N := 19) hx hb hts (fun w h => List.mem_cons_of_mem _ (i_md w h)) hown hK hP 0 rfl rfl 11 (by decide) (hT _ tb_470) (fun _ h9 => h9) rfl d_md_acc_6 ?_
  obtain ⟨q1, eq1⟩ : ∃ z : Jm, z = (jm_ag j, jm_de j, jm_ru j, jm_nx j, 0) := ⟨_, rfl⟩
  have hP : va_P D cx (mw ad cs u q1) H := by rw [eq1, mw_j]; exact hP
  have hD : va_D A (mw ad cs u q1) := by rw [eq1, mw_j]; exact hD
  exact W.lret hx hb hret (fun t ht hW => ⟨⟨_, q1, rfl, ⟨rfl, (by subst eq1; rfl)⟩, by rw [ht]; exact hP, va_K.moved hW.alike hK, hD⟩, hS.F ht⟩) hS.2.2 d_md_acc_9
set_option maxHeartbeats 4000000 in
set_option maxRecDepth 100000 in
theorem k_md_register (l : Launch) (D : va_G) (cs : Nat → ClassId) (ad : Nat → Nat) (sz : Nat) (u : Sg) (j : Jm) (n : Int32) (hr : vp_in n 6) : Met l y_md_register (Cond.code y_md_register b_md_register 2 (some .long) :: TB) { frames := 7, cells := 0, slots := 0, locals := 200 } (va_Pc [.ref (ad 0), .int n] (mw_Pre D cs ad u j sz)) (va_Ql (fun (r : Int64) (j1 : Jm) => r = sg_he u n.toNatClampNeg ∧ jm_th j1 = 0) (fun (j1 : Jm) t => mw_B D cs ad (va_A (mw ad cs u j) sz) u j1 t) (va_A (mw ad cs u j) sz)) 0 0 (va_A (mw ad cs u j) sz) := by
  refine Met.ofW (cc := b_md_register) (maxL := 2) (ret := (some .long)) (by decide) rfl ?_
  intro p e s m args below meth c s₁ B hml hv
  obtain ⟨rfl, hsz, hP, hK, hD, hN⟩ := hv
  have hx := B.exec
  have hb := B.bytes
  have hret := B.returns
  have hts := atoms_spec (ws := Cond.code y_md_register b_md_register 2 (some .long) :: TB) B.pre
  have hT : ∀ w ∈ TB, w.before _ s = true := fun w h => hts w (List.mem_cons_of_mem _ h)
  have hown : s.vm.findClass "MeasuredStagesModel" = some m.cls := findClass_of_methodNamed B.named
  have hlocks := B.notSynchronized
  subst hsz
  have hD := hD.self (sz := s.heap.size)
  generalize hAe : va_A (mw ad cs u j) s.heap.size = A at hD ⊢
  have hA : ∀ q : Nat, s.heap.size ≤ q → A q := fun q h => by rw [← hAe]; exact Or.inr h
  have hS : va_S A s.heap s.heap [] := va_S.rf
  have hl := lv_entry ([.ref (ad 0), .int n]) (n := 2) (Nat.le_of_ble_eq_true rfl)
  rw [lg_entry_eq]
  generalize (lg_sl ([.ref (ad 0), .int n]) ++ List.replicate (2 - (lg_sl ([.ref (ad 0), .int n])).length) Slot.unset).toArray = ls at hl ⊢
  have hl : lv_has ls 2 [(0, .ref (ad 0)), (1, .int n)] := hl
  skip
  refine lv_aload_n hx hb d_md_register_0 rfl (lv_at hl 0 rfl) ?_
  refine lv_iload_n hx hb d_md_register_1 rfl (lv_at hl 1 rfl) ?_
  refine lv_if_lt hx hb d_md_register_2 (tgt := 10) (by decide) (fun z => absurd z (xn_ge hr)) (fun _ => ?_)
  refine lv_iload_n hx hb d_md_register_5 rfl (lv_at hl 1 rfl) ?_
  refine lv_iconst (v := 5) hx hb d_md_register_6 (by decide) ?_
  refine lv_icmp_le hx hb d_md_register_7 (tgt := 14) (by decide) (fun _ => ?_) (fun z => absurd (le5 hr) z)
  refine lv_iconst (v := 0) hx hb d_md_register_14 (by decide) ?_
  refine va_put (D := D) (ci := 3) (v := .int (0)) (ty := .int) (C := "MeasuredStagesModel") (T := F_md) (N := 19) hx hb hts (fun w h => List.mem_cons_of_mem _ (i_md w h)) t_md o_md n_md hown hK hP hD hS 0 rfl rfl 18 (by decide) (hT _ tb_477) (fun _ h9 => h9) rfl (by decide +kernel) rfl rfl (Nat.le_of_ble_eq_true rfl) d_md_register_15 (fun H locs hP hD hS => ?_)
  have hP : va_P D cx (mv ad cs (sg_im u) (sg_ap u) (sg_ag u) (sg_he u) (sg_er u) (sg_ev u) (sg_en u) (sg_ma u) (sg_po u) (sg_se u) (sg_ac u) (sg_fa u) (sg_la u) (sg_st u) (jm_ag j) (jm_de j) (jm_ru j) (jm_nx j) (0)) H := hP
  have hD : va_D A (mv ad cs (sg_im u) (sg_ap u) (sg_ag u) (sg_he u) (sg_er u) (sg_ev u) (sg_en u) (sg_ma u) (sg_po u) (sg_se u) (sg_ac u) (sg_fa u) (sg_la u) (sg_st u) (jm_ag j) (jm_de j) (jm_ru j) (jm_nx j) (0)) := hD
  refine lv_aload_n hx hb d_md_register_18 rfl (lv_at hl 0 rfl) ?_
  refine va_get (D := D) (ci := 3) (v := .int (0)) (C := "MeasuredStagesModel") (T := F_md) (N := 19) hx hb hts (fun w h => List.mem_cons_of_mem _ (i_md w h)) hown hK hP 0 rfl rfl 18 (by decide) (hT _ tb_477) (fun _ h9 => h9) rfl d_md_register_19 ?_
  refine lv_if_ne hx hb d_md_register_22 (tgt := 34) (by decide) (fun z => absurd (by decide) z) (fun _ => ?_)
  refine lv_aload_n hx hb d_md_register_25 rfl (lv_at hl 0 rfl) ?_
  refine va_get (D := D) (ci := 3) (v := .ref (ad 1)) (C := "MeasuredStagesModel") (T := F_md) (N := 19) hx hb hts (fun w h => List.mem_cons_of_mem _ (i_md w h)) hown hK hP 0 rfl rfl 0 (by decide) (hT _ tb_459) (fun _ h9 => h9) rfl d_md_register_26 ?_
  refine lv_iload_n hx hb d_md_register_29 rfl (lv_at hl 1 rfl) ?_
  refine va_lald hx hb hK hP 1 0 rfl rfl hr d_md_register_30 ?_
  refine lv_goto hx hb d_md_register_31 (tgt := 35) (by decide) ?_
  obtain ⟨q1, eq1⟩ : ∃ z : Jm, z = (jm_ag j, jm_de j, jm_ru j, jm_nx j, 0) := ⟨_, rfl⟩
  have hP : va_P D cx (mw ad cs u q1) H := by rw [eq1, mw_j]; exact hP
  have hD : va_D A (mw ad cs u q1) := by rw [eq1, mw_j]; exact hD
  exact W.lret hx hb hret (fun t ht hW => ⟨⟨_, q1, rfl, ⟨rfl, (by subst eq1; rfl)⟩, by rw [ht]; exact hP, va_K.moved hW.alike hK, hD⟩, hS.F ht⟩) hS.2.2 d_md_register_35
set_option maxHeartbeats 4000000 in
set_option maxRecDepth 100000 in
theorem f_md_register (l : Launch) (D : va_G) (cs : Nat → ClassId) (ad : Nat → Nat) (sz : Nat) (u : Sg) (j : Jm) (n : Int32) (hr : ¬ vp_in n 6) : Met l y_md_register (Cond.code y_md_register b_md_register 2 (some .long) :: TB) { frames := 7, cells := 0, slots := 0, locals := 200 } (va_Pc [.ref (ad 0), .int n] (mw_Pre D cs ad u j sz)) (va_Ql (fun (r : Int64) (j1 : Jm) => r = 0 ∧ jm_th j1 = 1) (fun (j1 : Jm) t => mw_B D cs ad (va_A (mw ad cs u j) sz) u j1 t) (va_A (mw ad cs u j) sz)) 0 0 (va_A (mw ad cs u j) sz) := by
  refine Met.ofW (cc := b_md_register) (maxL := 2) (ret := (some .long)) (by decide) rfl ?_
  intro p e s m args below meth c s₁ B hml hv
  obtain ⟨rfl, hsz, hP, hK, hD, hN⟩ := hv
  have hx := B.exec
  have hb := B.bytes
  have hret := B.returns
  have hts := atoms_spec (ws := Cond.code y_md_register b_md_register 2 (some .long) :: TB) B.pre
  have hT : ∀ w ∈ TB, w.before _ s = true := fun w h => hts w (List.mem_cons_of_mem _ h)
  have hown : s.vm.findClass "MeasuredStagesModel" = some m.cls := findClass_of_methodNamed B.named
  have hlocks := B.notSynchronized
  subst hsz
  have hD := hD.self (sz := s.heap.size)
  generalize hAe : va_A (mw ad cs u j) s.heap.size = A at hD ⊢
  have hA : ∀ q : Nat, s.heap.size ≤ q → A q := fun q h => by rw [← hAe]; exact Or.inr h
  have hS : va_S A s.heap s.heap [] := va_S.rf
  have hl := lv_entry ([.ref (ad 0), .int n]) (n := 2) (Nat.le_of_ble_eq_true rfl)
  rw [lg_entry_eq]
  generalize (lg_sl ([.ref (ad 0), .int n]) ++ List.replicate (2 - (lg_sl ([.ref (ad 0), .int n])).length) Slot.unset).toArray = ls at hl ⊢
  have hl : lv_has ls 2 [(0, .ref (ad 0)), (1, .int n)] := hl
  skip
  refine lv_aload_n hx hb d_md_register_0 rfl (lv_at hl 0 rfl) ?_
  refine lv_iload_n hx hb d_md_register_1 rfl (lv_at hl 1 rfl) ?_
  refine lv_if_lt hx hb d_md_register_2 (tgt := 10) (by decide) (fun h1 => ?_) (fun h1 => ?_)
  · skip
    refine lv_iconst (v := 1) hx hb d_md_register_10 (by decide) ?_
    refine lv_goto hx hb d_md_register_11 (tgt := 15) (by decide) ?_
    refine va_put (D := D) (ci := 3) (v := .int (1)) (ty := .int) (C := "MeasuredStagesModel") (T := F_md) (N := 19) hx hb hts (fun w h => List.mem_cons_of_mem _ (i_md w h)) t_md o_md n_md hown hK hP hD hS 0 rfl rfl 18 (by decide) (hT _ tb_477) (fun _ h9 => h9) rfl (by decide +kernel) rfl rfl (Nat.le_of_ble_eq_true rfl) d_md_register_15 (fun H locs hP hD hS => ?_)
    have hP : va_P D cx (mv ad cs (sg_im u) (sg_ap u) (sg_ag u) (sg_he u) (sg_er u) (sg_ev u) (sg_en u) (sg_ma u) (sg_po u) (sg_se u) (sg_ac u) (sg_fa u) (sg_la u) (sg_st u) (jm_ag j) (jm_de j) (jm_ru j) (jm_nx j) (1)) H := hP
    have hD : va_D A (mv ad cs (sg_im u) (sg_ap u) (sg_ag u) (sg_he u) (sg_er u) (sg_ev u) (sg_en u) (sg_ma u) (sg_po u) (sg_se u) (sg_ac u) (sg_fa u) (sg_la u) (sg_st u) (jm_ag j) (jm_de j) (jm_ru j) (jm_nx j) (1)) := hD
    refine lv_aload_n hx hb d_md_register_18 rfl (lv_at hl 0 rfl) ?_
    refine va_get (D := D) (ci := 3) (v := .int (1)) (C := "MeasuredStagesModel") (T := F_md) (N := 19) hx hb hts (fun w h => List.mem_cons_of_mem _ (i_md w h)) hown hK hP 0 rfl rfl 18 (by decide) (hT _ tb_477) (fun _ h9 => h9) rfl d_md_register_19 ?_
    refine lv_if_ne hx hb d_md_register_22 (tgt := 34) (by decide) (fun _ => ?_) (fun z => absurd z (by decide))
    refine lv_lconst (v := 0) hx hb d_md_register_34 (by decide) ?_
    obtain ⟨q2, eq2⟩ : ∃ z : Jm, z = (jm_ag j, jm_de j, jm_ru j, jm_nx j, 1) := ⟨_, rfl⟩
    have hP : va_P D cx (mw ad cs u q2) H := by rw [eq2, mw_j]; exact hP
    have hD : va_D A (mw ad cs u q2) := by rw [eq2, mw_j]; exact hD
    exact W.lret hx hb hret (fun t ht hW => ⟨⟨_, q2, rfl, ⟨rfl, (by subst eq2; rfl)⟩, by rw [ht]; exact hP, va_K.moved hW.alike hK, hD⟩, hS.F ht⟩) hS.2.2 d_md_register_35
  · skip
    refine lv_iload_n hx hb d_md_register_5 rfl (lv_at hl 1 rfl) ?_
    refine lv_iconst (v := 5) hx hb d_md_register_6 (by decide) ?_
    refine lv_icmp_le hx hb d_md_register_7 (tgt := 14) (by decide) (fun z => absurd z (nl5 hr h1)) (fun _ => ?_)
    refine lv_iconst (v := 1) hx hb d_md_register_10 (by decide) ?_
    refine lv_goto hx hb d_md_register_11 (tgt := 15) (by decide) ?_
    refine va_put (D := D) (ci := 3) (v := .int (1)) (ty := .int) (C := "MeasuredStagesModel") (T := F_md) (N := 19) hx hb hts (fun w h => List.mem_cons_of_mem _ (i_md w h)) t_md o_md n_md hown hK hP hD hS 0 rfl rfl 18 (by decide) (hT _ tb_477) (fun _ h9 => h9) rfl (by decide +kernel) rfl rfl (Nat.le_of_ble_eq_true rfl) d_md_register_15 (fun H locs hP hD hS => ?_)
    have hP : va_P D cx (mv ad cs (sg_im u) (sg_ap u) (sg_ag u) (sg_he u) (sg_er u) (sg_ev u) (sg_en u) (sg_ma u) (sg_po u) (sg_se u) (sg_ac u) (sg_fa u) (sg_la u) (sg_st u) (jm_ag j) (jm_de j) (jm_ru j) (jm_nx j) (1)) H := hP
    have hD : va_D A (mv ad cs (sg_im u) (sg_ap u) (sg_ag u) (sg_he u) (sg_er u) (sg_ev u) (sg_en u) (sg_ma u) (sg_po u) (sg_se u) (sg_ac u) (sg_fa u) (sg_la u) (sg_st u) (jm_ag j) (jm_de j) (jm_ru j) (jm_nx j) (1)) := hD
    refine lv_aload_n hx hb d_md_register_18 rfl (lv_at hl 0 rfl) ?_
    refine va_get (D := D) (ci := 3) (v := .int (1)) (C := "MeasuredStagesModel") (T := F_md) (N := 19) hx hb hts (fun w h => List.mem_cons_of_mem _ (i_md w h)) hown hK hP 0 rfl rfl 18 (by decide) (hT _ tb_477) (fun _ h9 => h9) rfl d_md_register_19 ?_
    refine lv_if_ne hx hb d_md_register_22 (tgt := 34) (by decide) (fun _ => ?_) (fun z => absurd z (by decide))
    refine lv_lconst (v := 0) hx hb d_md_register_34 (by decide) ?_
    obtain ⟨q3, eq3⟩ : ∃ z : Jm, z = (jm_ag j, jm_de j, jm_ru j, jm_nx j, 1) := ⟨_, rfl⟩
    have hP : va_P D cx (mw ad cs u q3) H := by rw [eq3, mw_j]; exact hP
    have hD : va_D A (mw ad cs u q3) := by rw [eq3, mw_j]; exact hD
    exact W.lret hx hb hret (fun t ht hW => ⟨⟨_, q3, rfl, ⟨rfl, (by subst eq3; rfl)⟩, by rw [ht]; exact hP, va_K.moved hW.alike hK, hD⟩, hS.F ht⟩) hS.2.2 d_md_register_35
set_option maxHeartbeats 4000000 in
set_option maxRecDepth 100000 in
theorem k_md_extend (l : Launch) (D : va_G) (cs : Nat → ClassId) (ad : Nat → Nat) (sz : Nat) (u : Sg) (j : Jm) (r : Int32) (v : Int64) (hr : vp_in r 6) (he : vp_in (sg_en u) 32) : Met l y_md_extend (Cond.code y_md_extend b_md_extend 5 none :: TB) { frames := 7, cells := 0, slots := 0, locals := 200 } (va_Pc [.ref (ad 0), .int r, .long v] (mw_Pre D cs ad u j sz)) (va_Qv (fun (j1 : Jm) => jm_th j1 = 0) (fun (j1 : Jm) t => mw_B D cs ad (va_A (mw ad cs u j) sz) (sp_no u r v) j1 t) (va_A (mw ad cs u j) sz)) 0 0 (va_A (mw ad cs u j) sz) := by
  refine Met.ofW (cc := b_md_extend) (maxL := 5) (ret := none) (by decide) rfl ?_
  intro p e s m args below meth c s₁ B hml hv
  obtain ⟨rfl, hsz, hP, hK, hD, hN⟩ := hv
  have hx := B.exec
  have hb := B.bytes
  have hret := B.returns
  have hts := atoms_spec (ws := Cond.code y_md_extend b_md_extend 5 none :: TB) B.pre
  have hT : ∀ w ∈ TB, w.before _ s = true := fun w h => hts w (List.mem_cons_of_mem _ h)
  have hown : s.vm.findClass "MeasuredStagesModel" = some m.cls := findClass_of_methodNamed B.named
  have hlocks := B.notSynchronized
  subst hsz
  have hD := hD.self (sz := s.heap.size)
  generalize hAe : va_A (mw ad cs u j) s.heap.size = A at hD ⊢
  have hA : ∀ q : Nat, s.heap.size ≤ q → A q := fun q h => by rw [← hAe]; exact Or.inr h
  have hS : va_S A s.heap s.heap [] := va_S.rf
  have hl := lv_entry ([.ref (ad 0), .int r, .long v]) (n := 5) (Nat.le_of_ble_eq_true rfl)
  rw [lg_entry_eq]
  generalize (lg_sl ([.ref (ad 0), .int r, .long v]) ++ List.replicate (5 - (lg_sl ([.ref (ad 0), .int r, .long v])).length) Slot.unset).toArray = ls at hl ⊢
  have hl : lv_has ls 5 [(0, .ref (ad 0)), (1, .int r), (2, .long v)] := hl
  skip
  refine lv_aload_n hx hb d_md_extend_0 rfl (lv_at hl 0 rfl) ?_
  refine lv_iload_n hx hb d_md_extend_1 rfl (lv_at hl 1 rfl) ?_
  refine lv_if_lt hx hb d_md_extend_2 (tgt := 10) (by decide) (fun z => absurd z (xn_ge hr)) (fun _ => ?_)
  refine lv_iload_n hx hb d_md_extend_5 rfl (lv_at hl 1 rfl) ?_
  refine lv_iconst (v := 5) hx hb d_md_extend_6 (by decide) ?_
  refine lv_icmp_le hx hb d_md_extend_7 (tgt := 14) (by decide) (fun _ => ?_) (fun z => absurd (le5 hr) z)
  refine lv_aload_n hx hb d_md_extend_14 rfl (lv_at hl 0 rfl) ?_
  refine va_get (D := D) (ci := 3) (v := .int (sg_en u)) (C := "MeasuredStagesModel") (T := F_md) (N := 19) hx hb hts (fun w h => List.mem_cons_of_mem _ (i_md w h)) hown hK hP 0 rfl rfl 7 (by decide) (hT _ tb_466) (fun _ h9 => h9) rfl d_md_extend_15 ?_
  refine lv_bipush (v := 32) hx hb d_md_extend_18 (by decide) ?_
  refine lv_icmp_ne hx hb d_md_extend_20 (tgt := 27) (by decide) (fun _ => ?_) (fun z => absurd z (n32 he))
  refine lv_iconst (v := 0) hx hb d_md_extend_27 (by decide) ?_
  refine va_put (D := D) (ci := 3) (v := .int (0)) (ty := .int) (C := "MeasuredStagesModel") (T := F_md) (N := 19) hx hb hts (fun w h => List.mem_cons_of_mem _ (i_md w h)) t_md o_md n_md hown hK hP hD hS 0 rfl rfl 18 (by decide) (hT _ tb_477) (fun _ h9 => h9) rfl (by decide +kernel) rfl rfl (Nat.le_of_ble_eq_true rfl) d_md_extend_28 (fun H locs hP hD hS => ?_)
  have hP : va_P D cx (mv ad cs (sg_im u) (sg_ap u) (sg_ag u) (sg_he u) (sg_er u) (sg_ev u) (sg_en u) (sg_ma u) (sg_po u) (sg_se u) (sg_ac u) (sg_fa u) (sg_la u) (sg_st u) (jm_ag j) (jm_de j) (jm_ru j) (jm_nx j) (0)) H := hP
  have hD : va_D A (mv ad cs (sg_im u) (sg_ap u) (sg_ag u) (sg_he u) (sg_er u) (sg_ev u) (sg_en u) (sg_ma u) (sg_po u) (sg_se u) (sg_ac u) (sg_fa u) (sg_la u) (sg_st u) (jm_ag j) (jm_de j) (jm_ru j) (jm_nx j) (0)) := hD
  refine lv_aload_n hx hb d_md_extend_31 rfl (lv_at hl 0 rfl) ?_
  refine va_get (D := D) (ci := 3) (v := .int (0)) (C := "MeasuredStagesModel") (T := F_md) (N := 19) hx hb hts (fun w h => List.mem_cons_of_mem _ (i_md w h)) hown hK hP 0 rfl rfl 18 (by decide) (hT _ tb_477) (fun _ h9 => h9) rfl d_md_extend_32 ?_
  refine lv_if_ne hx hb d_md_extend_35 (tgt := 60) (by decide) (fun z => absurd (by decide) z) (fun _ => ?_)
  refine lv_aload_n hx hb d_md_extend_38 rfl (lv_at hl 0 rfl) ?_
  refine lv_iload_n hx hb d_md_extend_39 rfl (lv_at hl 1 rfl) ?_
  refine lv_lload_n hx hb d_md_extend_40 rfl (lv_at hl 2 rfl) ?_
  obtain ⟨q1, eq1⟩ : ∃ z : Jm, z = (jm_ag j, jm_de j, jm_ru j, jm_nx j, 0) := ⟨_, rfl⟩
  have hP : va_P D cx (mw ad cs u q1) H := by rw [eq1, mw_j]; exact hP
  have hD : va_D A (mw ad cs u q1) := by rw [eq1, mw_j]; exact hD
  refine mw_wri (v := 1) (u' := sp_no u r v) (As := [.int r, .long v]) (rest := []) ⟨hx, hb, hml, hown, hts⟩ (c_md_note l D cs ad _ u q1 r v hr he) tb_548 tb_550 sl_17 tb_4 tb_551 ⟨rfl, hd_md_note⟩ ⟨Nat.le_of_ble_eq_true rfl, Nat.le_of_ble_eq_true rfl⟩ rfl rfl hK hP hD hN 0 3 rfl rfl hl.1 rfl (Nat.le_of_ble_eq_true rfl) d_md_extend_41 ⟨Nat.zero_le _, Nat.zero_le _⟩ hS hA (fun j2 H locs hj3 hP hD hS => ?_)
  obtain ⟨v4, ev4⟩ : ∃ z : Sg, z = sp_no u r v := ⟨_, rfl⟩
  rw [← ev4] at hP hD
  rw [hj3] at hP hD
  refine lv_istore (nL := 5) (lv' := [(4, .int (1)), (0, .ref (ad 0)), (1, .int r), (2, .long v)]) hx hb d_md_extend_44 hl (by decide) rfl (fun ls hl => ?_)
  refine lv_aload_n hx hb d_md_extend_46 rfl (lv_at hl 1 rfl) ?_
  refine lv_iload hx hb d_md_extend_47 (lv_at hl 0 rfl) ?_
  refine lv_if_eq hx hb d_md_extend_49 (tgt := 56) (by decide) (fun z => absurd z (by decide)) (fun _ => ?_)
  refine lv_iconst (v := 0) hx hb d_md_extend_52 (by decide) ?_
  refine lv_goto hx hb d_md_extend_53 (tgt := 57) (by decide) ?_
  refine va_put (D := D) (ci := 3) (v := .int (0)) (ty := .int) (C := "MeasuredStagesModel") (T := F_md) (N := 19) hx hb hts (fun w h => List.mem_cons_of_mem _ (i_md w h)) t_md o_md n_md hown hK hP hD hS 0 rfl rfl 18 (by decide) (hT _ tb_477) (fun _ h9 => h9) rfl (by decide +kernel) rfl rfl (Nat.le_of_ble_eq_true rfl) d_md_extend_57 (fun H locs hP hD hS => ?_)
  have hP : va_P D cx (mv ad cs (sg_im v4) (sg_ap v4) (sg_ag v4) (sg_he v4) (sg_er v4) (sg_ev v4) (sg_en v4) (sg_ma v4) (sg_po v4) (sg_se v4) (sg_ac v4) (sg_fa v4) (sg_la v4) (sg_st v4) (jm_ag q1) (jm_de q1) (jm_ru q1) (jm_nx q1) (0)) H := hP
  have hD : va_D A (mv ad cs (sg_im v4) (sg_ap v4) (sg_ag v4) (sg_he v4) (sg_er v4) (sg_ev v4) (sg_en v4) (sg_ma v4) (sg_po v4) (sg_se v4) (sg_ac v4) (sg_fa v4) (sg_la v4) (sg_st v4) (jm_ag q1) (jm_de q1) (jm_ru q1) (jm_nx q1) (0)) := hD
  obtain ⟨q5, eq5⟩ : ∃ z : Jm, z = (jm_ag q1, jm_de q1, jm_ru q1, jm_nx q1, 0) := ⟨_, rfl⟩
  have hP : va_P D cx (mw ad cs v4 q5) H := by rw [eq5, mw_j]; exact hP
  have hD : va_D A (mw ad cs v4 q5) := by rw [eq5, mw_j]; exact hD
  subst ev4
  exact W.vret hx hb hret (fun t ht hW => ⟨⟨q5, rfl, (by subst eq5; subst eq1; rfl), by rw [ht]; exact hP, va_K.moved hW.alike hK, hD⟩, hS.F ht⟩) hS.2.2 d_md_extend_60
set_option maxHeartbeats 4000000 in
set_option maxRecDepth 100000 in
theorem f_md_extend (l : Launch) (D : va_G) (cs : Nat → ClassId) (ad : Nat → Nat) (sz : Nat) (u : Sg) (j : Jm) (r : Int32) (v : Int64) (hr : ¬ vp_in r 6) : Met l y_md_extend (Cond.code y_md_extend b_md_extend 5 none :: TB) { frames := 7, cells := 0, slots := 0, locals := 200 } (va_Pc [.ref (ad 0), .int r, .long v] (mw_Pre D cs ad u j sz)) (va_Qv (fun (j1 : Jm) => jm_th j1 = 1) (fun (j1 : Jm) t => mw_B D cs ad (va_A (mw ad cs u j) sz) u j1 t) (va_A (mw ad cs u j) sz)) 0 0 (va_A (mw ad cs u j) sz) := by
  refine Met.ofW (cc := b_md_extend) (maxL := 5) (ret := none) (by decide) rfl ?_
  intro p e s m args below meth c s₁ B hml hv
  obtain ⟨rfl, hsz, hP, hK, hD, hN⟩ := hv
  have hx := B.exec
  have hb := B.bytes
  have hret := B.returns
  have hts := atoms_spec (ws := Cond.code y_md_extend b_md_extend 5 none :: TB) B.pre
  have hT : ∀ w ∈ TB, w.before _ s = true := fun w h => hts w (List.mem_cons_of_mem _ h)
  have hown : s.vm.findClass "MeasuredStagesModel" = some m.cls := findClass_of_methodNamed B.named
  have hlocks := B.notSynchronized
  subst hsz
  have hD := hD.self (sz := s.heap.size)
  generalize hAe : va_A (mw ad cs u j) s.heap.size = A at hD ⊢
  have hA : ∀ q : Nat, s.heap.size ≤ q → A q := fun q h => by rw [← hAe]; exact Or.inr h
  have hS : va_S A s.heap s.heap [] := va_S.rf
  have hl := lv_entry ([.ref (ad 0), .int r, .long v]) (n := 5) (Nat.le_of_ble_eq_true rfl)
  rw [lg_entry_eq]
  generalize (lg_sl ([.ref (ad 0), .int r, .long v]) ++ List.replicate (5 - (lg_sl ([.ref (ad 0), .int r, .long v])).length) Slot.unset).toArray = ls at hl ⊢
  have hl : lv_has ls 5 [(0, .ref (ad 0)), (1, .int r), (2, .long v)] := hl
  skip
  refine lv_aload_n hx hb d_md_extend_0 rfl (lv_at hl 0 rfl) ?_
  refine lv_iload_n hx hb d_md_extend_1 rfl (lv_at hl 1 rfl) ?_
  refine lv_if_lt hx hb d_md_extend_2 (tgt := 10) (by decide) (fun h1 => ?_) (fun h1 => ?_)
  · skip
    refine lv_iconst (v := 1) hx hb d_md_extend_10 (by decide) ?_
    refine lv_goto hx hb d_md_extend_11 (tgt := 28) (by decide) ?_
    refine va_put (D := D) (ci := 3) (v := .int (1)) (ty := .int) (C := "MeasuredStagesModel") (T := F_md) (N := 19) hx hb hts (fun w h => List.mem_cons_of_mem _ (i_md w h)) t_md o_md n_md hown hK hP hD hS 0 rfl rfl 18 (by decide) (hT _ tb_477) (fun _ h9 => h9) rfl (by decide +kernel) rfl rfl (Nat.le_of_ble_eq_true rfl) d_md_extend_28 (fun H locs hP hD hS => ?_)
    have hP : va_P D cx (mv ad cs (sg_im u) (sg_ap u) (sg_ag u) (sg_he u) (sg_er u) (sg_ev u) (sg_en u) (sg_ma u) (sg_po u) (sg_se u) (sg_ac u) (sg_fa u) (sg_la u) (sg_st u) (jm_ag j) (jm_de j) (jm_ru j) (jm_nx j) (1)) H := hP
    have hD : va_D A (mv ad cs (sg_im u) (sg_ap u) (sg_ag u) (sg_he u) (sg_er u) (sg_ev u) (sg_en u) (sg_ma u) (sg_po u) (sg_se u) (sg_ac u) (sg_fa u) (sg_la u) (sg_st u) (jm_ag j) (jm_de j) (jm_ru j) (jm_nx j) (1)) := hD
    refine lv_aload_n hx hb d_md_extend_31 rfl (lv_at hl 0 rfl) ?_
    refine va_get (D := D) (ci := 3) (v := .int (1)) (C := "MeasuredStagesModel") (T := F_md) (N := 19) hx hb hts (fun w h => List.mem_cons_of_mem _ (i_md w h)) hown hK hP 0 rfl rfl 18 (by decide) (hT _ tb_477) (fun _ h9 => h9) rfl d_md_extend_32 ?_
    refine lv_if_ne hx hb d_md_extend_35 (tgt := 60) (by decide) (fun _ => ?_) (fun z => absurd z (by decide))
    obtain ⟨q2, eq2⟩ : ∃ z : Jm, z = (jm_ag j, jm_de j, jm_ru j, jm_nx j, 1) := ⟨_, rfl⟩
    have hP : va_P D cx (mw ad cs u q2) H := by rw [eq2, mw_j]; exact hP
    have hD : va_D A (mw ad cs u q2) := by rw [eq2, mw_j]; exact hD
    exact W.vret hx hb hret (fun t ht hW => ⟨⟨q2, rfl, (by subst eq2; rfl), by rw [ht]; exact hP, va_K.moved hW.alike hK, hD⟩, hS.F ht⟩) hS.2.2 d_md_extend_60
  · skip
    refine lv_iload_n hx hb d_md_extend_5 rfl (lv_at hl 1 rfl) ?_
    refine lv_iconst (v := 5) hx hb d_md_extend_6 (by decide) ?_
    refine lv_icmp_le hx hb d_md_extend_7 (tgt := 14) (by decide) (fun z => absurd z (nl5 hr h1)) (fun _ => ?_)
    refine lv_iconst (v := 1) hx hb d_md_extend_10 (by decide) ?_
    refine lv_goto hx hb d_md_extend_11 (tgt := 28) (by decide) ?_
    refine va_put (D := D) (ci := 3) (v := .int (1)) (ty := .int) (C := "MeasuredStagesModel") (T := F_md) (N := 19) hx hb hts (fun w h => List.mem_cons_of_mem _ (i_md w h)) t_md o_md n_md hown hK hP hD hS 0 rfl rfl 18 (by decide) (hT _ tb_477) (fun _ h9 => h9) rfl (by decide +kernel) rfl rfl (Nat.le_of_ble_eq_true rfl) d_md_extend_28 (fun H locs hP hD hS => ?_)
    have hP : va_P D cx (mv ad cs (sg_im u) (sg_ap u) (sg_ag u) (sg_he u) (sg_er u) (sg_ev u) (sg_en u) (sg_ma u) (sg_po u) (sg_se u) (sg_ac u) (sg_fa u) (sg_la u) (sg_st u) (jm_ag j) (jm_de j) (jm_ru j) (jm_nx j) (1)) H := hP
    have hD : va_D A (mv ad cs (sg_im u) (sg_ap u) (sg_ag u) (sg_he u) (sg_er u) (sg_ev u) (sg_en u) (sg_ma u) (sg_po u) (sg_se u) (sg_ac u) (sg_fa u) (sg_la u) (sg_st u) (jm_ag j) (jm_de j) (jm_ru j) (jm_nx j) (1)) := hD
    refine lv_aload_n hx hb d_md_extend_31 rfl (lv_at hl 0 rfl) ?_
    refine va_get (D := D) (ci := 3) (v := .int (1)) (C := "MeasuredStagesModel") (T := F_md) (N := 19) hx hb hts (fun w h => List.mem_cons_of_mem _ (i_md w h)) hown hK hP 0 rfl rfl 18 (by decide) (hT _ tb_477) (fun _ h9 => h9) rfl d_md_extend_32 ?_
    refine lv_if_ne hx hb d_md_extend_35 (tgt := 60) (by decide) (fun _ => ?_) (fun z => absurd z (by decide))
    obtain ⟨q3, eq3⟩ : ∃ z : Jm, z = (jm_ag j, jm_de j, jm_ru j, jm_nx j, 1) := ⟨_, rfl⟩
    have hP : va_P D cx (mw ad cs u q3) H := by rw [eq3, mw_j]; exact hP
    have hD : va_D A (mw ad cs u q3) := by rw [eq3, mw_j]; exact hD
    exact W.vret hx hb hret (fun t ht hW => ⟨⟨q3, rfl, (by subst eq3; rfl), by rw [ht]; exact hP, va_K.moved hW.alike hK, hD⟩, hS.F ht⟩) hS.2.2 d_md_extend_60
set_option maxHeartbeats 4000000 in
set_option maxRecDepth 100000 in
theorem g_md_extend (l : Launch) (D : va_G) (cs : Nat → ClassId) (ad : Nat → Nat) (sz : Nat) (u : Sg) (j : Jm) (r : Int32) (v : Int64) (hr : vp_in r 6) (he : sg_en u = 32) : Met l y_md_extend (Cond.code y_md_extend b_md_extend 5 none :: TB) { frames := 7, cells := 0, slots := 0, locals := 200 } (va_Pc [.ref (ad 0), .int r, .long v] (mw_Pre D cs ad u j sz)) (va_Qv (fun (j1 : Jm) => jm_th j1 = 2) (fun (j1 : Jm) t => mw_B D cs ad (va_A (mw ad cs u j) sz) u j1 t) (va_A (mw ad cs u j) sz)) 0 0 (va_A (mw ad cs u j) sz) := by
  refine Met.ofW (cc := b_md_extend) (maxL := 5) (ret := none) (by decide) rfl ?_
  intro p e s m args below meth c s₁ B hml hv
  obtain ⟨rfl, hsz, hP, hK, hD, hN⟩ := hv
  have hx := B.exec
  have hb := B.bytes
  have hret := B.returns
  have hts := atoms_spec (ws := Cond.code y_md_extend b_md_extend 5 none :: TB) B.pre
  have hT : ∀ w ∈ TB, w.before _ s = true := fun w h => hts w (List.mem_cons_of_mem _ h)
  have hown : s.vm.findClass "MeasuredStagesModel" = some m.cls := findClass_of_methodNamed B.named
  have hlocks := B.notSynchronized
  subst hsz
  have hD := hD.self (sz := s.heap.size)
  generalize hAe : va_A (mw ad cs u j) s.heap.size = A at hD ⊢
  have hA : ∀ q : Nat, s.heap.size ≤ q → A q := fun q h => by rw [← hAe]; exact Or.inr h
  have hS : va_S A s.heap s.heap [] := va_S.rf
  have hl := lv_entry ([.ref (ad 0), .int r, .long v]) (n := 5) (Nat.le_of_ble_eq_true rfl)
  rw [lg_entry_eq]
  generalize (lg_sl ([.ref (ad 0), .int r, .long v]) ++ List.replicate (5 - (lg_sl ([.ref (ad 0), .int r, .long v])).length) Slot.unset).toArray = ls at hl ⊢
  have hl : lv_has ls 5 [(0, .ref (ad 0)), (1, .int r), (2, .long v)] := hl
  skip
  refine lv_aload_n hx hb d_md_extend_0 rfl (lv_at hl 0 rfl) ?_
  refine lv_iload_n hx hb d_md_extend_1 rfl (lv_at hl 1 rfl) ?_
  refine lv_if_lt hx hb d_md_extend_2 (tgt := 10) (by decide) (fun z => absurd z (xn_ge hr)) (fun _ => ?_)
  refine lv_iload_n hx hb d_md_extend_5 rfl (lv_at hl 1 rfl) ?_
  refine lv_iconst (v := 5) hx hb d_md_extend_6 (by decide) ?_
  refine lv_icmp_le hx hb d_md_extend_7 (tgt := 14) (by decide) (fun _ => ?_) (fun z => absurd (le5 hr) z)
  refine lv_aload_n hx hb d_md_extend_14 rfl (lv_at hl 0 rfl) ?_
  refine va_get (D := D) (ci := 3) (v := .int (sg_en u)) (C := "MeasuredStagesModel") (T := F_md) (N := 19) hx hb hts (fun w h => List.mem_cons_of_mem _ (i_md w h)) hown hK hP 0 rfl rfl 7 (by decide) (hT _ tb_466) (fun _ h9 => h9) rfl d_md_extend_15 ?_
  refine lv_bipush (v := 32) hx hb d_md_extend_18 (by decide) ?_
  refine lv_icmp_ne hx hb d_md_extend_20 (tgt := 27) (by decide) (fun z => absurd he z) (fun _ => ?_)
  refine lv_iconst (v := 2) hx hb d_md_extend_23 (by decide) ?_
  refine lv_goto hx hb d_md_extend_24 (tgt := 28) (by decide) ?_
  refine va_put (D := D) (ci := 3) (v := .int (2)) (ty := .int) (C := "MeasuredStagesModel") (T := F_md) (N := 19) hx hb hts (fun w h => List.mem_cons_of_mem _ (i_md w h)) t_md o_md n_md hown hK hP hD hS 0 rfl rfl 18 (by decide) (hT _ tb_477) (fun _ h9 => h9) rfl (by decide +kernel) rfl rfl (Nat.le_of_ble_eq_true rfl) d_md_extend_28 (fun H locs hP hD hS => ?_)
  have hP : va_P D cx (mv ad cs (sg_im u) (sg_ap u) (sg_ag u) (sg_he u) (sg_er u) (sg_ev u) (sg_en u) (sg_ma u) (sg_po u) (sg_se u) (sg_ac u) (sg_fa u) (sg_la u) (sg_st u) (jm_ag j) (jm_de j) (jm_ru j) (jm_nx j) (2)) H := hP
  have hD : va_D A (mv ad cs (sg_im u) (sg_ap u) (sg_ag u) (sg_he u) (sg_er u) (sg_ev u) (sg_en u) (sg_ma u) (sg_po u) (sg_se u) (sg_ac u) (sg_fa u) (sg_la u) (sg_st u) (jm_ag j) (jm_de j) (jm_ru j) (jm_nx j) (2)) := hD
  refine lv_aload_n hx hb d_md_extend_31 rfl (lv_at hl 0 rfl) ?_
  refine va_get (D := D) (ci := 3) (v := .int (2)) (C := "MeasuredStagesModel") (T := F_md) (N := 19) hx hb hts (fun w h => List.mem_cons_of_mem _ (i_md w h)) hown hK hP 0 rfl rfl 18 (by decide) (hT _ tb_477) (fun _ h9 => h9) rfl d_md_extend_32 ?_
  refine lv_if_ne hx hb d_md_extend_35 (tgt := 60) (by decide) (fun _ => ?_) (fun z => absurd z (by decide))
  obtain ⟨q1, eq1⟩ : ∃ z : Jm, z = (jm_ag j, jm_de j, jm_ru j, jm_nx j, 2) := ⟨_, rfl⟩
  have hP : va_P D cx (mw ad cs u q1) H := by rw [eq1, mw_j]; exact hP
  have hD : va_D A (mw ad cs u q1) := by rw [eq1, mw_j]; exact hD
  exact W.vret hx hb hret (fun t ht hW => ⟨⟨q1, rfl, (by subst eq1; rfl), by rw [ht]; exact hP, va_K.moved hW.alike hK, hD⟩, hS.F ht⟩) hS.2.2 d_md_extend_60
set_option maxHeartbeats 4000000 in
set_option maxRecDepth 100000 in
theorem k_md_event (l : Launch) (D : va_G) (cs : Nat → ClassId) (ad : Nat → Nat) (sz : Nat) (u : Sg) (j : Jm) (k : Int32) (hk : sp_rg k (sg_en u) = 1) : Met l y_md_event (Cond.code y_md_event b_md_event 2 (some .boolean) :: TB) { frames := 0, cells := 0, slots := 0, locals := 0 } (va_Pc [.ref (ad 0), .int k] (mw_Pre D cs ad u j sz)) (va_Qi (fun (r : Int32) (j1 : Jm) => r = 1 ∧ j1 = sm_th j 0) (fun (j1 : Jm) t => mw_B D cs ad (va_A (mw ad cs u j) sz) u j1 t) (va_A (mw ad cs u j) sz)) 0 0 (va_A (mw ad cs u j) sz) := by
  refine Met.ofW (cc := b_md_event) (maxL := 2) (ret := (some .boolean)) (by decide) rfl ?_
  intro p e s m args below meth c s₁ B hml hv
  obtain ⟨rfl, hsz, hP, hK, hD, hN⟩ := hv
  have hx := B.exec
  have hb := B.bytes
  have hret := B.returns
  have hts := atoms_spec (ws := Cond.code y_md_event b_md_event 2 (some .boolean) :: TB) B.pre
  have hT : ∀ w ∈ TB, w.before _ s = true := fun w h => hts w (List.mem_cons_of_mem _ h)
  have hown : s.vm.findClass "MeasuredStagesModel" = some m.cls := findClass_of_methodNamed B.named
  have hlocks := B.notSynchronized
  subst hsz
  have hD := hD.self (sz := s.heap.size)
  generalize hAe : va_A (mw ad cs u j) s.heap.size = A at hD ⊢
  have hA : ∀ q : Nat, s.heap.size ≤ q → A q := fun q h => by rw [← hAe]; exact Or.inr h
  have hS : va_S A s.heap s.heap [] := va_S.rf
  have hl := lv_entry ([.ref (ad 0), .int k]) (n := 2) (Nat.le_of_ble_eq_true rfl)
  rw [lg_entry_eq]
  generalize (lg_sl ([.ref (ad 0), .int k]) ++ List.replicate (2 - (lg_sl ([.ref (ad 0), .int k])).length) Slot.unset).toArray = ls at hl ⊢
  have hl : lv_has ls 2 [(0, .ref (ad 0)), (1, .int k)] := hl
  skip
  refine lv_aload_n hx hb d_md_event_0 rfl (lv_at hl 0 rfl) ?_
  refine lv_iload_n hx hb d_md_event_1 rfl (lv_at hl 1 rfl) ?_
  refine lv_if_lt hx hb d_md_event_2 (tgt := 13) (by decide) (fun z => absurd z ((rg_1 hk).1)) (fun _ => ?_)
  refine lv_iload_n hx hb d_md_event_5 rfl (lv_at hl 1 rfl) ?_
  refine lv_aload_n hx hb d_md_event_6 rfl (lv_at hl 0 rfl) ?_
  refine va_get (D := D) (ci := 3) (v := .int (sg_en u)) (C := "MeasuredStagesModel") (T := F_md) (N := 19) hx hb hts (fun w h => List.mem_cons_of_mem _ (i_md w h)) hown hK hP 0 rfl rfl 7 (by decide) (hT _ tb_466) (fun _ h9 => h9) rfl d_md_event_7 ?_
  refine lv_icmp_lt hx hb d_md_event_10 (tgt := 17) (by decide) (fun _ => ?_) (fun z => absurd ((rg_1 hk).2) z)
  refine lv_iconst (v := 0) hx hb d_md_event_17 (by decide) ?_
  refine va_put (D := D) (ci := 3) (v := .int (0)) (ty := .int) (C := "MeasuredStagesModel") (T := F_md) (N := 19) hx hb hts (fun w h => List.mem_cons_of_mem _ (i_md w h)) t_md o_md n_md hown hK hP hD hS 0 rfl rfl 18 (by decide) (hT _ tb_477) (fun _ h9 => h9) rfl (by decide +kernel) rfl rfl (Nat.le_of_ble_eq_true rfl) d_md_event_18 (fun H locs hP hD hS => ?_)
  have hP : va_P D cx (mv ad cs (sg_im u) (sg_ap u) (sg_ag u) (sg_he u) (sg_er u) (sg_ev u) (sg_en u) (sg_ma u) (sg_po u) (sg_se u) (sg_ac u) (sg_fa u) (sg_la u) (sg_st u) (jm_ag j) (jm_de j) (jm_ru j) (jm_nx j) (0)) H := hP
  have hD : va_D A (mv ad cs (sg_im u) (sg_ap u) (sg_ag u) (sg_he u) (sg_er u) (sg_ev u) (sg_en u) (sg_ma u) (sg_po u) (sg_se u) (sg_ac u) (sg_fa u) (sg_la u) (sg_st u) (jm_ag j) (jm_de j) (jm_ru j) (jm_nx j) (0)) := hD
  refine lv_aload_n hx hb d_md_event_21 rfl (lv_at hl 0 rfl) ?_
  refine va_get (D := D) (ci := 3) (v := .int (0)) (C := "MeasuredStagesModel") (T := F_md) (N := 19) hx hb hts (fun w h => List.mem_cons_of_mem _ (i_md w h)) hown hK hP 0 rfl rfl 18 (by decide) (hT _ tb_477) (fun _ h9 => h9) rfl d_md_event_22 ?_
  refine lv_if_ne hx hb d_md_event_25 (tgt := 32) (by decide) (fun z => absurd (by decide) z) (fun _ => ?_)
  refine lv_iconst (v := 1) hx hb d_md_event_28 (by decide) ?_
  refine lv_goto hx hb d_md_event_29 (tgt := 33) (by decide) ?_
  obtain ⟨q1, eq1⟩ : ∃ z : Jm, z = (jm_ag j, jm_de j, jm_ru j, jm_nx j, 0) := ⟨_, rfl⟩
  have hP : va_P D cx (mw ad cs u q1) H := by rw [eq1, mw_j]; exact hP
  have hD : va_D A (mw ad cs u q1) := by rw [eq1, mw_j]; exact hD
  exact W.zret hx hb hret rfl (fun t ht hW => ⟨⟨_, q1, rfl, ⟨rfl, (by subst eq1; rfl)⟩, by rw [ht]; exact hP, va_K.moved hW.alike hK, hD⟩, hS.F ht⟩) hS.2.2 d_md_event_33
set_option maxHeartbeats 4000000 in
set_option maxRecDepth 100000 in
theorem f_md_event (l : Launch) (D : va_G) (cs : Nat → ClassId) (ad : Nat → Nat) (sz : Nat) (u : Sg) (j : Jm) (k : Int32) (hk : sp_rg k (sg_en u) = 0) : Met l y_md_event (Cond.code y_md_event b_md_event 2 (some .boolean) :: TB) { frames := 0, cells := 0, slots := 0, locals := 0 } (va_Pc [.ref (ad 0), .int k] (mw_Pre D cs ad u j sz)) (va_Qi (fun (r : Int32) (j1 : Jm) => r = 0 ∧ j1 = sm_th j 1) (fun (j1 : Jm) t => mw_B D cs ad (va_A (mw ad cs u j) sz) u j1 t) (va_A (mw ad cs u j) sz)) 0 0 (va_A (mw ad cs u j) sz) := by
  refine Met.ofW (cc := b_md_event) (maxL := 2) (ret := (some .boolean)) (by decide) rfl ?_
  intro p e s m args below meth c s₁ B hml hv
  obtain ⟨rfl, hsz, hP, hK, hD, hN⟩ := hv
  have hx := B.exec
  have hb := B.bytes
  have hret := B.returns
  have hts := atoms_spec (ws := Cond.code y_md_event b_md_event 2 (some .boolean) :: TB) B.pre
  have hT : ∀ w ∈ TB, w.before _ s = true := fun w h => hts w (List.mem_cons_of_mem _ h)
  have hown : s.vm.findClass "MeasuredStagesModel" = some m.cls := findClass_of_methodNamed B.named
  have hlocks := B.notSynchronized
  subst hsz
  have hD := hD.self (sz := s.heap.size)
  generalize hAe : va_A (mw ad cs u j) s.heap.size = A at hD ⊢
  have hA : ∀ q : Nat, s.heap.size ≤ q → A q := fun q h => by rw [← hAe]; exact Or.inr h
  have hS : va_S A s.heap s.heap [] := va_S.rf
  have hl := lv_entry ([.ref (ad 0), .int k]) (n := 2) (Nat.le_of_ble_eq_true rfl)
  rw [lg_entry_eq]
  generalize (lg_sl ([.ref (ad 0), .int k]) ++ List.replicate (2 - (lg_sl ([.ref (ad 0), .int k])).length) Slot.unset).toArray = ls at hl ⊢
  have hl : lv_has ls 2 [(0, .ref (ad 0)), (1, .int k)] := hl
  skip
  refine lv_aload_n hx hb d_md_event_0 rfl (lv_at hl 0 rfl) ?_
  refine lv_iload_n hx hb d_md_event_1 rfl (lv_at hl 1 rfl) ?_
  refine lv_if_lt hx hb d_md_event_2 (tgt := 13) (by decide) (fun h1 => ?_) (fun h1 => ?_)
  · skip
    refine lv_iconst (v := 1) hx hb d_md_event_13 (by decide) ?_
    refine lv_goto hx hb d_md_event_14 (tgt := 18) (by decide) ?_
    refine va_put (D := D) (ci := 3) (v := .int (1)) (ty := .int) (C := "MeasuredStagesModel") (T := F_md) (N := 19) hx hb hts (fun w h => List.mem_cons_of_mem _ (i_md w h)) t_md o_md n_md hown hK hP hD hS 0 rfl rfl 18 (by decide) (hT _ tb_477) (fun _ h9 => h9) rfl (by decide +kernel) rfl rfl (Nat.le_of_ble_eq_true rfl) d_md_event_18 (fun H locs hP hD hS => ?_)
    have hP : va_P D cx (mv ad cs (sg_im u) (sg_ap u) (sg_ag u) (sg_he u) (sg_er u) (sg_ev u) (sg_en u) (sg_ma u) (sg_po u) (sg_se u) (sg_ac u) (sg_fa u) (sg_la u) (sg_st u) (jm_ag j) (jm_de j) (jm_ru j) (jm_nx j) (1)) H := hP
    have hD : va_D A (mv ad cs (sg_im u) (sg_ap u) (sg_ag u) (sg_he u) (sg_er u) (sg_ev u) (sg_en u) (sg_ma u) (sg_po u) (sg_se u) (sg_ac u) (sg_fa u) (sg_la u) (sg_st u) (jm_ag j) (jm_de j) (jm_ru j) (jm_nx j) (1)) := hD
    refine lv_aload_n hx hb d_md_event_21 rfl (lv_at hl 0 rfl) ?_
    refine va_get (D := D) (ci := 3) (v := .int (1)) (C := "MeasuredStagesModel") (T := F_md) (N := 19) hx hb hts (fun w h => List.mem_cons_of_mem _ (i_md w h)) hown hK hP 0 rfl rfl 18 (by decide) (hT _ tb_477) (fun _ h9 => h9) rfl d_md_event_22 ?_
    refine lv_if_ne hx hb d_md_event_25 (tgt := 32) (by decide) (fun _ => ?_) (fun z => absurd z (by decide))
    refine lv_iconst (v := 0) hx hb d_md_event_32 (by decide) ?_
    obtain ⟨q2, eq2⟩ : ∃ z : Jm, z = (jm_ag j, jm_de j, jm_ru j, jm_nx j, 1) := ⟨_, rfl⟩
    have hP : va_P D cx (mw ad cs u q2) H := by rw [eq2, mw_j]; exact hP
    have hD : va_D A (mw ad cs u q2) := by rw [eq2, mw_j]; exact hD
    exact W.zret hx hb hret rfl (fun t ht hW => ⟨⟨_, q2, rfl, ⟨rfl, (by subst eq2; rfl)⟩, by rw [ht]; exact hP, va_K.moved hW.alike hK, hD⟩, hS.F ht⟩) hS.2.2 d_md_event_33
  · skip
    refine lv_iload_n hx hb d_md_event_5 rfl (lv_at hl 1 rfl) ?_
    refine lv_aload_n hx hb d_md_event_6 rfl (lv_at hl 0 rfl) ?_
    refine va_get (D := D) (ci := 3) (v := .int (sg_en u)) (C := "MeasuredStagesModel") (T := F_md) (N := 19) hx hb hts (fun w h => List.mem_cons_of_mem _ (i_md w h)) hown hK hP 0 rfl rfl 7 (by decide) (hT _ tb_466) (fun _ h9 => h9) rfl d_md_event_7 ?_
    refine lv_icmp_lt hx hb d_md_event_10 (tgt := 17) (by decide) (fun z => absurd z (rg_0 hk h1)) (fun _ => ?_)
    refine lv_iconst (v := 1) hx hb d_md_event_13 (by decide) ?_
    refine lv_goto hx hb d_md_event_14 (tgt := 18) (by decide) ?_
    refine va_put (D := D) (ci := 3) (v := .int (1)) (ty := .int) (C := "MeasuredStagesModel") (T := F_md) (N := 19) hx hb hts (fun w h => List.mem_cons_of_mem _ (i_md w h)) t_md o_md n_md hown hK hP hD hS 0 rfl rfl 18 (by decide) (hT _ tb_477) (fun _ h9 => h9) rfl (by decide +kernel) rfl rfl (Nat.le_of_ble_eq_true rfl) d_md_event_18 (fun H locs hP hD hS => ?_)
    have hP : va_P D cx (mv ad cs (sg_im u) (sg_ap u) (sg_ag u) (sg_he u) (sg_er u) (sg_ev u) (sg_en u) (sg_ma u) (sg_po u) (sg_se u) (sg_ac u) (sg_fa u) (sg_la u) (sg_st u) (jm_ag j) (jm_de j) (jm_ru j) (jm_nx j) (1)) H := hP
    have hD : va_D A (mv ad cs (sg_im u) (sg_ap u) (sg_ag u) (sg_he u) (sg_er u) (sg_ev u) (sg_en u) (sg_ma u) (sg_po u) (sg_se u) (sg_ac u) (sg_fa u) (sg_la u) (sg_st u) (jm_ag j) (jm_de j) (jm_ru j) (jm_nx j) (1)) := hD
    refine lv_aload_n hx hb d_md_event_21 rfl (lv_at hl 0 rfl) ?_
    refine va_get (D := D) (ci := 3) (v := .int (1)) (C := "MeasuredStagesModel") (T := F_md) (N := 19) hx hb hts (fun w h => List.mem_cons_of_mem _ (i_md w h)) hown hK hP 0 rfl rfl 18 (by decide) (hT _ tb_477) (fun _ h9 => h9) rfl d_md_event_22 ?_
    refine lv_if_ne hx hb d_md_event_25 (tgt := 32) (by decide) (fun _ => ?_) (fun z => absurd z (by decide))
    refine lv_iconst (v := 0) hx hb d_md_event_32 (by decide) ?_
    obtain ⟨q3, eq3⟩ : ∃ z : Jm, z = (jm_ag j, jm_de j, jm_ru j, jm_nx j, 1) := ⟨_, rfl⟩
    have hP : va_P D cx (mw ad cs u q3) H := by rw [eq3, mw_j]; exact hP
    have hD : va_D A (mw ad cs u q3) := by rw [eq3, mw_j]; exact hD
    exact W.zret hx hb hret rfl (fun t ht hW => ⟨⟨_, q3, rfl, ⟨rfl, (by subst eq3; rfl)⟩, by rw [ht]; exact hP, va_K.moved hW.alike hK, hD⟩, hS.F ht⟩) hS.2.2 d_md_event_33
set_option maxHeartbeats 4000000 in
set_option maxRecDepth 100000 in
theorem k_md_eventRegister (l : Launch) (D : va_G) (cs : Nat → ClassId) (ad : Nat → Nat) (sz : Nat) (u : Sg) (j : Jm) (k : Int32) (hok : sp_ok u) (hk : sp_rg k (sg_en u) = 1) : Met l y_md_eventRegister (Cond.code y_md_eventRegister b_md_eventRegister 2 (some .int) :: TB) { frames := 7, cells := 0, slots := 0, locals := 200 } (va_Pc [.ref (ad 0), .int k] (mw_Pre D cs ad u j sz)) (va_Qi (fun (r : Int32) (j1 : Jm) => r = sg_er u k.toNatClampNeg ∧ jm_th j1 = 0) (fun (j1 : Jm) t => mw_B D cs ad (va_A (mw ad cs u j) sz) u j1 t) (va_A (mw ad cs u j) sz)) 0 0 (va_A (mw ad cs u j) sz) := by
  refine Met.ofW (cc := b_md_eventRegister) (maxL := 2) (ret := (some .int)) (by decide) rfl ?_
  intro p e s m args below meth c s₁ B hml hv
  obtain ⟨rfl, hsz, hP, hK, hD, hN⟩ := hv
  have hx := B.exec
  have hb := B.bytes
  have hret := B.returns
  have hts := atoms_spec (ws := Cond.code y_md_eventRegister b_md_eventRegister 2 (some .int) :: TB) B.pre
  have hT : ∀ w ∈ TB, w.before _ s = true := fun w h => hts w (List.mem_cons_of_mem _ h)
  have hown : s.vm.findClass "MeasuredStagesModel" = some m.cls := findClass_of_methodNamed B.named
  have hlocks := B.notSynchronized
  subst hsz
  have hD := hD.self (sz := s.heap.size)
  generalize hAe : va_A (mw ad cs u j) s.heap.size = A at hD ⊢
  have hA : ∀ q : Nat, s.heap.size ≤ q → A q := fun q h => by rw [← hAe]; exact Or.inr h
  have hS : va_S A s.heap s.heap [] := va_S.rf
  have hl := lv_entry ([.ref (ad 0), .int k]) (n := 2) (Nat.le_of_ble_eq_true rfl)
  rw [lg_entry_eq]
  generalize (lg_sl ([.ref (ad 0), .int k]) ++ List.replicate (2 - (lg_sl ([.ref (ad 0), .int k])).length) Slot.unset).toArray = ls at hl ⊢
  have hl : lv_has ls 2 [(0, .ref (ad 0)), (1, .int k)] := hl
  skip
  refine lv_aload_n hx hb d_md_eventRegister_0 rfl (lv_at hl 0 rfl) ?_
  refine lv_iload_n hx hb d_md_eventRegister_1 rfl (lv_at hl 1 rfl) ?_
  refine mw_wri (v := 1) (u' := u) (As := [.int k]) (rest := []) ⟨hx, hb, hml, hown, hts⟩ (k_md_event l D cs ad _ u j k hk) tb_617 tb_619 sl_25 tb_4 tb_620 ⟨rfl, hd_md_event⟩ ⟨Nat.le_of_ble_eq_true rfl, Nat.le_of_ble_eq_true rfl⟩ rfl rfl hK hP hD hN 0 3 rfl rfl hl.1 rfl (Nat.le_of_ble_eq_true rfl) d_md_eventRegister_2 ⟨Nat.zero_le _, Nat.zero_le _⟩ hS hA (fun j1 H locs hj2 hP hD hS => ?_)
  refine lv_if_eq hx hb d_md_eventRegister_5 (tgt := 17) (by decide) (fun z => absurd z (by decide)) (fun _ => ?_)
  refine lv_aload_n hx hb d_md_eventRegister_8 rfl (lv_at hl 0 rfl) ?_
  refine va_get (D := D) (ci := 3) (v := .ref (ad 8)) (C := "MeasuredStagesModel") (T := F_md) (N := 19) hx hb hts (fun w h => List.mem_cons_of_mem _ (i_md w h)) hown hK hP 0 rfl rfl 8 (by decide) (hT _ tb_467) (fun _ h9 => h9) rfl d_md_eventRegister_9 ?_
  refine lv_iload_n hx hb d_md_eventRegister_12 rfl (lv_at hl 1 rfl) ?_
  refine va_iald hx hb hK hP 8 7 rfl rfl (ev_in hok hk) d_md_eventRegister_13 ?_
  refine lv_goto hx hb d_md_eventRegister_14 (tgt := 18) (by decide) ?_
  exact W.iret hx hb hret (fun t ht hW => ⟨⟨_, j1, rfl, ⟨rfl, (by subst hj2; rfl)⟩, by rw [ht]; exact hP, va_K.moved hW.alike hK, hD⟩, hS.F ht⟩) hS.2.2 d_md_eventRegister_18
set_option maxHeartbeats 4000000 in
set_option maxRecDepth 100000 in
theorem f_md_eventRegister (l : Launch) (D : va_G) (cs : Nat → ClassId) (ad : Nat → Nat) (sz : Nat) (u : Sg) (j : Jm) (k : Int32) (hk : sp_rg k (sg_en u) = 0) : Met l y_md_eventRegister (Cond.code y_md_eventRegister b_md_eventRegister 2 (some .int) :: TB) { frames := 7, cells := 0, slots := 0, locals := 200 } (va_Pc [.ref (ad 0), .int k] (mw_Pre D cs ad u j sz)) (va_Qi (fun (r : Int32) (j1 : Jm) => r = 0 ∧ jm_th j1 = 1) (fun (j1 : Jm) t => mw_B D cs ad (va_A (mw ad cs u j) sz) u j1 t) (va_A (mw ad cs u j) sz)) 0 0 (va_A (mw ad cs u j) sz) := by
  refine Met.ofW (cc := b_md_eventRegister) (maxL := 2) (ret := (some .int)) (by decide) rfl ?_
  intro p e s m args below meth c s₁ B hml hv
  obtain ⟨rfl, hsz, hP, hK, hD, hN⟩ := hv
  have hx := B.exec
  have hb := B.bytes
  have hret := B.returns
  have hts := atoms_spec (ws := Cond.code y_md_eventRegister b_md_eventRegister 2 (some .int) :: TB) B.pre
  have hT : ∀ w ∈ TB, w.before _ s = true := fun w h => hts w (List.mem_cons_of_mem _ h)
  have hown : s.vm.findClass "MeasuredStagesModel" = some m.cls := findClass_of_methodNamed B.named
  have hlocks := B.notSynchronized
  subst hsz
  have hD := hD.self (sz := s.heap.size)
  generalize hAe : va_A (mw ad cs u j) s.heap.size = A at hD ⊢
  have hA : ∀ q : Nat, s.heap.size ≤ q → A q := fun q h => by rw [← hAe]; exact Or.inr h
  have hS : va_S A s.heap s.heap [] := va_S.rf
  have hl := lv_entry ([.ref (ad 0), .int k]) (n := 2) (Nat.le_of_ble_eq_true rfl)
  rw [lg_entry_eq]
  generalize (lg_sl ([.ref (ad 0), .int k]) ++ List.replicate (2 - (lg_sl ([.ref (ad 0), .int k])).length) Slot.unset).toArray = ls at hl ⊢
  have hl : lv_has ls 2 [(0, .ref (ad 0)), (1, .int k)] := hl
  skip
  refine lv_aload_n hx hb d_md_eventRegister_0 rfl (lv_at hl 0 rfl) ?_
  refine lv_iload_n hx hb d_md_eventRegister_1 rfl (lv_at hl 1 rfl) ?_
  refine mw_wri (v := 0) (u' := u) (As := [.int k]) (rest := []) ⟨hx, hb, hml, hown, hts⟩ (f_md_event l D cs ad _ u j k hk) tb_617 tb_619 sl_25 tb_4 tb_620 ⟨rfl, hd_md_event⟩ ⟨Nat.le_of_ble_eq_true rfl, Nat.le_of_ble_eq_true rfl⟩ rfl rfl hK hP hD hN 0 3 rfl rfl hl.1 rfl (Nat.le_of_ble_eq_true rfl) d_md_eventRegister_2 ⟨Nat.zero_le _, Nat.zero_le _⟩ hS hA (fun j1 H locs hj2 hP hD hS => ?_)
  refine lv_if_eq hx hb d_md_eventRegister_5 (tgt := 17) (by decide) (fun _ => ?_) (fun z => absurd (by decide) z)
  refine lv_iconst (v := 0) hx hb d_md_eventRegister_17 (by decide) ?_
  exact W.iret hx hb hret (fun t ht hW => ⟨⟨_, j1, rfl, ⟨rfl, (by subst hj2; rfl)⟩, by rw [ht]; exact hP, va_K.moved hW.alike hK, hD⟩, hS.F ht⟩) hS.2.2 d_md_eventRegister_18
set_option maxHeartbeats 4000000 in
set_option maxRecDepth 100000 in
theorem k_md_eventValue (l : Launch) (D : va_G) (cs : Nat → ClassId) (ad : Nat → Nat) (sz : Nat) (u : Sg) (j : Jm) (k : Int32) (hok : sp_ok u) (hk : sp_rg k (sg_en u) = 1) : Met l y_md_eventValue (Cond.code y_md_eventValue b_md_eventValue 2 (some .long) :: TB) { frames := 7, cells := 0, slots := 0, locals := 200 } (va_Pc [.ref (ad 0), .int k] (mw_Pre D cs ad u j sz)) (va_Ql (fun (r : Int64) (j1 : Jm) => r = sg_ev u k.toNatClampNeg ∧ jm_th j1 = 0) (fun (j1 : Jm) t => mw_B D cs ad (va_A (mw ad cs u j) sz) u j1 t) (va_A (mw ad cs u j) sz)) 0 0 (va_A (mw ad cs u j) sz) := by
  refine Met.ofW (cc := b_md_eventValue) (maxL := 2) (ret := (some .long)) (by decide) rfl ?_
  intro p e s m args below meth c s₁ B hml hv
  obtain ⟨rfl, hsz, hP, hK, hD, hN⟩ := hv
  have hx := B.exec
  have hb := B.bytes
  have hret := B.returns
  have hts := atoms_spec (ws := Cond.code y_md_eventValue b_md_eventValue 2 (some .long) :: TB) B.pre
  have hT : ∀ w ∈ TB, w.before _ s = true := fun w h => hts w (List.mem_cons_of_mem _ h)
  have hown : s.vm.findClass "MeasuredStagesModel" = some m.cls := findClass_of_methodNamed B.named
  have hlocks := B.notSynchronized
  subst hsz
  have hD := hD.self (sz := s.heap.size)
  generalize hAe : va_A (mw ad cs u j) s.heap.size = A at hD ⊢
  have hA : ∀ q : Nat, s.heap.size ≤ q → A q := fun q h => by rw [← hAe]; exact Or.inr h
  have hS : va_S A s.heap s.heap [] := va_S.rf
  have hl := lv_entry ([.ref (ad 0), .int k]) (n := 2) (Nat.le_of_ble_eq_true rfl)
  rw [lg_entry_eq]
  generalize (lg_sl ([.ref (ad 0), .int k]) ++ List.replicate (2 - (lg_sl ([.ref (ad 0), .int k])).length) Slot.unset).toArray = ls at hl ⊢
  have hl : lv_has ls 2 [(0, .ref (ad 0)), (1, .int k)] := hl
  skip
  refine lv_aload_n hx hb d_md_eventValue_0 rfl (lv_at hl 0 rfl) ?_
  refine lv_iload_n hx hb d_md_eventValue_1 rfl (lv_at hl 1 rfl) ?_
  refine mw_wri (v := 1) (u' := u) (As := [.int k]) (rest := []) ⟨hx, hb, hml, hown, hts⟩ (k_md_event l D cs ad _ u j k hk) tb_617 tb_619 sl_25 tb_4 tb_620 ⟨rfl, hd_md_event⟩ ⟨Nat.le_of_ble_eq_true rfl, Nat.le_of_ble_eq_true rfl⟩ rfl rfl hK hP hD hN 0 3 rfl rfl hl.1 rfl (Nat.le_of_ble_eq_true rfl) d_md_eventValue_2 ⟨Nat.zero_le _, Nat.zero_le _⟩ hS hA (fun j1 H locs hj2 hP hD hS => ?_)
  refine lv_if_eq hx hb d_md_eventValue_5 (tgt := 17) (by decide) (fun z => absurd z (by decide)) (fun _ => ?_)
  refine lv_aload_n hx hb d_md_eventValue_8 rfl (lv_at hl 0 rfl) ?_
  refine va_get (D := D) (ci := 3) (v := .ref (ad 9)) (C := "MeasuredStagesModel") (T := F_md) (N := 19) hx hb hts (fun w h => List.mem_cons_of_mem _ (i_md w h)) hown hK hP 0 rfl rfl 9 (by decide) (hT _ tb_468) (fun _ h9 => h9) rfl d_md_eventValue_9 ?_
  refine lv_iload_n hx hb d_md_eventValue_12 rfl (lv_at hl 1 rfl) ?_
  refine va_lald hx hb hK hP 9 8 rfl rfl (ev_in hok hk) d_md_eventValue_13 ?_
  refine lv_goto hx hb d_md_eventValue_14 (tgt := 18) (by decide) ?_
  exact W.lret hx hb hret (fun t ht hW => ⟨⟨_, j1, rfl, ⟨rfl, (by subst hj2; rfl)⟩, by rw [ht]; exact hP, va_K.moved hW.alike hK, hD⟩, hS.F ht⟩) hS.2.2 d_md_eventValue_18
set_option maxHeartbeats 4000000 in
set_option maxRecDepth 100000 in
theorem f_md_eventValue (l : Launch) (D : va_G) (cs : Nat → ClassId) (ad : Nat → Nat) (sz : Nat) (u : Sg) (j : Jm) (k : Int32) (hk : sp_rg k (sg_en u) = 0) : Met l y_md_eventValue (Cond.code y_md_eventValue b_md_eventValue 2 (some .long) :: TB) { frames := 7, cells := 0, slots := 0, locals := 200 } (va_Pc [.ref (ad 0), .int k] (mw_Pre D cs ad u j sz)) (va_Ql (fun (r : Int64) (j1 : Jm) => r = 0 ∧ jm_th j1 = 1) (fun (j1 : Jm) t => mw_B D cs ad (va_A (mw ad cs u j) sz) u j1 t) (va_A (mw ad cs u j) sz)) 0 0 (va_A (mw ad cs u j) sz) := by
  refine Met.ofW (cc := b_md_eventValue) (maxL := 2) (ret := (some .long)) (by decide) rfl ?_
  intro p e s m args below meth c s₁ B hml hv
  obtain ⟨rfl, hsz, hP, hK, hD, hN⟩ := hv
  have hx := B.exec
  have hb := B.bytes
  have hret := B.returns
  have hts := atoms_spec (ws := Cond.code y_md_eventValue b_md_eventValue 2 (some .long) :: TB) B.pre
  have hT : ∀ w ∈ TB, w.before _ s = true := fun w h => hts w (List.mem_cons_of_mem _ h)
  have hown : s.vm.findClass "MeasuredStagesModel" = some m.cls := findClass_of_methodNamed B.named
  have hlocks := B.notSynchronized
  subst hsz
  have hD := hD.self (sz := s.heap.size)
  generalize hAe : va_A (mw ad cs u j) s.heap.size = A at hD ⊢
  have hA : ∀ q : Nat, s.heap.size ≤ q → A q := fun q h => by rw [← hAe]; exact Or.inr h
  have hS : va_S A s.heap s.heap [] := va_S.rf
  have hl := lv_entry ([.ref (ad 0), .int k]) (n := 2) (Nat.le_of_ble_eq_true rfl)
  rw [lg_entry_eq]
  generalize (lg_sl ([.ref (ad 0), .int k]) ++ List.replicate (2 - (lg_sl ([.ref (ad 0), .int k])).length) Slot.unset).toArray = ls at hl ⊢
  have hl : lv_has ls 2 [(0, .ref (ad 0)), (1, .int k)] := hl
  skip
  refine lv_aload_n hx hb d_md_eventValue_0 rfl (lv_at hl 0 rfl) ?_
  refine lv_iload_n hx hb d_md_eventValue_1 rfl (lv_at hl 1 rfl) ?_
  refine mw_wri (v := 0) (u' := u) (As := [.int k]) (rest := []) ⟨hx, hb, hml, hown, hts⟩ (f_md_event l D cs ad _ u j k hk) tb_617 tb_619 sl_25 tb_4 tb_620 ⟨rfl, hd_md_event⟩ ⟨Nat.le_of_ble_eq_true rfl, Nat.le_of_ble_eq_true rfl⟩ rfl rfl hK hP hD hN 0 3 rfl rfl hl.1 rfl (Nat.le_of_ble_eq_true rfl) d_md_eventValue_2 ⟨Nat.zero_le _, Nat.zero_le _⟩ hS hA (fun j1 H locs hj2 hP hD hS => ?_)
  refine lv_if_eq hx hb d_md_eventValue_5 (tgt := 17) (by decide) (fun _ => ?_) (fun z => absurd (by decide) z)
  refine lv_lconst (v := 0) hx hb d_md_eventValue_17 (by decide) ?_
  exact W.lret hx hb hret (fun t ht hW => ⟨⟨_, j1, rfl, ⟨rfl, (by subst hj2; rfl)⟩, by rw [ht]; exact hP, va_K.moved hW.alike hK, hD⟩, hS.F ht⟩) hS.2.2 d_md_eventValue_18
set_option maxHeartbeats 4000000 in
set_option maxRecDepth 100000 in
theorem k_md_tamper (l : Launch) (D : va_G) (cs : Nat → ClassId) (ad : Nat → Nat) (sz : Nat) (u : Sg) (j : Jm) (k : Int32) (x : Int64) (hok : sp_ok u) (hk : sp_rg k (sg_en u) = 1) : Met l y_md_tamper (Cond.code y_md_tamper b_md_tamper 4 none :: TB) { frames := 7, cells := 0, slots := 0, locals := 200 } (va_Pc [.ref (ad 0), .int k, .long x] (mw_Pre D cs ad u j sz)) (va_Qv (fun (j1 : Jm) => jm_th j1 = 0) (fun (j1 : Jm) t => mw_B D cs ad (va_A (mw ad cs u j) sz) (ss_ev u (vp_updL (sg_ev u) k.toNatClampNeg (sg_ev u k.toNatClampNeg ^^^ x))) j1 t) (va_A (mw ad cs u j) sz)) 0 0 (va_A (mw ad cs u j) sz) := by
  refine Met.ofW (cc := b_md_tamper) (maxL := 4) (ret := none) (by decide) rfl ?_
  intro p e s m args below meth c s₁ B hml hv
  obtain ⟨rfl, hsz, hP, hK, hD, hN⟩ := hv
  have hx := B.exec
  have hb := B.bytes
  have hret := B.returns
  have hts := atoms_spec (ws := Cond.code y_md_tamper b_md_tamper 4 none :: TB) B.pre
  have hT : ∀ w ∈ TB, w.before _ s = true := fun w h => hts w (List.mem_cons_of_mem _ h)
  have hown : s.vm.findClass "MeasuredStagesModel" = some m.cls := findClass_of_methodNamed B.named
  have hlocks := B.notSynchronized
  subst hsz
  have hD := hD.self (sz := s.heap.size)
  generalize hAe : va_A (mw ad cs u j) s.heap.size = A at hD ⊢
  have hA : ∀ q : Nat, s.heap.size ≤ q → A q := fun q h => by rw [← hAe]; exact Or.inr h
  have hS : va_S A s.heap s.heap [] := va_S.rf
  have hl := lv_entry ([.ref (ad 0), .int k, .long x]) (n := 4) (Nat.le_of_ble_eq_true rfl)
  rw [lg_entry_eq]
  generalize (lg_sl ([.ref (ad 0), .int k, .long x]) ++ List.replicate (4 - (lg_sl ([.ref (ad 0), .int k, .long x])).length) Slot.unset).toArray = ls at hl ⊢
  have hl : lv_has ls 4 [(0, .ref (ad 0)), (1, .int k), (2, .long x)] := hl
  skip
  refine lv_aload_n hx hb d_md_tamper_0 rfl (lv_at hl 0 rfl) ?_
  refine lv_iload_n hx hb d_md_tamper_1 rfl (lv_at hl 1 rfl) ?_
  refine mw_wri (v := 1) (u' := u) (As := [.int k]) (rest := []) ⟨hx, hb, hml, hown, hts⟩ (k_md_event l D cs ad _ u j k hk) tb_617 tb_619 sl_25 tb_4 tb_620 ⟨rfl, hd_md_event⟩ ⟨Nat.le_of_ble_eq_true rfl, Nat.le_of_ble_eq_true rfl⟩ rfl rfl hK hP hD hN 0 3 rfl rfl hl.1 rfl (Nat.le_of_ble_eq_true rfl) d_md_tamper_2 ⟨Nat.zero_le _, Nat.zero_le _⟩ hS hA (fun j1 H locs hj2 hP hD hS => ?_)
  refine lv_if_eq hx hb d_md_tamper_5 (tgt := 22) (by decide) (fun z => absurd z (by decide)) (fun _ => ?_)
  refine lv_aload_n hx hb d_md_tamper_8 rfl (lv_at hl 0 rfl) ?_
  refine va_get (D := D) (ci := 3) (v := .ref (ad 9)) (C := "MeasuredStagesModel") (T := F_md) (N := 19) hx hb hts (fun w h => List.mem_cons_of_mem _ (i_md w h)) hown hK hP 0 rfl rfl 9 (by decide) (hT _ tb_468) (fun _ h9 => h9) rfl d_md_tamper_9 ?_
  refine lv_iload_n hx hb d_md_tamper_12 rfl (lv_at hl 1 rfl) ?_
  refine lv_aload_n hx hb d_md_tamper_13 rfl (lv_at hl 0 rfl) ?_
  refine va_get (D := D) (ci := 3) (v := .ref (ad 9)) (C := "MeasuredStagesModel") (T := F_md) (N := 19) hx hb hts (fun w h => List.mem_cons_of_mem _ (i_md w h)) hown hK hP 0 rfl rfl 9 (by decide) (hT _ tb_468) (fun _ h9 => h9) rfl d_md_tamper_14 ?_
  refine lv_iload_n hx hb d_md_tamper_17 rfl (lv_at hl 1 rfl) ?_
  refine va_lald hx hb hK hP 9 8 rfl rfl (ev_in hok hk) d_md_tamper_18 ?_
  refine lv_lload_n hx hb d_md_tamper_19 rfl (lv_at hl 2 rfl) ?_
  refine lv_lxor hx hb d_md_tamper_20 ?_
  refine va_last hx hb hK hP hD hS 9 8 rfl rfl (ev_in hok hk) d_md_tamper_21 (fun H locs hP hD hS => ?_)
  have hP : va_P D cx (mv ad cs (sg_im u) (sg_ap u) (sg_ag u) (sg_he u) (sg_er u) (vp_updL (sg_ev u) k.toNatClampNeg ((sg_ev u k.toNatClampNeg) ^^^ x)) (sg_en u) (sg_ma u) (sg_po u) (sg_se u) (sg_ac u) (sg_fa u) (sg_la u) (sg_st u) (jm_ag j1) (jm_de j1) (jm_ru j1) (jm_nx j1) (jm_th j1)) H := hP
  have hD : va_D A (mv ad cs (sg_im u) (sg_ap u) (sg_ag u) (sg_he u) (sg_er u) (vp_updL (sg_ev u) k.toNatClampNeg ((sg_ev u k.toNatClampNeg) ^^^ x)) (sg_en u) (sg_ma u) (sg_po u) (sg_se u) (sg_ac u) (sg_fa u) (sg_la u) (sg_st u) (jm_ag j1) (jm_de j1) (jm_ru j1) (jm_nx j1) (jm_th j1)) := hD
  obtain ⟨v3, ev3⟩ : ∃ z : Sg, z = (sg_im u, sg_ap u, sg_ag u, sg_he u, sg_er u, vp_updL (sg_ev u) k.toNatClampNeg ((sg_ev u k.toNatClampNeg) ^^^ x), sg_en u, sg_ma u, sg_po u, sg_se u, sg_ac u, sg_fa u, sg_la u, sg_st u) := ⟨_, rfl⟩
  have hP : va_P D cx (mw ad cs v3 j1) H := by rw [ev3, mw_u]; exact hP
  have hD : va_D A (mw ad cs v3 j1) := by rw [ev3, mw_u]; exact hD
  subst ev3
  exact W.vret hx hb hret (fun t ht hW => ⟨⟨j1, rfl, (by subst hj2; rfl), by rw [ht]; exact hP, va_K.moved hW.alike hK, hD⟩, hS.F ht⟩) hS.2.2 d_md_tamper_22
set_option maxHeartbeats 4000000 in
set_option maxRecDepth 100000 in
theorem f_md_tamper (l : Launch) (D : va_G) (cs : Nat → ClassId) (ad : Nat → Nat) (sz : Nat) (u : Sg) (j : Jm) (k : Int32) (x : Int64) (hk : sp_rg k (sg_en u) = 0) : Met l y_md_tamper (Cond.code y_md_tamper b_md_tamper 4 none :: TB) { frames := 7, cells := 0, slots := 0, locals := 200 } (va_Pc [.ref (ad 0), .int k, .long x] (mw_Pre D cs ad u j sz)) (va_Qv (fun (j1 : Jm) => jm_th j1 = 1) (fun (j1 : Jm) t => mw_B D cs ad (va_A (mw ad cs u j) sz) u j1 t) (va_A (mw ad cs u j) sz)) 0 0 (va_A (mw ad cs u j) sz) := by
  refine Met.ofW (cc := b_md_tamper) (maxL := 4) (ret := none) (by decide) rfl ?_
  intro p e s m args below meth c s₁ B hml hv
  obtain ⟨rfl, hsz, hP, hK, hD, hN⟩ := hv
  have hx := B.exec
  have hb := B.bytes
  have hret := B.returns
  have hts := atoms_spec (ws := Cond.code y_md_tamper b_md_tamper 4 none :: TB) B.pre
  have hT : ∀ w ∈ TB, w.before _ s = true := fun w h => hts w (List.mem_cons_of_mem _ h)
  have hown : s.vm.findClass "MeasuredStagesModel" = some m.cls := findClass_of_methodNamed B.named
  have hlocks := B.notSynchronized
  subst hsz
  have hD := hD.self (sz := s.heap.size)
  generalize hAe : va_A (mw ad cs u j) s.heap.size = A at hD ⊢
  have hA : ∀ q : Nat, s.heap.size ≤ q → A q := fun q h => by rw [← hAe]; exact Or.inr h
  have hS : va_S A s.heap s.heap [] := va_S.rf
  have hl := lv_entry ([.ref (ad 0), .int k, .long x]) (n := 4) (Nat.le_of_ble_eq_true rfl)
  rw [lg_entry_eq]
  generalize (lg_sl ([.ref (ad 0), .int k, .long x]) ++ List.replicate (4 - (lg_sl ([.ref (ad 0), .int k, .long x])).length) Slot.unset).toArray = ls at hl ⊢
  have hl : lv_has ls 4 [(0, .ref (ad 0)), (1, .int k), (2, .long x)] := hl
  skip
  refine lv_aload_n hx hb d_md_tamper_0 rfl (lv_at hl 0 rfl) ?_
  refine lv_iload_n hx hb d_md_tamper_1 rfl (lv_at hl 1 rfl) ?_
  refine mw_wri (v := 0) (u' := u) (As := [.int k]) (rest := []) ⟨hx, hb, hml, hown, hts⟩ (f_md_event l D cs ad _ u j k hk) tb_617 tb_619 sl_25 tb_4 tb_620 ⟨rfl, hd_md_event⟩ ⟨Nat.le_of_ble_eq_true rfl, Nat.le_of_ble_eq_true rfl⟩ rfl rfl hK hP hD hN 0 3 rfl rfl hl.1 rfl (Nat.le_of_ble_eq_true rfl) d_md_tamper_2 ⟨Nat.zero_le _, Nat.zero_le _⟩ hS hA (fun j1 H locs hj2 hP hD hS => ?_)
  refine lv_if_eq hx hb d_md_tamper_5 (tgt := 22) (by decide) (fun _ => ?_) (fun z => absurd (by decide) z)
  exact W.vret hx hb hret (fun t ht hW => ⟨⟨j1, rfl, (by subst hj2; rfl), by rw [ht]; exact hP, va_K.moved hW.alike hK, hD⟩, hS.F ht⟩) hS.2.2 d_md_tamper_22
set_option maxHeartbeats 4000000 in
set_option maxRecDepth 100000 in
theorem k_md_seal (l : Launch) (D : va_G) (cs : Nat → ClassId) (ad : Nat → Nat) (sz : Nat) (u : Sg) (j : Jm) (mask : Int32) (x : Int64) (hm : sp_mk mask = 1) (hk : vp_in (sp_lf (sg_ma u)) 8) : Met l y_md_seal (Cond.code y_md_seal b_md_seal 5 (some .int) :: TB) { frames := 7, cells := 0, slots := 0, locals := 200 } (va_Pc [.ref (ad 0), .int mask, .long x] (mw_Pre D cs ad u j sz)) (va_Qi (fun (r : Int32) (j1 : Jm) => r = sp_lf (sg_ma u) ∧ jm_th j1 = 0) (fun (j1 : Jm) t => mw_B D cs ad (va_A (mw ad cs u j) sz) (sp_fi u (sp_lf (sg_ma u)) mask x) j1 t) (va_A (mw ad cs u j) sz)) 0 0 (va_A (mw ad cs u j) sz) := by
  refine Met.ofW (cc := b_md_seal) (maxL := 5) (ret := (some .int)) (by decide) rfl ?_
  intro p e s m args below meth c s₁ B hml hv
  obtain ⟨rfl, hsz, hP, hK, hD, hN⟩ := hv
  have hx := B.exec
  have hb := B.bytes
  have hret := B.returns
  have hts := atoms_spec (ws := Cond.code y_md_seal b_md_seal 5 (some .int) :: TB) B.pre
  have hT : ∀ w ∈ TB, w.before _ s = true := fun w h => hts w (List.mem_cons_of_mem _ h)
  have hown : s.vm.findClass "MeasuredStagesModel" = some m.cls := findClass_of_methodNamed B.named
  have hlocks := B.notSynchronized
  subst hsz
  have hD := hD.self (sz := s.heap.size)
  generalize hAe : va_A (mw ad cs u j) s.heap.size = A at hD ⊢
  have hA : ∀ q : Nat, s.heap.size ≤ q → A q := fun q h => by rw [← hAe]; exact Or.inr h
  have hS : va_S A s.heap s.heap [] := va_S.rf
  have hl := lv_entry ([.ref (ad 0), .int mask, .long x]) (n := 5) (Nat.le_of_ble_eq_true rfl)
  rw [lg_entry_eq]
  generalize (lg_sl ([.ref (ad 0), .int mask, .long x]) ++ List.replicate (5 - (lg_sl ([.ref (ad 0), .int mask, .long x])).length) Slot.unset).toArray = ls at hl ⊢
  have hl : lv_has ls 5 [(0, .ref (ad 0)), (1, .int mask), (2, .long x)] := hl
  skip
  refine lv_aload_n hx hb d_md_seal_0 rfl (lv_at hl 0 rfl) ?_
  refine mw_rdi (v := sp_lf (sg_ma u)) (As := []) (rest := []) ⟨hx, hb, hml, hown, hts⟩ (c_md_freeBlob l D cs ad _ u j ) tb_570 tb_572 sl_22 tb_4 tb_573 ⟨rfl, hd_md_freeBlob⟩ ⟨Nat.le_of_ble_eq_true rfl, Nat.le_of_ble_eq_true rfl⟩ rfl rfl hK hP hD hN 0 3 rfl rfl hl.1 rfl (Nat.le_of_ble_eq_true rfl) d_md_seal_1 ⟨Nat.zero_le _, Nat.zero_le _⟩ ?_
  refine lv_istore (nL := 5) (lv' := [(4, .int (sp_lf (sg_ma u))), (0, .ref (ad 0)), (1, .int mask), (2, .long x)]) hx hb d_md_seal_4 hl (by decide) rfl (fun ls hl => ?_)
  refine lv_aload_n hx hb d_md_seal_6 rfl (lv_at hl 1 rfl) ?_
  refine lv_iload_n hx hb d_md_seal_7 rfl (lv_at hl 2 rfl) ?_
  refine lv_iconst (v := 1) hx hb d_md_seal_8 (by decide) ?_
  refine lv_icmp_lt hx hb d_md_seal_9 (tgt := 18) (by decide) (fun z => absurd z ((mk_1 hm).1)) (fun _ => ?_)
  refine lv_iload_n hx hb d_md_seal_12 rfl (lv_at hl 2 rfl) ?_
  refine lv_bipush (v := 63) hx hb d_md_seal_13 (by decide) ?_
  refine lv_icmp_le hx hb d_md_seal_15 (tgt := 22) (by decide) (fun _ => ?_) (fun z => absurd ((mk_1 hm).2) z)
  refine lv_iload hx hb d_md_seal_22 (lv_at hl 0 rfl) ?_
  refine lv_if_ge hx hb d_md_seal_24 (tgt := 31) (by decide) (fun _ => ?_) (fun z => absurd (Int32.not_lt.mp (xn_ge hk)) z)
  refine lv_iconst (v := 0) hx hb d_md_seal_31 (by decide) ?_
  refine va_put (D := D) (ci := 3) (v := .int (0)) (ty := .int) (C := "MeasuredStagesModel") (T := F_md) (N := 19) hx hb hts (fun w h => List.mem_cons_of_mem _ (i_md w h)) t_md o_md n_md hown hK hP hD hS 0 rfl rfl 18 (by decide) (hT _ tb_477) (fun _ h9 => h9) rfl (by decide +kernel) rfl rfl (Nat.le_of_ble_eq_true rfl) d_md_seal_32 (fun H locs hP hD hS => ?_)
  have hP : va_P D cx (mv ad cs (sg_im u) (sg_ap u) (sg_ag u) (sg_he u) (sg_er u) (sg_ev u) (sg_en u) (sg_ma u) (sg_po u) (sg_se u) (sg_ac u) (sg_fa u) (sg_la u) (sg_st u) (jm_ag j) (jm_de j) (jm_ru j) (jm_nx j) (0)) H := hP
  have hD : va_D A (mv ad cs (sg_im u) (sg_ap u) (sg_ag u) (sg_he u) (sg_er u) (sg_ev u) (sg_en u) (sg_ma u) (sg_po u) (sg_se u) (sg_ac u) (sg_fa u) (sg_la u) (sg_st u) (jm_ag j) (jm_de j) (jm_ru j) (jm_nx j) (0)) := hD
  refine lv_aload_n hx hb d_md_seal_35 rfl (lv_at hl 1 rfl) ?_
  refine va_get (D := D) (ci := 3) (v := .int (0)) (C := "MeasuredStagesModel") (T := F_md) (N := 19) hx hb hts (fun w h => List.mem_cons_of_mem _ (i_md w h)) hown hK hP 0 rfl rfl 18 (by decide) (hT _ tb_477) (fun _ h9 => h9) rfl d_md_seal_36 ?_
  refine lv_if_eq hx hb d_md_seal_39 (tgt := 44) (by decide) (fun _ => ?_) (fun z => absurd (by decide) z)
  refine lv_aload_n hx hb d_md_seal_44 rfl (lv_at hl 1 rfl) ?_
  refine lv_iload hx hb d_md_seal_45 (lv_at hl 0 rfl) ?_
  refine lv_iload_n hx hb d_md_seal_47 rfl (lv_at hl 2 rfl) ?_
  refine lv_lload_n hx hb d_md_seal_48 rfl (lv_at hl 3 rfl) ?_
  obtain ⟨q1, eq1⟩ : ∃ z : Jm, z = (jm_ag j, jm_de j, jm_ru j, jm_nx j, 0) := ⟨_, rfl⟩
  have hP : va_P D cx (mw ad cs u q1) H := by rw [eq1, mw_j]; exact hP
  have hD : va_D A (mw ad cs u q1) := by rw [eq1, mw_j]; exact hD
  refine mw_wrv (u' := sp_fi u (sp_lf (sg_ma u)) mask x) (As := [.int (sp_lf (sg_ma u)), .int mask, .long x]) (rest := []) ⟨hx, hb, hml, hown, hts⟩ (c_md_fill l D cs ad _ u q1 (sp_lf (sg_ma u)) mask x hk) tb_581 tb_583 sl_24 tb_4 tb_584 ⟨rfl, hd_md_fill⟩ ⟨Nat.le_of_ble_eq_true rfl, Nat.le_of_ble_eq_true rfl⟩ rfl rfl hK hP hD hN 0 3 rfl rfl hl.1 rfl (Nat.le_of_ble_eq_true rfl) d_md_seal_49 ⟨Nat.zero_le _, Nat.zero_le _⟩ hS hA (fun j2 H locs hj3 hP hD hS => ?_)
  obtain ⟨v4, ev4⟩ : ∃ z : Sg, z = sp_fi u (sp_lf (sg_ma u)) mask x := ⟨_, rfl⟩
  rw [← ev4] at hP hD
  rw [hj3] at hP hD
  refine lv_iload hx hb d_md_seal_52 (lv_at hl 0 rfl) ?_
  subst ev4
  exact W.iret hx hb hret (fun t ht hW => ⟨⟨_, q1, rfl, ⟨rfl, (by subst eq1; rfl)⟩, by rw [ht]; exact hP, va_K.moved hW.alike hK, hD⟩, hS.F ht⟩) hS.2.2 d_md_seal_54
set_option maxHeartbeats 4000000 in
set_option maxRecDepth 100000 in
theorem f_md_seal (l : Launch) (D : va_G) (cs : Nat → ClassId) (ad : Nat → Nat) (sz : Nat) (u : Sg) (j : Jm) (mask : Int32) (x : Int64) (hm : sp_mk mask = 0) : Met l y_md_seal (Cond.code y_md_seal b_md_seal 5 (some .int) :: TB) { frames := 7, cells := 0, slots := 0, locals := 200 } (va_Pc [.ref (ad 0), .int mask, .long x] (mw_Pre D cs ad u j sz)) (va_Qi (fun (r : Int32) (j1 : Jm) => r = 0 ∧ jm_th j1 = 1) (fun (j1 : Jm) t => mw_B D cs ad (va_A (mw ad cs u j) sz) u j1 t) (va_A (mw ad cs u j) sz)) 0 0 (va_A (mw ad cs u j) sz) := by
  refine Met.ofW (cc := b_md_seal) (maxL := 5) (ret := (some .int)) (by decide) rfl ?_
  intro p e s m args below meth c s₁ B hml hv
  obtain ⟨rfl, hsz, hP, hK, hD, hN⟩ := hv
  have hx := B.exec
  have hb := B.bytes
  have hret := B.returns
  have hts := atoms_spec (ws := Cond.code y_md_seal b_md_seal 5 (some .int) :: TB) B.pre
  have hT : ∀ w ∈ TB, w.before _ s = true := fun w h => hts w (List.mem_cons_of_mem _ h)
  have hown : s.vm.findClass "MeasuredStagesModel" = some m.cls := findClass_of_methodNamed B.named
  have hlocks := B.notSynchronized
  subst hsz
  have hD := hD.self (sz := s.heap.size)
  generalize hAe : va_A (mw ad cs u j) s.heap.size = A at hD ⊢
  have hA : ∀ q : Nat, s.heap.size ≤ q → A q := fun q h => by rw [← hAe]; exact Or.inr h
  have hS : va_S A s.heap s.heap [] := va_S.rf
  have hl := lv_entry ([.ref (ad 0), .int mask, .long x]) (n := 5) (Nat.le_of_ble_eq_true rfl)
  rw [lg_entry_eq]
  generalize (lg_sl ([.ref (ad 0), .int mask, .long x]) ++ List.replicate (5 - (lg_sl ([.ref (ad 0), .int mask, .long x])).length) Slot.unset).toArray = ls at hl ⊢
  have hl : lv_has ls 5 [(0, .ref (ad 0)), (1, .int mask), (2, .long x)] := hl
  skip
  refine lv_aload_n hx hb d_md_seal_0 rfl (lv_at hl 0 rfl) ?_
  refine mw_rdi (v := sp_lf (sg_ma u)) (As := []) (rest := []) ⟨hx, hb, hml, hown, hts⟩ (c_md_freeBlob l D cs ad _ u j ) tb_570 tb_572 sl_22 tb_4 tb_573 ⟨rfl, hd_md_freeBlob⟩ ⟨Nat.le_of_ble_eq_true rfl, Nat.le_of_ble_eq_true rfl⟩ rfl rfl hK hP hD hN 0 3 rfl rfl hl.1 rfl (Nat.le_of_ble_eq_true rfl) d_md_seal_1 ⟨Nat.zero_le _, Nat.zero_le _⟩ ?_
  refine lv_istore (nL := 5) (lv' := [(4, .int (sp_lf (sg_ma u))), (0, .ref (ad 0)), (1, .int mask), (2, .long x)]) hx hb d_md_seal_4 hl (by decide) rfl (fun ls hl => ?_)
  refine lv_aload_n hx hb d_md_seal_6 rfl (lv_at hl 1 rfl) ?_
  refine lv_iload_n hx hb d_md_seal_7 rfl (lv_at hl 2 rfl) ?_
  refine lv_iconst (v := 1) hx hb d_md_seal_8 (by decide) ?_
  refine lv_icmp_lt hx hb d_md_seal_9 (tgt := 18) (by decide) (fun h1 => ?_) (fun h1 => ?_)
  · skip
    refine lv_iconst (v := 1) hx hb d_md_seal_18 (by decide) ?_
    refine lv_goto hx hb d_md_seal_19 (tgt := 32) (by decide) ?_
    refine va_put (D := D) (ci := 3) (v := .int (1)) (ty := .int) (C := "MeasuredStagesModel") (T := F_md) (N := 19) hx hb hts (fun w h => List.mem_cons_of_mem _ (i_md w h)) t_md o_md n_md hown hK hP hD hS 0 rfl rfl 18 (by decide) (hT _ tb_477) (fun _ h9 => h9) rfl (by decide +kernel) rfl rfl (Nat.le_of_ble_eq_true rfl) d_md_seal_32 (fun H locs hP hD hS => ?_)
    have hP : va_P D cx (mv ad cs (sg_im u) (sg_ap u) (sg_ag u) (sg_he u) (sg_er u) (sg_ev u) (sg_en u) (sg_ma u) (sg_po u) (sg_se u) (sg_ac u) (sg_fa u) (sg_la u) (sg_st u) (jm_ag j) (jm_de j) (jm_ru j) (jm_nx j) (1)) H := hP
    have hD : va_D A (mv ad cs (sg_im u) (sg_ap u) (sg_ag u) (sg_he u) (sg_er u) (sg_ev u) (sg_en u) (sg_ma u) (sg_po u) (sg_se u) (sg_ac u) (sg_fa u) (sg_la u) (sg_st u) (jm_ag j) (jm_de j) (jm_ru j) (jm_nx j) (1)) := hD
    refine lv_aload_n hx hb d_md_seal_35 rfl (lv_at hl 1 rfl) ?_
    refine va_get (D := D) (ci := 3) (v := .int (1)) (C := "MeasuredStagesModel") (T := F_md) (N := 19) hx hb hts (fun w h => List.mem_cons_of_mem _ (i_md w h)) hown hK hP 0 rfl rfl 18 (by decide) (hT _ tb_477) (fun _ h9 => h9) rfl d_md_seal_36 ?_
    refine lv_if_eq hx hb d_md_seal_39 (tgt := 44) (by decide) (fun z => absurd z (by decide)) (fun _ => ?_)
    refine lv_iconst (v := 0) hx hb d_md_seal_42 (by decide) ?_
    obtain ⟨q2, eq2⟩ : ∃ z : Jm, z = (jm_ag j, jm_de j, jm_ru j, jm_nx j, 1) := ⟨_, rfl⟩
    have hP : va_P D cx (mw ad cs u q2) H := by rw [eq2, mw_j]; exact hP
    have hD : va_D A (mw ad cs u q2) := by rw [eq2, mw_j]; exact hD
    exact W.iret hx hb hret (fun t ht hW => ⟨⟨_, q2, rfl, ⟨rfl, (by subst eq2; rfl)⟩, by rw [ht]; exact hP, va_K.moved hW.alike hK, hD⟩, hS.F ht⟩) hS.2.2 d_md_seal_43
  · skip
    refine lv_iload_n hx hb d_md_seal_12 rfl (lv_at hl 2 rfl) ?_
    refine lv_bipush (v := 63) hx hb d_md_seal_13 (by decide) ?_
    refine lv_icmp_le hx hb d_md_seal_15 (tgt := 22) (by decide) (fun z => absurd z (mk_0 hm h1)) (fun _ => ?_)
    refine lv_iconst (v := 1) hx hb d_md_seal_18 (by decide) ?_
    refine lv_goto hx hb d_md_seal_19 (tgt := 32) (by decide) ?_
    refine va_put (D := D) (ci := 3) (v := .int (1)) (ty := .int) (C := "MeasuredStagesModel") (T := F_md) (N := 19) hx hb hts (fun w h => List.mem_cons_of_mem _ (i_md w h)) t_md o_md n_md hown hK hP hD hS 0 rfl rfl 18 (by decide) (hT _ tb_477) (fun _ h9 => h9) rfl (by decide +kernel) rfl rfl (Nat.le_of_ble_eq_true rfl) d_md_seal_32 (fun H locs hP hD hS => ?_)
    have hP : va_P D cx (mv ad cs (sg_im u) (sg_ap u) (sg_ag u) (sg_he u) (sg_er u) (sg_ev u) (sg_en u) (sg_ma u) (sg_po u) (sg_se u) (sg_ac u) (sg_fa u) (sg_la u) (sg_st u) (jm_ag j) (jm_de j) (jm_ru j) (jm_nx j) (1)) H := hP
    have hD : va_D A (mv ad cs (sg_im u) (sg_ap u) (sg_ag u) (sg_he u) (sg_er u) (sg_ev u) (sg_en u) (sg_ma u) (sg_po u) (sg_se u) (sg_ac u) (sg_fa u) (sg_la u) (sg_st u) (jm_ag j) (jm_de j) (jm_ru j) (jm_nx j) (1)) := hD
    refine lv_aload_n hx hb d_md_seal_35 rfl (lv_at hl 1 rfl) ?_
    refine va_get (D := D) (ci := 3) (v := .int (1)) (C := "MeasuredStagesModel") (T := F_md) (N := 19) hx hb hts (fun w h => List.mem_cons_of_mem _ (i_md w h)) hown hK hP 0 rfl rfl 18 (by decide) (hT _ tb_477) (fun _ h9 => h9) rfl d_md_seal_36 ?_
    refine lv_if_eq hx hb d_md_seal_39 (tgt := 44) (by decide) (fun z => absurd z (by decide)) (fun _ => ?_)
    refine lv_iconst (v := 0) hx hb d_md_seal_42 (by decide) ?_
    obtain ⟨q3, eq3⟩ : ∃ z : Jm, z = (jm_ag j, jm_de j, jm_ru j, jm_nx j, 1) := ⟨_, rfl⟩
    have hP : va_P D cx (mw ad cs u q3) H := by rw [eq3, mw_j]; exact hP
    have hD : va_D A (mw ad cs u q3) := by rw [eq3, mw_j]; exact hD
    exact W.iret hx hb hret (fun t ht hW => ⟨⟨_, q3, rfl, ⟨rfl, (by subst eq3; rfl)⟩, by rw [ht]; exact hP, va_K.moved hW.alike hK, hD⟩, hS.F ht⟩) hS.2.2 d_md_seal_43
set_option maxHeartbeats 4000000 in
set_option maxRecDepth 100000 in
theorem g_md_seal (l : Launch) (D : va_G) (cs : Nat → ClassId) (ad : Nat → Nat) (sz : Nat) (u : Sg) (j : Jm) (mask : Int32) (x : Int64) (hm : sp_mk mask = 1) (hk : sp_lf (sg_ma u) = -1) : Met l y_md_seal (Cond.code y_md_seal b_md_seal 5 (some .int) :: TB) { frames := 7, cells := 0, slots := 0, locals := 200 } (va_Pc [.ref (ad 0), .int mask, .long x] (mw_Pre D cs ad u j sz)) (va_Qi (fun (r : Int32) (j1 : Jm) => r = 0 ∧ jm_th j1 = 2) (fun (j1 : Jm) t => mw_B D cs ad (va_A (mw ad cs u j) sz) u j1 t) (va_A (mw ad cs u j) sz)) 0 0 (va_A (mw ad cs u j) sz) := by
  refine Met.ofW (cc := b_md_seal) (maxL := 5) (ret := (some .int)) (by decide) rfl ?_
  intro p e s m args below meth c s₁ B hml hv
  obtain ⟨rfl, hsz, hP, hK, hD, hN⟩ := hv
  have hx := B.exec
  have hb := B.bytes
  have hret := B.returns
  have hts := atoms_spec (ws := Cond.code y_md_seal b_md_seal 5 (some .int) :: TB) B.pre
  have hT : ∀ w ∈ TB, w.before _ s = true := fun w h => hts w (List.mem_cons_of_mem _ h)
  have hown : s.vm.findClass "MeasuredStagesModel" = some m.cls := findClass_of_methodNamed B.named
  have hlocks := B.notSynchronized
  subst hsz
  have hD := hD.self (sz := s.heap.size)
  generalize hAe : va_A (mw ad cs u j) s.heap.size = A at hD ⊢
  have hA : ∀ q : Nat, s.heap.size ≤ q → A q := fun q h => by rw [← hAe]; exact Or.inr h
  have hS : va_S A s.heap s.heap [] := va_S.rf
  have hl := lv_entry ([.ref (ad 0), .int mask, .long x]) (n := 5) (Nat.le_of_ble_eq_true rfl)
  rw [lg_entry_eq]
  generalize (lg_sl ([.ref (ad 0), .int mask, .long x]) ++ List.replicate (5 - (lg_sl ([.ref (ad 0), .int mask, .long x])).length) Slot.unset).toArray = ls at hl ⊢
  have hl : lv_has ls 5 [(0, .ref (ad 0)), (1, .int mask), (2, .long x)] := hl
  skip
  refine lv_aload_n hx hb d_md_seal_0 rfl (lv_at hl 0 rfl) ?_
  refine mw_rdi (v := sp_lf (sg_ma u)) (As := []) (rest := []) ⟨hx, hb, hml, hown, hts⟩ (c_md_freeBlob l D cs ad _ u j ) tb_570 tb_572 sl_22 tb_4 tb_573 ⟨rfl, hd_md_freeBlob⟩ ⟨Nat.le_of_ble_eq_true rfl, Nat.le_of_ble_eq_true rfl⟩ rfl rfl hK hP hD hN 0 3 rfl rfl hl.1 rfl (Nat.le_of_ble_eq_true rfl) d_md_seal_1 ⟨Nat.zero_le _, Nat.zero_le _⟩ ?_
  refine lv_istore (nL := 5) (lv' := [(4, .int (sp_lf (sg_ma u))), (0, .ref (ad 0)), (1, .int mask), (2, .long x)]) hx hb d_md_seal_4 hl (by decide) rfl (fun ls hl => ?_)
  refine lv_aload_n hx hb d_md_seal_6 rfl (lv_at hl 1 rfl) ?_
  refine lv_iload_n hx hb d_md_seal_7 rfl (lv_at hl 2 rfl) ?_
  refine lv_iconst (v := 1) hx hb d_md_seal_8 (by decide) ?_
  refine lv_icmp_lt hx hb d_md_seal_9 (tgt := 18) (by decide) (fun z => absurd z ((mk_1 hm).1)) (fun _ => ?_)
  refine lv_iload_n hx hb d_md_seal_12 rfl (lv_at hl 2 rfl) ?_
  refine lv_bipush (v := 63) hx hb d_md_seal_13 (by decide) ?_
  refine lv_icmp_le hx hb d_md_seal_15 (tgt := 22) (by decide) (fun _ => ?_) (fun z => absurd ((mk_1 hm).2) z)
  refine lv_iload hx hb d_md_seal_22 (lv_at hl 0 rfl) ?_
  refine lv_if_ge hx hb d_md_seal_24 (tgt := 31) (by decide) (fun z => absurd z (by rw [hk]; decide)) (fun _ => ?_)
  refine lv_iconst (v := 2) hx hb d_md_seal_27 (by decide) ?_
  refine lv_goto hx hb d_md_seal_28 (tgt := 32) (by decide) ?_
  refine va_put (D := D) (ci := 3) (v := .int (2)) (ty := .int) (C := "MeasuredStagesModel") (T := F_md) (N := 19) hx hb hts (fun w h => List.mem_cons_of_mem _ (i_md w h)) t_md o_md n_md hown hK hP hD hS 0 rfl rfl 18 (by decide) (hT _ tb_477) (fun _ h9 => h9) rfl (by decide +kernel) rfl rfl (Nat.le_of_ble_eq_true rfl) d_md_seal_32 (fun H locs hP hD hS => ?_)
  have hP : va_P D cx (mv ad cs (sg_im u) (sg_ap u) (sg_ag u) (sg_he u) (sg_er u) (sg_ev u) (sg_en u) (sg_ma u) (sg_po u) (sg_se u) (sg_ac u) (sg_fa u) (sg_la u) (sg_st u) (jm_ag j) (jm_de j) (jm_ru j) (jm_nx j) (2)) H := hP
  have hD : va_D A (mv ad cs (sg_im u) (sg_ap u) (sg_ag u) (sg_he u) (sg_er u) (sg_ev u) (sg_en u) (sg_ma u) (sg_po u) (sg_se u) (sg_ac u) (sg_fa u) (sg_la u) (sg_st u) (jm_ag j) (jm_de j) (jm_ru j) (jm_nx j) (2)) := hD
  refine lv_aload_n hx hb d_md_seal_35 rfl (lv_at hl 1 rfl) ?_
  refine va_get (D := D) (ci := 3) (v := .int (2)) (C := "MeasuredStagesModel") (T := F_md) (N := 19) hx hb hts (fun w h => List.mem_cons_of_mem _ (i_md w h)) hown hK hP 0 rfl rfl 18 (by decide) (hT _ tb_477) (fun _ h9 => h9) rfl d_md_seal_36 ?_
  refine lv_if_eq hx hb d_md_seal_39 (tgt := 44) (by decide) (fun z => absurd z (by decide)) (fun _ => ?_)
  refine lv_iconst (v := 0) hx hb d_md_seal_42 (by decide) ?_
  obtain ⟨q1, eq1⟩ : ∃ z : Jm, z = (jm_ag j, jm_de j, jm_ru j, jm_nx j, 2) := ⟨_, rfl⟩
  have hP : va_P D cx (mw ad cs u q1) H := by rw [eq1, mw_j]; exact hP
  have hD : va_D A (mw ad cs u q1) := by rw [eq1, mw_j]; exact hD
  exact W.iret hx hb hret (fun t ht hW => ⟨⟨_, q1, rfl, ⟨rfl, (by subst eq1; rfl)⟩, by rw [ht]; exact hP, va_K.moved hW.alike hK, hD⟩, hS.F ht⟩) hS.2.2 d_md_seal_43
set_option maxHeartbeats 4000000 in
set_option maxRecDepth 100000 in
theorem k_md_unseal (l : Launch) (D : va_G) (cs : Nat → ClassId) (ad : Nat → Nat) (sz : Nat) (u : Sg) (j : Jm) (k : Int32) (h0 : sp_tk (sg_ma u) k = 1) (h1 : sp_on u k = 1) : Met l y_md_unseal (Cond.code y_md_unseal b_md_unseal 3 (some .long) :: TB) { frames := 7, cells := 0, slots := 0, locals := 200 } (va_Pc [.ref (ad 0), .int k] (mw_Pre D cs ad u j sz)) (va_Ql (fun (r : Int64) (j1 : Jm) => r = sg_se u k.toNatClampNeg ∧ jm_th j1 = 0) (fun (j1 : Jm) t => mw_B D cs ad (va_A (mw ad cs u j) sz) u j1 t) (va_A (mw ad cs u j) sz)) 0 0 (va_A (mw ad cs u j) sz) := by
  refine Met.ofW (cc := b_md_unseal) (maxL := 3) (ret := (some .long)) (by decide) rfl ?_
  intro p e s m args below meth c s₁ B hml hv
  obtain ⟨rfl, hsz, hP, hK, hD, hN⟩ := hv
  have hx := B.exec
  have hb := B.bytes
  have hret := B.returns
  have hts := atoms_spec (ws := Cond.code y_md_unseal b_md_unseal 3 (some .long) :: TB) B.pre
  have hT : ∀ w ∈ TB, w.before _ s = true := fun w h => hts w (List.mem_cons_of_mem _ h)
  have hown : s.vm.findClass "MeasuredStagesModel" = some m.cls := findClass_of_methodNamed B.named
  have hlocks := B.notSynchronized
  subst hsz
  have hD := hD.self (sz := s.heap.size)
  generalize hAe : va_A (mw ad cs u j) s.heap.size = A at hD ⊢
  have hA : ∀ q : Nat, s.heap.size ≤ q → A q := fun q h => by rw [← hAe]; exact Or.inr h
  have hS : va_S A s.heap s.heap [] := va_S.rf
  have hl := lv_entry ([.ref (ad 0), .int k]) (n := 3) (Nat.le_of_ble_eq_true rfl)
  rw [lg_entry_eq]
  generalize (lg_sl ([.ref (ad 0), .int k]) ++ List.replicate (3 - (lg_sl ([.ref (ad 0), .int k])).length) Slot.unset).toArray = ls at hl ⊢
  have hl : lv_has ls 3 [(0, .ref (ad 0)), (1, .int k)] := hl
  skip
  refine lv_iload_n hx hb d_md_unseal_0 rfl (lv_at hl 1 rfl) ?_
  refine lv_if_lt hx hb d_md_unseal_1 (tgt := 23) (by decide) (fun z => absurd z (xn_ge (tk_vp h0))) (fun _ => ?_)
  refine lv_iload_n hx hb d_md_unseal_4 rfl (lv_at hl 1 rfl) ?_
  refine lv_bipush (v := 8) hx hb d_md_unseal_5 (by decide) ?_
  refine lv_icmp_ge hx hb d_md_unseal_7 (tgt := 23) (by decide) (fun z => absurd z (xn_nle (k := 8) (by decide) (tk_vp h0))) (fun _ => ?_)
  refine lv_aload_n hx hb d_md_unseal_10 rfl (lv_at hl 0 rfl) ?_
  refine va_get (D := D) (ci := 3) (v := .ref (ad 5)) (C := "MeasuredStagesModel") (T := F_md) (N := 19) hx hb hts (fun w h => List.mem_cons_of_mem _ (i_md w h)) hown hK hP 0 rfl rfl 4 (by decide) (hT _ tb_463) (fun _ h9 => h9) rfl d_md_unseal_11 ?_
  refine lv_iload_n hx hb d_md_unseal_14 rfl (lv_at hl 1 rfl) ?_
  refine va_iald hx hb hK hP 5 4 rfl rfl (tk_vp h0) d_md_unseal_15 ?_
  refine lv_if_eq hx hb d_md_unseal_16 (tgt := 23) (by decide) (fun z => absurd z (tk_1 h0)) (fun _ => ?_)
  refine lv_iconst (v := 1) hx hb d_md_unseal_19 (by decide) ?_
  refine lv_goto hx hb d_md_unseal_20 (tgt := 24) (by decide) ?_
  refine lv_istore_n (nL := 3) (lv' := [(2, .int (1)), (0, .ref (ad 0)), (1, .int k)]) hx hb d_md_unseal_24 rfl hl (by decide) rfl (fun ls hl => ?_)
  refine lv_aload_n hx hb d_md_unseal_25 rfl (lv_at hl 1 rfl) ?_
  refine lv_iload_n hx hb d_md_unseal_26 rfl (lv_at hl 0 rfl) ?_
  refine lv_if_ne hx hb d_md_unseal_27 (tgt := 34) (by decide) (fun _ => ?_) (fun z => absurd z (by decide))
  refine lv_aload_n hx hb d_md_unseal_34 rfl (lv_at hl 1 rfl) ?_
  refine va_get (D := D) (ci := 3) (v := .ref (ad 6)) (C := "MeasuredStagesModel") (T := F_md) (N := 19) hx hb hts (fun w h => List.mem_cons_of_mem _ (i_md w h)) hown hK hP 0 rfl rfl 5 (by decide) (hT _ tb_464) (fun _ h9 => h9) rfl d_md_unseal_35 ?_
  refine lv_iload_n hx hb d_md_unseal_38 rfl (lv_at hl 2 rfl) ?_
  refine va_lald hx hb hK hP 6 5 rfl rfl (tk_vp h0) d_md_unseal_39 ?_
  refine lv_aload_n hx hb d_md_unseal_40 rfl (lv_at hl 1 rfl) ?_
  refine lv_aload_n hx hb d_md_unseal_41 rfl (lv_at hl 1 rfl) ?_
  refine va_get (D := D) (ci := 3) (v := .ref (ad 5)) (C := "MeasuredStagesModel") (T := F_md) (N := 19) hx hb hts (fun w h => List.mem_cons_of_mem _ (i_md w h)) hown hK hP 0 rfl rfl 4 (by decide) (hT _ tb_463) (fun _ h9 => h9) rfl d_md_unseal_42 ?_
  refine lv_iload_n hx hb d_md_unseal_45 rfl (lv_at hl 2 rfl) ?_
  refine va_iald hx hb hK hP 5 4 rfl rfl (tk_vp h0) d_md_unseal_46 ?_
  refine mw_rdl (v := sp_po u (sg_ma u k.toNatClampNeg)) (As := [.int (sg_ma u k.toNatClampNeg)]) (rest := [.long (sg_po u k.toNatClampNeg), .ref (ad 0)]) ⟨hx, hb, hml, hown, hts⟩ (c_md_policy l D cs ad _ u j (sg_ma u k.toNatClampNeg)) tb_565 tb_567 sl_21 tb_4 tb_568 ⟨rfl, hd_md_policy⟩ ⟨Nat.le_of_ble_eq_true rfl, Nat.le_of_ble_eq_true rfl⟩ rfl rfl hK hP hD hN 0 3 rfl rfl hl.1 rfl (Nat.le_of_ble_eq_true rfl) d_md_unseal_47 ⟨Nat.zero_le _, Nat.zero_le _⟩ ?_
  refine W.lcmp hx hb d_md_unseal_50 ?_
  refine lv_if_eq hx hb d_md_unseal_51 (tgt := 58) (by decide) (fun _ => ?_) (fun z => absurd (sp_cmp.mpr (on_1 h1)) z)
  refine lv_iconst (v := 0) hx hb d_md_unseal_58 (by decide) ?_
  refine va_put (D := D) (ci := 3) (v := .int (0)) (ty := .int) (C := "MeasuredStagesModel") (T := F_md) (N := 19) hx hb hts (fun w h => List.mem_cons_of_mem _ (i_md w h)) t_md o_md n_md hown hK hP hD hS 0 rfl rfl 18 (by decide) (hT _ tb_477) (fun _ h9 => h9) rfl (by decide +kernel) rfl rfl (Nat.le_of_ble_eq_true rfl) d_md_unseal_59 (fun H locs hP hD hS => ?_)
  have hP : va_P D cx (mv ad cs (sg_im u) (sg_ap u) (sg_ag u) (sg_he u) (sg_er u) (sg_ev u) (sg_en u) (sg_ma u) (sg_po u) (sg_se u) (sg_ac u) (sg_fa u) (sg_la u) (sg_st u) (jm_ag j) (jm_de j) (jm_ru j) (jm_nx j) (0)) H := hP
  have hD : va_D A (mv ad cs (sg_im u) (sg_ap u) (sg_ag u) (sg_he u) (sg_er u) (sg_ev u) (sg_en u) (sg_ma u) (sg_po u) (sg_se u) (sg_ac u) (sg_fa u) (sg_la u) (sg_st u) (jm_ag j) (jm_de j) (jm_ru j) (jm_nx j) (0)) := hD
  refine lv_aload_n hx hb d_md_unseal_62 rfl (lv_at hl 1 rfl) ?_
  refine va_get (D := D) (ci := 3) (v := .int (0)) (C := "MeasuredStagesModel") (T := F_md) (N := 19) hx hb hts (fun w h => List.mem_cons_of_mem _ (i_md w h)) hown hK hP 0 rfl rfl 18 (by decide) (hT _ tb_477) (fun _ h9 => h9) rfl d_md_unseal_63 ?_
  refine lv_if_ne hx hb d_md_unseal_66 (tgt := 78) (by decide) (fun z => absurd (by decide) z) (fun _ => ?_)
  refine lv_aload_n hx hb d_md_unseal_69 rfl (lv_at hl 1 rfl) ?_
  refine va_get (D := D) (ci := 3) (v := .ref (ad 7)) (C := "MeasuredStagesModel") (T := F_md) (N := 19) hx hb hts (fun w h => List.mem_cons_of_mem _ (i_md w h)) hown hK hP 0 rfl rfl 6 (by decide) (hT _ tb_465) (fun _ h9 => h9) rfl d_md_unseal_70 ?_
  refine lv_iload_n hx hb d_md_unseal_73 rfl (lv_at hl 2 rfl) ?_
  refine va_lald hx hb hK hP 7 6 rfl rfl (tk_vp h0) d_md_unseal_74 ?_
  refine lv_goto hx hb d_md_unseal_75 (tgt := 79) (by decide) ?_
  obtain ⟨q1, eq1⟩ : ∃ z : Jm, z = (jm_ag j, jm_de j, jm_ru j, jm_nx j, 0) := ⟨_, rfl⟩
  have hP : va_P D cx (mw ad cs u q1) H := by rw [eq1, mw_j]; exact hP
  have hD : va_D A (mw ad cs u q1) := by rw [eq1, mw_j]; exact hD
  exact W.lret hx hb hret (fun t ht hW => ⟨⟨_, q1, rfl, ⟨rfl, (by subst eq1; rfl)⟩, by rw [ht]; exact hP, va_K.moved hW.alike hK, hD⟩, hS.F ht⟩) hS.2.2 d_md_unseal_79
set_option maxHeartbeats 4000000 in
set_option maxRecDepth 100000 in
theorem f_md_unseal (l : Launch) (D : va_G) (cs : Nat → ClassId) (ad : Nat → Nat) (sz : Nat) (u : Sg) (j : Jm) (k : Int32) (h0 : sp_tk (sg_ma u) k = 0) : Met l y_md_unseal (Cond.code y_md_unseal b_md_unseal 3 (some .long) :: TB) { frames := 7, cells := 0, slots := 0, locals := 200 } (va_Pc [.ref (ad 0), .int k] (mw_Pre D cs ad u j sz)) (va_Ql (fun (r : Int64) (j1 : Jm) => r = 0 ∧ jm_th j1 = 1) (fun (j1 : Jm) t => mw_B D cs ad (va_A (mw ad cs u j) sz) u j1 t) (va_A (mw ad cs u j) sz)) 0 0 (va_A (mw ad cs u j) sz) := by
  refine Met.ofW (cc := b_md_unseal) (maxL := 3) (ret := (some .long)) (by decide) rfl ?_
  intro p e s m args below meth c s₁ B hml hv
  obtain ⟨rfl, hsz, hP, hK, hD, hN⟩ := hv
  have hx := B.exec
  have hb := B.bytes
  have hret := B.returns
  have hts := atoms_spec (ws := Cond.code y_md_unseal b_md_unseal 3 (some .long) :: TB) B.pre
  have hT : ∀ w ∈ TB, w.before _ s = true := fun w h => hts w (List.mem_cons_of_mem _ h)
  have hown : s.vm.findClass "MeasuredStagesModel" = some m.cls := findClass_of_methodNamed B.named
  have hlocks := B.notSynchronized
  subst hsz
  have hD := hD.self (sz := s.heap.size)
  generalize hAe : va_A (mw ad cs u j) s.heap.size = A at hD ⊢
  have hA : ∀ q : Nat, s.heap.size ≤ q → A q := fun q h => by rw [← hAe]; exact Or.inr h
  have hS : va_S A s.heap s.heap [] := va_S.rf
  have hl := lv_entry ([.ref (ad 0), .int k]) (n := 3) (Nat.le_of_ble_eq_true rfl)
  rw [lg_entry_eq]
  generalize (lg_sl ([.ref (ad 0), .int k]) ++ List.replicate (3 - (lg_sl ([.ref (ad 0), .int k])).length) Slot.unset).toArray = ls at hl ⊢
  have hl : lv_has ls 3 [(0, .ref (ad 0)), (1, .int k)] := hl
  skip
  refine lv_iload_n hx hb d_md_unseal_0 rfl (lv_at hl 1 rfl) ?_
  refine lv_if_lt hx hb d_md_unseal_1 (tgt := 23) (by decide) (fun h1 => ?_) (fun h1 => ?_)
  · skip
    refine lv_iconst (v := 0) hx hb d_md_unseal_23 (by decide) ?_
    refine lv_istore_n (nL := 3) (lv' := [(2, .int (0)), (0, .ref (ad 0)), (1, .int k)]) hx hb d_md_unseal_24 rfl hl (by decide) rfl (fun ls hl => ?_)
    refine lv_aload_n hx hb d_md_unseal_25 rfl (lv_at hl 1 rfl) ?_
    refine lv_iload_n hx hb d_md_unseal_26 rfl (lv_at hl 0 rfl) ?_
    refine lv_if_ne hx hb d_md_unseal_27 (tgt := 34) (by decide) (fun z => absurd (by decide) z) (fun _ => ?_)
    refine lv_iconst (v := 1) hx hb d_md_unseal_30 (by decide) ?_
    refine lv_goto hx hb d_md_unseal_31 (tgt := 59) (by decide) ?_
    refine va_put (D := D) (ci := 3) (v := .int (1)) (ty := .int) (C := "MeasuredStagesModel") (T := F_md) (N := 19) hx hb hts (fun w h => List.mem_cons_of_mem _ (i_md w h)) t_md o_md n_md hown hK hP hD hS 0 rfl rfl 18 (by decide) (hT _ tb_477) (fun _ h9 => h9) rfl (by decide +kernel) rfl rfl (Nat.le_of_ble_eq_true rfl) d_md_unseal_59 (fun H locs hP hD hS => ?_)
    have hP : va_P D cx (mv ad cs (sg_im u) (sg_ap u) (sg_ag u) (sg_he u) (sg_er u) (sg_ev u) (sg_en u) (sg_ma u) (sg_po u) (sg_se u) (sg_ac u) (sg_fa u) (sg_la u) (sg_st u) (jm_ag j) (jm_de j) (jm_ru j) (jm_nx j) (1)) H := hP
    have hD : va_D A (mv ad cs (sg_im u) (sg_ap u) (sg_ag u) (sg_he u) (sg_er u) (sg_ev u) (sg_en u) (sg_ma u) (sg_po u) (sg_se u) (sg_ac u) (sg_fa u) (sg_la u) (sg_st u) (jm_ag j) (jm_de j) (jm_ru j) (jm_nx j) (1)) := hD
    refine lv_aload_n hx hb d_md_unseal_62 rfl (lv_at hl 1 rfl) ?_
    refine va_get (D := D) (ci := 3) (v := .int (1)) (C := "MeasuredStagesModel") (T := F_md) (N := 19) hx hb hts (fun w h => List.mem_cons_of_mem _ (i_md w h)) hown hK hP 0 rfl rfl 18 (by decide) (hT _ tb_477) (fun _ h9 => h9) rfl d_md_unseal_63 ?_
    refine lv_if_ne hx hb d_md_unseal_66 (tgt := 78) (by decide) (fun _ => ?_) (fun z => absurd z (by decide))
    refine lv_lconst (v := 0) hx hb d_md_unseal_78 (by decide) ?_
    obtain ⟨q2, eq2⟩ : ∃ z : Jm, z = (jm_ag j, jm_de j, jm_ru j, jm_nx j, 1) := ⟨_, rfl⟩
    have hP : va_P D cx (mw ad cs u q2) H := by rw [eq2, mw_j]; exact hP
    have hD : va_D A (mw ad cs u q2) := by rw [eq2, mw_j]; exact hD
    exact W.lret hx hb hret (fun t ht hW => ⟨⟨_, q2, rfl, ⟨rfl, (by subst eq2; rfl)⟩, by rw [ht]; exact hP, va_K.moved hW.alike hK, hD⟩, hS.F ht⟩) hS.2.2 d_md_unseal_79
  · skip
    refine lv_iload_n hx hb d_md_unseal_4 rfl (lv_at hl 1 rfl) ?_
    refine lv_bipush (v := 8) hx hb d_md_unseal_5 (by decide) ?_
    refine lv_icmp_ge hx hb d_md_unseal_7 (tgt := 23) (by decide) (fun h3 => ?_) (fun h3 => ?_)
    · skip
      refine lv_iconst (v := 0) hx hb d_md_unseal_23 (by decide) ?_
      refine lv_istore_n (nL := 3) (lv' := [(2, .int (0)), (0, .ref (ad 0)), (1, .int k)]) hx hb d_md_unseal_24 rfl hl (by decide) rfl (fun ls hl => ?_)
      refine lv_aload_n hx hb d_md_unseal_25 rfl (lv_at hl 1 rfl) ?_
      refine lv_iload_n hx hb d_md_unseal_26 rfl (lv_at hl 0 rfl) ?_
      refine lv_if_ne hx hb d_md_unseal_27 (tgt := 34) (by decide) (fun z => absurd (by decide) z) (fun _ => ?_)
      refine lv_iconst (v := 1) hx hb d_md_unseal_30 (by decide) ?_
      refine lv_goto hx hb d_md_unseal_31 (tgt := 59) (by decide) ?_
      refine va_put (D := D) (ci := 3) (v := .int (1)) (ty := .int) (C := "MeasuredStagesModel") (T := F_md) (N := 19) hx hb hts (fun w h => List.mem_cons_of_mem _ (i_md w h)) t_md o_md n_md hown hK hP hD hS 0 rfl rfl 18 (by decide) (hT _ tb_477) (fun _ h9 => h9) rfl (by decide +kernel) rfl rfl (Nat.le_of_ble_eq_true rfl) d_md_unseal_59 (fun H locs hP hD hS => ?_)
      have hP : va_P D cx (mv ad cs (sg_im u) (sg_ap u) (sg_ag u) (sg_he u) (sg_er u) (sg_ev u) (sg_en u) (sg_ma u) (sg_po u) (sg_se u) (sg_ac u) (sg_fa u) (sg_la u) (sg_st u) (jm_ag j) (jm_de j) (jm_ru j) (jm_nx j) (1)) H := hP
      have hD : va_D A (mv ad cs (sg_im u) (sg_ap u) (sg_ag u) (sg_he u) (sg_er u) (sg_ev u) (sg_en u) (sg_ma u) (sg_po u) (sg_se u) (sg_ac u) (sg_fa u) (sg_la u) (sg_st u) (jm_ag j) (jm_de j) (jm_ru j) (jm_nx j) (1)) := hD
      refine lv_aload_n hx hb d_md_unseal_62 rfl (lv_at hl 1 rfl) ?_
      refine va_get (D := D) (ci := 3) (v := .int (1)) (C := "MeasuredStagesModel") (T := F_md) (N := 19) hx hb hts (fun w h => List.mem_cons_of_mem _ (i_md w h)) hown hK hP 0 rfl rfl 18 (by decide) (hT _ tb_477) (fun _ h9 => h9) rfl d_md_unseal_63 ?_
      refine lv_if_ne hx hb d_md_unseal_66 (tgt := 78) (by decide) (fun _ => ?_) (fun z => absurd z (by decide))
      refine lv_lconst (v := 0) hx hb d_md_unseal_78 (by decide) ?_
      obtain ⟨q4, eq4⟩ : ∃ z : Jm, z = (jm_ag j, jm_de j, jm_ru j, jm_nx j, 1) := ⟨_, rfl⟩
      have hP : va_P D cx (mw ad cs u q4) H := by rw [eq4, mw_j]; exact hP
      have hD : va_D A (mw ad cs u q4) := by rw [eq4, mw_j]; exact hD
      exact W.lret hx hb hret (fun t ht hW => ⟨⟨_, q4, rfl, ⟨rfl, (by subst eq4; rfl)⟩, by rw [ht]; exact hP, va_K.moved hW.alike hK, hD⟩, hS.F ht⟩) hS.2.2 d_md_unseal_79
    · skip
      refine lv_aload_n hx hb d_md_unseal_10 rfl (lv_at hl 0 rfl) ?_
      refine va_get (D := D) (ci := 3) (v := .ref (ad 5)) (C := "MeasuredStagesModel") (T := F_md) (N := 19) hx hb hts (fun w h => List.mem_cons_of_mem _ (i_md w h)) hown hK hP 0 rfl rfl 4 (by decide) (hT _ tb_463) (fun _ h9 => h9) rfl d_md_unseal_11 ?_
      refine lv_iload_n hx hb d_md_unseal_14 rfl (lv_at hl 1 rfl) ?_
      refine va_iald hx hb hK hP 5 4 rfl rfl (xn_in (k := 8) (by decide) h1 (Int32.not_le.mp h3)) d_md_unseal_15 ?_
      refine lv_if_eq hx hb d_md_unseal_16 (tgt := 23) (by decide) (fun _ => ?_) (fun z => absurd (tk_0 h0 h1 h3) z)
      refine lv_iconst (v := 0) hx hb d_md_unseal_23 (by decide) ?_
      refine lv_istore_n (nL := 3) (lv' := [(2, .int (0)), (0, .ref (ad 0)), (1, .int k)]) hx hb d_md_unseal_24 rfl hl (by decide) rfl (fun ls hl => ?_)
      refine lv_aload_n hx hb d_md_unseal_25 rfl (lv_at hl 1 rfl) ?_
      refine lv_iload_n hx hb d_md_unseal_26 rfl (lv_at hl 0 rfl) ?_
      refine lv_if_ne hx hb d_md_unseal_27 (tgt := 34) (by decide) (fun z => absurd (by decide) z) (fun _ => ?_)
      refine lv_iconst (v := 1) hx hb d_md_unseal_30 (by decide) ?_
      refine lv_goto hx hb d_md_unseal_31 (tgt := 59) (by decide) ?_
      refine va_put (D := D) (ci := 3) (v := .int (1)) (ty := .int) (C := "MeasuredStagesModel") (T := F_md) (N := 19) hx hb hts (fun w h => List.mem_cons_of_mem _ (i_md w h)) t_md o_md n_md hown hK hP hD hS 0 rfl rfl 18 (by decide) (hT _ tb_477) (fun _ h9 => h9) rfl (by decide +kernel) rfl rfl (Nat.le_of_ble_eq_true rfl) d_md_unseal_59 (fun H locs hP hD hS => ?_)
      have hP : va_P D cx (mv ad cs (sg_im u) (sg_ap u) (sg_ag u) (sg_he u) (sg_er u) (sg_ev u) (sg_en u) (sg_ma u) (sg_po u) (sg_se u) (sg_ac u) (sg_fa u) (sg_la u) (sg_st u) (jm_ag j) (jm_de j) (jm_ru j) (jm_nx j) (1)) H := hP
      have hD : va_D A (mv ad cs (sg_im u) (sg_ap u) (sg_ag u) (sg_he u) (sg_er u) (sg_ev u) (sg_en u) (sg_ma u) (sg_po u) (sg_se u) (sg_ac u) (sg_fa u) (sg_la u) (sg_st u) (jm_ag j) (jm_de j) (jm_ru j) (jm_nx j) (1)) := hD
      refine lv_aload_n hx hb d_md_unseal_62 rfl (lv_at hl 1 rfl) ?_
      refine va_get (D := D) (ci := 3) (v := .int (1)) (C := "MeasuredStagesModel") (T := F_md) (N := 19) hx hb hts (fun w h => List.mem_cons_of_mem _ (i_md w h)) hown hK hP 0 rfl rfl 18 (by decide) (hT _ tb_477) (fun _ h9 => h9) rfl d_md_unseal_63 ?_
      refine lv_if_ne hx hb d_md_unseal_66 (tgt := 78) (by decide) (fun _ => ?_) (fun z => absurd z (by decide))
      refine lv_lconst (v := 0) hx hb d_md_unseal_78 (by decide) ?_
      obtain ⟨q5, eq5⟩ : ∃ z : Jm, z = (jm_ag j, jm_de j, jm_ru j, jm_nx j, 1) := ⟨_, rfl⟩
      have hP : va_P D cx (mw ad cs u q5) H := by rw [eq5, mw_j]; exact hP
      have hD : va_D A (mw ad cs u q5) := by rw [eq5, mw_j]; exact hD
      exact W.lret hx hb hret (fun t ht hW => ⟨⟨_, q5, rfl, ⟨rfl, (by subst eq5; rfl)⟩, by rw [ht]; exact hP, va_K.moved hW.alike hK, hD⟩, hS.F ht⟩) hS.2.2 d_md_unseal_79
set_option maxHeartbeats 4000000 in
set_option maxRecDepth 100000 in
theorem g_md_unseal (l : Launch) (D : va_G) (cs : Nat → ClassId) (ad : Nat → Nat) (sz : Nat) (u : Sg) (j : Jm) (k : Int32) (h0 : sp_tk (sg_ma u) k = 1) (h1 : sp_on u k = 0) : Met l y_md_unseal (Cond.code y_md_unseal b_md_unseal 3 (some .long) :: TB) { frames := 7, cells := 0, slots := 0, locals := 200 } (va_Pc [.ref (ad 0), .int k] (mw_Pre D cs ad u j sz)) (va_Ql (fun (r : Int64) (j1 : Jm) => r = 0 ∧ jm_th j1 = 2) (fun (j1 : Jm) t => mw_B D cs ad (va_A (mw ad cs u j) sz) u j1 t) (va_A (mw ad cs u j) sz)) 0 0 (va_A (mw ad cs u j) sz) := by
  refine Met.ofW (cc := b_md_unseal) (maxL := 3) (ret := (some .long)) (by decide) rfl ?_
  intro p e s m args below meth c s₁ B hml hv
  obtain ⟨rfl, hsz, hP, hK, hD, hN⟩ := hv
  have hx := B.exec
  have hb := B.bytes
  have hret := B.returns
  have hts := atoms_spec (ws := Cond.code y_md_unseal b_md_unseal 3 (some .long) :: TB) B.pre
  have hT : ∀ w ∈ TB, w.before _ s = true := fun w h => hts w (List.mem_cons_of_mem _ h)
  have hown : s.vm.findClass "MeasuredStagesModel" = some m.cls := findClass_of_methodNamed B.named
  have hlocks := B.notSynchronized
  subst hsz
  have hD := hD.self (sz := s.heap.size)
  generalize hAe : va_A (mw ad cs u j) s.heap.size = A at hD ⊢
  have hA : ∀ q : Nat, s.heap.size ≤ q → A q := fun q h => by rw [← hAe]; exact Or.inr h
  have hS : va_S A s.heap s.heap [] := va_S.rf
  have hl := lv_entry ([.ref (ad 0), .int k]) (n := 3) (Nat.le_of_ble_eq_true rfl)
  rw [lg_entry_eq]
  generalize (lg_sl ([.ref (ad 0), .int k]) ++ List.replicate (3 - (lg_sl ([.ref (ad 0), .int k])).length) Slot.unset).toArray = ls at hl ⊢
  have hl : lv_has ls 3 [(0, .ref (ad 0)), (1, .int k)] := hl
  skip
  refine lv_iload_n hx hb d_md_unseal_0 rfl (lv_at hl 1 rfl) ?_
  refine lv_if_lt hx hb d_md_unseal_1 (tgt := 23) (by decide) (fun z => absurd z (xn_ge (tk_vp h0))) (fun _ => ?_)
  refine lv_iload_n hx hb d_md_unseal_4 rfl (lv_at hl 1 rfl) ?_
  refine lv_bipush (v := 8) hx hb d_md_unseal_5 (by decide) ?_
  refine lv_icmp_ge hx hb d_md_unseal_7 (tgt := 23) (by decide) (fun z => absurd z (xn_nle (k := 8) (by decide) (tk_vp h0))) (fun _ => ?_)
  refine lv_aload_n hx hb d_md_unseal_10 rfl (lv_at hl 0 rfl) ?_
  refine va_get (D := D) (ci := 3) (v := .ref (ad 5)) (C := "MeasuredStagesModel") (T := F_md) (N := 19) hx hb hts (fun w h => List.mem_cons_of_mem _ (i_md w h)) hown hK hP 0 rfl rfl 4 (by decide) (hT _ tb_463) (fun _ h9 => h9) rfl d_md_unseal_11 ?_
  refine lv_iload_n hx hb d_md_unseal_14 rfl (lv_at hl 1 rfl) ?_
  refine va_iald hx hb hK hP 5 4 rfl rfl (tk_vp h0) d_md_unseal_15 ?_
  refine lv_if_eq hx hb d_md_unseal_16 (tgt := 23) (by decide) (fun z => absurd z (tk_1 h0)) (fun _ => ?_)
  refine lv_iconst (v := 1) hx hb d_md_unseal_19 (by decide) ?_
  refine lv_goto hx hb d_md_unseal_20 (tgt := 24) (by decide) ?_
  refine lv_istore_n (nL := 3) (lv' := [(2, .int (1)), (0, .ref (ad 0)), (1, .int k)]) hx hb d_md_unseal_24 rfl hl (by decide) rfl (fun ls hl => ?_)
  refine lv_aload_n hx hb d_md_unseal_25 rfl (lv_at hl 1 rfl) ?_
  refine lv_iload_n hx hb d_md_unseal_26 rfl (lv_at hl 0 rfl) ?_
  refine lv_if_ne hx hb d_md_unseal_27 (tgt := 34) (by decide) (fun _ => ?_) (fun z => absurd z (by decide))
  refine lv_aload_n hx hb d_md_unseal_34 rfl (lv_at hl 1 rfl) ?_
  refine va_get (D := D) (ci := 3) (v := .ref (ad 6)) (C := "MeasuredStagesModel") (T := F_md) (N := 19) hx hb hts (fun w h => List.mem_cons_of_mem _ (i_md w h)) hown hK hP 0 rfl rfl 5 (by decide) (hT _ tb_464) (fun _ h9 => h9) rfl d_md_unseal_35 ?_
  refine lv_iload_n hx hb d_md_unseal_38 rfl (lv_at hl 2 rfl) ?_
  refine va_lald hx hb hK hP 6 5 rfl rfl (tk_vp h0) d_md_unseal_39 ?_
  refine lv_aload_n hx hb d_md_unseal_40 rfl (lv_at hl 1 rfl) ?_
  refine lv_aload_n hx hb d_md_unseal_41 rfl (lv_at hl 1 rfl) ?_
  refine va_get (D := D) (ci := 3) (v := .ref (ad 5)) (C := "MeasuredStagesModel") (T := F_md) (N := 19) hx hb hts (fun w h => List.mem_cons_of_mem _ (i_md w h)) hown hK hP 0 rfl rfl 4 (by decide) (hT _ tb_463) (fun _ h9 => h9) rfl d_md_unseal_42 ?_
  refine lv_iload_n hx hb d_md_unseal_45 rfl (lv_at hl 2 rfl) ?_
  refine va_iald hx hb hK hP 5 4 rfl rfl (tk_vp h0) d_md_unseal_46 ?_
  refine mw_rdl (v := sp_po u (sg_ma u k.toNatClampNeg)) (As := [.int (sg_ma u k.toNatClampNeg)]) (rest := [.long (sg_po u k.toNatClampNeg), .ref (ad 0)]) ⟨hx, hb, hml, hown, hts⟩ (c_md_policy l D cs ad _ u j (sg_ma u k.toNatClampNeg)) tb_565 tb_567 sl_21 tb_4 tb_568 ⟨rfl, hd_md_policy⟩ ⟨Nat.le_of_ble_eq_true rfl, Nat.le_of_ble_eq_true rfl⟩ rfl rfl hK hP hD hN 0 3 rfl rfl hl.1 rfl (Nat.le_of_ble_eq_true rfl) d_md_unseal_47 ⟨Nat.zero_le _, Nat.zero_le _⟩ ?_
  refine W.lcmp hx hb d_md_unseal_50 ?_
  refine lv_if_eq hx hb d_md_unseal_51 (tgt := 58) (by decide) (fun z => absurd z (mt sp_cmp.mp (on_0 h1))) (fun _ => ?_)
  refine lv_iconst (v := 2) hx hb d_md_unseal_54 (by decide) ?_
  refine lv_goto hx hb d_md_unseal_55 (tgt := 59) (by decide) ?_
  refine va_put (D := D) (ci := 3) (v := .int (2)) (ty := .int) (C := "MeasuredStagesModel") (T := F_md) (N := 19) hx hb hts (fun w h => List.mem_cons_of_mem _ (i_md w h)) t_md o_md n_md hown hK hP hD hS 0 rfl rfl 18 (by decide) (hT _ tb_477) (fun _ h9 => h9) rfl (by decide +kernel) rfl rfl (Nat.le_of_ble_eq_true rfl) d_md_unseal_59 (fun H locs hP hD hS => ?_)
  have hP : va_P D cx (mv ad cs (sg_im u) (sg_ap u) (sg_ag u) (sg_he u) (sg_er u) (sg_ev u) (sg_en u) (sg_ma u) (sg_po u) (sg_se u) (sg_ac u) (sg_fa u) (sg_la u) (sg_st u) (jm_ag j) (jm_de j) (jm_ru j) (jm_nx j) (2)) H := hP
  have hD : va_D A (mv ad cs (sg_im u) (sg_ap u) (sg_ag u) (sg_he u) (sg_er u) (sg_ev u) (sg_en u) (sg_ma u) (sg_po u) (sg_se u) (sg_ac u) (sg_fa u) (sg_la u) (sg_st u) (jm_ag j) (jm_de j) (jm_ru j) (jm_nx j) (2)) := hD
  refine lv_aload_n hx hb d_md_unseal_62 rfl (lv_at hl 1 rfl) ?_
  refine va_get (D := D) (ci := 3) (v := .int (2)) (C := "MeasuredStagesModel") (T := F_md) (N := 19) hx hb hts (fun w h => List.mem_cons_of_mem _ (i_md w h)) hown hK hP 0 rfl rfl 18 (by decide) (hT _ tb_477) (fun _ h9 => h9) rfl d_md_unseal_63 ?_
  refine lv_if_ne hx hb d_md_unseal_66 (tgt := 78) (by decide) (fun _ => ?_) (fun z => absurd z (by decide))
  refine lv_lconst (v := 0) hx hb d_md_unseal_78 (by decide) ?_
  obtain ⟨q1, eq1⟩ : ∃ z : Jm, z = (jm_ag j, jm_de j, jm_ru j, jm_nx j, 2) := ⟨_, rfl⟩
  have hP : va_P D cx (mw ad cs u q1) H := by rw [eq1, mw_j]; exact hP
  have hD : va_D A (mw ad cs u q1) := by rw [eq1, mw_j]; exact hD
  exact W.lret hx hb hret (fun t ht hW => ⟨⟨_, q1, rfl, ⟨rfl, (by subst eq1; rfl)⟩, by rw [ht]; exact hP, va_K.moved hW.alike hK, hD⟩, hS.F ht⟩) hS.2.2 d_md_unseal_79
set_option maxHeartbeats 4000000 in
set_option maxRecDepth 100000 in
theorem k_md_discard (l : Launch) (D : va_G) (cs : Nat → ClassId) (ad : Nat → Nat) (sz : Nat) (u : Sg) (j : Jm) (k : Int32) (h0 : sp_tk (sg_ma u) k = 1) : Met l y_md_discard (Cond.code y_md_discard b_md_discard 2 none :: TB) { frames := 7, cells := 0, slots := 0, locals := 200 } (va_Pc [.ref (ad 0), .int k] (mw_Pre D cs ad u j sz)) (va_Qv (fun (j1 : Jm) => jm_th j1 = 0) (fun (j1 : Jm) t => mw_B D cs ad (va_A (mw ad cs u j) sz) (ss_ma u (upd (sg_ma u) k.toNatClampNeg 0)) j1 t) (va_A (mw ad cs u j) sz)) 0 0 (va_A (mw ad cs u j) sz) := by
  refine Met.ofW (cc := b_md_discard) (maxL := 2) (ret := none) (by decide) rfl ?_
  intro p e s m args below meth c s₁ B hml hv
  obtain ⟨rfl, hsz, hP, hK, hD, hN⟩ := hv
  have hx := B.exec
  have hb := B.bytes
  have hret := B.returns
  have hts := atoms_spec (ws := Cond.code y_md_discard b_md_discard 2 none :: TB) B.pre
  have hT : ∀ w ∈ TB, w.before _ s = true := fun w h => hts w (List.mem_cons_of_mem _ h)
  have hown : s.vm.findClass "MeasuredStagesModel" = some m.cls := findClass_of_methodNamed B.named
  have hlocks := B.notSynchronized
  subst hsz
  have hD := hD.self (sz := s.heap.size)
  generalize hAe : va_A (mw ad cs u j) s.heap.size = A at hD ⊢
  have hA : ∀ q : Nat, s.heap.size ≤ q → A q := fun q h => by rw [← hAe]; exact Or.inr h
  have hS : va_S A s.heap s.heap [] := va_S.rf
  have hl := lv_entry ([.ref (ad 0), .int k]) (n := 2) (Nat.le_of_ble_eq_true rfl)
  rw [lg_entry_eq]
  generalize (lg_sl ([.ref (ad 0), .int k]) ++ List.replicate (2 - (lg_sl ([.ref (ad 0), .int k])).length) Slot.unset).toArray = ls at hl ⊢
  have hl : lv_has ls 2 [(0, .ref (ad 0)), (1, .int k)] := hl
  skip
  refine lv_aload_n hx hb d_md_discard_0 rfl (lv_at hl 0 rfl) ?_
  refine lv_iload_n hx hb d_md_discard_1 rfl (lv_at hl 1 rfl) ?_
  refine lv_if_lt hx hb d_md_discard_2 (tgt := 24) (by decide) (fun z => absurd z (xn_ge (tk_vp h0))) (fun _ => ?_)
  refine lv_iload_n hx hb d_md_discard_5 rfl (lv_at hl 1 rfl) ?_
  refine lv_bipush (v := 8) hx hb d_md_discard_6 (by decide) ?_
  refine lv_icmp_ge hx hb d_md_discard_8 (tgt := 24) (by decide) (fun z => absurd z (xn_nle (k := 8) (by decide) (tk_vp h0))) (fun _ => ?_)
  refine lv_aload_n hx hb d_md_discard_11 rfl (lv_at hl 0 rfl) ?_
  refine va_get (D := D) (ci := 3) (v := .ref (ad 5)) (C := "MeasuredStagesModel") (T := F_md) (N := 19) hx hb hts (fun w h => List.mem_cons_of_mem _ (i_md w h)) hown hK hP 0 rfl rfl 4 (by decide) (hT _ tb_463) (fun _ h9 => h9) rfl d_md_discard_12 ?_
  refine lv_iload_n hx hb d_md_discard_15 rfl (lv_at hl 1 rfl) ?_
  refine va_iald hx hb hK hP 5 4 rfl rfl (tk_vp h0) d_md_discard_16 ?_
  refine lv_if_eq hx hb d_md_discard_17 (tgt := 24) (by decide) (fun z => absurd z (tk_1 h0)) (fun _ => ?_)
  refine lv_iconst (v := 0) hx hb d_md_discard_20 (by decide) ?_
  refine lv_goto hx hb d_md_discard_21 (tgt := 25) (by decide) ?_
  refine va_put (D := D) (ci := 3) (v := .int (0)) (ty := .int) (C := "MeasuredStagesModel") (T := F_md) (N := 19) hx hb hts (fun w h => List.mem_cons_of_mem _ (i_md w h)) t_md o_md n_md hown hK hP hD hS 0 rfl rfl 18 (by decide) (hT _ tb_477) (fun _ h9 => h9) rfl (by decide +kernel) rfl rfl (Nat.le_of_ble_eq_true rfl) d_md_discard_25 (fun H locs hP hD hS => ?_)
  have hP : va_P D cx (mv ad cs (sg_im u) (sg_ap u) (sg_ag u) (sg_he u) (sg_er u) (sg_ev u) (sg_en u) (sg_ma u) (sg_po u) (sg_se u) (sg_ac u) (sg_fa u) (sg_la u) (sg_st u) (jm_ag j) (jm_de j) (jm_ru j) (jm_nx j) (0)) H := hP
  have hD : va_D A (mv ad cs (sg_im u) (sg_ap u) (sg_ag u) (sg_he u) (sg_er u) (sg_ev u) (sg_en u) (sg_ma u) (sg_po u) (sg_se u) (sg_ac u) (sg_fa u) (sg_la u) (sg_st u) (jm_ag j) (jm_de j) (jm_ru j) (jm_nx j) (0)) := hD
  refine lv_aload_n hx hb d_md_discard_28 rfl (lv_at hl 0 rfl) ?_
  refine va_get (D := D) (ci := 3) (v := .int (0)) (C := "MeasuredStagesModel") (T := F_md) (N := 19) hx hb hts (fun w h => List.mem_cons_of_mem _ (i_md w h)) hown hK hP 0 rfl rfl 18 (by decide) (hT _ tb_477) (fun _ h9 => h9) rfl d_md_discard_29 ?_
  refine lv_if_ne hx hb d_md_discard_32 (tgt := 42) (by decide) (fun z => absurd (by decide) z) (fun _ => ?_)
  refine lv_aload_n hx hb d_md_discard_35 rfl (lv_at hl 0 rfl) ?_
  refine va_get (D := D) (ci := 3) (v := .ref (ad 5)) (C := "MeasuredStagesModel") (T := F_md) (N := 19) hx hb hts (fun w h => List.mem_cons_of_mem _ (i_md w h)) hown hK hP 0 rfl rfl 4 (by decide) (hT _ tb_463) (fun _ h9 => h9) rfl d_md_discard_36 ?_
  refine lv_iload_n hx hb d_md_discard_39 rfl (lv_at hl 1 rfl) ?_
  refine lv_iconst (v := 0) hx hb d_md_discard_40 (by decide) ?_
  refine va_iast hx hb hK hP hD hS 5 4 rfl rfl (tk_vp h0) d_md_discard_41 (fun H locs hP hD hS => ?_)
  have hP : va_P D cx (mv ad cs (sg_im u) (sg_ap u) (sg_ag u) (sg_he u) (sg_er u) (sg_ev u) (sg_en u) (upd (sg_ma u) k.toNatClampNeg (0)) (sg_po u) (sg_se u) (sg_ac u) (sg_fa u) (sg_la u) (sg_st u) (jm_ag j) (jm_de j) (jm_ru j) (jm_nx j) (0)) H := hP
  have hD : va_D A (mv ad cs (sg_im u) (sg_ap u) (sg_ag u) (sg_he u) (sg_er u) (sg_ev u) (sg_en u) (upd (sg_ma u) k.toNatClampNeg (0)) (sg_po u) (sg_se u) (sg_ac u) (sg_fa u) (sg_la u) (sg_st u) (jm_ag j) (jm_de j) (jm_ru j) (jm_nx j) (0)) := hD
  obtain ⟨v1, ev1⟩ : ∃ z : Sg, z = (sg_im u, sg_ap u, sg_ag u, sg_he u, sg_er u, sg_ev u, sg_en u, upd (sg_ma u) k.toNatClampNeg (0), sg_po u, sg_se u, sg_ac u, sg_fa u, sg_la u, sg_st u) := ⟨_, rfl⟩
  obtain ⟨q2, eq2⟩ : ∃ z : Jm, z = (jm_ag j, jm_de j, jm_ru j, jm_nx j, 0) := ⟨_, rfl⟩
  have hP : va_P D cx (mw ad cs v1 q2) H := by rw [ev1, eq2, mw_uj]; exact hP
  have hD : va_D A (mw ad cs v1 q2) := by rw [ev1, eq2, mw_uj]; exact hD
  subst ev1
  exact W.vret hx hb hret (fun t ht hW => ⟨⟨q2, rfl, (by subst eq2; rfl), by rw [ht]; exact hP, va_K.moved hW.alike hK, hD⟩, hS.F ht⟩) hS.2.2 d_md_discard_42
set_option maxHeartbeats 4000000 in
set_option maxRecDepth 100000 in
theorem f_md_discard (l : Launch) (D : va_G) (cs : Nat → ClassId) (ad : Nat → Nat) (sz : Nat) (u : Sg) (j : Jm) (k : Int32) (h0 : sp_tk (sg_ma u) k = 0) : Met l y_md_discard (Cond.code y_md_discard b_md_discard 2 none :: TB) { frames := 7, cells := 0, slots := 0, locals := 200 } (va_Pc [.ref (ad 0), .int k] (mw_Pre D cs ad u j sz)) (va_Qv (fun (j1 : Jm) => jm_th j1 = 1) (fun (j1 : Jm) t => mw_B D cs ad (va_A (mw ad cs u j) sz) u j1 t) (va_A (mw ad cs u j) sz)) 0 0 (va_A (mw ad cs u j) sz) := by
  refine Met.ofW (cc := b_md_discard) (maxL := 2) (ret := none) (by decide) rfl ?_
  intro p e s m args below meth c s₁ B hml hv
  obtain ⟨rfl, hsz, hP, hK, hD, hN⟩ := hv
  have hx := B.exec
  have hb := B.bytes
  have hret := B.returns
  have hts := atoms_spec (ws := Cond.code y_md_discard b_md_discard 2 none :: TB) B.pre
  have hT : ∀ w ∈ TB, w.before _ s = true := fun w h => hts w (List.mem_cons_of_mem _ h)
  have hown : s.vm.findClass "MeasuredStagesModel" = some m.cls := findClass_of_methodNamed B.named
  have hlocks := B.notSynchronized
  subst hsz
  have hD := hD.self (sz := s.heap.size)
  generalize hAe : va_A (mw ad cs u j) s.heap.size = A at hD ⊢
  have hA : ∀ q : Nat, s.heap.size ≤ q → A q := fun q h => by rw [← hAe]; exact Or.inr h
  have hS : va_S A s.heap s.heap [] := va_S.rf
  have hl := lv_entry ([.ref (ad 0), .int k]) (n := 2) (Nat.le_of_ble_eq_true rfl)
  rw [lg_entry_eq]
  generalize (lg_sl ([.ref (ad 0), .int k]) ++ List.replicate (2 - (lg_sl ([.ref (ad 0), .int k])).length) Slot.unset).toArray = ls at hl ⊢
  have hl : lv_has ls 2 [(0, .ref (ad 0)), (1, .int k)] := hl
  skip
  refine lv_aload_n hx hb d_md_discard_0 rfl (lv_at hl 0 rfl) ?_
  refine lv_iload_n hx hb d_md_discard_1 rfl (lv_at hl 1 rfl) ?_
  refine lv_if_lt hx hb d_md_discard_2 (tgt := 24) (by decide) (fun h1 => ?_) (fun h1 => ?_)
  · skip
    refine lv_iconst (v := 1) hx hb d_md_discard_24 (by decide) ?_
    refine va_put (D := D) (ci := 3) (v := .int (1)) (ty := .int) (C := "MeasuredStagesModel") (T := F_md) (N := 19) hx hb hts (fun w h => List.mem_cons_of_mem _ (i_md w h)) t_md o_md n_md hown hK hP hD hS 0 rfl rfl 18 (by decide) (hT _ tb_477) (fun _ h9 => h9) rfl (by decide +kernel) rfl rfl (Nat.le_of_ble_eq_true rfl) d_md_discard_25 (fun H locs hP hD hS => ?_)
    have hP : va_P D cx (mv ad cs (sg_im u) (sg_ap u) (sg_ag u) (sg_he u) (sg_er u) (sg_ev u) (sg_en u) (sg_ma u) (sg_po u) (sg_se u) (sg_ac u) (sg_fa u) (sg_la u) (sg_st u) (jm_ag j) (jm_de j) (jm_ru j) (jm_nx j) (1)) H := hP
    have hD : va_D A (mv ad cs (sg_im u) (sg_ap u) (sg_ag u) (sg_he u) (sg_er u) (sg_ev u) (sg_en u) (sg_ma u) (sg_po u) (sg_se u) (sg_ac u) (sg_fa u) (sg_la u) (sg_st u) (jm_ag j) (jm_de j) (jm_ru j) (jm_nx j) (1)) := hD
    refine lv_aload_n hx hb d_md_discard_28 rfl (lv_at hl 0 rfl) ?_
    refine va_get (D := D) (ci := 3) (v := .int (1)) (C := "MeasuredStagesModel") (T := F_md) (N := 19) hx hb hts (fun w h => List.mem_cons_of_mem _ (i_md w h)) hown hK hP 0 rfl rfl 18 (by decide) (hT _ tb_477) (fun _ h9 => h9) rfl d_md_discard_29 ?_
    refine lv_if_ne hx hb d_md_discard_32 (tgt := 42) (by decide) (fun _ => ?_) (fun z => absurd z (by decide))
    obtain ⟨q2, eq2⟩ : ∃ z : Jm, z = (jm_ag j, jm_de j, jm_ru j, jm_nx j, 1) := ⟨_, rfl⟩
    have hP : va_P D cx (mw ad cs u q2) H := by rw [eq2, mw_j]; exact hP
    have hD : va_D A (mw ad cs u q2) := by rw [eq2, mw_j]; exact hD
    exact W.vret hx hb hret (fun t ht hW => ⟨⟨q2, rfl, (by subst eq2; rfl), by rw [ht]; exact hP, va_K.moved hW.alike hK, hD⟩, hS.F ht⟩) hS.2.2 d_md_discard_42
  · skip
    refine lv_iload_n hx hb d_md_discard_5 rfl (lv_at hl 1 rfl) ?_
    refine lv_bipush (v := 8) hx hb d_md_discard_6 (by decide) ?_
    refine lv_icmp_ge hx hb d_md_discard_8 (tgt := 24) (by decide) (fun h3 => ?_) (fun h3 => ?_)
    · skip
      refine lv_iconst (v := 1) hx hb d_md_discard_24 (by decide) ?_
      refine va_put (D := D) (ci := 3) (v := .int (1)) (ty := .int) (C := "MeasuredStagesModel") (T := F_md) (N := 19) hx hb hts (fun w h => List.mem_cons_of_mem _ (i_md w h)) t_md o_md n_md hown hK hP hD hS 0 rfl rfl 18 (by decide) (hT _ tb_477) (fun _ h9 => h9) rfl (by decide +kernel) rfl rfl (Nat.le_of_ble_eq_true rfl) d_md_discard_25 (fun H locs hP hD hS => ?_)
      have hP : va_P D cx (mv ad cs (sg_im u) (sg_ap u) (sg_ag u) (sg_he u) (sg_er u) (sg_ev u) (sg_en u) (sg_ma u) (sg_po u) (sg_se u) (sg_ac u) (sg_fa u) (sg_la u) (sg_st u) (jm_ag j) (jm_de j) (jm_ru j) (jm_nx j) (1)) H := hP
      have hD : va_D A (mv ad cs (sg_im u) (sg_ap u) (sg_ag u) (sg_he u) (sg_er u) (sg_ev u) (sg_en u) (sg_ma u) (sg_po u) (sg_se u) (sg_ac u) (sg_fa u) (sg_la u) (sg_st u) (jm_ag j) (jm_de j) (jm_ru j) (jm_nx j) (1)) := hD
      refine lv_aload_n hx hb d_md_discard_28 rfl (lv_at hl 0 rfl) ?_
      refine va_get (D := D) (ci := 3) (v := .int (1)) (C := "MeasuredStagesModel") (T := F_md) (N := 19) hx hb hts (fun w h => List.mem_cons_of_mem _ (i_md w h)) hown hK hP 0 rfl rfl 18 (by decide) (hT _ tb_477) (fun _ h9 => h9) rfl d_md_discard_29 ?_
      refine lv_if_ne hx hb d_md_discard_32 (tgt := 42) (by decide) (fun _ => ?_) (fun z => absurd z (by decide))
      obtain ⟨q4, eq4⟩ : ∃ z : Jm, z = (jm_ag j, jm_de j, jm_ru j, jm_nx j, 1) := ⟨_, rfl⟩
      have hP : va_P D cx (mw ad cs u q4) H := by rw [eq4, mw_j]; exact hP
      have hD : va_D A (mw ad cs u q4) := by rw [eq4, mw_j]; exact hD
      exact W.vret hx hb hret (fun t ht hW => ⟨⟨q4, rfl, (by subst eq4; rfl), by rw [ht]; exact hP, va_K.moved hW.alike hK, hD⟩, hS.F ht⟩) hS.2.2 d_md_discard_42
    · skip
      refine lv_aload_n hx hb d_md_discard_11 rfl (lv_at hl 0 rfl) ?_
      refine va_get (D := D) (ci := 3) (v := .ref (ad 5)) (C := "MeasuredStagesModel") (T := F_md) (N := 19) hx hb hts (fun w h => List.mem_cons_of_mem _ (i_md w h)) hown hK hP 0 rfl rfl 4 (by decide) (hT _ tb_463) (fun _ h9 => h9) rfl d_md_discard_12 ?_
      refine lv_iload_n hx hb d_md_discard_15 rfl (lv_at hl 1 rfl) ?_
      refine va_iald hx hb hK hP 5 4 rfl rfl (xn_in (k := 8) (by decide) h1 (Int32.not_le.mp h3)) d_md_discard_16 ?_
      refine lv_if_eq hx hb d_md_discard_17 (tgt := 24) (by decide) (fun _ => ?_) (fun z => absurd (tk_0 h0 h1 h3) z)
      refine lv_iconst (v := 1) hx hb d_md_discard_24 (by decide) ?_
      refine va_put (D := D) (ci := 3) (v := .int (1)) (ty := .int) (C := "MeasuredStagesModel") (T := F_md) (N := 19) hx hb hts (fun w h => List.mem_cons_of_mem _ (i_md w h)) t_md o_md n_md hown hK hP hD hS 0 rfl rfl 18 (by decide) (hT _ tb_477) (fun _ h9 => h9) rfl (by decide +kernel) rfl rfl (Nat.le_of_ble_eq_true rfl) d_md_discard_25 (fun H locs hP hD hS => ?_)
      have hP : va_P D cx (mv ad cs (sg_im u) (sg_ap u) (sg_ag u) (sg_he u) (sg_er u) (sg_ev u) (sg_en u) (sg_ma u) (sg_po u) (sg_se u) (sg_ac u) (sg_fa u) (sg_la u) (sg_st u) (jm_ag j) (jm_de j) (jm_ru j) (jm_nx j) (1)) H := hP
      have hD : va_D A (mv ad cs (sg_im u) (sg_ap u) (sg_ag u) (sg_he u) (sg_er u) (sg_ev u) (sg_en u) (sg_ma u) (sg_po u) (sg_se u) (sg_ac u) (sg_fa u) (sg_la u) (sg_st u) (jm_ag j) (jm_de j) (jm_ru j) (jm_nx j) (1)) := hD
      refine lv_aload_n hx hb d_md_discard_28 rfl (lv_at hl 0 rfl) ?_
      refine va_get (D := D) (ci := 3) (v := .int (1)) (C := "MeasuredStagesModel") (T := F_md) (N := 19) hx hb hts (fun w h => List.mem_cons_of_mem _ (i_md w h)) hown hK hP 0 rfl rfl 18 (by decide) (hT _ tb_477) (fun _ h9 => h9) rfl d_md_discard_29 ?_
      refine lv_if_ne hx hb d_md_discard_32 (tgt := 42) (by decide) (fun _ => ?_) (fun z => absurd z (by decide))
      obtain ⟨q5, eq5⟩ : ∃ z : Jm, z = (jm_ag j, jm_de j, jm_ru j, jm_nx j, 1) := ⟨_, rfl⟩
      have hP : va_P D cx (mw ad cs u q5) H := by rw [eq5, mw_j]; exact hP
      have hD : va_D A (mw ad cs u q5) := by rw [eq5, mw_j]; exact hD
      exact W.vret hx hb hret (fun t ht hW => ⟨⟨q5, rfl, (by subst eq5; rfl), by rw [ht]; exact hP, va_K.moved hW.alike hK, hD⟩, hS.F ht⟩) hS.2.2 d_md_discard_42
set_option maxHeartbeats 4000000 in
set_option maxRecDepth 100000 in
theorem k_md_quote (l : Launch) (D : va_G) (cs : Nat → ClassId) (ad : Nat → Nat) (sz : Nat) (u : Sg) (j : Jm) (a b : Int64) (mask : Int32) (hm : sp_mk mask = 1) : Met l y_md_quote (Cond.code y_md_quote b_md_quote 8 (some .long) :: TB) { frames := 7, cells := 0, slots := 0, locals := 200 } (va_Pc [.ref (ad 0), .long a, .long b, .int mask] (mw_Pre D cs ad u j sz)) (va_Ql (fun (r : Int64) (j1 : Jm) => r = sp_h (sp_h a b) (sp_po u mask) ∧ jm_th j1 = 0) (fun (j1 : Jm) t => mw_B D cs ad (va_A (mw ad cs u j) sz) u j1 t) (va_A (mw ad cs u j) sz)) 0 0 (va_A (mw ad cs u j) sz) := by
  refine Met.ofW (cc := b_md_quote) (maxL := 8) (ret := (some .long)) (by decide) rfl ?_
  intro p e s m args below meth c s₁ B hml hv
  obtain ⟨rfl, hsz, hP, hK, hD, hN⟩ := hv
  have hx := B.exec
  have hb := B.bytes
  have hret := B.returns
  have hts := atoms_spec (ws := Cond.code y_md_quote b_md_quote 8 (some .long) :: TB) B.pre
  have hT : ∀ w ∈ TB, w.before _ s = true := fun w h => hts w (List.mem_cons_of_mem _ h)
  have hown : s.vm.findClass "MeasuredStagesModel" = some m.cls := findClass_of_methodNamed B.named
  have hlocks := B.notSynchronized
  subst hsz
  have hD := hD.self (sz := s.heap.size)
  generalize hAe : va_A (mw ad cs u j) s.heap.size = A at hD ⊢
  have hA : ∀ q : Nat, s.heap.size ≤ q → A q := fun q h => by rw [← hAe]; exact Or.inr h
  have hS : va_S A s.heap s.heap [] := va_S.rf
  have hl := lv_entry ([.ref (ad 0), .long a, .long b, .int mask]) (n := 8) (Nat.le_of_ble_eq_true rfl)
  rw [lg_entry_eq]
  generalize (lg_sl ([.ref (ad 0), .long a, .long b, .int mask]) ++ List.replicate (8 - (lg_sl ([.ref (ad 0), .long a, .long b, .int mask])).length) Slot.unset).toArray = ls at hl ⊢
  have hl : lv_has ls 8 [(0, .ref (ad 0)), (1, .long a), (3, .long b), (5, .int mask)] := hl
  skip
  refine lv_aload_n hx hb d_md_quote_0 rfl (lv_at hl 0 rfl) ?_
  refine lv_iload hx hb d_md_quote_1 (lv_at hl 3 rfl) ?_
  refine lv_iconst (v := 1) hx hb d_md_quote_3 (by decide) ?_
  refine lv_icmp_lt hx hb d_md_quote_4 (tgt := 14) (by decide) (fun z => absurd z ((mk_1 hm).1)) (fun _ => ?_)
  refine lv_iload hx hb d_md_quote_7 (lv_at hl 3 rfl) ?_
  refine lv_bipush (v := 63) hx hb d_md_quote_9 (by decide) ?_
  refine lv_icmp_le hx hb d_md_quote_11 (tgt := 18) (by decide) (fun _ => ?_) (fun z => absurd ((mk_1 hm).2) z)
  refine lv_iconst (v := 0) hx hb d_md_quote_18 (by decide) ?_
  refine va_put (D := D) (ci := 3) (v := .int (0)) (ty := .int) (C := "MeasuredStagesModel") (T := F_md) (N := 19) hx hb hts (fun w h => List.mem_cons_of_mem _ (i_md w h)) t_md o_md n_md hown hK hP hD hS 0 rfl rfl 18 (by decide) (hT _ tb_477) (fun _ h9 => h9) rfl (by decide +kernel) rfl rfl (Nat.le_of_ble_eq_true rfl) d_md_quote_19 (fun H locs hP hD hS => ?_)
  have hP : va_P D cx (mv ad cs (sg_im u) (sg_ap u) (sg_ag u) (sg_he u) (sg_er u) (sg_ev u) (sg_en u) (sg_ma u) (sg_po u) (sg_se u) (sg_ac u) (sg_fa u) (sg_la u) (sg_st u) (jm_ag j) (jm_de j) (jm_ru j) (jm_nx j) (0)) H := hP
  have hD : va_D A (mv ad cs (sg_im u) (sg_ap u) (sg_ag u) (sg_he u) (sg_er u) (sg_ev u) (sg_en u) (sg_ma u) (sg_po u) (sg_se u) (sg_ac u) (sg_fa u) (sg_la u) (sg_st u) (jm_ag j) (jm_de j) (jm_ru j) (jm_nx j) (0)) := hD
  refine lv_aload_n hx hb d_md_quote_22 rfl (lv_at hl 0 rfl) ?_
  refine va_get (D := D) (ci := 3) (v := .int (0)) (C := "MeasuredStagesModel") (T := F_md) (N := 19) hx hb hts (fun w h => List.mem_cons_of_mem _ (i_md w h)) hown hK hP 0 rfl rfl 18 (by decide) (hT _ tb_477) (fun _ h9 => h9) rfl d_md_quote_23 ?_
  refine lv_if_eq hx hb d_md_quote_26 (tgt := 31) (by decide) (fun _ => ?_) (fun z => absurd (by decide) z)
  refine lv_lload_n hx hb d_md_quote_31 rfl (lv_at hl 1 rfl) ?_
  refine lv_lload_n hx hb d_md_quote_32 rfl (lv_at hl 2 rfl) ?_
  refine st_l (v := sp_h a b) (As := [.long a, .long b]) (rest := []) ⟨hx, hb, hml, hown, hts⟩ (c_md_h l a b) tb_534 tb_535 tb_4 tb_536 hd_md_h ⟨Nat.le_of_ble_eq_true rfl, Nat.le_of_ble_eq_true rfl⟩ rfl rfl hl.1 rfl (Nat.le_of_ble_eq_true rfl) d_md_quote_33 ⟨Nat.zero_le _, Nat.zero_le _⟩ ?_
  refine lv_lstore (nL := 8) (lv' := [(6, .long (sp_h a b)), (0, .ref (ad 0)), (1, .long a), (3, .long b), (5, .int mask)]) hx hb d_md_quote_36 hl (by decide) rfl (fun ls hl => ?_)
  refine lv_lload hx hb d_md_quote_38 (lv_at hl 0 rfl) ?_
  refine lv_aload_n hx hb d_md_quote_40 rfl (lv_at hl 1 rfl) ?_
  refine lv_iload hx hb d_md_quote_41 (lv_at hl 4 rfl) ?_
  obtain ⟨q1, eq1⟩ : ∃ z : Jm, z = (jm_ag j, jm_de j, jm_ru j, jm_nx j, 0) := ⟨_, rfl⟩
  have hP : va_P D cx (mw ad cs u q1) H := by rw [eq1, mw_j]; exact hP
  have hD : va_D A (mw ad cs u q1) := by rw [eq1, mw_j]; exact hD
  refine mw_rdl (v := sp_po u mask) (As := [.int mask]) (rest := [.long (sp_h a b)]) ⟨hx, hb, hml, hown, hts⟩ (c_md_policy l D cs ad _ u q1 mask) tb_565 tb_567 sl_21 tb_4 tb_568 ⟨rfl, hd_md_policy⟩ ⟨Nat.le_of_ble_eq_true rfl, Nat.le_of_ble_eq_true rfl⟩ rfl rfl hK hP hD hN 0 3 rfl rfl hl.1 rfl (Nat.le_of_ble_eq_true rfl) d_md_quote_43 ⟨Nat.zero_le _, Nat.zero_le _⟩ ?_
  refine st_l (v := sp_h (sp_h a b) (sp_po u mask)) (As := [.long (sp_h a b), .long (sp_po u mask)]) (rest := []) ⟨hx, hb, hml, hown, hts⟩ (c_md_h l (sp_h a b) (sp_po u mask)) tb_534 tb_535 tb_4 tb_536 hd_md_h ⟨Nat.le_of_ble_eq_true rfl, Nat.le_of_ble_eq_true rfl⟩ rfl rfl hl.1 rfl (Nat.le_of_ble_eq_true rfl) d_md_quote_46 ⟨Nat.zero_le _, Nat.zero_le _⟩ ?_
  exact W.lret hx hb hret (fun t ht hW => ⟨⟨_, q1, rfl, ⟨rfl, (by subst eq1; rfl)⟩, by rw [ht]; exact hP, va_K.moved hW.alike hK, hD⟩, hS.F ht⟩) hS.2.2 d_md_quote_49
set_option maxHeartbeats 4000000 in
set_option maxRecDepth 100000 in
theorem f_md_quote (l : Launch) (D : va_G) (cs : Nat → ClassId) (ad : Nat → Nat) (sz : Nat) (u : Sg) (j : Jm) (a b : Int64) (mask : Int32) (hm : sp_mk mask = 0) : Met l y_md_quote (Cond.code y_md_quote b_md_quote 8 (some .long) :: TB) { frames := 7, cells := 0, slots := 0, locals := 200 } (va_Pc [.ref (ad 0), .long a, .long b, .int mask] (mw_Pre D cs ad u j sz)) (va_Ql (fun (r : Int64) (j1 : Jm) => r = 0 ∧ jm_th j1 = 1) (fun (j1 : Jm) t => mw_B D cs ad (va_A (mw ad cs u j) sz) u j1 t) (va_A (mw ad cs u j) sz)) 0 0 (va_A (mw ad cs u j) sz) := by
  refine Met.ofW (cc := b_md_quote) (maxL := 8) (ret := (some .long)) (by decide) rfl ?_
  intro p e s m args below meth c s₁ B hml hv
  obtain ⟨rfl, hsz, hP, hK, hD, hN⟩ := hv
  have hx := B.exec
  have hb := B.bytes
  have hret := B.returns
  have hts := atoms_spec (ws := Cond.code y_md_quote b_md_quote 8 (some .long) :: TB) B.pre
  have hT : ∀ w ∈ TB, w.before _ s = true := fun w h => hts w (List.mem_cons_of_mem _ h)
  have hown : s.vm.findClass "MeasuredStagesModel" = some m.cls := findClass_of_methodNamed B.named
  have hlocks := B.notSynchronized
  subst hsz
  have hD := hD.self (sz := s.heap.size)
  generalize hAe : va_A (mw ad cs u j) s.heap.size = A at hD ⊢
  have hA : ∀ q : Nat, s.heap.size ≤ q → A q := fun q h => by rw [← hAe]; exact Or.inr h
  have hS : va_S A s.heap s.heap [] := va_S.rf
  have hl := lv_entry ([.ref (ad 0), .long a, .long b, .int mask]) (n := 8) (Nat.le_of_ble_eq_true rfl)
  rw [lg_entry_eq]
  generalize (lg_sl ([.ref (ad 0), .long a, .long b, .int mask]) ++ List.replicate (8 - (lg_sl ([.ref (ad 0), .long a, .long b, .int mask])).length) Slot.unset).toArray = ls at hl ⊢
  have hl : lv_has ls 8 [(0, .ref (ad 0)), (1, .long a), (3, .long b), (5, .int mask)] := hl
  skip
  refine lv_aload_n hx hb d_md_quote_0 rfl (lv_at hl 0 rfl) ?_
  refine lv_iload hx hb d_md_quote_1 (lv_at hl 3 rfl) ?_
  refine lv_iconst (v := 1) hx hb d_md_quote_3 (by decide) ?_
  refine lv_icmp_lt hx hb d_md_quote_4 (tgt := 14) (by decide) (fun h1 => ?_) (fun h1 => ?_)
  · skip
    refine lv_iconst (v := 1) hx hb d_md_quote_14 (by decide) ?_
    refine lv_goto hx hb d_md_quote_15 (tgt := 19) (by decide) ?_
    refine va_put (D := D) (ci := 3) (v := .int (1)) (ty := .int) (C := "MeasuredStagesModel") (T := F_md) (N := 19) hx hb hts (fun w h => List.mem_cons_of_mem _ (i_md w h)) t_md o_md n_md hown hK hP hD hS 0 rfl rfl 18 (by decide) (hT _ tb_477) (fun _ h9 => h9) rfl (by decide +kernel) rfl rfl (Nat.le_of_ble_eq_true rfl) d_md_quote_19 (fun H locs hP hD hS => ?_)
    have hP : va_P D cx (mv ad cs (sg_im u) (sg_ap u) (sg_ag u) (sg_he u) (sg_er u) (sg_ev u) (sg_en u) (sg_ma u) (sg_po u) (sg_se u) (sg_ac u) (sg_fa u) (sg_la u) (sg_st u) (jm_ag j) (jm_de j) (jm_ru j) (jm_nx j) (1)) H := hP
    have hD : va_D A (mv ad cs (sg_im u) (sg_ap u) (sg_ag u) (sg_he u) (sg_er u) (sg_ev u) (sg_en u) (sg_ma u) (sg_po u) (sg_se u) (sg_ac u) (sg_fa u) (sg_la u) (sg_st u) (jm_ag j) (jm_de j) (jm_ru j) (jm_nx j) (1)) := hD
    refine lv_aload_n hx hb d_md_quote_22 rfl (lv_at hl 0 rfl) ?_
    refine va_get (D := D) (ci := 3) (v := .int (1)) (C := "MeasuredStagesModel") (T := F_md) (N := 19) hx hb hts (fun w h => List.mem_cons_of_mem _ (i_md w h)) hown hK hP 0 rfl rfl 18 (by decide) (hT _ tb_477) (fun _ h9 => h9) rfl d_md_quote_23 ?_
    refine lv_if_eq hx hb d_md_quote_26 (tgt := 31) (by decide) (fun z => absurd z (by decide)) (fun _ => ?_)
    refine lv_lconst (v := 0) hx hb d_md_quote_29 (by decide) ?_
    obtain ⟨q2, eq2⟩ : ∃ z : Jm, z = (jm_ag j, jm_de j, jm_ru j, jm_nx j, 1) := ⟨_, rfl⟩
    have hP : va_P D cx (mw ad cs u q2) H := by rw [eq2, mw_j]; exact hP
    have hD : va_D A (mw ad cs u q2) := by rw [eq2, mw_j]; exact hD
    exact W.lret hx hb hret (fun t ht hW => ⟨⟨_, q2, rfl, ⟨rfl, (by subst eq2; rfl)⟩, by rw [ht]; exact hP, va_K.moved hW.alike hK, hD⟩, hS.F ht⟩) hS.2.2 d_md_quote_30
  · skip
    refine lv_iload hx hb d_md_quote_7 (lv_at hl 3 rfl) ?_
    refine lv_bipush (v := 63) hx hb d_md_quote_9 (by decide) ?_
    refine lv_icmp_le hx hb d_md_quote_11 (tgt := 18) (by decide) (fun z => absurd z (mk_0 hm h1)) (fun _ => ?_)
    refine lv_iconst (v := 1) hx hb d_md_quote_14 (by decide) ?_
    refine lv_goto hx hb d_md_quote_15 (tgt := 19) (by decide) ?_
    refine va_put (D := D) (ci := 3) (v := .int (1)) (ty := .int) (C := "MeasuredStagesModel") (T := F_md) (N := 19) hx hb hts (fun w h => List.mem_cons_of_mem _ (i_md w h)) t_md o_md n_md hown hK hP hD hS 0 rfl rfl 18 (by decide) (hT _ tb_477) (fun _ h9 => h9) rfl (by decide +kernel) rfl rfl (Nat.le_of_ble_eq_true rfl) d_md_quote_19 (fun H locs hP hD hS => ?_)
    have hP : va_P D cx (mv ad cs (sg_im u) (sg_ap u) (sg_ag u) (sg_he u) (sg_er u) (sg_ev u) (sg_en u) (sg_ma u) (sg_po u) (sg_se u) (sg_ac u) (sg_fa u) (sg_la u) (sg_st u) (jm_ag j) (jm_de j) (jm_ru j) (jm_nx j) (1)) H := hP
    have hD : va_D A (mv ad cs (sg_im u) (sg_ap u) (sg_ag u) (sg_he u) (sg_er u) (sg_ev u) (sg_en u) (sg_ma u) (sg_po u) (sg_se u) (sg_ac u) (sg_fa u) (sg_la u) (sg_st u) (jm_ag j) (jm_de j) (jm_ru j) (jm_nx j) (1)) := hD
    refine lv_aload_n hx hb d_md_quote_22 rfl (lv_at hl 0 rfl) ?_
    refine va_get (D := D) (ci := 3) (v := .int (1)) (C := "MeasuredStagesModel") (T := F_md) (N := 19) hx hb hts (fun w h => List.mem_cons_of_mem _ (i_md w h)) hown hK hP 0 rfl rfl 18 (by decide) (hT _ tb_477) (fun _ h9 => h9) rfl d_md_quote_23 ?_
    refine lv_if_eq hx hb d_md_quote_26 (tgt := 31) (by decide) (fun z => absurd z (by decide)) (fun _ => ?_)
    refine lv_lconst (v := 0) hx hb d_md_quote_29 (by decide) ?_
    obtain ⟨q3, eq3⟩ : ∃ z : Jm, z = (jm_ag j, jm_de j, jm_ru j, jm_nx j, 1) := ⟨_, rfl⟩
    have hP : va_P D cx (mw ad cs u q3) H := by rw [eq3, mw_j]; exact hP
    have hD : va_D A (mw ad cs u q3) := by rw [eq3, mw_j]; exact hD
    exact W.lret hx hb hret (fun t ht hW => ⟨⟨_, q3, rfl, ⟨rfl, (by subst eq3; rfl)⟩, by rw [ht]; exact hP, va_K.moved hW.alike hK, hD⟩, hS.F ht⟩) hS.2.2 d_md_quote_30
set_option maxHeartbeats 4000000 in
set_option maxRecDepth 100000 in
theorem k_md_replays (l : Launch) (D : va_G) (cs : Nat → ClassId) (ad : Nat → Nat) (sz : Nat) (u : Sg) (j : Jm) (n : Nat) (hok : sp_ok u) (hn32 : n ≤ 32) (hn : sg_en u = nI n) : Met l y_md_replays (Cond.code y_md_replays b_md_replays 3 (some .boolean) :: TB) { frames := 7, cells := 0, slots := 0, locals := 200 } (va_Pc [.ref (ad 0)] (mw_Pre D cs ad u j sz)) (va_Qi (fun (r : Int32) (j1 : Jm) => r = sp_re u ∧ jm_th j1 = 0) (fun (j1 : Jm) t => mw_B D cs ad (va_A (mw ad cs u j) sz) u j1 t) (va_A (mw ad cs u j) sz)) 0 0 (va_A (mw ad cs u j) sz) := by
  refine Met.ofW (cc := b_md_replays) (maxL := 3) (ret := (some .boolean)) (by decide) rfl ?_
  intro p e s m args below meth c s₁ B hml hv
  obtain ⟨rfl, hsz, hP, hK, hD, hN⟩ := hv
  have hx := B.exec
  have hb := B.bytes
  have hret := B.returns
  have hts := atoms_spec (ws := Cond.code y_md_replays b_md_replays 3 (some .boolean) :: TB) B.pre
  have hT : ∀ w ∈ TB, w.before _ s = true := fun w h => hts w (List.mem_cons_of_mem _ h)
  have hown : s.vm.findClass "MeasuredStagesModel" = some m.cls := findClass_of_methodNamed B.named
  have hlocks := B.notSynchronized
  subst hsz
  have hD := hD.self (sz := s.heap.size)
  generalize hAe : va_A (mw ad cs u j) s.heap.size = A at hD ⊢
  have hA : ∀ q : Nat, s.heap.size ≤ q → A q := fun q h => by rw [← hAe]; exact Or.inr h
  have hS : va_S A s.heap s.heap [] := va_S.rf
  have hl := lv_entry ([.ref (ad 0)]) (n := 3) (Nat.le_of_ble_eq_true rfl)
  rw [lg_entry_eq]
  generalize (lg_sl ([.ref (ad 0)]) ++ List.replicate (3 - (lg_sl ([.ref (ad 0)])).length) Slot.unset).toArray = ls at hl ⊢
  have hl : lv_has ls 3 [(0, .ref (ad 0))] := hl
  skip
  refine lv_aload_n hx hb d_md_replays_0 rfl (lv_at hl 0 rfl) ?_
  refine lv_iconst (v := 0) hx hb d_md_replays_1 (by decide) ?_
  refine va_put (D := D) (ci := 3) (v := .int (0)) (ty := .int) (C := "MeasuredStagesModel") (T := F_md) (N := 19) hx hb hts (fun w h => List.mem_cons_of_mem _ (i_md w h)) t_md o_md n_md hown hK hP hD hS 0 rfl rfl 18 (by decide) (hT _ tb_477) (fun _ h9 => h9) rfl (by decide +kernel) rfl rfl (Nat.le_of_ble_eq_true rfl) d_md_replays_2 (fun H locs hP hD hS => ?_)
  have hP : va_P D cx (mv ad cs (sg_im u) (sg_ap u) (sg_ag u) (sg_he u) (sg_er u) (sg_ev u) (sg_en u) (sg_ma u) (sg_po u) (sg_se u) (sg_ac u) (sg_fa u) (sg_la u) (sg_st u) (jm_ag j) (jm_de j) (jm_ru j) (jm_nx j) (0)) H := hP
  have hD : va_D A (mv ad cs (sg_im u) (sg_ap u) (sg_ag u) (sg_he u) (sg_er u) (sg_ev u) (sg_en u) (sg_ma u) (sg_po u) (sg_se u) (sg_ac u) (sg_fa u) (sg_la u) (sg_st u) (jm_ag j) (jm_de j) (jm_ru j) (jm_nx j) (0)) := hD
  refine lv_iconst (v := 0) hx hb d_md_replays_5 (by decide) ?_
  refine lv_istore_n (nL := 3) (lv' := [(1, .int (0)), (0, .ref (ad 0))]) hx hb d_md_replays_6 rfl hl (by decide) rfl (fun ls hl => ?_)
  refine lv_iload_n hx hb d_md_replays_7 rfl (lv_at hl 0 rfl) ?_
  refine lv_bipush (v := 6) hx hb d_md_replays_8 (by decide) ?_
  refine lv_icmp_ge hx hb d_md_replays_10 (tgt := 26) (by decide) (fun z => absurd z (by decide)) (fun _ => ?_)
  refine lv_aload_n hx hb d_md_replays_13 rfl (lv_at hl 1 rfl) ?_
  refine va_get (D := D) (ci := 3) (v := .ref (ad 10)) (C := "MeasuredStagesModel") (T := F_md) (N := 19) hx hb hts (fun w h => List.mem_cons_of_mem _ (i_md w h)) hown hK hP 0 rfl rfl 10 (by decide) (hT _ tb_469) (fun _ h9 => h9) rfl d_md_replays_14 ?_
  refine lv_iload_n hx hb d_md_replays_17 rfl (lv_at hl 0 rfl) ?_
  refine lv_lconst (v := 0) hx hb d_md_replays_18 (by decide) ?_
  refine va_last hx hb hK hP hD hS 10 9 rfl rfl (by unfold vp_in; decide) d_md_replays_19 (fun H locs hP hD hS => ?_)
  have hP : va_P D cx (mv ad cs (sg_im u) (sg_ap u) (sg_ag u) (sg_he u) (sg_er u) (sg_ev u) (sg_en u) (sg_ma u) (sg_po u) (sg_se u) (sg_ac u) (sg_fa u) (sg_la u) (sg_st u) (vp_updL (jm_ag j) (0 : Int32).toNatClampNeg (0)) (jm_de j) (jm_ru j) (jm_nx j) (0)) H := hP
  have hD : va_D A (mv ad cs (sg_im u) (sg_ap u) (sg_ag u) (sg_he u) (sg_er u) (sg_ev u) (sg_en u) (sg_ma u) (sg_po u) (sg_se u) (sg_ac u) (sg_fa u) (sg_la u) (sg_st u) (vp_updL (jm_ag j) (0 : Int32).toNatClampNeg (0)) (jm_de j) (jm_ru j) (jm_nx j) (0)) := hD
  refine lv_iinc (nL := 3) (k := 0) (v := 1) (lv' := [(1, .int (1)), (0, .ref (ad 0))]) hx hb d_md_replays_20 hl rfl (by decide) (by decide) rfl (fun ls hl => ?_)
  refine lv_goto hx hb d_md_replays_23 (tgt := 7) (by decide) ?_
  refine lv_iload_n hx hb d_md_replays_7 rfl (lv_at hl 0 rfl) ?_
  refine lv_bipush (v := 6) hx hb d_md_replays_8 (by decide) ?_
  refine lv_icmp_ge hx hb d_md_replays_10 (tgt := 26) (by decide) (fun z => absurd z (by decide)) (fun _ => ?_)
  refine lv_aload_n hx hb d_md_replays_13 rfl (lv_at hl 1 rfl) ?_
  refine va_get (D := D) (ci := 3) (v := .ref (ad 10)) (C := "MeasuredStagesModel") (T := F_md) (N := 19) hx hb hts (fun w h => List.mem_cons_of_mem _ (i_md w h)) hown hK hP 0 rfl rfl 10 (by decide) (hT _ tb_469) (fun _ h9 => h9) rfl d_md_replays_14 ?_
  refine lv_iload_n hx hb d_md_replays_17 rfl (lv_at hl 0 rfl) ?_
  refine lv_lconst (v := 0) hx hb d_md_replays_18 (by decide) ?_
  refine va_last hx hb hK hP hD hS 10 9 rfl rfl (by unfold vp_in; decide) d_md_replays_19 (fun H locs hP hD hS => ?_)
  have hP : va_P D cx (mv ad cs (sg_im u) (sg_ap u) (sg_ag u) (sg_he u) (sg_er u) (sg_ev u) (sg_en u) (sg_ma u) (sg_po u) (sg_se u) (sg_ac u) (sg_fa u) (sg_la u) (sg_st u) (vp_updL (vp_updL (jm_ag j) (0 : Int32).toNatClampNeg (0)) (1 : Int32).toNatClampNeg (0)) (jm_de j) (jm_ru j) (jm_nx j) (0)) H := hP
  have hD : va_D A (mv ad cs (sg_im u) (sg_ap u) (sg_ag u) (sg_he u) (sg_er u) (sg_ev u) (sg_en u) (sg_ma u) (sg_po u) (sg_se u) (sg_ac u) (sg_fa u) (sg_la u) (sg_st u) (vp_updL (vp_updL (jm_ag j) (0 : Int32).toNatClampNeg (0)) (1 : Int32).toNatClampNeg (0)) (jm_de j) (jm_ru j) (jm_nx j) (0)) := hD
  refine lv_iinc (nL := 3) (k := 0) (v := 2) (lv' := [(1, .int (2)), (0, .ref (ad 0))]) hx hb d_md_replays_20 hl rfl (by decide) (by decide) rfl (fun ls hl => ?_)
  refine lv_goto hx hb d_md_replays_23 (tgt := 7) (by decide) ?_
  refine lv_iload_n hx hb d_md_replays_7 rfl (lv_at hl 0 rfl) ?_
  refine lv_bipush (v := 6) hx hb d_md_replays_8 (by decide) ?_
  refine lv_icmp_ge hx hb d_md_replays_10 (tgt := 26) (by decide) (fun z => absurd z (by decide)) (fun _ => ?_)
  refine lv_aload_n hx hb d_md_replays_13 rfl (lv_at hl 1 rfl) ?_
  refine va_get (D := D) (ci := 3) (v := .ref (ad 10)) (C := "MeasuredStagesModel") (T := F_md) (N := 19) hx hb hts (fun w h => List.mem_cons_of_mem _ (i_md w h)) hown hK hP 0 rfl rfl 10 (by decide) (hT _ tb_469) (fun _ h9 => h9) rfl d_md_replays_14 ?_
  refine lv_iload_n hx hb d_md_replays_17 rfl (lv_at hl 0 rfl) ?_
  refine lv_lconst (v := 0) hx hb d_md_replays_18 (by decide) ?_
  refine va_last hx hb hK hP hD hS 10 9 rfl rfl (by unfold vp_in; decide) d_md_replays_19 (fun H locs hP hD hS => ?_)
  have hP : va_P D cx (mv ad cs (sg_im u) (sg_ap u) (sg_ag u) (sg_he u) (sg_er u) (sg_ev u) (sg_en u) (sg_ma u) (sg_po u) (sg_se u) (sg_ac u) (sg_fa u) (sg_la u) (sg_st u) (vp_updL (vp_updL (vp_updL (jm_ag j) (0 : Int32).toNatClampNeg (0)) (1 : Int32).toNatClampNeg (0)) (2 : Int32).toNatClampNeg (0)) (jm_de j) (jm_ru j) (jm_nx j) (0)) H := hP
  have hD : va_D A (mv ad cs (sg_im u) (sg_ap u) (sg_ag u) (sg_he u) (sg_er u) (sg_ev u) (sg_en u) (sg_ma u) (sg_po u) (sg_se u) (sg_ac u) (sg_fa u) (sg_la u) (sg_st u) (vp_updL (vp_updL (vp_updL (jm_ag j) (0 : Int32).toNatClampNeg (0)) (1 : Int32).toNatClampNeg (0)) (2 : Int32).toNatClampNeg (0)) (jm_de j) (jm_ru j) (jm_nx j) (0)) := hD
  refine lv_iinc (nL := 3) (k := 0) (v := 3) (lv' := [(1, .int (3)), (0, .ref (ad 0))]) hx hb d_md_replays_20 hl rfl (by decide) (by decide) rfl (fun ls hl => ?_)
  refine lv_goto hx hb d_md_replays_23 (tgt := 7) (by decide) ?_
  refine lv_iload_n hx hb d_md_replays_7 rfl (lv_at hl 0 rfl) ?_
  refine lv_bipush (v := 6) hx hb d_md_replays_8 (by decide) ?_
  refine lv_icmp_ge hx hb d_md_replays_10 (tgt := 26) (by decide) (fun z => absurd z (by decide)) (fun _ => ?_)
  refine lv_aload_n hx hb d_md_replays_13 rfl (lv_at hl 1 rfl) ?_
  refine va_get (D := D) (ci := 3) (v := .ref (ad 10)) (C := "MeasuredStagesModel") (T := F_md) (N := 19) hx hb hts (fun w h => List.mem_cons_of_mem _ (i_md w h)) hown hK hP 0 rfl rfl 10 (by decide) (hT _ tb_469) (fun _ h9 => h9) rfl d_md_replays_14 ?_
  refine lv_iload_n hx hb d_md_replays_17 rfl (lv_at hl 0 rfl) ?_
  refine lv_lconst (v := 0) hx hb d_md_replays_18 (by decide) ?_
  refine va_last hx hb hK hP hD hS 10 9 rfl rfl (by unfold vp_in; decide) d_md_replays_19 (fun H locs hP hD hS => ?_)
  have hP : va_P D cx (mv ad cs (sg_im u) (sg_ap u) (sg_ag u) (sg_he u) (sg_er u) (sg_ev u) (sg_en u) (sg_ma u) (sg_po u) (sg_se u) (sg_ac u) (sg_fa u) (sg_la u) (sg_st u) (vp_updL (vp_updL (vp_updL (vp_updL (jm_ag j) (0 : Int32).toNatClampNeg (0)) (1 : Int32).toNatClampNeg (0)) (2 : Int32).toNatClampNeg (0)) (3 : Int32).toNatClampNeg (0)) (jm_de j) (jm_ru j) (jm_nx j) (0)) H := hP
  have hD : va_D A (mv ad cs (sg_im u) (sg_ap u) (sg_ag u) (sg_he u) (sg_er u) (sg_ev u) (sg_en u) (sg_ma u) (sg_po u) (sg_se u) (sg_ac u) (sg_fa u) (sg_la u) (sg_st u) (vp_updL (vp_updL (vp_updL (vp_updL (jm_ag j) (0 : Int32).toNatClampNeg (0)) (1 : Int32).toNatClampNeg (0)) (2 : Int32).toNatClampNeg (0)) (3 : Int32).toNatClampNeg (0)) (jm_de j) (jm_ru j) (jm_nx j) (0)) := hD
  refine lv_iinc (nL := 3) (k := 0) (v := 4) (lv' := [(1, .int (4)), (0, .ref (ad 0))]) hx hb d_md_replays_20 hl rfl (by decide) (by decide) rfl (fun ls hl => ?_)
  refine lv_goto hx hb d_md_replays_23 (tgt := 7) (by decide) ?_
  refine lv_iload_n hx hb d_md_replays_7 rfl (lv_at hl 0 rfl) ?_
  refine lv_bipush (v := 6) hx hb d_md_replays_8 (by decide) ?_
  refine lv_icmp_ge hx hb d_md_replays_10 (tgt := 26) (by decide) (fun z => absurd z (by decide)) (fun _ => ?_)
  refine lv_aload_n hx hb d_md_replays_13 rfl (lv_at hl 1 rfl) ?_
  refine va_get (D := D) (ci := 3) (v := .ref (ad 10)) (C := "MeasuredStagesModel") (T := F_md) (N := 19) hx hb hts (fun w h => List.mem_cons_of_mem _ (i_md w h)) hown hK hP 0 rfl rfl 10 (by decide) (hT _ tb_469) (fun _ h9 => h9) rfl d_md_replays_14 ?_
  refine lv_iload_n hx hb d_md_replays_17 rfl (lv_at hl 0 rfl) ?_
  refine lv_lconst (v := 0) hx hb d_md_replays_18 (by decide) ?_
  refine va_last hx hb hK hP hD hS 10 9 rfl rfl (by unfold vp_in; decide) d_md_replays_19 (fun H locs hP hD hS => ?_)
  have hP : va_P D cx (mv ad cs (sg_im u) (sg_ap u) (sg_ag u) (sg_he u) (sg_er u) (sg_ev u) (sg_en u) (sg_ma u) (sg_po u) (sg_se u) (sg_ac u) (sg_fa u) (sg_la u) (sg_st u) (vp_updL (vp_updL (vp_updL (vp_updL (vp_updL (jm_ag j) (0 : Int32).toNatClampNeg (0)) (1 : Int32).toNatClampNeg (0)) (2 : Int32).toNatClampNeg (0)) (3 : Int32).toNatClampNeg (0)) (4 : Int32).toNatClampNeg (0)) (jm_de j) (jm_ru j) (jm_nx j) (0)) H := hP
  have hD : va_D A (mv ad cs (sg_im u) (sg_ap u) (sg_ag u) (sg_he u) (sg_er u) (sg_ev u) (sg_en u) (sg_ma u) (sg_po u) (sg_se u) (sg_ac u) (sg_fa u) (sg_la u) (sg_st u) (vp_updL (vp_updL (vp_updL (vp_updL (vp_updL (jm_ag j) (0 : Int32).toNatClampNeg (0)) (1 : Int32).toNatClampNeg (0)) (2 : Int32).toNatClampNeg (0)) (3 : Int32).toNatClampNeg (0)) (4 : Int32).toNatClampNeg (0)) (jm_de j) (jm_ru j) (jm_nx j) (0)) := hD
  refine lv_iinc (nL := 3) (k := 0) (v := 5) (lv' := [(1, .int (5)), (0, .ref (ad 0))]) hx hb d_md_replays_20 hl rfl (by decide) (by decide) rfl (fun ls hl => ?_)
  refine lv_goto hx hb d_md_replays_23 (tgt := 7) (by decide) ?_
  refine lv_iload_n hx hb d_md_replays_7 rfl (lv_at hl 0 rfl) ?_
  refine lv_bipush (v := 6) hx hb d_md_replays_8 (by decide) ?_
  refine lv_icmp_ge hx hb d_md_replays_10 (tgt := 26) (by decide) (fun z => absurd z (by decide)) (fun _ => ?_)
  refine lv_aload_n hx hb d_md_replays_13 rfl (lv_at hl 1 rfl) ?_
  refine va_get (D := D) (ci := 3) (v := .ref (ad 10)) (C := "MeasuredStagesModel") (T := F_md) (N := 19) hx hb hts (fun w h => List.mem_cons_of_mem _ (i_md w h)) hown hK hP 0 rfl rfl 10 (by decide) (hT _ tb_469) (fun _ h9 => h9) rfl d_md_replays_14 ?_
  refine lv_iload_n hx hb d_md_replays_17 rfl (lv_at hl 0 rfl) ?_
  refine lv_lconst (v := 0) hx hb d_md_replays_18 (by decide) ?_
  refine va_last hx hb hK hP hD hS 10 9 rfl rfl (by unfold vp_in; decide) d_md_replays_19 (fun H locs hP hD hS => ?_)
  have hP : va_P D cx (mv ad cs (sg_im u) (sg_ap u) (sg_ag u) (sg_he u) (sg_er u) (sg_ev u) (sg_en u) (sg_ma u) (sg_po u) (sg_se u) (sg_ac u) (sg_fa u) (sg_la u) (sg_st u) (vp_updL (vp_updL (vp_updL (vp_updL (vp_updL (vp_updL (jm_ag j) (0 : Int32).toNatClampNeg (0)) (1 : Int32).toNatClampNeg (0)) (2 : Int32).toNatClampNeg (0)) (3 : Int32).toNatClampNeg (0)) (4 : Int32).toNatClampNeg (0)) (5 : Int32).toNatClampNeg (0)) (jm_de j) (jm_ru j) (jm_nx j) (0)) H := hP
  have hD : va_D A (mv ad cs (sg_im u) (sg_ap u) (sg_ag u) (sg_he u) (sg_er u) (sg_ev u) (sg_en u) (sg_ma u) (sg_po u) (sg_se u) (sg_ac u) (sg_fa u) (sg_la u) (sg_st u) (vp_updL (vp_updL (vp_updL (vp_updL (vp_updL (vp_updL (jm_ag j) (0 : Int32).toNatClampNeg (0)) (1 : Int32).toNatClampNeg (0)) (2 : Int32).toNatClampNeg (0)) (3 : Int32).toNatClampNeg (0)) (4 : Int32).toNatClampNeg (0)) (5 : Int32).toNatClampNeg (0)) (jm_de j) (jm_ru j) (jm_nx j) (0)) := hD
  refine lv_iinc (nL := 3) (k := 0) (v := 6) (lv' := [(1, .int (6)), (0, .ref (ad 0))]) hx hb d_md_replays_20 hl rfl (by decide) (by decide) rfl (fun ls hl => ?_)
  refine lv_goto hx hb d_md_replays_23 (tgt := 7) (by decide) ?_
  refine lv_iload_n hx hb d_md_replays_7 rfl (lv_at hl 0 rfl) ?_
  refine lv_bipush (v := 6) hx hb d_md_replays_8 (by decide) ?_
  refine lv_icmp_ge hx hb d_md_replays_10 (tgt := 26) (by decide) (fun _ => ?_) (fun z => absurd (by decide) z)
  refine lv_iconst (v := 0) hx hb d_md_replays_26 (by decide) ?_
  refine lv_istore_n (nL := 3) (lv' := [(1, .int (0)), (0, .ref (ad 0))]) hx hb d_md_replays_27 rfl hl (by decide) rfl (fun ls hl => ?_)
  obtain ⟨q1, eq1⟩ : ∃ z : Jm, z = (vp_updL (vp_updL (vp_updL (vp_updL (vp_updL (vp_updL (jm_ag j) (0 : Int32).toNatClampNeg (0)) (1 : Int32).toNatClampNeg (0)) (2 : Int32).toNatClampNeg (0)) (3 : Int32).toNatClampNeg (0)) (4 : Int32).toNatClampNeg (0)) (5 : Int32).toNatClampNeg (0), jm_de j, jm_ru j, jm_nx j, 0) := ⟨_, rfl⟩
  have hP : va_P D cx (mw ad cs u q1) H := by rw [eq1, mw_j]; exact hP
  have hD : va_D A (mw ad cs u q1) := by rw [eq1, mw_j]; exact hD
  refine wl_up (α := Jm) n (fun r H1 L1 ls a => lv_has ls 3 [(1, .int (nI r)), (0, .ref (ad 0))] ∧ va_P D cx (mw ad cs u a) H1 ∧ va_D A (mw ad cs u a) ∧ va_S A s.heap H1 L1 ∧ (∀ i : Nat, i < 6 → jm_ag a i = sp_ra (sg_er u) (sg_ev u) r i) ∧ jm_th a = 0) 28 ?_ ?_ 0 _ _ ls q1 (Nat.zero_le _) ⟨lv_sub hl [0, 1] rfl, hP, hD, hS, (by subst eq1; exact z6_0 _), (by subst eq1; rfl)⟩
  · intro H L ls q1 hI
    obtain ⟨hl, hP, hD, hS, hra, hth⟩ := hI
    have hra : ∀ i : Nat, i < 6 → jm_ag q1 i = sp_ra (sg_er u) (sg_ev u) (sg_en u).toNatClampNeg i := by rw [hn, nI_clamp (by omega)]; exact hra
    refine lv_iload_n hx hb d_md_replays_28 rfl (lv_at hl 0 rfl) ?_
    refine lv_aload_n hx hb d_md_replays_29 rfl (lv_at hl 1 rfl) ?_
    refine va_get (D := D) (ci := 3) (v := .int (sg_en u)) (C := "MeasuredStagesModel") (T := F_md) (N := 19) hx hb hts (fun w h => List.mem_cons_of_mem _ (i_md w h)) hown hK hP 0 rfl rfl 7 (by decide) (hT _ tb_466) (fun _ h9 => h9) rfl d_md_replays_30 ?_
    refine lv_icmp_ge hx hb d_md_replays_33 (tgt := 73) (by decide) (fun _ => ?_) (fun z => absurd (by rw [hn]; exact nI_le (Nat.le_refl _) (by omega)) z)
    refine lv_iconst (v := 1) hx hb d_md_replays_73 (by decide) ?_
    refine lv_istore_n (nL := 3) (lv' := [(1, .int (1)), (0, .ref (ad 0))]) hx hb d_md_replays_74 rfl hl (by decide) rfl (fun ls hl => ?_)
    refine lv_iconst (v := 0) hx hb d_md_replays_75 (by decide) ?_
    refine lv_istore_n (nL := 3) (lv' := [(2, .int (0)), (1, .int (1)), (0, .ref (ad 0))]) hx hb d_md_replays_76 rfl hl (by decide) rfl (fun ls hl => ?_)
    refine lv_iload_n hx hb d_md_replays_77 rfl (lv_at hl 0 rfl) ?_
    refine lv_bipush (v := 6) hx hb d_md_replays_78 (by decide) ?_
    refine lv_icmp_ge hx hb d_md_replays_80 (tgt := 115) (by decide) (fun z => absurd z (by decide)) (fun _ => ?_)
    refine lv_iload_n hx hb d_md_replays_83 rfl (lv_at hl 1 rfl) ?_
    refine lv_if_eq hx hb d_md_replays_84 (tgt := 107) (by decide) (fun z => absurd z (by decide)) (fun _ => ?_)
    refine lv_aload_n hx hb d_md_replays_87 rfl (lv_at hl 2 rfl) ?_
    refine va_get (D := D) (ci := 3) (v := .ref (ad 10)) (C := "MeasuredStagesModel") (T := F_md) (N := 19) hx hb hts (fun w h => List.mem_cons_of_mem _ (i_md w h)) hown hK hP 0 rfl rfl 10 (by decide) (hT _ tb_469) (fun _ h9 => h9) rfl d_md_replays_88 ?_
    refine lv_iload_n hx hb d_md_replays_91 rfl (lv_at hl 0 rfl) ?_
    refine va_lald hx hb hK hP 10 9 rfl rfl (by unfold vp_in; decide) d_md_replays_92 ?_
    refine lv_aload_n hx hb d_md_replays_93 rfl (lv_at hl 2 rfl) ?_
    refine va_get (D := D) (ci := 3) (v := .ref (ad 1)) (C := "MeasuredStagesModel") (T := F_md) (N := 19) hx hb hts (fun w h => List.mem_cons_of_mem _ (i_md w h)) hown hK hP 0 rfl rfl 0 (by decide) (hT _ tb_459) (fun _ h9 => h9) rfl d_md_replays_94 ?_
    refine lv_iload_n hx hb d_md_replays_97 rfl (lv_at hl 0 rfl) ?_
    refine va_lald hx hb hK hP 1 0 rfl rfl (by unfold vp_in; decide) d_md_replays_98 ?_
    refine W.lcmp hx hb d_md_replays_99 ?_
    refine lv_if_ne hx hb d_md_replays_100 (tgt := 107) (by decide) (fun h2 => ?_) (fun h2 => ?_)
    · skip
      have h2 := mt sp_cmp.mpr h2
      refine lv_iconst (v := 0) hx hb d_md_replays_107 (by decide) ?_
      refine lv_istore_n (nL := 3) (lv' := [(1, .int (0)), (2, .int (0)), (0, .ref (ad 0))]) hx hb d_md_replays_108 rfl hl (by decide) rfl (fun ls hl => ?_)
      refine lv_iinc (nL := 3) (k := 1) (v := 1) (lv' := [(2, .int (1)), (1, .int (0)), (0, .ref (ad 0))]) hx hb d_md_replays_109 hl rfl (by decide) (by decide) rfl (fun ls hl => ?_)
      refine lv_goto hx hb d_md_replays_112 (tgt := 77) (by decide) ?_
      refine lv_iload_n hx hb d_md_replays_77 rfl (lv_at hl 0 rfl) ?_
      refine lv_bipush (v := 6) hx hb d_md_replays_78 (by decide) ?_
      refine lv_icmp_ge hx hb d_md_replays_80 (tgt := 115) (by decide) (fun z => absurd z (by decide)) (fun _ => ?_)
      refine lv_iload_n hx hb d_md_replays_83 rfl (lv_at hl 1 rfl) ?_
      refine lv_if_eq hx hb d_md_replays_84 (tgt := 107) (by decide) (fun _ => ?_) (fun z => absurd (by decide) z)
      refine lv_iconst (v := 0) hx hb d_md_replays_107 (by decide) ?_
      refine lv_istore_n (nL := 3) (lv' := [(1, .int (0)), (2, .int (1)), (0, .ref (ad 0))]) hx hb d_md_replays_108 rfl hl (by decide) rfl (fun ls hl => ?_)
      refine lv_iinc (nL := 3) (k := 1) (v := 2) (lv' := [(2, .int (2)), (1, .int (0)), (0, .ref (ad 0))]) hx hb d_md_replays_109 hl rfl (by decide) (by decide) rfl (fun ls hl => ?_)
      refine lv_goto hx hb d_md_replays_112 (tgt := 77) (by decide) ?_
      refine lv_iload_n hx hb d_md_replays_77 rfl (lv_at hl 0 rfl) ?_
      refine lv_bipush (v := 6) hx hb d_md_replays_78 (by decide) ?_
      refine lv_icmp_ge hx hb d_md_replays_80 (tgt := 115) (by decide) (fun z => absurd z (by decide)) (fun _ => ?_)
      refine lv_iload_n hx hb d_md_replays_83 rfl (lv_at hl 1 rfl) ?_
      refine lv_if_eq hx hb d_md_replays_84 (tgt := 107) (by decide) (fun _ => ?_) (fun z => absurd (by decide) z)
      refine lv_iconst (v := 0) hx hb d_md_replays_107 (by decide) ?_
      refine lv_istore_n (nL := 3) (lv' := [(1, .int (0)), (2, .int (2)), (0, .ref (ad 0))]) hx hb d_md_replays_108 rfl hl (by decide) rfl (fun ls hl => ?_)
      refine lv_iinc (nL := 3) (k := 1) (v := 3) (lv' := [(2, .int (3)), (1, .int (0)), (0, .ref (ad 0))]) hx hb d_md_replays_109 hl rfl (by decide) (by decide) rfl (fun ls hl => ?_)
      refine lv_goto hx hb d_md_replays_112 (tgt := 77) (by decide) ?_
      refine lv_iload_n hx hb d_md_replays_77 rfl (lv_at hl 0 rfl) ?_
      refine lv_bipush (v := 6) hx hb d_md_replays_78 (by decide) ?_
      refine lv_icmp_ge hx hb d_md_replays_80 (tgt := 115) (by decide) (fun z => absurd z (by decide)) (fun _ => ?_)
      refine lv_iload_n hx hb d_md_replays_83 rfl (lv_at hl 1 rfl) ?_
      refine lv_if_eq hx hb d_md_replays_84 (tgt := 107) (by decide) (fun _ => ?_) (fun z => absurd (by decide) z)
      refine lv_iconst (v := 0) hx hb d_md_replays_107 (by decide) ?_
      refine lv_istore_n (nL := 3) (lv' := [(1, .int (0)), (2, .int (3)), (0, .ref (ad 0))]) hx hb d_md_replays_108 rfl hl (by decide) rfl (fun ls hl => ?_)
      refine lv_iinc (nL := 3) (k := 1) (v := 4) (lv' := [(2, .int (4)), (1, .int (0)), (0, .ref (ad 0))]) hx hb d_md_replays_109 hl rfl (by decide) (by decide) rfl (fun ls hl => ?_)
      refine lv_goto hx hb d_md_replays_112 (tgt := 77) (by decide) ?_
      refine lv_iload_n hx hb d_md_replays_77 rfl (lv_at hl 0 rfl) ?_
      refine lv_bipush (v := 6) hx hb d_md_replays_78 (by decide) ?_
      refine lv_icmp_ge hx hb d_md_replays_80 (tgt := 115) (by decide) (fun z => absurd z (by decide)) (fun _ => ?_)
      refine lv_iload_n hx hb d_md_replays_83 rfl (lv_at hl 1 rfl) ?_
      refine lv_if_eq hx hb d_md_replays_84 (tgt := 107) (by decide) (fun _ => ?_) (fun z => absurd (by decide) z)
      refine lv_iconst (v := 0) hx hb d_md_replays_107 (by decide) ?_
      refine lv_istore_n (nL := 3) (lv' := [(1, .int (0)), (2, .int (4)), (0, .ref (ad 0))]) hx hb d_md_replays_108 rfl hl (by decide) rfl (fun ls hl => ?_)
      refine lv_iinc (nL := 3) (k := 1) (v := 5) (lv' := [(2, .int (5)), (1, .int (0)), (0, .ref (ad 0))]) hx hb d_md_replays_109 hl rfl (by decide) (by decide) rfl (fun ls hl => ?_)
      refine lv_goto hx hb d_md_replays_112 (tgt := 77) (by decide) ?_
      refine lv_iload_n hx hb d_md_replays_77 rfl (lv_at hl 0 rfl) ?_
      refine lv_bipush (v := 6) hx hb d_md_replays_78 (by decide) ?_
      refine lv_icmp_ge hx hb d_md_replays_80 (tgt := 115) (by decide) (fun z => absurd z (by decide)) (fun _ => ?_)
      refine lv_iload_n hx hb d_md_replays_83 rfl (lv_at hl 1 rfl) ?_
      refine lv_if_eq hx hb d_md_replays_84 (tgt := 107) (by decide) (fun _ => ?_) (fun z => absurd (by decide) z)
      refine lv_iconst (v := 0) hx hb d_md_replays_107 (by decide) ?_
      refine lv_istore_n (nL := 3) (lv' := [(1, .int (0)), (2, .int (5)), (0, .ref (ad 0))]) hx hb d_md_replays_108 rfl hl (by decide) rfl (fun ls hl => ?_)
      refine lv_iinc (nL := 3) (k := 1) (v := 6) (lv' := [(2, .int (6)), (1, .int (0)), (0, .ref (ad 0))]) hx hb d_md_replays_109 hl rfl (by decide) (by decide) rfl (fun ls hl => ?_)
      refine lv_goto hx hb d_md_replays_112 (tgt := 77) (by decide) ?_
      refine lv_iload_n hx hb d_md_replays_77 rfl (lv_at hl 0 rfl) ?_
      refine lv_bipush (v := 6) hx hb d_md_replays_78 (by decide) ?_
      refine lv_icmp_ge hx hb d_md_replays_80 (tgt := 115) (by decide) (fun _ => ?_) (fun z => absurd (by decide) z)
      refine lv_iload_n hx hb d_md_replays_115 rfl (lv_at hl 1 rfl) ?_
      exact W.zret hx hb hret rfl (fun t ht hW => ⟨⟨_, q1, rfl, ⟨re_0 hra 0 (by decide) (show ¬ jm_ag q1 0 = sg_he u 0 from h2), (by exact hth)⟩, by rw [ht]; exact hP, va_K.moved hW.alike hK, hD⟩, hS.F ht⟩) hS.2.2 d_md_replays_116
    · skip
      have h2 := sp_cmp.mp h2
      refine lv_iconst (v := 1) hx hb d_md_replays_103 (by decide) ?_
      refine lv_goto hx hb d_md_replays_104 (tgt := 108) (by decide) ?_
      refine lv_istore_n (nL := 3) (lv' := [(1, .int (1)), (2, .int (0)), (0, .ref (ad 0))]) hx hb d_md_replays_108 rfl hl (by decide) rfl (fun ls hl => ?_)
      refine lv_iinc (nL := 3) (k := 1) (v := 1) (lv' := [(2, .int (1)), (1, .int (1)), (0, .ref (ad 0))]) hx hb d_md_replays_109 hl rfl (by decide) (by decide) rfl (fun ls hl => ?_)
      refine lv_goto hx hb d_md_replays_112 (tgt := 77) (by decide) ?_
      refine lv_iload_n hx hb d_md_replays_77 rfl (lv_at hl 0 rfl) ?_
      refine lv_bipush (v := 6) hx hb d_md_replays_78 (by decide) ?_
      refine lv_icmp_ge hx hb d_md_replays_80 (tgt := 115) (by decide) (fun z => absurd z (by decide)) (fun _ => ?_)
      refine lv_iload_n hx hb d_md_replays_83 rfl (lv_at hl 1 rfl) ?_
      refine lv_if_eq hx hb d_md_replays_84 (tgt := 107) (by decide) (fun z => absurd z (by decide)) (fun _ => ?_)
      refine lv_aload_n hx hb d_md_replays_87 rfl (lv_at hl 2 rfl) ?_
      refine va_get (D := D) (ci := 3) (v := .ref (ad 10)) (C := "MeasuredStagesModel") (T := F_md) (N := 19) hx hb hts (fun w h => List.mem_cons_of_mem _ (i_md w h)) hown hK hP 0 rfl rfl 10 (by decide) (hT _ tb_469) (fun _ h9 => h9) rfl d_md_replays_88 ?_
      refine lv_iload_n hx hb d_md_replays_91 rfl (lv_at hl 0 rfl) ?_
      refine va_lald hx hb hK hP 10 9 rfl rfl (by unfold vp_in; decide) d_md_replays_92 ?_
      refine lv_aload_n hx hb d_md_replays_93 rfl (lv_at hl 2 rfl) ?_
      refine va_get (D := D) (ci := 3) (v := .ref (ad 1)) (C := "MeasuredStagesModel") (T := F_md) (N := 19) hx hb hts (fun w h => List.mem_cons_of_mem _ (i_md w h)) hown hK hP 0 rfl rfl 0 (by decide) (hT _ tb_459) (fun _ h9 => h9) rfl d_md_replays_94 ?_
      refine lv_iload_n hx hb d_md_replays_97 rfl (lv_at hl 0 rfl) ?_
      refine va_lald hx hb hK hP 1 0 rfl rfl (by unfold vp_in; decide) d_md_replays_98 ?_
      refine W.lcmp hx hb d_md_replays_99 ?_
      refine lv_if_ne hx hb d_md_replays_100 (tgt := 107) (by decide) (fun h3 => ?_) (fun h3 => ?_)
      · skip
        have h3 := mt sp_cmp.mpr h3
        refine lv_iconst (v := 0) hx hb d_md_replays_107 (by decide) ?_
        refine lv_istore_n (nL := 3) (lv' := [(1, .int (0)), (2, .int (1)), (0, .ref (ad 0))]) hx hb d_md_replays_108 rfl hl (by decide) rfl (fun ls hl => ?_)
        refine lv_iinc (nL := 3) (k := 1) (v := 2) (lv' := [(2, .int (2)), (1, .int (0)), (0, .ref (ad 0))]) hx hb d_md_replays_109 hl rfl (by decide) (by decide) rfl (fun ls hl => ?_)
        refine lv_goto hx hb d_md_replays_112 (tgt := 77) (by decide) ?_
        refine lv_iload_n hx hb d_md_replays_77 rfl (lv_at hl 0 rfl) ?_
        refine lv_bipush (v := 6) hx hb d_md_replays_78 (by decide) ?_
        refine lv_icmp_ge hx hb d_md_replays_80 (tgt := 115) (by decide) (fun z => absurd z (by decide)) (fun _ => ?_)
        refine lv_iload_n hx hb d_md_replays_83 rfl (lv_at hl 1 rfl) ?_
        refine lv_if_eq hx hb d_md_replays_84 (tgt := 107) (by decide) (fun _ => ?_) (fun z => absurd (by decide) z)
        refine lv_iconst (v := 0) hx hb d_md_replays_107 (by decide) ?_
        refine lv_istore_n (nL := 3) (lv' := [(1, .int (0)), (2, .int (2)), (0, .ref (ad 0))]) hx hb d_md_replays_108 rfl hl (by decide) rfl (fun ls hl => ?_)
        refine lv_iinc (nL := 3) (k := 1) (v := 3) (lv' := [(2, .int (3)), (1, .int (0)), (0, .ref (ad 0))]) hx hb d_md_replays_109 hl rfl (by decide) (by decide) rfl (fun ls hl => ?_)
        refine lv_goto hx hb d_md_replays_112 (tgt := 77) (by decide) ?_
        refine lv_iload_n hx hb d_md_replays_77 rfl (lv_at hl 0 rfl) ?_
        refine lv_bipush (v := 6) hx hb d_md_replays_78 (by decide) ?_
        refine lv_icmp_ge hx hb d_md_replays_80 (tgt := 115) (by decide) (fun z => absurd z (by decide)) (fun _ => ?_)
        refine lv_iload_n hx hb d_md_replays_83 rfl (lv_at hl 1 rfl) ?_
        refine lv_if_eq hx hb d_md_replays_84 (tgt := 107) (by decide) (fun _ => ?_) (fun z => absurd (by decide) z)
        refine lv_iconst (v := 0) hx hb d_md_replays_107 (by decide) ?_
        refine lv_istore_n (nL := 3) (lv' := [(1, .int (0)), (2, .int (3)), (0, .ref (ad 0))]) hx hb d_md_replays_108 rfl hl (by decide) rfl (fun ls hl => ?_)
        refine lv_iinc (nL := 3) (k := 1) (v := 4) (lv' := [(2, .int (4)), (1, .int (0)), (0, .ref (ad 0))]) hx hb d_md_replays_109 hl rfl (by decide) (by decide) rfl (fun ls hl => ?_)
        refine lv_goto hx hb d_md_replays_112 (tgt := 77) (by decide) ?_
        refine lv_iload_n hx hb d_md_replays_77 rfl (lv_at hl 0 rfl) ?_
        refine lv_bipush (v := 6) hx hb d_md_replays_78 (by decide) ?_
        refine lv_icmp_ge hx hb d_md_replays_80 (tgt := 115) (by decide) (fun z => absurd z (by decide)) (fun _ => ?_)
        refine lv_iload_n hx hb d_md_replays_83 rfl (lv_at hl 1 rfl) ?_
        refine lv_if_eq hx hb d_md_replays_84 (tgt := 107) (by decide) (fun _ => ?_) (fun z => absurd (by decide) z)
        refine lv_iconst (v := 0) hx hb d_md_replays_107 (by decide) ?_
        refine lv_istore_n (nL := 3) (lv' := [(1, .int (0)), (2, .int (4)), (0, .ref (ad 0))]) hx hb d_md_replays_108 rfl hl (by decide) rfl (fun ls hl => ?_)
        refine lv_iinc (nL := 3) (k := 1) (v := 5) (lv' := [(2, .int (5)), (1, .int (0)), (0, .ref (ad 0))]) hx hb d_md_replays_109 hl rfl (by decide) (by decide) rfl (fun ls hl => ?_)
        refine lv_goto hx hb d_md_replays_112 (tgt := 77) (by decide) ?_
        refine lv_iload_n hx hb d_md_replays_77 rfl (lv_at hl 0 rfl) ?_
        refine lv_bipush (v := 6) hx hb d_md_replays_78 (by decide) ?_
        refine lv_icmp_ge hx hb d_md_replays_80 (tgt := 115) (by decide) (fun z => absurd z (by decide)) (fun _ => ?_)
        refine lv_iload_n hx hb d_md_replays_83 rfl (lv_at hl 1 rfl) ?_
        refine lv_if_eq hx hb d_md_replays_84 (tgt := 107) (by decide) (fun _ => ?_) (fun z => absurd (by decide) z)
        refine lv_iconst (v := 0) hx hb d_md_replays_107 (by decide) ?_
        refine lv_istore_n (nL := 3) (lv' := [(1, .int (0)), (2, .int (5)), (0, .ref (ad 0))]) hx hb d_md_replays_108 rfl hl (by decide) rfl (fun ls hl => ?_)
        refine lv_iinc (nL := 3) (k := 1) (v := 6) (lv' := [(2, .int (6)), (1, .int (0)), (0, .ref (ad 0))]) hx hb d_md_replays_109 hl rfl (by decide) (by decide) rfl (fun ls hl => ?_)
        refine lv_goto hx hb d_md_replays_112 (tgt := 77) (by decide) ?_
        refine lv_iload_n hx hb d_md_replays_77 rfl (lv_at hl 0 rfl) ?_
        refine lv_bipush (v := 6) hx hb d_md_replays_78 (by decide) ?_
        refine lv_icmp_ge hx hb d_md_replays_80 (tgt := 115) (by decide) (fun _ => ?_) (fun z => absurd (by decide) z)
        refine lv_iload_n hx hb d_md_replays_115 rfl (lv_at hl 1 rfl) ?_
        exact W.zret hx hb hret rfl (fun t ht hW => ⟨⟨_, q1, rfl, ⟨re_0 hra 1 (by decide) (show ¬ jm_ag q1 1 = sg_he u 1 from h3), (by exact hth)⟩, by rw [ht]; exact hP, va_K.moved hW.alike hK, hD⟩, hS.F ht⟩) hS.2.2 d_md_replays_116
      · skip
        have h3 := sp_cmp.mp h3
        refine lv_iconst (v := 1) hx hb d_md_replays_103 (by decide) ?_
        refine lv_goto hx hb d_md_replays_104 (tgt := 108) (by decide) ?_
        refine lv_istore_n (nL := 3) (lv' := [(1, .int (1)), (2, .int (1)), (0, .ref (ad 0))]) hx hb d_md_replays_108 rfl hl (by decide) rfl (fun ls hl => ?_)
        refine lv_iinc (nL := 3) (k := 1) (v := 2) (lv' := [(2, .int (2)), (1, .int (1)), (0, .ref (ad 0))]) hx hb d_md_replays_109 hl rfl (by decide) (by decide) rfl (fun ls hl => ?_)
        refine lv_goto hx hb d_md_replays_112 (tgt := 77) (by decide) ?_
        refine lv_iload_n hx hb d_md_replays_77 rfl (lv_at hl 0 rfl) ?_
        refine lv_bipush (v := 6) hx hb d_md_replays_78 (by decide) ?_
        refine lv_icmp_ge hx hb d_md_replays_80 (tgt := 115) (by decide) (fun z => absurd z (by decide)) (fun _ => ?_)
        refine lv_iload_n hx hb d_md_replays_83 rfl (lv_at hl 1 rfl) ?_
        refine lv_if_eq hx hb d_md_replays_84 (tgt := 107) (by decide) (fun z => absurd z (by decide)) (fun _ => ?_)
        refine lv_aload_n hx hb d_md_replays_87 rfl (lv_at hl 2 rfl) ?_
        refine va_get (D := D) (ci := 3) (v := .ref (ad 10)) (C := "MeasuredStagesModel") (T := F_md) (N := 19) hx hb hts (fun w h => List.mem_cons_of_mem _ (i_md w h)) hown hK hP 0 rfl rfl 10 (by decide) (hT _ tb_469) (fun _ h9 => h9) rfl d_md_replays_88 ?_
        refine lv_iload_n hx hb d_md_replays_91 rfl (lv_at hl 0 rfl) ?_
        refine va_lald hx hb hK hP 10 9 rfl rfl (by unfold vp_in; decide) d_md_replays_92 ?_
        refine lv_aload_n hx hb d_md_replays_93 rfl (lv_at hl 2 rfl) ?_
        refine va_get (D := D) (ci := 3) (v := .ref (ad 1)) (C := "MeasuredStagesModel") (T := F_md) (N := 19) hx hb hts (fun w h => List.mem_cons_of_mem _ (i_md w h)) hown hK hP 0 rfl rfl 0 (by decide) (hT _ tb_459) (fun _ h9 => h9) rfl d_md_replays_94 ?_
        refine lv_iload_n hx hb d_md_replays_97 rfl (lv_at hl 0 rfl) ?_
        refine va_lald hx hb hK hP 1 0 rfl rfl (by unfold vp_in; decide) d_md_replays_98 ?_
        refine W.lcmp hx hb d_md_replays_99 ?_
        refine lv_if_ne hx hb d_md_replays_100 (tgt := 107) (by decide) (fun h4 => ?_) (fun h4 => ?_)
        · skip
          have h4 := mt sp_cmp.mpr h4
          refine lv_iconst (v := 0) hx hb d_md_replays_107 (by decide) ?_
          refine lv_istore_n (nL := 3) (lv' := [(1, .int (0)), (2, .int (2)), (0, .ref (ad 0))]) hx hb d_md_replays_108 rfl hl (by decide) rfl (fun ls hl => ?_)
          refine lv_iinc (nL := 3) (k := 1) (v := 3) (lv' := [(2, .int (3)), (1, .int (0)), (0, .ref (ad 0))]) hx hb d_md_replays_109 hl rfl (by decide) (by decide) rfl (fun ls hl => ?_)
          refine lv_goto hx hb d_md_replays_112 (tgt := 77) (by decide) ?_
          refine lv_iload_n hx hb d_md_replays_77 rfl (lv_at hl 0 rfl) ?_
          refine lv_bipush (v := 6) hx hb d_md_replays_78 (by decide) ?_
          refine lv_icmp_ge hx hb d_md_replays_80 (tgt := 115) (by decide) (fun z => absurd z (by decide)) (fun _ => ?_)
          refine lv_iload_n hx hb d_md_replays_83 rfl (lv_at hl 1 rfl) ?_
          refine lv_if_eq hx hb d_md_replays_84 (tgt := 107) (by decide) (fun _ => ?_) (fun z => absurd (by decide) z)
          refine lv_iconst (v := 0) hx hb d_md_replays_107 (by decide) ?_
          refine lv_istore_n (nL := 3) (lv' := [(1, .int (0)), (2, .int (3)), (0, .ref (ad 0))]) hx hb d_md_replays_108 rfl hl (by decide) rfl (fun ls hl => ?_)
          refine lv_iinc (nL := 3) (k := 1) (v := 4) (lv' := [(2, .int (4)), (1, .int (0)), (0, .ref (ad 0))]) hx hb d_md_replays_109 hl rfl (by decide) (by decide) rfl (fun ls hl => ?_)
          refine lv_goto hx hb d_md_replays_112 (tgt := 77) (by decide) ?_
          refine lv_iload_n hx hb d_md_replays_77 rfl (lv_at hl 0 rfl) ?_
          refine lv_bipush (v := 6) hx hb d_md_replays_78 (by decide) ?_
          refine lv_icmp_ge hx hb d_md_replays_80 (tgt := 115) (by decide) (fun z => absurd z (by decide)) (fun _ => ?_)
          refine lv_iload_n hx hb d_md_replays_83 rfl (lv_at hl 1 rfl) ?_
          refine lv_if_eq hx hb d_md_replays_84 (tgt := 107) (by decide) (fun _ => ?_) (fun z => absurd (by decide) z)
          refine lv_iconst (v := 0) hx hb d_md_replays_107 (by decide) ?_
          refine lv_istore_n (nL := 3) (lv' := [(1, .int (0)), (2, .int (4)), (0, .ref (ad 0))]) hx hb d_md_replays_108 rfl hl (by decide) rfl (fun ls hl => ?_)
          refine lv_iinc (nL := 3) (k := 1) (v := 5) (lv' := [(2, .int (5)), (1, .int (0)), (0, .ref (ad 0))]) hx hb d_md_replays_109 hl rfl (by decide) (by decide) rfl (fun ls hl => ?_)
          refine lv_goto hx hb d_md_replays_112 (tgt := 77) (by decide) ?_
          refine lv_iload_n hx hb d_md_replays_77 rfl (lv_at hl 0 rfl) ?_
          refine lv_bipush (v := 6) hx hb d_md_replays_78 (by decide) ?_
          refine lv_icmp_ge hx hb d_md_replays_80 (tgt := 115) (by decide) (fun z => absurd z (by decide)) (fun _ => ?_)
          refine lv_iload_n hx hb d_md_replays_83 rfl (lv_at hl 1 rfl) ?_
          refine lv_if_eq hx hb d_md_replays_84 (tgt := 107) (by decide) (fun _ => ?_) (fun z => absurd (by decide) z)
          refine lv_iconst (v := 0) hx hb d_md_replays_107 (by decide) ?_
          refine lv_istore_n (nL := 3) (lv' := [(1, .int (0)), (2, .int (5)), (0, .ref (ad 0))]) hx hb d_md_replays_108 rfl hl (by decide) rfl (fun ls hl => ?_)
          refine lv_iinc (nL := 3) (k := 1) (v := 6) (lv' := [(2, .int (6)), (1, .int (0)), (0, .ref (ad 0))]) hx hb d_md_replays_109 hl rfl (by decide) (by decide) rfl (fun ls hl => ?_)
          refine lv_goto hx hb d_md_replays_112 (tgt := 77) (by decide) ?_
          refine lv_iload_n hx hb d_md_replays_77 rfl (lv_at hl 0 rfl) ?_
          refine lv_bipush (v := 6) hx hb d_md_replays_78 (by decide) ?_
          refine lv_icmp_ge hx hb d_md_replays_80 (tgt := 115) (by decide) (fun _ => ?_) (fun z => absurd (by decide) z)
          refine lv_iload_n hx hb d_md_replays_115 rfl (lv_at hl 1 rfl) ?_
          exact W.zret hx hb hret rfl (fun t ht hW => ⟨⟨_, q1, rfl, ⟨re_0 hra 2 (by decide) (show ¬ jm_ag q1 2 = sg_he u 2 from h4), (by exact hth)⟩, by rw [ht]; exact hP, va_K.moved hW.alike hK, hD⟩, hS.F ht⟩) hS.2.2 d_md_replays_116
        · skip
          have h4 := sp_cmp.mp h4
          refine lv_iconst (v := 1) hx hb d_md_replays_103 (by decide) ?_
          refine lv_goto hx hb d_md_replays_104 (tgt := 108) (by decide) ?_
          refine lv_istore_n (nL := 3) (lv' := [(1, .int (1)), (2, .int (2)), (0, .ref (ad 0))]) hx hb d_md_replays_108 rfl hl (by decide) rfl (fun ls hl => ?_)
          refine lv_iinc (nL := 3) (k := 1) (v := 3) (lv' := [(2, .int (3)), (1, .int (1)), (0, .ref (ad 0))]) hx hb d_md_replays_109 hl rfl (by decide) (by decide) rfl (fun ls hl => ?_)
          refine lv_goto hx hb d_md_replays_112 (tgt := 77) (by decide) ?_
          refine lv_iload_n hx hb d_md_replays_77 rfl (lv_at hl 0 rfl) ?_
          refine lv_bipush (v := 6) hx hb d_md_replays_78 (by decide) ?_
          refine lv_icmp_ge hx hb d_md_replays_80 (tgt := 115) (by decide) (fun z => absurd z (by decide)) (fun _ => ?_)
          refine lv_iload_n hx hb d_md_replays_83 rfl (lv_at hl 1 rfl) ?_
          refine lv_if_eq hx hb d_md_replays_84 (tgt := 107) (by decide) (fun z => absurd z (by decide)) (fun _ => ?_)
          refine lv_aload_n hx hb d_md_replays_87 rfl (lv_at hl 2 rfl) ?_
          refine va_get (D := D) (ci := 3) (v := .ref (ad 10)) (C := "MeasuredStagesModel") (T := F_md) (N := 19) hx hb hts (fun w h => List.mem_cons_of_mem _ (i_md w h)) hown hK hP 0 rfl rfl 10 (by decide) (hT _ tb_469) (fun _ h9 => h9) rfl d_md_replays_88 ?_
          refine lv_iload_n hx hb d_md_replays_91 rfl (lv_at hl 0 rfl) ?_
          refine va_lald hx hb hK hP 10 9 rfl rfl (by unfold vp_in; decide) d_md_replays_92 ?_
          refine lv_aload_n hx hb d_md_replays_93 rfl (lv_at hl 2 rfl) ?_
          refine va_get (D := D) (ci := 3) (v := .ref (ad 1)) (C := "MeasuredStagesModel") (T := F_md) (N := 19) hx hb hts (fun w h => List.mem_cons_of_mem _ (i_md w h)) hown hK hP 0 rfl rfl 0 (by decide) (hT _ tb_459) (fun _ h9 => h9) rfl d_md_replays_94 ?_
          refine lv_iload_n hx hb d_md_replays_97 rfl (lv_at hl 0 rfl) ?_
          refine va_lald hx hb hK hP 1 0 rfl rfl (by unfold vp_in; decide) d_md_replays_98 ?_
          refine W.lcmp hx hb d_md_replays_99 ?_
          refine lv_if_ne hx hb d_md_replays_100 (tgt := 107) (by decide) (fun h5 => ?_) (fun h5 => ?_)
          · skip
            have h5 := mt sp_cmp.mpr h5
            refine lv_iconst (v := 0) hx hb d_md_replays_107 (by decide) ?_
            refine lv_istore_n (nL := 3) (lv' := [(1, .int (0)), (2, .int (3)), (0, .ref (ad 0))]) hx hb d_md_replays_108 rfl hl (by decide) rfl (fun ls hl => ?_)
            refine lv_iinc (nL := 3) (k := 1) (v := 4) (lv' := [(2, .int (4)), (1, .int (0)), (0, .ref (ad 0))]) hx hb d_md_replays_109 hl rfl (by decide) (by decide) rfl (fun ls hl => ?_)
            refine lv_goto hx hb d_md_replays_112 (tgt := 77) (by decide) ?_
            refine lv_iload_n hx hb d_md_replays_77 rfl (lv_at hl 0 rfl) ?_
            refine lv_bipush (v := 6) hx hb d_md_replays_78 (by decide) ?_
            refine lv_icmp_ge hx hb d_md_replays_80 (tgt := 115) (by decide) (fun z => absurd z (by decide)) (fun _ => ?_)
            refine lv_iload_n hx hb d_md_replays_83 rfl (lv_at hl 1 rfl) ?_
            refine lv_if_eq hx hb d_md_replays_84 (tgt := 107) (by decide) (fun _ => ?_) (fun z => absurd (by decide) z)
            refine lv_iconst (v := 0) hx hb d_md_replays_107 (by decide) ?_
            refine lv_istore_n (nL := 3) (lv' := [(1, .int (0)), (2, .int (4)), (0, .ref (ad 0))]) hx hb d_md_replays_108 rfl hl (by decide) rfl (fun ls hl => ?_)
            refine lv_iinc (nL := 3) (k := 1) (v := 5) (lv' := [(2, .int (5)), (1, .int (0)), (0, .ref (ad 0))]) hx hb d_md_replays_109 hl rfl (by decide) (by decide) rfl (fun ls hl => ?_)
            refine lv_goto hx hb d_md_replays_112 (tgt := 77) (by decide) ?_
            refine lv_iload_n hx hb d_md_replays_77 rfl (lv_at hl 0 rfl) ?_
            refine lv_bipush (v := 6) hx hb d_md_replays_78 (by decide) ?_
            refine lv_icmp_ge hx hb d_md_replays_80 (tgt := 115) (by decide) (fun z => absurd z (by decide)) (fun _ => ?_)
            refine lv_iload_n hx hb d_md_replays_83 rfl (lv_at hl 1 rfl) ?_
            refine lv_if_eq hx hb d_md_replays_84 (tgt := 107) (by decide) (fun _ => ?_) (fun z => absurd (by decide) z)
            refine lv_iconst (v := 0) hx hb d_md_replays_107 (by decide) ?_
            refine lv_istore_n (nL := 3) (lv' := [(1, .int (0)), (2, .int (5)), (0, .ref (ad 0))]) hx hb d_md_replays_108 rfl hl (by decide) rfl (fun ls hl => ?_)
            refine lv_iinc (nL := 3) (k := 1) (v := 6) (lv' := [(2, .int (6)), (1, .int (0)), (0, .ref (ad 0))]) hx hb d_md_replays_109 hl rfl (by decide) (by decide) rfl (fun ls hl => ?_)
            refine lv_goto hx hb d_md_replays_112 (tgt := 77) (by decide) ?_
            refine lv_iload_n hx hb d_md_replays_77 rfl (lv_at hl 0 rfl) ?_
            refine lv_bipush (v := 6) hx hb d_md_replays_78 (by decide) ?_
            refine lv_icmp_ge hx hb d_md_replays_80 (tgt := 115) (by decide) (fun _ => ?_) (fun z => absurd (by decide) z)
            refine lv_iload_n hx hb d_md_replays_115 rfl (lv_at hl 1 rfl) ?_
            exact W.zret hx hb hret rfl (fun t ht hW => ⟨⟨_, q1, rfl, ⟨re_0 hra 3 (by decide) (show ¬ jm_ag q1 3 = sg_he u 3 from h5), (by exact hth)⟩, by rw [ht]; exact hP, va_K.moved hW.alike hK, hD⟩, hS.F ht⟩) hS.2.2 d_md_replays_116
          · skip
            have h5 := sp_cmp.mp h5
            refine lv_iconst (v := 1) hx hb d_md_replays_103 (by decide) ?_
            refine lv_goto hx hb d_md_replays_104 (tgt := 108) (by decide) ?_
            refine lv_istore_n (nL := 3) (lv' := [(1, .int (1)), (2, .int (3)), (0, .ref (ad 0))]) hx hb d_md_replays_108 rfl hl (by decide) rfl (fun ls hl => ?_)
            refine lv_iinc (nL := 3) (k := 1) (v := 4) (lv' := [(2, .int (4)), (1, .int (1)), (0, .ref (ad 0))]) hx hb d_md_replays_109 hl rfl (by decide) (by decide) rfl (fun ls hl => ?_)
            refine lv_goto hx hb d_md_replays_112 (tgt := 77) (by decide) ?_
            refine lv_iload_n hx hb d_md_replays_77 rfl (lv_at hl 0 rfl) ?_
            refine lv_bipush (v := 6) hx hb d_md_replays_78 (by decide) ?_
            refine lv_icmp_ge hx hb d_md_replays_80 (tgt := 115) (by decide) (fun z => absurd z (by decide)) (fun _ => ?_)
            refine lv_iload_n hx hb d_md_replays_83 rfl (lv_at hl 1 rfl) ?_
            refine lv_if_eq hx hb d_md_replays_84 (tgt := 107) (by decide) (fun z => absurd z (by decide)) (fun _ => ?_)
            refine lv_aload_n hx hb d_md_replays_87 rfl (lv_at hl 2 rfl) ?_
            refine va_get (D := D) (ci := 3) (v := .ref (ad 10)) (C := "MeasuredStagesModel") (T := F_md) (N := 19) hx hb hts (fun w h => List.mem_cons_of_mem _ (i_md w h)) hown hK hP 0 rfl rfl 10 (by decide) (hT _ tb_469) (fun _ h9 => h9) rfl d_md_replays_88 ?_
            refine lv_iload_n hx hb d_md_replays_91 rfl (lv_at hl 0 rfl) ?_
            refine va_lald hx hb hK hP 10 9 rfl rfl (by unfold vp_in; decide) d_md_replays_92 ?_
            refine lv_aload_n hx hb d_md_replays_93 rfl (lv_at hl 2 rfl) ?_
            refine va_get (D := D) (ci := 3) (v := .ref (ad 1)) (C := "MeasuredStagesModel") (T := F_md) (N := 19) hx hb hts (fun w h => List.mem_cons_of_mem _ (i_md w h)) hown hK hP 0 rfl rfl 0 (by decide) (hT _ tb_459) (fun _ h9 => h9) rfl d_md_replays_94 ?_
            refine lv_iload_n hx hb d_md_replays_97 rfl (lv_at hl 0 rfl) ?_
            refine va_lald hx hb hK hP 1 0 rfl rfl (by unfold vp_in; decide) d_md_replays_98 ?_
            refine W.lcmp hx hb d_md_replays_99 ?_
            refine lv_if_ne hx hb d_md_replays_100 (tgt := 107) (by decide) (fun h6 => ?_) (fun h6 => ?_)
            · skip
              have h6 := mt sp_cmp.mpr h6
              refine lv_iconst (v := 0) hx hb d_md_replays_107 (by decide) ?_
              refine lv_istore_n (nL := 3) (lv' := [(1, .int (0)), (2, .int (4)), (0, .ref (ad 0))]) hx hb d_md_replays_108 rfl hl (by decide) rfl (fun ls hl => ?_)
              refine lv_iinc (nL := 3) (k := 1) (v := 5) (lv' := [(2, .int (5)), (1, .int (0)), (0, .ref (ad 0))]) hx hb d_md_replays_109 hl rfl (by decide) (by decide) rfl (fun ls hl => ?_)
              refine lv_goto hx hb d_md_replays_112 (tgt := 77) (by decide) ?_
              refine lv_iload_n hx hb d_md_replays_77 rfl (lv_at hl 0 rfl) ?_
              refine lv_bipush (v := 6) hx hb d_md_replays_78 (by decide) ?_
              refine lv_icmp_ge hx hb d_md_replays_80 (tgt := 115) (by decide) (fun z => absurd z (by decide)) (fun _ => ?_)
              refine lv_iload_n hx hb d_md_replays_83 rfl (lv_at hl 1 rfl) ?_
              refine lv_if_eq hx hb d_md_replays_84 (tgt := 107) (by decide) (fun _ => ?_) (fun z => absurd (by decide) z)
              refine lv_iconst (v := 0) hx hb d_md_replays_107 (by decide) ?_
              refine lv_istore_n (nL := 3) (lv' := [(1, .int (0)), (2, .int (5)), (0, .ref (ad 0))]) hx hb d_md_replays_108 rfl hl (by decide) rfl (fun ls hl => ?_)
              refine lv_iinc (nL := 3) (k := 1) (v := 6) (lv' := [(2, .int (6)), (1, .int (0)), (0, .ref (ad 0))]) hx hb d_md_replays_109 hl rfl (by decide) (by decide) rfl (fun ls hl => ?_)
              refine lv_goto hx hb d_md_replays_112 (tgt := 77) (by decide) ?_
              refine lv_iload_n hx hb d_md_replays_77 rfl (lv_at hl 0 rfl) ?_
              refine lv_bipush (v := 6) hx hb d_md_replays_78 (by decide) ?_
              refine lv_icmp_ge hx hb d_md_replays_80 (tgt := 115) (by decide) (fun _ => ?_) (fun z => absurd (by decide) z)
              refine lv_iload_n hx hb d_md_replays_115 rfl (lv_at hl 1 rfl) ?_
              exact W.zret hx hb hret rfl (fun t ht hW => ⟨⟨_, q1, rfl, ⟨re_0 hra 4 (by decide) (show ¬ jm_ag q1 4 = sg_he u 4 from h6), (by exact hth)⟩, by rw [ht]; exact hP, va_K.moved hW.alike hK, hD⟩, hS.F ht⟩) hS.2.2 d_md_replays_116
            · skip
              have h6 := sp_cmp.mp h6
              refine lv_iconst (v := 1) hx hb d_md_replays_103 (by decide) ?_
              refine lv_goto hx hb d_md_replays_104 (tgt := 108) (by decide) ?_
              refine lv_istore_n (nL := 3) (lv' := [(1, .int (1)), (2, .int (4)), (0, .ref (ad 0))]) hx hb d_md_replays_108 rfl hl (by decide) rfl (fun ls hl => ?_)
              refine lv_iinc (nL := 3) (k := 1) (v := 5) (lv' := [(2, .int (5)), (1, .int (1)), (0, .ref (ad 0))]) hx hb d_md_replays_109 hl rfl (by decide) (by decide) rfl (fun ls hl => ?_)
              refine lv_goto hx hb d_md_replays_112 (tgt := 77) (by decide) ?_
              refine lv_iload_n hx hb d_md_replays_77 rfl (lv_at hl 0 rfl) ?_
              refine lv_bipush (v := 6) hx hb d_md_replays_78 (by decide) ?_
              refine lv_icmp_ge hx hb d_md_replays_80 (tgt := 115) (by decide) (fun z => absurd z (by decide)) (fun _ => ?_)
              refine lv_iload_n hx hb d_md_replays_83 rfl (lv_at hl 1 rfl) ?_
              refine lv_if_eq hx hb d_md_replays_84 (tgt := 107) (by decide) (fun z => absurd z (by decide)) (fun _ => ?_)
              refine lv_aload_n hx hb d_md_replays_87 rfl (lv_at hl 2 rfl) ?_
              refine va_get (D := D) (ci := 3) (v := .ref (ad 10)) (C := "MeasuredStagesModel") (T := F_md) (N := 19) hx hb hts (fun w h => List.mem_cons_of_mem _ (i_md w h)) hown hK hP 0 rfl rfl 10 (by decide) (hT _ tb_469) (fun _ h9 => h9) rfl d_md_replays_88 ?_
              refine lv_iload_n hx hb d_md_replays_91 rfl (lv_at hl 0 rfl) ?_
              refine va_lald hx hb hK hP 10 9 rfl rfl (by unfold vp_in; decide) d_md_replays_92 ?_
              refine lv_aload_n hx hb d_md_replays_93 rfl (lv_at hl 2 rfl) ?_
              refine va_get (D := D) (ci := 3) (v := .ref (ad 1)) (C := "MeasuredStagesModel") (T := F_md) (N := 19) hx hb hts (fun w h => List.mem_cons_of_mem _ (i_md w h)) hown hK hP 0 rfl rfl 0 (by decide) (hT _ tb_459) (fun _ h9 => h9) rfl d_md_replays_94 ?_
              refine lv_iload_n hx hb d_md_replays_97 rfl (lv_at hl 0 rfl) ?_
              refine va_lald hx hb hK hP 1 0 rfl rfl (by unfold vp_in; decide) d_md_replays_98 ?_
              refine W.lcmp hx hb d_md_replays_99 ?_
              refine lv_if_ne hx hb d_md_replays_100 (tgt := 107) (by decide) (fun h7 => ?_) (fun h7 => ?_)
              · skip
                have h7 := mt sp_cmp.mpr h7
                refine lv_iconst (v := 0) hx hb d_md_replays_107 (by decide) ?_
                refine lv_istore_n (nL := 3) (lv' := [(1, .int (0)), (2, .int (5)), (0, .ref (ad 0))]) hx hb d_md_replays_108 rfl hl (by decide) rfl (fun ls hl => ?_)
                refine lv_iinc (nL := 3) (k := 1) (v := 6) (lv' := [(2, .int (6)), (1, .int (0)), (0, .ref (ad 0))]) hx hb d_md_replays_109 hl rfl (by decide) (by decide) rfl (fun ls hl => ?_)
                refine lv_goto hx hb d_md_replays_112 (tgt := 77) (by decide) ?_
                refine lv_iload_n hx hb d_md_replays_77 rfl (lv_at hl 0 rfl) ?_
                refine lv_bipush (v := 6) hx hb d_md_replays_78 (by decide) ?_
                refine lv_icmp_ge hx hb d_md_replays_80 (tgt := 115) (by decide) (fun _ => ?_) (fun z => absurd (by decide) z)
                refine lv_iload_n hx hb d_md_replays_115 rfl (lv_at hl 1 rfl) ?_
                exact W.zret hx hb hret rfl (fun t ht hW => ⟨⟨_, q1, rfl, ⟨re_0 hra 5 (by decide) (show ¬ jm_ag q1 5 = sg_he u 5 from h7), (by exact hth)⟩, by rw [ht]; exact hP, va_K.moved hW.alike hK, hD⟩, hS.F ht⟩) hS.2.2 d_md_replays_116
              · skip
                have h7 := sp_cmp.mp h7
                refine lv_iconst (v := 1) hx hb d_md_replays_103 (by decide) ?_
                refine lv_goto hx hb d_md_replays_104 (tgt := 108) (by decide) ?_
                refine lv_istore_n (nL := 3) (lv' := [(1, .int (1)), (2, .int (5)), (0, .ref (ad 0))]) hx hb d_md_replays_108 rfl hl (by decide) rfl (fun ls hl => ?_)
                refine lv_iinc (nL := 3) (k := 1) (v := 6) (lv' := [(2, .int (6)), (1, .int (1)), (0, .ref (ad 0))]) hx hb d_md_replays_109 hl rfl (by decide) (by decide) rfl (fun ls hl => ?_)
                refine lv_goto hx hb d_md_replays_112 (tgt := 77) (by decide) ?_
                refine lv_iload_n hx hb d_md_replays_77 rfl (lv_at hl 0 rfl) ?_
                refine lv_bipush (v := 6) hx hb d_md_replays_78 (by decide) ?_
                refine lv_icmp_ge hx hb d_md_replays_80 (tgt := 115) (by decide) (fun _ => ?_) (fun z => absurd (by decide) z)
                refine lv_iload_n hx hb d_md_replays_115 rfl (lv_at hl 1 rfl) ?_
                exact W.zret hx hb hret rfl (fun t ht hW => ⟨⟨_, q1, rfl, ⟨re_1 hra (show jm_ag q1 0 = sg_he u 0 from h2) (show jm_ag q1 1 = sg_he u 1 from h3) (show jm_ag q1 2 = sg_he u 2 from h4) (show jm_ag q1 3 = sg_he u 3 from h5) (show jm_ag q1 4 = sg_he u 4 from h6) (show jm_ag q1 5 = sg_he u 5 from h7), (by exact hth)⟩, by rw [ht]; exact hP, va_K.moved hW.alike hK, hD⟩, hS.F ht⟩) hS.2.2 d_md_replays_116
  · intro r H L ls q1 hr hI ih
    obtain ⟨hl, hP, hD, hS, hra, hth⟩ := hI
    refine lv_iload_n hx hb d_md_replays_28 rfl (lv_at hl 0 rfl) ?_
    refine lv_aload_n hx hb d_md_replays_29 rfl (lv_at hl 1 rfl) ?_
    refine va_get (D := D) (ci := 3) (v := .int (sg_en u)) (C := "MeasuredStagesModel") (T := F_md) (N := 19) hx hb hts (fun w h => List.mem_cons_of_mem _ (i_md w h)) hown hK hP 0 rfl rfl 7 (by decide) (hT _ tb_466) (fun _ h9 => h9) rfl d_md_replays_30 ?_
    refine lv_icmp_ge hx hb d_md_replays_33 (tgt := 73) (by decide) (fun z => absurd z (by rw [hn]; exact nI_ge hr (by omega))) (fun _ => ?_)
    refine lv_aload_n hx hb d_md_replays_36 rfl (lv_at hl 1 rfl) ?_
    refine va_get (D := D) (ci := 3) (v := .ref (ad 10)) (C := "MeasuredStagesModel") (T := F_md) (N := 19) hx hb hts (fun w h => List.mem_cons_of_mem _ (i_md w h)) hown hK hP 0 rfl rfl 10 (by decide) (hT _ tb_469) (fun _ h9 => h9) rfl d_md_replays_37 ?_
    refine lv_aload_n hx hb d_md_replays_40 rfl (lv_at hl 1 rfl) ?_
    refine va_get (D := D) (ci := 3) (v := .ref (ad 8)) (C := "MeasuredStagesModel") (T := F_md) (N := 19) hx hb hts (fun w h => List.mem_cons_of_mem _ (i_md w h)) hown hK hP 0 rfl rfl 8 (by decide) (hT _ tb_467) (fun _ h9 => h9) rfl d_md_replays_41 ?_
    refine lv_iload_n hx hb d_md_replays_44 rfl (lv_at hl 0 rfl) ?_
    refine va_iald hx hb hK hP 8 7 rfl rfl (vp_in_nI (by omega) (by decide)) d_md_replays_45 ?_
    refine lv_aload_n hx hb d_md_replays_46 rfl (lv_at hl 1 rfl) ?_
    refine va_get (D := D) (ci := 3) (v := .ref (ad 10)) (C := "MeasuredStagesModel") (T := F_md) (N := 19) hx hb hts (fun w h => List.mem_cons_of_mem _ (i_md w h)) hown hK hP 0 rfl rfl 10 (by decide) (hT _ tb_469) (fun _ h9 => h9) rfl d_md_replays_47 ?_
    refine lv_aload_n hx hb d_md_replays_50 rfl (lv_at hl 1 rfl) ?_
    refine va_get (D := D) (ci := 3) (v := .ref (ad 8)) (C := "MeasuredStagesModel") (T := F_md) (N := 19) hx hb hts (fun w h => List.mem_cons_of_mem _ (i_md w h)) hown hK hP 0 rfl rfl 8 (by decide) (hT _ tb_467) (fun _ h9 => h9) rfl d_md_replays_51 ?_
    refine lv_iload_n hx hb d_md_replays_54 rfl (lv_at hl 0 rfl) ?_
    refine va_iald hx hb hK hP 8 7 rfl rfl (vp_in_nI (by omega) (by decide)) d_md_replays_55 ?_
    refine va_lald hx hb hK hP 10 9 rfl rfl (hok.2 _) d_md_replays_56 ?_
    refine lv_aload_n hx hb d_md_replays_57 rfl (lv_at hl 1 rfl) ?_
    refine va_get (D := D) (ci := 3) (v := .ref (ad 9)) (C := "MeasuredStagesModel") (T := F_md) (N := 19) hx hb hts (fun w h => List.mem_cons_of_mem _ (i_md w h)) hown hK hP 0 rfl rfl 9 (by decide) (hT _ tb_468) (fun _ h9 => h9) rfl d_md_replays_58 ?_
    refine lv_iload_n hx hb d_md_replays_61 rfl (lv_at hl 0 rfl) ?_
    refine va_lald hx hb hK hP 9 8 rfl rfl (vp_in_nI (by omega) (by decide)) d_md_replays_62 ?_
    refine st_l (v := sp_h (jm_ag q1 (sg_er u (nI r).toNatClampNeg).toNatClampNeg) (sg_ev u (nI r).toNatClampNeg)) (As := [.long (jm_ag q1 (sg_er u (nI r).toNatClampNeg).toNatClampNeg), .long (sg_ev u (nI r).toNatClampNeg)]) (rest := [.int (sg_er u (nI r).toNatClampNeg), .ref (ad 10)]) ⟨hx, hb, hml, hown, hts⟩ (c_md_h l (jm_ag q1 (sg_er u (nI r).toNatClampNeg).toNatClampNeg) (sg_ev u (nI r).toNatClampNeg)) tb_534 tb_535 tb_4 tb_536 hd_md_h ⟨Nat.le_of_ble_eq_true rfl, Nat.le_of_ble_eq_true rfl⟩ rfl rfl hl.1 rfl (Nat.le_of_ble_eq_true rfl) d_md_replays_63 ⟨Nat.zero_le _, Nat.zero_le _⟩ ?_
    refine va_last hx hb hK hP hD hS 10 9 rfl rfl (hok.2 _) d_md_replays_66 (fun H locs hP hD hS => ?_)
    have hP : va_P D cx (mv ad cs (sg_im u) (sg_ap u) (sg_ag u) (sg_he u) (sg_er u) (sg_ev u) (sg_en u) (sg_ma u) (sg_po u) (sg_se u) (sg_ac u) (sg_fa u) (sg_la u) (sg_st u) (vp_updL (jm_ag q1) (sg_er u (nI r).toNatClampNeg).toNatClampNeg (sp_h (jm_ag q1 (sg_er u (nI r).toNatClampNeg).toNatClampNeg) (sg_ev u (nI r).toNatClampNeg))) (jm_de q1) (jm_ru q1) (jm_nx q1) (jm_th q1)) H := hP
    have hD : va_D A (mv ad cs (sg_im u) (sg_ap u) (sg_ag u) (sg_he u) (sg_er u) (sg_ev u) (sg_en u) (sg_ma u) (sg_po u) (sg_se u) (sg_ac u) (sg_fa u) (sg_la u) (sg_st u) (vp_updL (jm_ag q1) (sg_er u (nI r).toNatClampNeg).toNatClampNeg (sp_h (jm_ag q1 (sg_er u (nI r).toNatClampNeg).toNatClampNeg) (sg_ev u (nI r).toNatClampNeg))) (jm_de q1) (jm_ru q1) (jm_nx q1) (jm_th q1)) := hD
    refine lv_iinc (nL := 3) (k := 0) (v := nI (r + 1)) (lv' := [(1, .int (nI (r + 1))), (0, .ref (ad 0))]) hx hb d_md_replays_67 hl rfl ((nI_succ r).symm) (by decide) rfl (fun ls hl => ?_)
    refine lv_goto hx hb d_md_replays_70 (tgt := 28) (by decide) ?_
    obtain ⟨q8, eq8⟩ : ∃ z : Jm, z = (vp_updL (jm_ag q1) (sg_er u (nI r).toNatClampNeg).toNatClampNeg (sp_h (jm_ag q1 (sg_er u (nI r).toNatClampNeg).toNatClampNeg) (sg_ev u (nI r).toNatClampNeg)), jm_de q1, jm_ru q1, jm_nx q1, jm_th q1) := ⟨_, rfl⟩
    have hP : va_P D cx (mw ad cs u q8) H := by rw [eq8, mw_j]; exact hP
    have hD : va_D A (mw ad cs u q8) := by rw [eq8, mw_j]; exact hD
    exact ih _ _ ls q8 ⟨lv_sub hl [0, 1] rfl, hP, hD, hS, (by subst eq8; have z := ra_at hra (hok.2 r); rw [nI_clamp (by omega)]; exact z), (by subst eq8; exact hth)⟩
