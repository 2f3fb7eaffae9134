theorem d_Yard_init_0 : decode b_Yard_init 0 = .ok (.aload_n 0, 1) := by decide +kernel
theorem d_Yard_init_1 : decode b_Yard_init 1 = .ok (.invokespecial 3, 3) := by decide +kernel
theorem d_Yard_init_4 : decode b_Yard_init 4 = .ok (.aload_n 0, 1) := by decide +kernel
theorem d_Yard_init_5 : decode b_Yard_init 5 = .ok (.new 9, 3) := by decide +kernel
theorem d_Yard_init_8 : decode b_Yard_init 8 = .ok (.dup, 1) := by decide +kernel
theorem d_Yard_init_9 : decode b_Yard_init 9 = .ok (.invokespecial 11, 3) := by decide +kernel
theorem d_Yard_init_12 : decode b_Yard_init 12 = .ok (.putfield 12, 3) := by decide +kernel
theorem d_Yard_init_15 : decode b_Yard_init 15 = .ok (.aload_n 0, 1) := by decide +kernel
theorem d_Yard_init_16 : decode b_Yard_init 16 = .ok (.iconst 0, 1) := by decide +kernel
theorem d_Yard_init_17 : decode b_Yard_init 17 = .ok (.putfield 16, 3) := by decide +kernel
theorem d_Yard_init_20 : decode b_Yard_init 20 = .ok (.aload_n 0, 1) := by decide +kernel
theorem d_Yard_init_21 : decode b_Yard_init 21 = .ok (.iconst 1, 1) := by decide +kernel
theorem d_Yard_init_22 : decode b_Yard_init 22 = .ok (.putfield 20, 3) := by decide +kernel
theorem d_Yard_init_25 : decode b_Yard_init 25 = .ok (.return_, 1) := by decide +kernel
theorem d_Yard_action_0 : decode b_Yard_action 0 = .ok (.iload_n 1, 1) := by decide +kernel
theorem d_Yard_action_1 : decode b_Yard_action 1 = .ok (.iconst 0, 1) := by decide +kernel
theorem d_Yard_action_2 : decode b_Yard_action 2 = .ok (.bipush 9, 2) := by decide +kernel
theorem d_Yard_action_4 : decode b_Yard_action 4 = .ok (.invokestatic 23, 3) := by decide +kernel
theorem d_Yard_action_7 : decode b_Yard_action 7 = .ok (.ifCond .eq 11, 3) := by decide +kernel
theorem d_Yard_action_10 : decode b_Yard_action 10 = .ok (.iload_n 2, 1) := by decide +kernel
theorem d_Yard_action_11 : decode b_Yard_action 11 = .ok (.iload_n 3, 1) := by decide +kernel
theorem d_Yard_action_12 : decode b_Yard_action 12 = .ok (.invokestatic 27, 3) := by decide +kernel
theorem d_Yard_action_15 : decode b_Yard_action 15 = .ok (.ifCond .ne 11, 3) := by decide +kernel
theorem d_Yard_action_18 : decode b_Yard_action 18 = .ok (.new 31, 3) := by decide +kernel
theorem d_Yard_action_21 : decode b_Yard_action 21 = .ok (.dup, 1) := by decide +kernel
theorem d_Yard_action_22 : decode b_Yard_action 22 = .ok (.invokespecial 33, 3) := by decide +kernel
theorem d_Yard_action_25 : decode b_Yard_action 25 = .ok (.athrow, 1) := by decide +kernel
theorem d_Yard_action_26 : decode b_Yard_action 26 = .ok (.aload_n 0, 1) := by decide +kernel
theorem d_Yard_action_27 : decode b_Yard_action 27 = .ok (.getfield 12, 3) := by decide +kernel
theorem d_Yard_action_30 : decode b_Yard_action 30 = .ok (.getfield 34, 3) := by decide +kernel
theorem d_Yard_action_33 : decode b_Yard_action 33 = .ok (.iload_n 1, 1) := by decide +kernel
theorem d_Yard_action_34 : decode b_Yard_action 34 = .ok (.aaload, 1) := by decide +kernel
theorem d_Yard_action_35 : decode b_Yard_action 35 = .ok (.astore 4, 2) := by decide +kernel
theorem d_Yard_action_37 : decode b_Yard_action 37 = .ok (.aload 4, 2) := by decide +kernel
theorem d_Yard_action_39 : decode b_Yard_action 39 = .ok (.getfield 38, 3) := by decide +kernel
theorem d_Yard_action_42 : decode b_Yard_action 42 = .ok (.bipush 10, 2) := by decide +kernel
theorem d_Yard_action_44 : decode b_Yard_action 44 = .ok (.if_icmp .lt 11, 3) := by decide +kernel
theorem d_Yard_action_47 : decode b_Yard_action 47 = .ok (.new 43, 3) := by decide +kernel
theorem d_Yard_action_50 : decode b_Yard_action 50 = .ok (.dup, 1) := by decide +kernel
theorem d_Yard_action_51 : decode b_Yard_action 51 = .ok (.invokespecial 45, 3) := by decide +kernel
theorem d_Yard_action_54 : decode b_Yard_action 54 = .ok (.athrow, 1) := by decide +kernel
theorem d_Yard_action_55 : decode b_Yard_action 55 = .ok (.aload 4, 2) := by decide +kernel
theorem d_Yard_action_57 : decode b_Yard_action 57 = .ok (.iload_n 2, 1) := by decide +kernel
theorem d_Yard_action_58 : decode b_Yard_action 58 = .ok (.iload_n 3, 1) := by decide +kernel
theorem d_Yard_action_59 : decode b_Yard_action 59 = .ok (.invokevirtual 46, 3) := by decide +kernel
theorem d_Yard_action_62 : decode b_Yard_action 62 = .ok (.aload 4, 2) := by decide +kernel
theorem d_Yard_action_64 : decode b_Yard_action 64 = .ok (.getfield 38, 3) := by decide +kernel
theorem d_Yard_action_67 : decode b_Yard_action 67 = .ok (.ireturn, 1) := by decide +kernel
theorem d_Yard_test_0 : decode b_Yard_test 0 = .ok (.iload_n 1, 1) := by decide +kernel
theorem d_Yard_test_1 : decode b_Yard_test 1 = .ok (.iconst 0, 1) := by decide +kernel
theorem d_Yard_test_2 : decode b_Yard_test 2 = .ok (.bipush 9, 2) := by decide +kernel
theorem d_Yard_test_4 : decode b_Yard_test 4 = .ok (.invokestatic 23, 3) := by decide +kernel
theorem d_Yard_test_7 : decode b_Yard_test 7 = .ok (.ifCond .eq 34, 3) := by decide +kernel
theorem d_Yard_test_10 : decode b_Yard_test 10 = .ok (.iload_n 2, 1) := by decide +kernel
theorem d_Yard_test_11 : decode b_Yard_test 11 = .ok (.iconst 0, 1) := by decide +kernel
theorem d_Yard_test_12 : decode b_Yard_test 12 = .ok (.bipush 50, 2) := by decide +kernel
theorem d_Yard_test_14 : decode b_Yard_test 14 = .ok (.invokestatic 23, 3) := by decide +kernel
theorem d_Yard_test_17 : decode b_Yard_test 17 = .ok (.ifCond .eq 24, 3) := by decide +kernel
theorem d_Yard_test_20 : decode b_Yard_test 20 = .ok (.iload_n 3, 1) := by decide +kernel
theorem d_Yard_test_21 : decode b_Yard_test 21 = .ok (.iconst 0, 1) := by decide +kernel
theorem d_Yard_test_22 : decode b_Yard_test 22 = .ok (.bipush 15, 2) := by decide +kernel
theorem d_Yard_test_24 : decode b_Yard_test 24 = .ok (.invokestatic 23, 3) := by decide +kernel
theorem d_Yard_test_27 : decode b_Yard_test 27 = .ok (.ifCond .eq 14, 3) := by decide +kernel
theorem d_Yard_test_30 : decode b_Yard_test 30 = .ok (.iload 4, 2) := by decide +kernel
theorem d_Yard_test_32 : decode b_Yard_test 32 = .ok (.iconst 0, 1) := by decide +kernel
theorem d_Yard_test_33 : decode b_Yard_test 33 = .ok (.bipush 15, 2) := by decide +kernel
theorem d_Yard_test_35 : decode b_Yard_test 35 = .ok (.invokestatic 23, 3) := by decide +kernel
theorem d_Yard_test_38 : decode b_Yard_test 38 = .ok (.ifCond .ne 11, 3) := by decide +kernel
theorem d_Yard_test_41 : decode b_Yard_test 41 = .ok (.new 31, 3) := by decide +kernel
theorem d_Yard_test_44 : decode b_Yard_test 44 = .ok (.dup, 1) := by decide +kernel
theorem d_Yard_test_45 : decode b_Yard_test 45 = .ok (.invokespecial 33, 3) := by decide +kernel
theorem d_Yard_test_48 : decode b_Yard_test 48 = .ok (.athrow, 1) := by decide +kernel
theorem d_Yard_test_49 : decode b_Yard_test 49 = .ok (.aload_n 0, 1) := by decide +kernel
theorem d_Yard_test_50 : decode b_Yard_test 50 = .ok (.getfield 16, 3) := by decide +kernel
theorem d_Yard_test_53 : decode b_Yard_test 53 = .ok (.bipush 12, 2) := by decide +kernel
theorem d_Yard_test_55 : decode b_Yard_test 55 = .ok (.if_icmp .lt 11, 3) := by decide +kernel
theorem d_Yard_test_58 : decode b_Yard_test 58 = .ok (.new 43, 3) := by decide +kernel
theorem d_Yard_test_61 : decode b_Yard_test 61 = .ok (.dup, 1) := by decide +kernel
theorem d_Yard_test_62 : decode b_Yard_test 62 = .ok (.invokespecial 45, 3) := by decide +kernel
theorem d_Yard_test_65 : decode b_Yard_test 65 = .ok (.athrow, 1) := by decide +kernel
theorem d_Yard_test_66 : decode b_Yard_test 66 = .ok (.aload_n 0, 1) := by decide +kernel
theorem d_Yard_test_67 : decode b_Yard_test 67 = .ok (.getfield 12, 3) := by decide +kernel
theorem d_Yard_test_70 : decode b_Yard_test 70 = .ok (.getfield 50, 3) := by decide +kernel
theorem d_Yard_test_73 : decode b_Yard_test 73 = .ok (.aload_n 0, 1) := by decide +kernel
theorem d_Yard_test_74 : decode b_Yard_test 74 = .ok (.getfield 16, 3) := by decide +kernel
theorem d_Yard_test_77 : decode b_Yard_test 77 = .ok (.aaload, 1) := by decide +kernel
theorem d_Yard_test_78 : decode b_Yard_test 78 = .ok (.iload_n 1, 1) := by decide +kernel
theorem d_Yard_test_79 : decode b_Yard_test 79 = .ok (.iload_n 2, 1) := by decide +kernel
theorem d_Yard_test_80 : decode b_Yard_test 80 = .ok (.iload_n 3, 1) := by decide +kernel
theorem d_Yard_test_81 : decode b_Yard_test 81 = .ok (.iload 4, 2) := by decide +kernel
theorem d_Yard_test_83 : decode b_Yard_test 83 = .ok (.invokevirtual 54, 3) := by decide +kernel
theorem d_Yard_test_86 : decode b_Yard_test 86 = .ok (.aload_n 0, 1) := by decide +kernel
theorem d_Yard_test_87 : decode b_Yard_test 87 = .ok (.dup, 1) := by decide +kernel
theorem d_Yard_test_88 : decode b_Yard_test 88 = .ok (.getfield 16, 3) := by decide +kernel
theorem d_Yard_test_91 : decode b_Yard_test 91 = .ok (.iconst 1, 1) := by decide +kernel
theorem d_Yard_test_92 : decode b_Yard_test 92 = .ok (.iadd, 1) := by decide +kernel
theorem d_Yard_test_93 : decode b_Yard_test 93 = .ok (.putfield 16, 3) := by decide +kernel
theorem d_Yard_test_96 : decode b_Yard_test 96 = .ok (.aload_n 0, 1) := by decide +kernel
theorem d_Yard_test_97 : decode b_Yard_test 97 = .ok (.getfield 16, 3) := by decide +kernel
theorem d_Yard_test_100 : decode b_Yard_test 100 = .ok (.iconst 1, 1) := by decide +kernel
theorem d_Yard_test_101 : decode b_Yard_test 101 = .ok (.isub, 1) := by decide +kernel
theorem d_Yard_test_102 : decode b_Yard_test 102 = .ok (.ireturn, 1) := by decide +kernel
theorem d_Yard_workers_0 : decode b_Yard_workers 0 = .ok (.iload_n 1, 1) := by decide +kernel
theorem d_Yard_workers_1 : decode b_Yard_workers 1 = .ok (.iconst 1, 1) := by decide +kernel
theorem d_Yard_workers_2 : decode b_Yard_workers 2 = .ok (.iconst 4, 1) := by decide +kernel
theorem d_Yard_workers_3 : decode b_Yard_workers 3 = .ok (.invokestatic 23, 3) := by decide +kernel
theorem d_Yard_workers_6 : decode b_Yard_workers 6 = .ok (.ifCond .ne 11, 3) := by decide +kernel
theorem d_Yard_workers_9 : decode b_Yard_workers 9 = .ok (.new 31, 3) := by decide +kernel
theorem d_Yard_workers_12 : decode b_Yard_workers 12 = .ok (.dup, 1) := by decide +kernel
theorem d_Yard_workers_13 : decode b_Yard_workers 13 = .ok (.invokespecial 33, 3) := by decide +kernel
theorem d_Yard_workers_16 : decode b_Yard_workers 16 = .ok (.athrow, 1) := by decide +kernel
theorem d_Yard_workers_17 : decode b_Yard_workers 17 = .ok (.aload_n 0, 1) := by decide +kernel
theorem d_Yard_workers_18 : decode b_Yard_workers 18 = .ok (.getfield 20, 3) := by decide +kernel
theorem d_Yard_workers_21 : decode b_Yard_workers 21 = .ok (.istore_n 2, 1) := by decide +kernel
theorem d_Yard_workers_22 : decode b_Yard_workers 22 = .ok (.aload_n 0, 1) := by decide +kernel
theorem d_Yard_workers_23 : decode b_Yard_workers 23 = .ok (.iload_n 1, 1) := by decide +kernel
theorem d_Yard_workers_24 : decode b_Yard_workers 24 = .ok (.putfield 20, 3) := by decide +kernel
theorem d_Yard_workers_27 : decode b_Yard_workers 27 = .ok (.iload_n 2, 1) := by decide +kernel
theorem d_Yard_workers_28 : decode b_Yard_workers 28 = .ok (.ireturn, 1) := by decide +kernel
theorem d_Yard_run_0 : decode b_Yard_run 0 = .ok (.aload_n 0, 1) := by decide +kernel
theorem d_Yard_run_1 : decode b_Yard_run 1 = .ok (.getfield 12, 3) := by decide +kernel
theorem d_Yard_run_4 : decode b_Yard_run 4 = .ok (.aload_n 0, 1) := by decide +kernel
theorem d_Yard_run_5 : decode b_Yard_run 5 = .ok (.getfield 16, 3) := by decide +kernel
theorem d_Yard_run_8 : decode b_Yard_run 8 = .ok (.aload_n 0, 1) := by decide +kernel
theorem d_Yard_run_9 : decode b_Yard_run 9 = .ok (.getfield 20, 3) := by decide +kernel
theorem d_Yard_run_12 : decode b_Yard_run 12 = .ok (.invokevirtual 60, 3) := by decide +kernel
theorem d_Yard_run_15 : decode b_Yard_run 15 = .ok (.ireturn, 1) := by decide +kernel
theorem d_Yard_look_0 : decode b_Yard_look 0 = .ok (.iload_n 1, 1) := by decide +kernel
theorem d_Yard_look_1 : decode b_Yard_look 1 = .ok (.iconst 0, 1) := by decide +kernel
theorem d_Yard_look_2 : decode b_Yard_look 2 = .ok (.aload_n 0, 1) := by decide +kernel
theorem d_Yard_look_3 : decode b_Yard_look 3 = .ok (.getfield 16, 3) := by decide +kernel
theorem d_Yard_look_6 : decode b_Yard_look 6 = .ok (.iconst 1, 1) := by decide +kernel
theorem d_Yard_look_7 : decode b_Yard_look 7 = .ok (.isub, 1) := by decide +kernel
theorem d_Yard_look_8 : decode b_Yard_look 8 = .ok (.invokestatic 23, 3) := by decide +kernel
theorem d_Yard_look_11 : decode b_Yard_look 11 = .ok (.ifCond .ne 11, 3) := by decide +kernel
theorem d_Yard_look_14 : decode b_Yard_look 14 = .ok (.new 31, 3) := by decide +kernel
theorem d_Yard_look_17 : decode b_Yard_look 17 = .ok (.dup, 1) := by decide +kernel
theorem d_Yard_look_18 : decode b_Yard_look 18 = .ok (.invokespecial 33, 3) := by decide +kernel
theorem d_Yard_look_21 : decode b_Yard_look 21 = .ok (.athrow, 1) := by decide +kernel
theorem d_Yard_look_22 : decode b_Yard_look 22 = .ok (.aload_n 0, 1) := by decide +kernel
theorem d_Yard_look_23 : decode b_Yard_look 23 = .ok (.getfield 12, 3) := by decide +kernel
theorem d_Yard_look_26 : decode b_Yard_look 26 = .ok (.getfield 50, 3) := by decide +kernel
theorem d_Yard_look_29 : decode b_Yard_look 29 = .ok (.iload_n 1, 1) := by decide +kernel
theorem d_Yard_look_30 : decode b_Yard_look 30 = .ok (.aaload, 1) := by decide +kernel
theorem d_Yard_look_31 : decode b_Yard_look 31 = .ok (.astore_n 3, 1) := by decide +kernel
theorem d_Yard_look_32 : decode b_Yard_look 32 = .ok (.iload_n 2, 1) := by decide +kernel
theorem d_Yard_look_33 : decode b_Yard_look 33 = .ok (.tableswitch 86 0 6 #[43, 48, 53, 58, 63, 68, 81], 43) := by decide +kernel
theorem d_Yard_look_76 : decode b_Yard_look 76 = .ok (.aload_n 3, 1) := by decide +kernel
theorem d_Yard_look_77 : decode b_Yard_look 77 = .ok (.getfield 64, 3) := by decide +kernel
theorem d_Yard_look_80 : decode b_Yard_look 80 = .ok (.ireturn, 1) := by decide +kernel
theorem d_Yard_look_81 : decode b_Yard_look 81 = .ok (.aload_n 3, 1) := by decide +kernel
theorem d_Yard_look_82 : decode b_Yard_look 82 = .ok (.getfield 67, 3) := by decide +kernel
theorem d_Yard_look_85 : decode b_Yard_look 85 = .ok (.ireturn, 1) := by decide +kernel
theorem d_Yard_look_86 : decode b_Yard_look 86 = .ok (.aload_n 3, 1) := by decide +kernel
theorem d_Yard_look_87 : decode b_Yard_look 87 = .ok (.getfield 70, 3) := by decide +kernel
theorem d_Yard_look_90 : decode b_Yard_look 90 = .ok (.ireturn, 1) := by decide +kernel
theorem d_Yard_look_91 : decode b_Yard_look 91 = .ok (.aload_n 3, 1) := by decide +kernel
theorem d_Yard_look_92 : decode b_Yard_look 92 = .ok (.getfield 73, 3) := by decide +kernel
theorem d_Yard_look_95 : decode b_Yard_look 95 = .ok (.ireturn, 1) := by decide +kernel
theorem d_Yard_look_96 : decode b_Yard_look 96 = .ok (.aload_n 3, 1) := by decide +kernel
theorem d_Yard_look_97 : decode b_Yard_look 97 = .ok (.getfield 76, 3) := by decide +kernel
theorem d_Yard_look_100 : decode b_Yard_look 100 = .ok (.ireturn, 1) := by decide +kernel
theorem d_Yard_look_101 : decode b_Yard_look 101 = .ok (.aload_n 3, 1) := by decide +kernel
theorem d_Yard_look_102 : decode b_Yard_look 102 = .ok (.getfield 79, 3) := by decide +kernel
theorem d_Yard_look_105 : decode b_Yard_look 105 = .ok (.ifCond .eq 7, 3) := by decide +kernel
theorem d_Yard_look_108 : decode b_Yard_look 108 = .ok (.iconst 1, 1) := by decide +kernel
theorem d_Yard_look_109 : decode b_Yard_look 109 = .ok (.goto 4, 3) := by decide +kernel
theorem d_Yard_look_112 : decode b_Yard_look 112 = .ok (.iconst 0, 1) := by decide +kernel
theorem d_Yard_look_113 : decode b_Yard_look 113 = .ok (.ireturn, 1) := by decide +kernel
theorem d_Yard_look_114 : decode b_Yard_look 114 = .ok (.aload_n 3, 1) := by decide +kernel
theorem d_Yard_look_115 : decode b_Yard_look 115 = .ok (.getfield 83, 3) := by decide +kernel
theorem d_Yard_look_118 : decode b_Yard_look 118 = .ok (.ireturn, 1) := by decide +kernel
theorem d_Yard_look_119 : decode b_Yard_look 119 = .ok (.new 31, 3) := by decide +kernel
theorem d_Yard_look_122 : decode b_Yard_look 122 = .ok (.dup, 1) := by decide +kernel
theorem d_Yard_look_123 : decode b_Yard_look 123 = .ok (.invokespecial 33, 3) := by decide +kernel
theorem d_Yard_look_126 : decode b_Yard_look 126 = .ok (.athrow, 1) := by decide +kernel
theorem d_Yard_note_0 : decode b_Yard_note 0 = .ok (.aload_n 0, 1) := by decide +kernel
theorem d_Yard_note_1 : decode b_Yard_note 1 = .ok (.getfield 12, 3) := by decide +kernel
theorem d_Yard_note_4 : decode b_Yard_note 4 = .ok (.getfield 86, 3) := by decide +kernel
theorem d_Yard_note_7 : decode b_Yard_note 7 = .ok (.iload_n 1, 1) := by decide +kernel
theorem d_Yard_note_8 : decode b_Yard_note 8 = .ok (.invokevirtual 90, 3) := by decide +kernel
theorem d_Yard_note_11 : decode b_Yard_note 11 = .ok (.ifCond .ne 11, 3) := by decide +kernel
theorem d_Yard_note_14 : decode b_Yard_note 14 = .ok (.new 43, 3) := by decide +kernel
theorem d_Yard_note_17 : decode b_Yard_note 17 = .ok (.dup, 1) := by decide +kernel
theorem d_Yard_note_18 : decode b_Yard_note 18 = .ok (.invokespecial 45, 3) := by decide +kernel
theorem d_Yard_note_21 : decode b_Yard_note 21 = .ok (.athrow, 1) := by decide +kernel
theorem d_Yard_note_22 : decode b_Yard_note 22 = .ok (.aload_n 0, 1) := by decide +kernel
theorem d_Yard_note_23 : decode b_Yard_note 23 = .ok (.getfield 12, 3) := by decide +kernel
theorem d_Yard_note_26 : decode b_Yard_note 26 = .ok (.getfield 86, 3) := by decide +kernel
theorem d_Yard_note_29 : decode b_Yard_note 29 = .ok (.getfield 96, 3) := by decide +kernel
theorem d_Yard_note_32 : decode b_Yard_note 32 = .ok (.iload_n 1, 1) := by decide +kernel
theorem d_Yard_note_33 : decode b_Yard_note 33 = .ok (.iaload, 1) := by decide +kernel
theorem d_Yard_note_34 : decode b_Yard_note 34 = .ok (.ireturn, 1) := by decide +kernel
theorem d_Yard_warning_0 : decode b_Yard_warning 0 = .ok (.aload_n 0, 1) := by decide +kernel
theorem d_Yard_warning_1 : decode b_Yard_warning 1 = .ok (.getfield 12, 3) := by decide +kernel
theorem d_Yard_warning_4 : decode b_Yard_warning 4 = .ok (.getfield 100, 3) := by decide +kernel
theorem d_Yard_warning_7 : decode b_Yard_warning 7 = .ok (.iload_n 1, 1) := by decide +kernel
theorem d_Yard_warning_8 : decode b_Yard_warning 8 = .ok (.invokevirtual 90, 3) := by decide +kernel
theorem d_Yard_warning_11 : decode b_Yard_warning 11 = .ok (.ifCond .ne 11, 3) := by decide +kernel
theorem d_Yard_warning_14 : decode b_Yard_warning 14 = .ok (.new 43, 3) := by decide +kernel
theorem d_Yard_warning_17 : decode b_Yard_warning 17 = .ok (.dup, 1) := by decide +kernel
theorem d_Yard_warning_18 : decode b_Yard_warning 18 = .ok (.invokespecial 45, 3) := by decide +kernel
theorem d_Yard_warning_21 : decode b_Yard_warning 21 = .ok (.athrow, 1) := by decide +kernel
theorem d_Yard_warning_22 : decode b_Yard_warning 22 = .ok (.aload_n 0, 1) := by decide +kernel
theorem d_Yard_warning_23 : decode b_Yard_warning 23 = .ok (.getfield 12, 3) := by decide +kernel
theorem d_Yard_warning_26 : decode b_Yard_warning 26 = .ok (.getfield 100, 3) := by decide +kernel
theorem d_Yard_warning_29 : decode b_Yard_warning 29 = .ok (.getfield 96, 3) := by decide +kernel
theorem d_Yard_warning_32 : decode b_Yard_warning 32 = .ok (.iload_n 1, 1) := by decide +kernel
theorem d_Yard_warning_33 : decode b_Yard_warning 33 = .ok (.iaload, 1) := by decide +kernel
theorem d_Yard_warning_34 : decode b_Yard_warning 34 = .ok (.ireturn, 1) := by decide +kernel
theorem d_Yard_count_0 : decode b_Yard_count 0 = .ok (.iload_n 1, 1) := by decide +kernel
theorem d_Yard_count_1 : decode b_Yard_count 1 = .ok (.tableswitch 110 0 6 #[43, 48, 59, 70, 78, 86, 94], 43) := by decide +kernel
theorem d_Yard_count_44 : decode b_Yard_count 44 = .ok (.aload_n 0, 1) := by decide +kernel
theorem d_Yard_count_45 : decode b_Yard_count 45 = .ok (.getfield 16, 3) := by decide +kernel
theorem d_Yard_count_48 : decode b_Yard_count 48 = .ok (.ireturn, 1) := by decide +kernel
theorem d_Yard_count_49 : decode b_Yard_count 49 = .ok (.aload_n 0, 1) := by decide +kernel
theorem d_Yard_count_50 : decode b_Yard_count 50 = .ok (.getfield 12, 3) := by decide +kernel
theorem d_Yard_count_53 : decode b_Yard_count 53 = .ok (.getfield 86, 3) := by decide +kernel
theorem d_Yard_count_56 : decode b_Yard_count 56 = .ok (.getfield 103, 3) := by decide +kernel
theorem d_Yard_count_59 : decode b_Yard_count 59 = .ok (.ireturn, 1) := by decide +kernel
theorem d_Yard_count_60 : decode b_Yard_count 60 = .ok (.aload_n 0, 1) := by decide +kernel
theorem d_Yard_count_61 : decode b_Yard_count 61 = .ok (.getfield 12, 3) := by decide +kernel
theorem d_Yard_count_64 : decode b_Yard_count 64 = .ok (.getfield 100, 3) := by decide +kernel
theorem d_Yard_count_67 : decode b_Yard_count 67 = .ok (.getfield 103, 3) := by decide +kernel
theorem d_Yard_count_70 : decode b_Yard_count 70 = .ok (.ireturn, 1) := by decide +kernel
theorem d_Yard_count_71 : decode b_Yard_count 71 = .ok (.aload_n 0, 1) := by decide +kernel
theorem d_Yard_count_72 : decode b_Yard_count 72 = .ok (.getfield 12, 3) := by decide +kernel
theorem d_Yard_count_75 : decode b_Yard_count 75 = .ok (.getfield 104, 3) := by decide +kernel
theorem d_Yard_count_78 : decode b_Yard_count 78 = .ok (.ireturn, 1) := by decide +kernel
theorem d_Yard_count_79 : decode b_Yard_count 79 = .ok (.aload_n 0, 1) := by decide +kernel
theorem d_Yard_count_80 : decode b_Yard_count 80 = .ok (.getfield 12, 3) := by decide +kernel
theorem d_Yard_count_83 : decode b_Yard_count 83 = .ok (.getfield 107, 3) := by decide +kernel
theorem d_Yard_count_86 : decode b_Yard_count 86 = .ok (.ireturn, 1) := by decide +kernel
theorem d_Yard_count_87 : decode b_Yard_count 87 = .ok (.aload_n 0, 1) := by decide +kernel
theorem d_Yard_count_88 : decode b_Yard_count 88 = .ok (.getfield 12, 3) := by decide +kernel
theorem d_Yard_count_91 : decode b_Yard_count 91 = .ok (.getfield 108, 3) := by decide +kernel
theorem d_Yard_count_94 : decode b_Yard_count 94 = .ok (.ireturn, 1) := by decide +kernel
theorem d_Yard_count_95 : decode b_Yard_count 95 = .ok (.aload_n 0, 1) := by decide +kernel
theorem d_Yard_count_96 : decode b_Yard_count 96 = .ok (.getfield 12, 3) := by decide +kernel
theorem d_Yard_count_99 : decode b_Yard_count 99 = .ok (.invokevirtual 111, 3) := by decide +kernel
theorem d_Yard_count_102 : decode b_Yard_count 102 = .ok (.ifCond .eq 7, 3) := by decide +kernel
theorem d_Yard_count_105 : decode b_Yard_count 105 = .ok (.iconst 0, 1) := by decide +kernel
theorem d_Yard_count_106 : decode b_Yard_count 106 = .ok (.goto 4, 3) := by decide +kernel
theorem d_Yard_count_109 : decode b_Yard_count 109 = .ok (.iconst 1, 1) := by decide +kernel
theorem d_Yard_count_110 : decode b_Yard_count 110 = .ok (.ireturn, 1) := by decide +kernel
theorem d_Yard_count_111 : decode b_Yard_count 111 = .ok (.new 31, 3) := by decide +kernel
theorem d_Yard_count_114 : decode b_Yard_count 114 = .ok (.dup, 1) := by decide +kernel
theorem d_Yard_count_115 : decode b_Yard_count 115 = .ok (.invokespecial 33, 3) := by decide +kernel
theorem d_Yard_count_118 : decode b_Yard_count 118 = .ok (.athrow, 1) := by decide +kernel
theorem d_Yard_isWithin_0 : decode b_Yard_isWithin 0 = .ok (.iload_n 1, 1) := by decide +kernel
theorem d_Yard_isWithin_1 : decode b_Yard_isWithin 1 = .ok (.iload_n 0, 1) := by decide +kernel
theorem d_Yard_isWithin_2 : decode b_Yard_isWithin 2 = .ok (.if_icmp .gt 12, 3) := by decide +kernel
theorem d_Yard_isWithin_5 : decode b_Yard_isWithin 5 = .ok (.iload_n 0, 1) := by decide +kernel
theorem d_Yard_isWithin_6 : decode b_Yard_isWithin 6 = .ok (.iload_n 2, 1) := by decide +kernel
theorem d_Yard_isWithin_7 : decode b_Yard_isWithin 7 = .ok (.if_icmp .gt 7, 3) := by decide +kernel
theorem d_Yard_isWithin_10 : decode b_Yard_isWithin 10 = .ok (.iconst 1, 1) := by decide +kernel
theorem d_Yard_isWithin_11 : decode b_Yard_isWithin 11 = .ok (.goto 4, 3) := by decide +kernel
theorem d_Yard_isWithin_14 : decode b_Yard_isWithin 14 = .ok (.iconst 0, 1) := by decide +kernel
theorem d_Yard_isWithin_15 : decode b_Yard_isWithin 15 = .ok (.ireturn, 1) := by decide +kernel
theorem d_Yard_isAction_0 : decode b_Yard_isAction 0 = .ok (.iload_n 0, 1) := by decide +kernel
theorem d_Yard_isAction_1 : decode b_Yard_isAction 1 = .ok (.tableswitch 75 0 6 #[43, 43, 75, 51, 59, 67, 51], 43) := by decide +kernel
theorem d_Yard_isAction_44 : decode b_Yard_isAction 44 = .ok (.iload_n 1, 1) := by decide +kernel
theorem d_Yard_isAction_45 : decode b_Yard_isAction 45 = .ok (.iconst 1, 1) := by decide +kernel
theorem d_Yard_isAction_46 : decode b_Yard_isAction 46 = .ok (.bipush 20, 2) := by decide +kernel
theorem d_Yard_isAction_48 : decode b_Yard_isAction 48 = .ok (.invokestatic 23, 3) := by decide +kernel
theorem d_Yard_isAction_51 : decode b_Yard_isAction 51 = .ok (.ireturn, 1) := by decide +kernel
theorem d_Yard_isAction_52 : decode b_Yard_isAction 52 = .ok (.iload_n 1, 1) := by decide +kernel
theorem d_Yard_isAction_53 : decode b_Yard_isAction 53 = .ok (.iconst 0, 1) := by decide +kernel
theorem d_Yard_isAction_54 : decode b_Yard_isAction 54 = .ok (.bipush 99, 2) := by decide +kernel
theorem d_Yard_isAction_56 : decode b_Yard_isAction 56 = .ok (.invokestatic 23, 3) := by decide +kernel
theorem d_Yard_isAction_59 : decode b_Yard_isAction 59 = .ok (.ireturn, 1) := by decide +kernel
theorem d_Yard_isAction_60 : decode b_Yard_isAction 60 = .ok (.iload_n 1, 1) := by decide +kernel
theorem d_Yard_isAction_61 : decode b_Yard_isAction 61 = .ok (.iconst 0, 1) := by decide +kernel
theorem d_Yard_isAction_62 : decode b_Yard_isAction 62 = .ok (.bipush 9, 2) := by decide +kernel
theorem d_Yard_isAction_64 : decode b_Yard_isAction 64 = .ok (.invokestatic 23, 3) := by decide +kernel
theorem d_Yard_isAction_67 : decode b_Yard_isAction 67 = .ok (.ireturn, 1) := by decide +kernel
theorem d_Yard_isAction_68 : decode b_Yard_isAction 68 = .ok (.iload_n 1, 1) := by decide +kernel
theorem d_Yard_isAction_69 : decode b_Yard_isAction 69 = .ok (.iconst 0, 1) := by decide +kernel
theorem d_Yard_isAction_70 : decode b_Yard_isAction 70 = .ok (.bipush 9, 2) := by decide +kernel
theorem d_Yard_isAction_72 : decode b_Yard_isAction 72 = .ok (.invokestatic 23, 3) := by decide +kernel
theorem d_Yard_isAction_75 : decode b_Yard_isAction 75 = .ok (.ireturn, 1) := by decide +kernel
theorem d_Yard_isAction_76 : decode b_Yard_isAction 76 = .ok (.iload_n 0, 1) := by decide +kernel
theorem d_Yard_isAction_77 : decode b_Yard_isAction 77 = .ok (.iconst 0, 1) := by decide +kernel
theorem d_Yard_isAction_78 : decode b_Yard_isAction 78 = .ok (.bipush 11, 2) := by decide +kernel
theorem d_Yard_isAction_80 : decode b_Yard_isAction 80 = .ok (.invokestatic 23, 3) := by decide +kernel
theorem d_Yard_isAction_83 : decode b_Yard_isAction 83 = .ok (.ireturn, 1) := by decide +kernel
theorem d_Course_init_0 : decode b_Course_init 0 = .ok (.aload_n 0, 1) := by decide +kernel
theorem d_Course_init_1 : decode b_Course_init 1 = .ok (.invokespecial 3, 3) := by decide +kernel
theorem d_Course_init_4 : decode b_Course_init 4 = .ok (.aload_n 0, 1) := by decide +kernel
theorem d_Course_init_5 : decode b_Course_init 5 = .ok (.bipush 10, 2) := by decide +kernel
theorem d_Course_init_7 : decode b_Course_init 7 = .ok (.anewarray 9, 3) := by decide +kernel
theorem d_Course_init_10 : decode b_Course_init 10 = .ok (.putfield 11, 3) := by decide +kernel
theorem d_Course_init_13 : decode b_Course_init 13 = .ok (.aload_n 0, 1) := by decide +kernel
theorem d_Course_init_14 : decode b_Course_init 14 = .ok (.bipush 12, 2) := by decide +kernel
theorem d_Course_init_16 : decode b_Course_init 16 = .ok (.anewarray 17, 3) := by decide +kernel
theorem d_Course_init_19 : decode b_Course_init 19 = .ok (.putfield 19, 3) := by decide +kernel
theorem d_Course_init_22 : decode b_Course_init 22 = .ok (.aload_n 0, 1) := by decide +kernel
theorem d_Course_init_23 : decode b_Course_init 23 = .ok (.bipush 52, 2) := by decide +kernel
theorem d_Course_init_25 : decode b_Course_init 25 = .ok (.anewarray 23, 3) := by decide +kernel
theorem d_Course_init_28 : decode b_Course_init 28 = .ok (.putfield 25, 3) := by decide +kernel
theorem d_Course_init_31 : decode b_Course_init 31 = .ok (.aload_n 0, 1) := by decide +kernel
theorem d_Course_init_32 : decode b_Course_init 32 = .ok (.iconst 4, 1) := by decide +kernel
theorem d_Course_init_33 : decode b_Course_init 33 = .ok (.newarray .int, 2) := by decide +kernel
theorem d_Course_init_35 : decode b_Course_init 35 = .ok (.putfield 29, 3) := by decide +kernel
theorem d_Course_init_38 : decode b_Course_init 38 = .ok (.aload_n 0, 1) := by decide +kernel
theorem d_Course_init_39 : decode b_Course_init 39 = .ok (.new 33, 3) := by decide +kernel
theorem d_Course_init_42 : decode b_Course_init 42 = .ok (.dup, 1) := by decide +kernel
theorem d_Course_init_43 : decode b_Course_init 43 = .ok (.bipush 12, 2) := by decide +kernel
theorem d_Course_init_45 : decode b_Course_init 45 = .ok (.invokespecial 35, 3) := by decide +kernel
theorem d_Course_init_48 : decode b_Course_init 48 = .ok (.putfield 38, 3) := by decide +kernel
theorem d_Course_init_51 : decode b_Course_init 51 = .ok (.aload_n 0, 1) := by decide +kernel
theorem d_Course_init_52 : decode b_Course_init 52 = .ok (.new 33, 3) := by decide +kernel
theorem d_Course_init_55 : decode b_Course_init 55 = .ok (.dup, 1) := by decide +kernel
theorem d_Course_init_56 : decode b_Course_init 56 = .ok (.bipush 8, 2) := by decide +kernel
theorem d_Course_init_58 : decode b_Course_init 58 = .ok (.invokespecial 35, 3) := by decide +kernel
theorem d_Course_init_61 : decode b_Course_init 61 = .ok (.putfield 42, 3) := by decide +kernel
theorem d_Course_init_64 : decode b_Course_init 64 = .ok (.iconst 0, 1) := by decide +kernel
theorem d_Course_init_65 : decode b_Course_init 65 = .ok (.istore_n 1, 1) := by decide +kernel
theorem d_Course_init_66 : decode b_Course_init 66 = .ok (.iload_n 1, 1) := by decide +kernel
theorem d_Course_init_67 : decode b_Course_init 67 = .ok (.bipush 10, 2) := by decide +kernel
theorem d_Course_init_69 : decode b_Course_init 69 = .ok (.if_icmp .ge 22, 3) := by decide +kernel
theorem d_Course_init_72 : decode b_Course_init 72 = .ok (.aload_n 0, 1) := by decide +kernel
theorem d_Course_init_73 : decode b_Course_init 73 = .ok (.getfield 11, 3) := by decide +kernel
theorem d_Course_init_76 : decode b_Course_init 76 = .ok (.iload_n 1, 1) := by decide +kernel
theorem d_Course_init_77 : decode b_Course_init 77 = .ok (.new 9, 3) := by decide +kernel
theorem d_Course_init_80 : decode b_Course_init 80 = .ok (.dup, 1) := by decide +kernel
theorem d_Course_init_81 : decode b_Course_init 81 = .ok (.invokespecial 45, 3) := by decide +kernel
theorem d_Course_init_84 : decode b_Course_init 84 = .ok (.aastore, 1) := by decide +kernel
theorem d_Course_init_85 : decode b_Course_init 85 = .ok (.iinc 1 1, 3) := by decide +kernel
theorem d_Course_init_88 : decode b_Course_init 88 = .ok (.goto (-22), 3) := by decide +kernel
theorem d_Course_init_91 : decode b_Course_init 91 = .ok (.iconst 0, 1) := by decide +kernel
theorem d_Course_init_92 : decode b_Course_init 92 = .ok (.istore_n 1, 1) := by decide +kernel
theorem d_Course_init_93 : decode b_Course_init 93 = .ok (.iload_n 1, 1) := by decide +kernel
theorem d_Course_init_94 : decode b_Course_init 94 = .ok (.bipush 12, 2) := by decide +kernel
theorem d_Course_init_96 : decode b_Course_init 96 = .ok (.if_icmp .ge 22, 3) := by decide +kernel
theorem d_Course_init_99 : decode b_Course_init 99 = .ok (.aload_n 0, 1) := by decide +kernel
theorem d_Course_init_100 : decode b_Course_init 100 = .ok (.getfield 19, 3) := by decide +kernel
theorem d_Course_init_103 : decode b_Course_init 103 = .ok (.iload_n 1, 1) := by decide +kernel
theorem d_Course_init_104 : decode b_Course_init 104 = .ok (.new 17, 3) := by decide +kernel
theorem d_Course_init_107 : decode b_Course_init 107 = .ok (.dup, 1) := by decide +kernel
theorem d_Course_init_108 : decode b_Course_init 108 = .ok (.invokespecial 46, 3) := by decide +kernel
theorem d_Course_init_111 : decode b_Course_init 111 = .ok (.aastore, 1) := by decide +kernel
theorem d_Course_init_112 : decode b_Course_init 112 = .ok (.iinc 1 1, 3) := by decide +kernel
theorem d_Course_init_115 : decode b_Course_init 115 = .ok (.goto (-22), 3) := by decide +kernel
theorem d_Course_init_118 : decode b_Course_init 118 = .ok (.iconst 0, 1) := by decide +kernel
theorem d_Course_init_119 : decode b_Course_init 119 = .ok (.istore_n 1, 1) := by decide +kernel
theorem d_Course_init_120 : decode b_Course_init 120 = .ok (.iload_n 1, 1) := by decide +kernel
theorem d_Course_init_121 : decode b_Course_init 121 = .ok (.bipush 52, 2) := by decide +kernel
theorem d_Course_init_123 : decode b_Course_init 123 = .ok (.if_icmp .ge 22, 3) := by decide +kernel
theorem d_Course_init_126 : decode b_Course_init 126 = .ok (.aload_n 0, 1) := by decide +kernel
theorem d_Course_init_127 : decode b_Course_init 127 = .ok (.getfield 25, 3) := by decide +kernel
theorem d_Course_init_130 : decode b_Course_init 130 = .ok (.iload_n 1, 1) := by decide +kernel
theorem d_Course_init_131 : decode b_Course_init 131 = .ok (.new 23, 3) := by decide +kernel
theorem d_Course_init_134 : decode b_Course_init 134 = .ok (.dup, 1) := by decide +kernel
theorem d_Course_init_135 : decode b_Course_init 135 = .ok (.invokespecial 47, 3) := by decide +kernel
theorem d_Course_init_138 : decode b_Course_init 138 = .ok (.aastore, 1) := by decide +kernel
theorem d_Course_init_139 : decode b_Course_init 139 = .ok (.iinc 1 1, 3) := by decide +kernel
theorem d_Course_init_142 : decode b_Course_init 142 = .ok (.goto (-22), 3) := by decide +kernel
theorem d_Course_init_145 : decode b_Course_init 145 = .ok (.return_, 1) := by decide +kernel
theorem d_Course_perform_0 : decode b_Course_perform 0 = .ok (.aload_n 0, 1) := by decide +kernel
theorem d_Course_perform_1 : decode b_Course_perform 1 = .ok (.iload_n 1, 1) := by decide +kernel
theorem d_Course_perform_2 : decode b_Course_perform 2 = .ok (.putfield 48, 3) := by decide +kernel
theorem d_Course_perform_5 : decode b_Course_perform 5 = .ok (.aload_n 0, 1) := by decide +kernel
theorem d_Course_perform_6 : decode b_Course_perform 6 = .ok (.iload_n 2, 1) := by decide +kernel
theorem d_Course_perform_7 : decode b_Course_perform 7 = .ok (.putfield 52, 3) := by decide +kernel
theorem d_Course_perform_10 : decode b_Course_perform 10 = .ok (.aload_n 0, 1) := by decide +kernel
theorem d_Course_perform_11 : decode b_Course_perform 11 = .ok (.invokevirtual 55, 3) := by decide +kernel
theorem d_Course_perform_14 : decode b_Course_perform 14 = .ok (.iconst 0, 1) := by decide +kernel
theorem d_Course_perform_15 : decode b_Course_perform 15 = .ok (.istore_n 3, 1) := by decide +kernel
theorem d_Course_perform_16 : decode b_Course_perform 16 = .ok (.iload_n 3, 1) := by decide +kernel
theorem d_Course_perform_17 : decode b_Course_perform 17 = .ok (.sipush 150, 3) := by decide +kernel
theorem d_Course_perform_20 : decode b_Course_perform 20 = .ok (.if_icmp .ge 60, 3) := by decide +kernel
theorem d_Course_perform_23 : decode b_Course_perform 23 = .ok (.aload_n 0, 1) := by decide +kernel
theorem d_Course_perform_24 : decode b_Course_perform 24 = .ok (.invokevirtual 58, 3) := by decide +kernel
theorem d_Course_perform_27 : decode b_Course_perform 27 = .ok (.aload_n 0, 1) := by decide +kernel
theorem d_Course_perform_28 : decode b_Course_perform 28 = .ok (.invokevirtual 61, 3) := by decide +kernel
theorem d_Course_perform_31 : decode b_Course_perform 31 = .ok (.aload_n 0, 1) := by decide +kernel
theorem d_Course_perform_32 : decode b_Course_perform 32 = .ok (.invokevirtual 64, 3) := by decide +kernel
theorem d_Course_perform_35 : decode b_Course_perform 35 = .ok (.aload_n 0, 1) := by decide +kernel
theorem d_Course_perform_36 : decode b_Course_perform 36 = .ok (.aload_n 0, 1) := by decide +kernel
theorem d_Course_perform_37 : decode b_Course_perform 37 = .ok (.getfield 67, 3) := by decide +kernel
theorem d_Course_perform_40 : decode b_Course_perform 40 = .ok (.aload_n 0, 1) := by decide +kernel
theorem d_Course_perform_41 : decode b_Course_perform 41 = .ok (.invokevirtual 70, 3) := by decide +kernel
theorem d_Course_perform_44 : decode b_Course_perform 44 = .ok (.invokestatic 74, 3) := by decide +kernel
theorem d_Course_perform_47 : decode b_Course_perform 47 = .ok (.putfield 67, 3) := by decide +kernel
theorem d_Course_perform_50 : decode b_Course_perform 50 = .ok (.aload_n 0, 1) := by decide +kernel
theorem d_Course_perform_51 : decode b_Course_perform 51 = .ok (.invokevirtual 80, 3) := by decide +kernel
theorem d_Course_perform_54 : decode b_Course_perform 54 = .ok (.ifCond .eq 6, 3) := by decide +kernel
theorem d_Course_perform_57 : decode b_Course_perform 57 = .ok (.goto 23, 3) := by decide +kernel
theorem d_Course_perform_60 : decode b_Course_perform 60 = .ok (.aload_n 0, 1) := by decide +kernel
theorem d_Course_perform_61 : decode b_Course_perform 61 = .ok (.invokevirtual 84, 3) := by decide +kernel
theorem d_Course_perform_64 : decode b_Course_perform 64 = .ok (.aload_n 0, 1) := by decide +kernel
theorem d_Course_perform_65 : decode b_Course_perform 65 = .ok (.dup, 1) := by decide +kernel
theorem d_Course_perform_66 : decode b_Course_perform 66 = .ok (.getfield 87, 3) := by decide +kernel
theorem d_Course_perform_69 : decode b_Course_perform 69 = .ok (.iconst 1, 1) := by decide +kernel
theorem d_Course_perform_70 : decode b_Course_perform 70 = .ok (.iadd, 1) := by decide +kernel
theorem d_Course_perform_71 : decode b_Course_perform 71 = .ok (.putfield 87, 3) := by decide +kernel
theorem d_Course_perform_74 : decode b_Course_perform 74 = .ok (.iinc 3 1, 3) := by decide +kernel
theorem d_Course_perform_77 : decode b_Course_perform 77 = .ok (.goto (-61), 3) := by decide +kernel
theorem d_Course_perform_80 : decode b_Course_perform 80 = .ok (.aload_n 0, 1) := by decide +kernel
theorem d_Course_perform_81 : decode b_Course_perform 81 = .ok (.invokevirtual 90, 3) := by decide +kernel
theorem d_Course_perform_84 : decode b_Course_perform 84 = .ok (.aload_n 0, 1) := by decide +kernel
theorem d_Course_perform_85 : decode b_Course_perform 85 = .ok (.getfield 87, 3) := by decide +kernel
theorem d_Course_perform_88 : decode b_Course_perform 88 = .ok (.ireturn, 1) := by decide +kernel
theorem d_Course_allPassed_0 : decode b_Course_allPassed 0 = .ok (.iconst 0, 1) := by decide +kernel
theorem d_Course_allPassed_1 : decode b_Course_allPassed 1 = .ok (.istore_n 1, 1) := by decide +kernel
theorem d_Course_allPassed_2 : decode b_Course_allPassed 2 = .ok (.iload_n 1, 1) := by decide +kernel
theorem d_Course_allPassed_3 : decode b_Course_allPassed 3 = .ok (.aload_n 0, 1) := by decide +kernel
theorem d_Course_allPassed_4 : decode b_Course_allPassed 4 = .ok (.getfield 48, 3) := by decide +kernel
theorem d_Course_allPassed_7 : decode b_Course_allPassed 7 = .ok (.if_icmp .ge 24, 3) := by decide +kernel
theorem d_Course_allPassed_10 : decode b_Course_allPassed 10 = .ok (.aload_n 0, 1) := by decide +kernel
theorem d_Course_allPassed_11 : decode b_Course_allPassed 11 = .ok (.getfield 19, 3) := by decide +kernel
theorem d_Course_allPassed_14 : decode b_Course_allPassed 14 = .ok (.iload_n 1, 1) := by decide +kernel
theorem d_Course_allPassed_15 : decode b_Course_allPassed 15 = .ok (.aaload, 1) := by decide +kernel
theorem d_Course_allPassed_16 : decode b_Course_allPassed 16 = .ok (.getfield 93, 3) := by decide +kernel
theorem d_Course_allPassed_19 : decode b_Course_allPassed 19 = .ok (.iconst 1, 1) := by decide +kernel
theorem d_Course_allPassed_20 : decode b_Course_allPassed 20 = .ok (.if_icmp .eq 5, 3) := by decide +kernel
theorem d_Course_allPassed_23 : decode b_Course_allPassed 23 = .ok (.iconst 0, 1) := by decide +kernel
theorem d_Course_allPassed_24 : decode b_Course_allPassed 24 = .ok (.ireturn, 1) := by decide +kernel
theorem d_Course_allPassed_25 : decode b_Course_allPassed 25 = .ok (.iinc 1 1, 3) := by decide +kernel
theorem d_Course_allPassed_28 : decode b_Course_allPassed 28 = .ok (.goto (-26), 3) := by decide +kernel
theorem d_Course_allPassed_31 : decode b_Course_allPassed 31 = .ok (.iconst 1, 1) := by decide +kernel
theorem d_Course_allPassed_32 : decode b_Course_allPassed 32 = .ok (.ireturn, 1) := by decide +kernel
theorem d_Course_forgetRun_0 : decode b_Course_forgetRun 0 = .ok (.iconst 0, 1) := by decide +kernel
theorem d_Course_forgetRun_1 : decode b_Course_forgetRun 1 = .ok (.istore_n 1, 1) := by decide +kernel
theorem d_Course_forgetRun_2 : decode b_Course_forgetRun 2 = .ok (.iload_n 1, 1) := by decide +kernel
theorem d_Course_forgetRun_3 : decode b_Course_forgetRun 3 = .ok (.aload_n 0, 1) := by decide +kernel
theorem d_Course_forgetRun_4 : decode b_Course_forgetRun 4 = .ok (.getfield 48, 3) := by decide +kernel
theorem d_Course_forgetRun_7 : decode b_Course_forgetRun 7 = .ok (.if_icmp .ge 18, 3) := by decide +kernel
theorem d_Course_forgetRun_10 : decode b_Course_forgetRun 10 = .ok (.aload_n 0, 1) := by decide +kernel
theorem d_Course_forgetRun_11 : decode b_Course_forgetRun 11 = .ok (.getfield 19, 3) := by decide +kernel
theorem d_Course_forgetRun_14 : decode b_Course_forgetRun 14 = .ok (.iload_n 1, 1) := by decide +kernel
theorem d_Course_forgetRun_15 : decode b_Course_forgetRun 15 = .ok (.aaload, 1) := by decide +kernel
theorem d_Course_forgetRun_16 : decode b_Course_forgetRun 16 = .ok (.invokevirtual 96, 3) := by decide +kernel
theorem d_Course_forgetRun_19 : decode b_Course_forgetRun 19 = .ok (.iinc 1 1, 3) := by decide +kernel
theorem d_Course_forgetRun_22 : decode b_Course_forgetRun 22 = .ok (.goto (-20), 3) := by decide +kernel
theorem d_Course_forgetRun_25 : decode b_Course_forgetRun 25 = .ok (.iconst 0, 1) := by decide +kernel
theorem d_Course_forgetRun_26 : decode b_Course_forgetRun 26 = .ok (.istore_n 1, 1) := by decide +kernel
theorem d_Course_forgetRun_27 : decode b_Course_forgetRun 27 = .ok (.iload_n 1, 1) := by decide +kernel
theorem d_Course_forgetRun_28 : decode b_Course_forgetRun 28 = .ok (.iconst 4, 1) := by decide +kernel
theorem d_Course_forgetRun_29 : decode b_Course_forgetRun 29 = .ok (.if_icmp .ge 16, 3) := by decide +kernel
theorem d_Course_forgetRun_32 : decode b_Course_forgetRun 32 = .ok (.aload_n 0, 1) := by decide +kernel
theorem d_Course_forgetRun_33 : decode b_Course_forgetRun 33 = .ok (.getfield 29, 3) := by decide +kernel
theorem d_Course_forgetRun_36 : decode b_Course_forgetRun 36 = .ok (.iload_n 1, 1) := by decide +kernel
theorem d_Course_forgetRun_37 : decode b_Course_forgetRun 37 = .ok (.iconst (-1), 1) := by decide +kernel
theorem d_Course_forgetRun_38 : decode b_Course_forgetRun 38 = .ok (.iastore, 1) := by decide +kernel
theorem d_Course_forgetRun_39 : decode b_Course_forgetRun 39 = .ok (.iinc 1 1, 3) := by decide +kernel
theorem d_Course_forgetRun_42 : decode b_Course_forgetRun 42 = .ok (.goto (-15), 3) := by decide +kernel
theorem d_Course_forgetRun_45 : decode b_Course_forgetRun 45 = .ok (.aload_n 0, 1) := by decide +kernel
theorem d_Course_forgetRun_46 : decode b_Course_forgetRun 46 = .ok (.getfield 38, 3) := by decide +kernel
theorem d_Course_forgetRun_49 : decode b_Course_forgetRun 49 = .ok (.iconst 0, 1) := by decide +kernel
theorem d_Course_forgetRun_50 : decode b_Course_forgetRun 50 = .ok (.putfield 97, 3) := by decide +kernel
theorem d_Course_forgetRun_53 : decode b_Course_forgetRun 53 = .ok (.aload_n 0, 1) := by decide +kernel
theorem d_Course_forgetRun_54 : decode b_Course_forgetRun 54 = .ok (.getfield 42, 3) := by decide +kernel
theorem d_Course_forgetRun_57 : decode b_Course_forgetRun 57 = .ok (.iconst 0, 1) := by decide +kernel
theorem d_Course_forgetRun_58 : decode b_Course_forgetRun 58 = .ok (.putfield 97, 3) := by decide +kernel
theorem d_Course_forgetRun_61 : decode b_Course_forgetRun 61 = .ok (.aload_n 0, 1) := by decide +kernel
theorem d_Course_forgetRun_62 : decode b_Course_forgetRun 62 = .ok (.iconst 0, 1) := by decide +kernel
theorem d_Course_forgetRun_63 : decode b_Course_forgetRun 63 = .ok (.putfield 100, 3) := by decide +kernel
theorem d_Course_forgetRun_66 : decode b_Course_forgetRun 66 = .ok (.aload_n 0, 1) := by decide +kernel
theorem d_Course_forgetRun_67 : decode b_Course_forgetRun 67 = .ok (.iconst 0, 1) := by decide +kernel
theorem d_Course_forgetRun_68 : decode b_Course_forgetRun 68 = .ok (.putfield 103, 3) := by decide +kernel
theorem d_Course_forgetRun_71 : decode b_Course_forgetRun 71 = .ok (.aload_n 0, 1) := by decide +kernel
theorem d_Course_forgetRun_72 : decode b_Course_forgetRun 72 = .ok (.iconst 0, 1) := by decide +kernel
theorem d_Course_forgetRun_73 : decode b_Course_forgetRun 73 = .ok (.putfield 67, 3) := by decide +kernel
theorem d_Course_forgetRun_76 : decode b_Course_forgetRun 76 = .ok (.aload_n 0, 1) := by decide +kernel
theorem d_Course_forgetRun_77 : decode b_Course_forgetRun 77 = .ok (.iconst 0, 1) := by decide +kernel
theorem d_Course_forgetRun_78 : decode b_Course_forgetRun 78 = .ok (.putfield 87, 3) := by decide +kernel
theorem d_Course_forgetRun_81 : decode b_Course_forgetRun 81 = .ok (.return_, 1) := by decide +kernel
theorem d_Course_stopOverruns_0 : decode b_Course_stopOverruns 0 = .ok (.iconst 0, 1) := by decide +kernel
theorem d_Course_stopOverruns_1 : decode b_Course_stopOverruns 1 = .ok (.istore_n 1, 1) := by decide +kernel
theorem d_Course_stopOverruns_2 : decode b_Course_stopOverruns 2 = .ok (.iload_n 1, 1) := by decide +kernel
theorem d_Course_stopOverruns_3 : decode b_Course_stopOverruns 3 = .ok (.aload_n 0, 1) := by decide +kernel
theorem d_Course_stopOverruns_4 : decode b_Course_stopOverruns 4 = .ok (.getfield 48, 3) := by decide +kernel
theorem d_Course_stopOverruns_7 : decode b_Course_stopOverruns 7 = .ok (.if_icmp .ge 49, 3) := by decide +kernel
theorem d_Course_stopOverruns_10 : decode b_Course_stopOverruns 10 = .ok (.aload_n 0, 1) := by decide +kernel
theorem d_Course_stopOverruns_11 : decode b_Course_stopOverruns 11 = .ok (.getfield 19, 3) := by decide +kernel
theorem d_Course_stopOverruns_14 : decode b_Course_stopOverruns 14 = .ok (.iload_n 1, 1) := by decide +kernel
theorem d_Course_stopOverruns_15 : decode b_Course_stopOverruns 15 = .ok (.aaload, 1) := by decide +kernel
theorem d_Course_stopOverruns_16 : decode b_Course_stopOverruns 16 = .ok (.astore_n 2, 1) := by decide +kernel
theorem d_Course_stopOverruns_17 : decode b_Course_stopOverruns 17 = .ok (.aload_n 2, 1) := by decide +kernel
theorem d_Course_stopOverruns_18 : decode b_Course_stopOverruns 18 = .ok (.aload_n 0, 1) := by decide +kernel
theorem d_Course_stopOverruns_19 : decode b_Course_stopOverruns 19 = .ok (.getfield 87, 3) := by decide +kernel
theorem d_Course_stopOverruns_22 : decode b_Course_stopOverruns 22 = .ok (.invokevirtual 106, 3) := by decide +kernel
theorem d_Course_stopOverruns_25 : decode b_Course_stopOverruns 25 = .ok (.ifCond .eq 25, 3) := by decide +kernel
theorem d_Course_stopOverruns_28 : decode b_Course_stopOverruns 28 = .ok (.aload_n 2, 1) := by decide +kernel
theorem d_Course_stopOverruns_29 : decode b_Course_stopOverruns 29 = .ok (.iconst 3, 1) := by decide +kernel
theorem d_Course_stopOverruns_30 : decode b_Course_stopOverruns 30 = .ok (.aload_n 0, 1) := by decide +kernel
theorem d_Course_stopOverruns_31 : decode b_Course_stopOverruns 31 = .ok (.getfield 87, 3) := by decide +kernel
theorem d_Course_stopOverruns_34 : decode b_Course_stopOverruns 34 = .ok (.invokevirtual 110, 3) := by decide +kernel
theorem d_Course_stopOverruns_37 : decode b_Course_stopOverruns 37 = .ok (.aload_n 0, 1) := by decide +kernel
theorem d_Course_stopOverruns_38 : decode b_Course_stopOverruns 38 = .ok (.getfield 25, 3) := by decide +kernel
theorem d_Course_stopOverruns_41 : decode b_Course_stopOverruns 41 = .ok (.aload_n 2, 1) := by decide +kernel
theorem d_Course_stopOverruns_42 : decode b_Course_stopOverruns 42 = .ok (.getfield 114, 3) := by decide +kernel
theorem d_Course_stopOverruns_45 : decode b_Course_stopOverruns 45 = .ok (.aaload, 1) := by decide +kernel
theorem d_Course_stopOverruns_46 : decode b_Course_stopOverruns 46 = .ok (.iconst 1, 1) := by decide +kernel
theorem d_Course_stopOverruns_47 : decode b_Course_stopOverruns 47 = .ok (.putfield 117, 3) := by decide +kernel
theorem d_Course_stopOverruns_50 : decode b_Course_stopOverruns 50 = .ok (.iinc 1 1, 3) := by decide +kernel
theorem d_Course_stopOverruns_53 : decode b_Course_stopOverruns 53 = .ok (.goto (-51), 3) := by decide +kernel
theorem d_Course_stopOverruns_56 : decode b_Course_stopOverruns 56 = .ok (.return_, 1) := by decide +kernel
theorem d_Course_releaseWorkers_0 : decode b_Course_releaseWorkers 0 = .ok (.iconst 0, 1) := by decide +kernel
theorem d_Course_releaseWorkers_1 : decode b_Course_releaseWorkers 1 = .ok (.istore_n 1, 1) := by decide +kernel
theorem d_Course_releaseWorkers_2 : decode b_Course_releaseWorkers 2 = .ok (.iload_n 1, 1) := by decide +kernel
theorem d_Course_releaseWorkers_3 : decode b_Course_releaseWorkers 3 = .ok (.aload_n 0, 1) := by decide +kernel
theorem d_Course_releaseWorkers_4 : decode b_Course_releaseWorkers 4 = .ok (.getfield 52, 3) := by decide +kernel
theorem d_Course_releaseWorkers_7 : decode b_Course_releaseWorkers 7 = .ok (.if_icmp .ge 35, 3) := by decide +kernel
theorem d_Course_releaseWorkers_10 : decode b_Course_releaseWorkers 10 = .ok (.aload_n 0, 1) := by decide +kernel
theorem d_Course_releaseWorkers_11 : decode b_Course_releaseWorkers 11 = .ok (.getfield 29, 3) := by decide +kernel
theorem d_Course_releaseWorkers_14 : decode b_Course_releaseWorkers 14 = .ok (.iload_n 1, 1) := by decide +kernel
theorem d_Course_releaseWorkers_15 : decode b_Course_releaseWorkers 15 = .ok (.iaload, 1) := by decide +kernel
theorem d_Course_releaseWorkers_16 : decode b_Course_releaseWorkers 16 = .ok (.iconst (-1), 1) := by decide +kernel
theorem d_Course_releaseWorkers_17 : decode b_Course_releaseWorkers 17 = .ok (.if_icmp .eq 19, 3) := by decide +kernel
theorem d_Course_releaseWorkers_20 : decode b_Course_releaseWorkers 20 = .ok (.aload_n 0, 1) := by decide +kernel
theorem d_Course_releaseWorkers_21 : decode b_Course_releaseWorkers 21 = .ok (.iload_n 1, 1) := by decide +kernel
theorem d_Course_releaseWorkers_22 : decode b_Course_releaseWorkers 22 = .ok (.aload_n 0, 1) := by decide +kernel
theorem d_Course_releaseWorkers_23 : decode b_Course_releaseWorkers 23 = .ok (.getfield 19, 3) := by decide +kernel
theorem d_Course_releaseWorkers_26 : decode b_Course_releaseWorkers 26 = .ok (.aload_n 0, 1) := by decide +kernel
theorem d_Course_releaseWorkers_27 : decode b_Course_releaseWorkers 27 = .ok (.getfield 29, 3) := by decide +kernel
theorem d_Course_releaseWorkers_30 : decode b_Course_releaseWorkers 30 = .ok (.iload_n 1, 1) := by decide +kernel
theorem d_Course_releaseWorkers_31 : decode b_Course_releaseWorkers 31 = .ok (.iaload, 1) := by decide +kernel
theorem d_Course_releaseWorkers_32 : decode b_Course_releaseWorkers 32 = .ok (.aaload, 1) := by decide +kernel
theorem d_Course_releaseWorkers_33 : decode b_Course_releaseWorkers 33 = .ok (.invokevirtual 121, 3) := by decide +kernel
theorem d_Course_releaseWorkers_36 : decode b_Course_releaseWorkers 36 = .ok (.iinc 1 1, 3) := by decide +kernel
theorem d_Course_releaseWorkers_39 : decode b_Course_releaseWorkers 39 = .ok (.goto (-37), 3) := by decide +kernel
theorem d_Course_releaseWorkers_42 : decode b_Course_releaseWorkers 42 = .ok (.return_, 1) := by decide +kernel
theorem d_Course_releaseIfDone_0 : decode b_Course_releaseIfDone 0 = .ok (.aload_n 0, 1) := by decide +kernel
theorem d_Course_releaseIfDone_1 : decode b_Course_releaseIfDone 1 = .ok (.getfield 25, 3) := by decide +kernel
theorem d_Course_releaseIfDone_4 : decode b_Course_releaseIfDone 4 = .ok (.aload_n 2, 1) := by decide +kernel
theorem d_Course_releaseIfDone_5 : decode b_Course_releaseIfDone 5 = .ok (.getfield 114, 3) := by decide +kernel
theorem d_Course_releaseIfDone_8 : decode b_Course_releaseIfDone 8 = .ok (.aaload, 1) := by decide +kernel
theorem d_Course_releaseIfDone_9 : decode b_Course_releaseIfDone 9 = .ok (.getfield 125, 3) := by decide +kernel
theorem d_Course_releaseIfDone_12 : decode b_Course_releaseIfDone 12 = .ok (.ifCond .eq 13, 3) := by decide +kernel
theorem d_Course_releaseIfDone_15 : decode b_Course_releaseIfDone 15 = .ok (.aload_n 0, 1) := by decide +kernel
theorem d_Course_releaseIfDone_16 : decode b_Course_releaseIfDone 16 = .ok (.getfield 29, 3) := by decide +kernel
theorem d_Course_releaseIfDone_19 : decode b_Course_releaseIfDone 19 = .ok (.iload_n 1, 1) := by decide +kernel
theorem d_Course_releaseIfDone_20 : decode b_Course_releaseIfDone 20 = .ok (.iconst (-1), 1) := by decide +kernel
theorem d_Course_releaseIfDone_21 : decode b_Course_releaseIfDone 21 = .ok (.iastore, 1) := by decide +kernel
theorem d_Course_releaseIfDone_22 : decode b_Course_releaseIfDone 22 = .ok (.goto 36, 3) := by decide +kernel
theorem d_Course_releaseIfDone_25 : decode b_Course_releaseIfDone 25 = .ok (.aload_n 2, 1) := by decide +kernel
theorem d_Course_releaseIfDone_26 : decode b_Course_releaseIfDone 26 = .ok (.getfield 93, 3) := by decide +kernel
theorem d_Course_releaseIfDone_29 : decode b_Course_releaseIfDone 29 = .ok (.iconst 3, 1) := by decide +kernel
theorem d_Course_releaseIfDone_30 : decode b_Course_releaseIfDone 30 = .ok (.if_icmp .ne 28, 3) := by decide +kernel
theorem d_Course_releaseIfDone_33 : decode b_Course_releaseIfDone 33 = .ok (.aload_n 0, 1) := by decide +kernel
theorem d_Course_releaseIfDone_34 : decode b_Course_releaseIfDone 34 = .ok (.getfield 87, 3) := by decide +kernel
theorem d_Course_releaseIfDone_37 : decode b_Course_releaseIfDone 37 = .ok (.aload_n 2, 1) := by decide +kernel
theorem d_Course_releaseIfDone_38 : decode b_Course_releaseIfDone 38 = .ok (.getfield 128, 3) := by decide +kernel
theorem d_Course_releaseIfDone_41 : decode b_Course_releaseIfDone 41 = .ok (.isub, 1) := by decide +kernel
theorem d_Course_releaseIfDone_42 : decode b_Course_releaseIfDone 42 = .ok (.iconst 3, 1) := by decide +kernel
theorem d_Course_releaseIfDone_43 : decode b_Course_releaseIfDone 43 = .ok (.if_icmp .lt 15, 3) := by decide +kernel
theorem d_Course_releaseIfDone_46 : decode b_Course_releaseIfDone 46 = .ok (.aload_n 2, 1) := by decide +kernel
theorem d_Course_releaseIfDone_47 : decode b_Course_releaseIfDone 47 = .ok (.iconst 1, 1) := by decide +kernel
theorem d_Course_releaseIfDone_48 : decode b_Course_releaseIfDone 48 = .ok (.putfield 131, 3) := by decide +kernel
theorem d_Course_releaseIfDone_51 : decode b_Course_releaseIfDone 51 = .ok (.aload_n 0, 1) := by decide +kernel
theorem d_Course_releaseIfDone_52 : decode b_Course_releaseIfDone 52 = .ok (.getfield 29, 3) := by decide +kernel
theorem d_Course_releaseIfDone_55 : decode b_Course_releaseIfDone 55 = .ok (.iload_n 1, 1) := by decide +kernel
theorem d_Course_releaseIfDone_56 : decode b_Course_releaseIfDone 56 = .ok (.iconst (-1), 1) := by decide +kernel
theorem d_Course_releaseIfDone_57 : decode b_Course_releaseIfDone 57 = .ok (.iastore, 1) := by decide +kernel
theorem d_Course_releaseIfDone_58 : decode b_Course_releaseIfDone 58 = .ok (.return_, 1) := by decide +kernel
theorem d_Course_beginTrials_0 : decode b_Course_beginTrials 0 = .ok (.iconst 0, 1) := by decide +kernel
theorem d_Course_beginTrials_1 : decode b_Course_beginTrials 1 = .ok (.istore_n 1, 1) := by decide +kernel
theorem d_Course_beginTrials_2 : decode b_Course_beginTrials 2 = .ok (.iload_n 1, 1) := by decide +kernel
theorem d_Course_beginTrials_3 : decode b_Course_beginTrials 3 = .ok (.aload_n 0, 1) := by decide +kernel
theorem d_Course_beginTrials_4 : decode b_Course_beginTrials 4 = .ok (.getfield 48, 3) := by decide +kernel
theorem d_Course_beginTrials_7 : decode b_Course_beginTrials 7 = .ok (.if_icmp .ge 51, 3) := by decide +kernel
theorem d_Course_beginTrials_10 : decode b_Course_beginTrials 10 = .ok (.aload_n 0, 1) := by decide +kernel
theorem d_Course_beginTrials_11 : decode b_Course_beginTrials 11 = .ok (.invokevirtual 134, 3) := by decide +kernel
theorem d_Course_beginTrials_14 : decode b_Course_beginTrials 14 = .ok (.istore_n 2, 1) := by decide +kernel
theorem d_Course_beginTrials_15 : decode b_Course_beginTrials 15 = .ok (.iload_n 2, 1) := by decide +kernel
theorem d_Course_beginTrials_16 : decode b_Course_beginTrials 16 = .ok (.iconst (-1), 1) := by decide +kernel
theorem d_Course_beginTrials_17 : decode b_Course_beginTrials 17 = .ok (.if_icmp .eq 35, 3) := by decide +kernel
theorem d_Course_beginTrials_20 : decode b_Course_beginTrials 20 = .ok (.aload_n 0, 1) := by decide +kernel
theorem d_Course_beginTrials_21 : decode b_Course_beginTrials 21 = .ok (.getfield 19, 3) := by decide +kernel
theorem d_Course_beginTrials_24 : decode b_Course_beginTrials 24 = .ok (.iload_n 1, 1) := by decide +kernel
theorem d_Course_beginTrials_25 : decode b_Course_beginTrials 25 = .ok (.aaload, 1) := by decide +kernel
theorem d_Course_beginTrials_26 : decode b_Course_beginTrials 26 = .ok (.getfield 137, 3) := by decide +kernel
theorem d_Course_beginTrials_29 : decode b_Course_beginTrials 29 = .ok (.iconst (-1), 1) := by decide +kernel
theorem d_Course_beginTrials_30 : decode b_Course_beginTrials 30 = .ok (.if_icmp .ne 22, 3) := by decide +kernel
theorem d_Course_beginTrials_33 : decode b_Course_beginTrials 33 = .ok (.aload_n 0, 1) := by decide +kernel
theorem d_Course_beginTrials_34 : decode b_Course_beginTrials 34 = .ok (.aload_n 0, 1) := by decide +kernel
theorem d_Course_beginTrials_35 : decode b_Course_beginTrials 35 = .ok (.getfield 19, 3) := by decide +kernel
theorem d_Course_beginTrials_38 : decode b_Course_beginTrials 38 = .ok (.iload_n 1, 1) := by decide +kernel
theorem d_Course_beginTrials_39 : decode b_Course_beginTrials 39 = .ok (.aaload, 1) := by decide +kernel
theorem d_Course_beginTrials_40 : decode b_Course_beginTrials 40 = .ok (.invokevirtual 140, 3) := by decide +kernel
theorem d_Course_beginTrials_43 : decode b_Course_beginTrials 43 = .ok (.ifCond .eq 9, 3) := by decide +kernel
theorem d_Course_beginTrials_46 : decode b_Course_beginTrials 46 = .ok (.aload_n 0, 1) := by decide +kernel
theorem d_Course_beginTrials_47 : decode b_Course_beginTrials 47 = .ok (.iload_n 1, 1) := by decide +kernel
theorem d_Course_beginTrials_48 : decode b_Course_beginTrials 48 = .ok (.iload_n 2, 1) := by decide +kernel
theorem d_Course_beginTrials_49 : decode b_Course_beginTrials 49 = .ok (.invokevirtual 144, 3) := by decide +kernel
theorem d_Course_beginTrials_52 : decode b_Course_beginTrials 52 = .ok (.iinc 1 1, 3) := by decide +kernel
theorem d_Course_beginTrials_55 : decode b_Course_beginTrials 55 = .ok (.goto (-53), 3) := by decide +kernel
theorem d_Course_beginTrials_58 : decode b_Course_beginTrials 58 = .ok (.return_, 1) := by decide +kernel
theorem d_Course_lowestFreeWorker_0 : decode b_Course_lowestFreeWorker 0 = .ok (.iconst 0, 1) := by decide +kernel
theorem d_Course_lowestFreeWorker_1 : decode b_Course_lowestFreeWorker 1 = .ok (.istore_n 1, 1) := by decide +kernel
theorem d_Course_lowestFreeWorker_2 : decode b_Course_lowestFreeWorker 2 = .ok (.iload_n 1, 1) := by decide +kernel
theorem d_Course_lowestFreeWorker_3 : decode b_Course_lowestFreeWorker 3 = .ok (.aload_n 0, 1) := by decide +kernel
theorem d_Course_lowestFreeWorker_4 : decode b_Course_lowestFreeWorker 4 = .ok (.getfield 52, 3) := by decide +kernel
theorem d_Course_lowestFreeWorker_7 : decode b_Course_lowestFreeWorker 7 = .ok (.if_icmp .ge 21, 3) := by decide +kernel
theorem d_Course_lowestFreeWorker_10 : decode b_Course_lowestFreeWorker 10 = .ok (.aload_n 0, 1) := by decide +kernel
theorem d_Course_lowestFreeWorker_11 : decode b_Course_lowestFreeWorker 11 = .ok (.getfield 29, 3) := by decide +kernel
theorem d_Course_lowestFreeWorker_14 : decode b_Course_lowestFreeWorker 14 = .ok (.iload_n 1, 1) := by decide +kernel
theorem d_Course_lowestFreeWorker_15 : decode b_Course_lowestFreeWorker 15 = .ok (.iaload, 1) := by decide +kernel
theorem d_Course_lowestFreeWorker_16 : decode b_Course_lowestFreeWorker 16 = .ok (.iconst (-1), 1) := by decide +kernel
theorem d_Course_lowestFreeWorker_17 : decode b_Course_lowestFreeWorker 17 = .ok (.if_icmp .ne 5, 3) := by decide +kernel
theorem d_Course_lowestFreeWorker_20 : decode b_Course_lowestFreeWorker 20 = .ok (.iload_n 1, 1) := by decide +kernel
theorem d_Course_lowestFreeWorker_21 : decode b_Course_lowestFreeWorker 21 = .ok (.ireturn, 1) := by decide +kernel
theorem d_Course_lowestFreeWorker_22 : decode b_Course_lowestFreeWorker 22 = .ok (.iinc 1 1, 3) := by decide +kernel
theorem d_Course_lowestFreeWorker_25 : decode b_Course_lowestFreeWorker 25 = .ok (.goto (-23), 3) := by decide +kernel
theorem d_Course_lowestFreeWorker_28 : decode b_Course_lowestFreeWorker 28 = .ok (.iconst (-1), 1) := by decide +kernel
theorem d_Course_lowestFreeWorker_29 : decode b_Course_lowestFreeWorker 29 = .ok (.ireturn, 1) := by decide +kernel
theorem d_Course_canHaveLocks_0 : decode b_Course_canHaveLocks 0 = .ok (.iconst 0, 1) := by decide +kernel
theorem d_Course_canHaveLocks_1 : decode b_Course_canHaveLocks 1 = .ok (.istore_n 2, 1) := by decide +kernel
theorem d_Course_canHaveLocks_2 : decode b_Course_canHaveLocks 2 = .ok (.iload_n 2, 1) := by decide +kernel
theorem d_Course_canHaveLocks_3 : decode b_Course_canHaveLocks 3 = .ok (.aload_n 0, 1) := by decide +kernel
theorem d_Course_canHaveLocks_4 : decode b_Course_canHaveLocks 4 = .ok (.getfield 48, 3) := by decide +kernel
theorem d_Course_canHaveLocks_7 : decode b_Course_canHaveLocks 7 = .ok (.if_icmp .ge 36, 3) := by decide +kernel
theorem d_Course_canHaveLocks_10 : decode b_Course_canHaveLocks 10 = .ok (.aload_n 0, 1) := by decide +kernel
theorem d_Course_canHaveLocks_11 : decode b_Course_canHaveLocks 11 = .ok (.getfield 19, 3) := by decide +kernel
theorem d_Course_canHaveLocks_14 : decode b_Course_canHaveLocks 14 = .ok (.iload_n 2, 1) := by decide +kernel
theorem d_Course_canHaveLocks_15 : decode b_Course_canHaveLocks 15 = .ok (.aaload, 1) := by decide +kernel
theorem d_Course_canHaveLocks_16 : decode b_Course_canHaveLocks 16 = .ok (.invokevirtual 147, 3) := by decide +kernel
theorem d_Course_canHaveLocks_19 : decode b_Course_canHaveLocks 19 = .ok (.ifCond .eq 18, 3) := by decide +kernel
theorem d_Course_canHaveLocks_22 : decode b_Course_canHaveLocks 22 = .ok (.aload_n 0, 1) := by decide +kernel
theorem d_Course_canHaveLocks_23 : decode b_Course_canHaveLocks 23 = .ok (.getfield 19, 3) := by decide +kernel
theorem d_Course_canHaveLocks_26 : decode b_Course_canHaveLocks 26 = .ok (.iload_n 2, 1) := by decide +kernel
theorem d_Course_canHaveLocks_27 : decode b_Course_canHaveLocks 27 = .ok (.aaload, 1) := by decide +kernel
theorem d_Course_canHaveLocks_28 : decode b_Course_canHaveLocks 28 = .ok (.aload_n 1, 1) := by decide +kernel
theorem d_Course_canHaveLocks_29 : decode b_Course_canHaveLocks 29 = .ok (.invokevirtual 150, 3) := by decide +kernel
theorem d_Course_canHaveLocks_32 : decode b_Course_canHaveLocks 32 = .ok (.ifCond .eq 5, 3) := by decide +kernel
theorem d_Course_canHaveLocks_35 : decode b_Course_canHaveLocks 35 = .ok (.iconst 0, 1) := by decide +kernel
theorem d_Course_canHaveLocks_36 : decode b_Course_canHaveLocks 36 = .ok (.ireturn, 1) := by decide +kernel
theorem d_Course_canHaveLocks_37 : decode b_Course_canHaveLocks 37 = .ok (.iinc 2 1, 3) := by decide +kernel
theorem d_Course_canHaveLocks_40 : decode b_Course_canHaveLocks 40 = .ok (.goto (-38), 3) := by decide +kernel
theorem d_Course_canHaveLocks_43 : decode b_Course_canHaveLocks 43 = .ok (.iconst 1, 1) := by decide +kernel
theorem d_Course_canHaveLocks_44 : decode b_Course_canHaveLocks 44 = .ok (.ireturn, 1) := by decide +kernel
theorem d_Course_begin_0 : decode b_Course_begin 0 = .ok (.aload_n 0, 1) := by decide +kernel
theorem d_Course_begin_1 : decode b_Course_begin 1 = .ok (.getfield 19, 3) := by decide +kernel
theorem d_Course_begin_4 : decode b_Course_begin 4 = .ok (.iload_n 1, 1) := by decide +kernel
theorem d_Course_begin_5 : decode b_Course_begin 5 = .ok (.aaload, 1) := by decide +kernel
theorem d_Course_begin_6 : decode b_Course_begin 6 = .ok (.astore_n 3, 1) := by decide +kernel
theorem d_Course_begin_7 : decode b_Course_begin 7 = .ok (.aload_n 3, 1) := by decide +kernel
theorem d_Course_begin_8 : decode b_Course_begin 8 = .ok (.aload_n 0, 1) := by decide +kernel
theorem d_Course_begin_9 : decode b_Course_begin 9 = .ok (.getfield 87, 3) := by decide +kernel
theorem d_Course_begin_12 : decode b_Course_begin 12 = .ok (.putfield 137, 3) := by decide +kernel
theorem d_Course_begin_15 : decode b_Course_begin 15 = .ok (.aload_n 3, 1) := by decide +kernel
theorem d_Course_begin_16 : decode b_Course_begin 16 = .ok (.iload_n 2, 1) := by decide +kernel
theorem d_Course_begin_17 : decode b_Course_begin 17 = .ok (.putfield 153, 3) := by decide +kernel
theorem d_Course_begin_20 : decode b_Course_begin 20 = .ok (.aload_n 3, 1) := by decide +kernel
theorem d_Course_begin_21 : decode b_Course_begin 21 = .ok (.aload_n 0, 1) := by decide +kernel
theorem d_Course_begin_22 : decode b_Course_begin 22 = .ok (.getfield 100, 3) := by decide +kernel
theorem d_Course_begin_25 : decode b_Course_begin 25 = .ok (.putfield 114, 3) := by decide +kernel
theorem d_Course_begin_28 : decode b_Course_begin 28 = .ok (.aload_n 0, 1) := by decide +kernel
theorem d_Course_begin_29 : decode b_Course_begin 29 = .ok (.getfield 29, 3) := by decide +kernel
theorem d_Course_begin_32 : decode b_Course_begin 32 = .ok (.iload_n 2, 1) := by decide +kernel
theorem d_Course_begin_33 : decode b_Course_begin 33 = .ok (.iload_n 1, 1) := by decide +kernel
theorem d_Course_begin_34 : decode b_Course_begin 34 = .ok (.iastore, 1) := by decide +kernel
theorem d_Course_begin_35 : decode b_Course_begin 35 = .ok (.aload_n 0, 1) := by decide +kernel
theorem d_Course_begin_36 : decode b_Course_begin 36 = .ok (.aload_n 3, 1) := by decide +kernel
theorem d_Course_begin_37 : decode b_Course_begin 37 = .ok (.getfield 156, 3) := by decide +kernel
theorem d_Course_begin_40 : decode b_Course_begin 40 = .ok (.iload_n 1, 1) := by decide +kernel
theorem d_Course_begin_41 : decode b_Course_begin 41 = .ok (.iconst (-1), 1) := by decide +kernel
theorem d_Course_begin_42 : decode b_Course_begin 42 = .ok (.invokevirtual 159, 3) := by decide +kernel
theorem d_Course_begin_45 : decode b_Course_begin 45 = .ok (.return_, 1) := by decide +kernel
theorem d_Course_startStrand_0 : decode b_Course_startStrand 0 = .ok (.aload_n 0, 1) := by decide +kernel
theorem d_Course_startStrand_1 : decode b_Course_startStrand 1 = .ok (.getfield 100, 3) := by decide +kernel
theorem d_Course_startStrand_4 : decode b_Course_startStrand 4 = .ok (.bipush 52, 2) := by decide +kernel
theorem d_Course_startStrand_6 : decode b_Course_startStrand 6 = .ok (.if_icmp .ge 43, 3) := by decide +kernel
theorem d_Course_startStrand_9 : decode b_Course_startStrand 9 = .ok (.aload_n 0, 1) := by decide +kernel
theorem d_Course_startStrand_10 : decode b_Course_startStrand 10 = .ok (.getfield 25, 3) := by decide +kernel
theorem d_Course_startStrand_13 : decode b_Course_startStrand 13 = .ok (.aload_n 0, 1) := by decide +kernel
theorem d_Course_startStrand_14 : decode b_Course_startStrand 14 = .ok (.getfield 100, 3) := by decide +kernel
theorem d_Course_startStrand_17 : decode b_Course_startStrand 17 = .ok (.aaload, 1) := by decide +kernel
theorem d_Course_startStrand_18 : decode b_Course_startStrand 18 = .ok (.iload_n 1, 1) := by decide +kernel
theorem d_Course_startStrand_19 : decode b_Course_startStrand 19 = .ok (.iload_n 2, 1) := by decide +kernel
theorem d_Course_startStrand_20 : decode b_Course_startStrand 20 = .ok (.iload_n 3, 1) := by decide +kernel
theorem d_Course_startStrand_21 : decode b_Course_startStrand 21 = .ok (.invokevirtual 163, 3) := by decide +kernel
theorem d_Course_startStrand_24 : decode b_Course_startStrand 24 = .ok (.aload_n 0, 1) := by decide +kernel
theorem d_Course_startStrand_25 : decode b_Course_startStrand 25 = .ok (.dup, 1) := by decide +kernel
theorem d_Course_startStrand_26 : decode b_Course_startStrand 26 = .ok (.getfield 100, 3) := by decide +kernel
theorem d_Course_startStrand_29 : decode b_Course_startStrand 29 = .ok (.iconst 1, 1) := by decide +kernel
theorem d_Course_startStrand_30 : decode b_Course_startStrand 30 = .ok (.iadd, 1) := by decide +kernel
theorem d_Course_startStrand_31 : decode b_Course_startStrand 31 = .ok (.putfield 100, 3) := by decide +kernel
theorem d_Course_startStrand_34 : decode b_Course_startStrand 34 = .ok (.aload_n 0, 1) := by decide +kernel
theorem d_Course_startStrand_35 : decode b_Course_startStrand 35 = .ok (.getfield 19, 3) := by decide +kernel
theorem d_Course_startStrand_38 : decode b_Course_startStrand 38 = .ok (.iload_n 2, 1) := by decide +kernel
theorem d_Course_startStrand_39 : decode b_Course_startStrand 39 = .ok (.aaload, 1) := by decide +kernel
theorem d_Course_startStrand_40 : decode b_Course_startStrand 40 = .ok (.dup, 1) := by decide +kernel
theorem d_Course_startStrand_41 : decode b_Course_startStrand 41 = .ok (.getfield 166, 3) := by decide +kernel
theorem d_Course_startStrand_44 : decode b_Course_startStrand 44 = .ok (.iconst 1, 1) := by decide +kernel
theorem d_Course_startStrand_45 : decode b_Course_startStrand 45 = .ok (.iadd, 1) := by decide +kernel
theorem d_Course_startStrand_46 : decode b_Course_startStrand 46 = .ok (.putfield 166, 3) := by decide +kernel
theorem d_Course_startStrand_49 : decode b_Course_startStrand 49 = .ok (.return_, 1) := by decide +kernel
theorem d_Course_countRunning_0 : decode b_Course_countRunning 0 = .ok (.iconst 0, 1) := by decide +kernel
theorem d_Course_countRunning_1 : decode b_Course_countRunning 1 = .ok (.istore_n 1, 1) := by decide +kernel
theorem d_Course_countRunning_2 : decode b_Course_countRunning 2 = .ok (.iconst 0, 1) := by decide +kernel
theorem d_Course_countRunning_3 : decode b_Course_countRunning 3 = .ok (.istore_n 2, 1) := by decide +kernel
theorem d_Course_countRunning_4 : decode b_Course_countRunning 4 = .ok (.iload_n 2, 1) := by decide +kernel
theorem d_Course_countRunning_5 : decode b_Course_countRunning 5 = .ok (.aload_n 0, 1) := by decide +kernel
theorem d_Course_countRunning_6 : decode b_Course_countRunning 6 = .ok (.getfield 48, 3) := by decide +kernel
theorem d_Course_countRunning_9 : decode b_Course_countRunning 9 = .ok (.if_icmp .ge 24, 3) := by decide +kernel
theorem d_Course_countRunning_12 : decode b_Course_countRunning 12 = .ok (.aload_n 0, 1) := by decide +kernel
theorem d_Course_countRunning_13 : decode b_Course_countRunning 13 = .ok (.getfield 19, 3) := by decide +kernel
theorem d_Course_countRunning_16 : decode b_Course_countRunning 16 = .ok (.iload_n 2, 1) := by decide +kernel
theorem d_Course_countRunning_17 : decode b_Course_countRunning 17 = .ok (.aaload, 1) := by decide +kernel
theorem d_Course_countRunning_18 : decode b_Course_countRunning 18 = .ok (.invokevirtual 147, 3) := by decide +kernel
theorem d_Course_countRunning_21 : decode b_Course_countRunning 21 = .ok (.ifCond .eq 6, 3) := by decide +kernel
theorem d_Course_countRunning_24 : decode b_Course_countRunning 24 = .ok (.iinc 1 1, 3) := by decide +kernel
theorem d_Course_countRunning_27 : decode b_Course_countRunning 27 = .ok (.iinc 2 1, 3) := by decide +kernel
theorem d_Course_countRunning_30 : decode b_Course_countRunning 30 = .ok (.goto (-26), 3) := by decide +kernel
theorem d_Course_countRunning_33 : decode b_Course_countRunning 33 = .ok (.iload_n 1, 1) := by decide +kernel
theorem d_Course_countRunning_34 : decode b_Course_countRunning 34 = .ok (.ireturn, 1) := by decide +kernel
theorem d_Course_isFinished_0 : decode b_Course_isFinished 0 = .ok (.iconst 0, 1) := by decide +kernel
theorem d_Course_isFinished_1 : decode b_Course_isFinished 1 = .ok (.istore_n 1, 1) := by decide +kernel
theorem d_Course_isFinished_2 : decode b_Course_isFinished 2 = .ok (.iload_n 1, 1) := by decide +kernel
theorem d_Course_isFinished_3 : decode b_Course_isFinished 3 = .ok (.aload_n 0, 1) := by decide +kernel
theorem d_Course_isFinished_4 : decode b_Course_isFinished 4 = .ok (.getfield 48, 3) := by decide +kernel
theorem d_Course_isFinished_7 : decode b_Course_isFinished 7 = .ok (.if_icmp .ge 23, 3) := by decide +kernel
theorem d_Course_isFinished_10 : decode b_Course_isFinished 10 = .ok (.aload_n 0, 1) := by decide +kernel
theorem d_Course_isFinished_11 : decode b_Course_isFinished 11 = .ok (.getfield 19, 3) := by decide +kernel
theorem d_Course_isFinished_14 : decode b_Course_isFinished 14 = .ok (.iload_n 1, 1) := by decide +kernel
theorem d_Course_isFinished_15 : decode b_Course_isFinished 15 = .ok (.aaload, 1) := by decide +kernel
theorem d_Course_isFinished_16 : decode b_Course_isFinished 16 = .ok (.getfield 93, 3) := by decide +kernel
theorem d_Course_isFinished_19 : decode b_Course_isFinished 19 = .ok (.ifCond .ne 5, 3) := by decide +kernel
theorem d_Course_isFinished_22 : decode b_Course_isFinished 22 = .ok (.iconst 0, 1) := by decide +kernel
theorem d_Course_isFinished_23 : decode b_Course_isFinished 23 = .ok (.ireturn, 1) := by decide +kernel
theorem d_Course_isFinished_24 : decode b_Course_isFinished 24 = .ok (.iinc 1 1, 3) := by decide +kernel
theorem d_Course_isFinished_27 : decode b_Course_isFinished 27 = .ok (.goto (-25), 3) := by decide +kernel
theorem d_Course_isFinished_30 : decode b_Course_isFinished 30 = .ok (.iconst 0, 1) := by decide +kernel
theorem d_Course_isFinished_31 : decode b_Course_isFinished 31 = .ok (.istore_n 1, 1) := by decide +kernel
theorem d_Course_isFinished_32 : decode b_Course_isFinished 32 = .ok (.iload_n 1, 1) := by decide +kernel
theorem d_Course_isFinished_33 : decode b_Course_isFinished 33 = .ok (.aload_n 0, 1) := by decide +kernel
theorem d_Course_isFinished_34 : decode b_Course_isFinished 34 = .ok (.getfield 52, 3) := by decide +kernel
theorem d_Course_isFinished_37 : decode b_Course_isFinished 37 = .ok (.if_icmp .ge 21, 3) := by decide +kernel
theorem d_Course_isFinished_40 : decode b_Course_isFinished 40 = .ok (.aload_n 0, 1) := by decide +kernel
theorem d_Course_isFinished_41 : decode b_Course_isFinished 41 = .ok (.getfield 29, 3) := by decide +kernel
theorem d_Course_isFinished_44 : decode b_Course_isFinished 44 = .ok (.iload_n 1, 1) := by decide +kernel
theorem d_Course_isFinished_45 : decode b_Course_isFinished 45 = .ok (.iaload, 1) := by decide +kernel
theorem d_Course_isFinished_46 : decode b_Course_isFinished 46 = .ok (.iconst (-1), 1) := by decide +kernel
theorem d_Course_isFinished_47 : decode b_Course_isFinished 47 = .ok (.if_icmp .eq 5, 3) := by decide +kernel
theorem d_Course_isFinished_50 : decode b_Course_isFinished 50 = .ok (.iconst 0, 1) := by decide +kernel
theorem d_Course_isFinished_51 : decode b_Course_isFinished 51 = .ok (.ireturn, 1) := by decide +kernel
theorem d_Course_isFinished_52 : decode b_Course_isFinished 52 = .ok (.iinc 1 1, 3) := by decide +kernel
theorem d_Course_isFinished_55 : decode b_Course_isFinished 55 = .ok (.goto (-23), 3) := by decide +kernel
theorem d_Course_isFinished_58 : decode b_Course_isFinished 58 = .ok (.iconst 1, 1) := by decide +kernel
theorem d_Course_isFinished_59 : decode b_Course_isFinished 59 = .ok (.ireturn, 1) := by decide +kernel
theorem d_Course_takeTurns_0 : decode b_Course_takeTurns 0 = .ok (.aload_n 0, 1) := by decide +kernel
theorem d_Course_takeTurns_1 : decode b_Course_takeTurns 1 = .ok (.getfield 100, 3) := by decide +kernel
theorem d_Course_takeTurns_4 : decode b_Course_takeTurns 4 = .ok (.istore_n 1, 1) := by decide +kernel
theorem d_Course_takeTurns_5 : decode b_Course_takeTurns 5 = .ok (.iconst 0, 1) := by decide +kernel
theorem d_Course_takeTurns_6 : decode b_Course_takeTurns 6 = .ok (.istore_n 2, 1) := by decide +kernel
theorem d_Course_takeTurns_7 : decode b_Course_takeTurns 7 = .ok (.iload_n 2, 1) := by decide +kernel
theorem d_Course_takeTurns_8 : decode b_Course_takeTurns 8 = .ok (.iload_n 1, 1) := by decide +kernel
theorem d_Course_takeTurns_9 : decode b_Course_takeTurns 9 = .ok (.if_icmp .ge 26, 3) := by decide +kernel
theorem d_Course_takeTurns_12 : decode b_Course_takeTurns 12 = .ok (.aload_n 0, 1) := by decide +kernel
theorem d_Course_takeTurns_13 : decode b_Course_takeTurns 13 = .ok (.getfield 25, 3) := by decide +kernel
theorem d_Course_takeTurns_16 : decode b_Course_takeTurns 16 = .ok (.iload_n 2, 1) := by decide +kernel
theorem d_Course_takeTurns_17 : decode b_Course_takeTurns 17 = .ok (.aaload, 1) := by decide +kernel
theorem d_Course_takeTurns_18 : decode b_Course_takeTurns 18 = .ok (.getfield 125, 3) := by decide +kernel
theorem d_Course_takeTurns_21 : decode b_Course_takeTurns 21 = .ok (.ifCond .ne 8, 3) := by decide +kernel
theorem d_Course_takeTurns_24 : decode b_Course_takeTurns 24 = .ok (.aload_n 0, 1) := by decide +kernel
theorem d_Course_takeTurns_25 : decode b_Course_takeTurns 25 = .ok (.iload_n 2, 1) := by decide +kernel
theorem d_Course_takeTurns_26 : decode b_Course_takeTurns 26 = .ok (.invokevirtual 167, 3) := by decide +kernel
theorem d_Course_takeTurns_29 : decode b_Course_takeTurns 29 = .ok (.iinc 2 1, 3) := by decide +kernel
theorem d_Course_takeTurns_32 : decode b_Course_takeTurns 32 = .ok (.goto (-25), 3) := by decide +kernel
theorem d_Course_takeTurns_35 : decode b_Course_takeTurns 35 = .ok (.return_, 1) := by decide +kernel
theorem d_Course_takeTurn_0 : decode b_Course_takeTurn 0 = .ok (.iconst 1, 1) := by decide +kernel
theorem d_Course_takeTurn_1 : decode b_Course_takeTurn 1 = .ok (.istore_n 2, 1) := by decide +kernel
theorem d_Course_takeTurn_2 : decode b_Course_takeTurn 2 = .ok (.iconst 0, 1) := by decide +kernel
theorem d_Course_takeTurn_3 : decode b_Course_takeTurn 3 = .ok (.istore_n 3, 1) := by decide +kernel
theorem d_Course_takeTurn_4 : decode b_Course_takeTurn 4 = .ok (.iload_n 3, 1) := by decide +kernel
theorem d_Course_takeTurn_5 : decode b_Course_takeTurn 5 = .ok (.bipush 10, 2) := by decide +kernel
theorem d_Course_takeTurn_7 : decode b_Course_takeTurn 7 = .ok (.if_icmp .gt 19, 3) := by decide +kernel
theorem d_Course_takeTurn_10 : decode b_Course_takeTurn 10 = .ok (.iload_n 2, 1) := by decide +kernel
theorem d_Course_takeTurn_11 : decode b_Course_takeTurn 11 = .ok (.ifCond .eq 15, 3) := by decide +kernel
theorem d_Course_takeTurn_14 : decode b_Course_takeTurn 14 = .ok (.aload_n 0, 1) := by decide +kernel
theorem d_Course_takeTurn_15 : decode b_Course_takeTurn 15 = .ok (.iload_n 1, 1) := by decide +kernel
theorem d_Course_takeTurn_16 : decode b_Course_takeTurn 16 = .ok (.invokevirtual 170, 3) := by decide +kernel
theorem d_Course_takeTurn_19 : decode b_Course_takeTurn 19 = .ok (.istore_n 2, 1) := by decide +kernel
theorem d_Course_takeTurn_20 : decode b_Course_takeTurn 20 = .ok (.iinc 3 1, 3) := by decide +kernel
theorem d_Course_takeTurn_23 : decode b_Course_takeTurn 23 = .ok (.goto (-19), 3) := by decide +kernel
theorem d_Course_takeTurn_26 : decode b_Course_takeTurn 26 = .ok (.aload_n 0, 1) := by decide +kernel
theorem d_Course_takeTurn_27 : decode b_Course_takeTurn 27 = .ok (.getfield 25, 3) := by decide +kernel
theorem d_Course_takeTurn_30 : decode b_Course_takeTurn 30 = .ok (.iload_n 1, 1) := by decide +kernel
theorem d_Course_takeTurn_31 : decode b_Course_takeTurn 31 = .ok (.aaload, 1) := by decide +kernel
theorem d_Course_takeTurn_32 : decode b_Course_takeTurn 32 = .ok (.getfield 125, 3) := by decide +kernel
theorem d_Course_takeTurn_35 : decode b_Course_takeTurn 35 = .ok (.ifCond .eq 8, 3) := by decide +kernel
theorem d_Course_takeTurn_38 : decode b_Course_takeTurn 38 = .ok (.aload_n 0, 1) := by decide +kernel
theorem d_Course_takeTurn_39 : decode b_Course_takeTurn 39 = .ok (.iload_n 1, 1) := by decide +kernel
theorem d_Course_takeTurn_40 : decode b_Course_takeTurn 40 = .ok (.invokevirtual 173, 3) := by decide +kernel
theorem d_Course_takeTurn_43 : decode b_Course_takeTurn 43 = .ok (.return_, 1) := by decide +kernel
theorem d_Course_doAction_0 : decode b_Course_doAction 0 = .ok (.aload_n 0, 1) := by decide +kernel
theorem d_Course_doAction_1 : decode b_Course_doAction 1 = .ok (.getfield 25, 3) := by decide +kernel
theorem d_Course_doAction_4 : decode b_Course_doAction 4 = .ok (.iload_n 1, 1) := by decide +kernel
theorem d_Course_doAction_5 : decode b_Course_doAction 5 = .ok (.aaload, 1) := by decide +kernel
theorem d_Course_doAction_6 : decode b_Course_doAction 6 = .ok (.astore_n 2, 1) := by decide +kernel
theorem d_Course_doAction_7 : decode b_Course_doAction 7 = .ok (.aload_n 0, 1) := by decide +kernel
theorem d_Course_doAction_8 : decode b_Course_doAction 8 = .ok (.getfield 11, 3) := by decide +kernel
theorem d_Course_doAction_11 : decode b_Course_doAction 11 = .ok (.aload_n 2, 1) := by decide +kernel
theorem d_Course_doAction_12 : decode b_Course_doAction 12 = .ok (.getfield 176, 3) := by decide +kernel
theorem d_Course_doAction_15 : decode b_Course_doAction 15 = .ok (.aaload, 1) := by decide +kernel
theorem d_Course_doAction_16 : decode b_Course_doAction 16 = .ok (.astore_n 3, 1) := by decide +kernel
theorem d_Course_doAction_17 : decode b_Course_doAction 17 = .ok (.aload_n 2, 1) := by decide +kernel
theorem d_Course_doAction_18 : decode b_Course_doAction 18 = .ok (.getfield 177, 3) := by decide +kernel
theorem d_Course_doAction_21 : decode b_Course_doAction 21 = .ok (.aload_n 3, 1) := by decide +kernel
theorem d_Course_doAction_22 : decode b_Course_doAction 22 = .ok (.getfield 180, 3) := by decide +kernel
theorem d_Course_doAction_25 : decode b_Course_doAction 25 = .ok (.if_icmp .lt 10, 3) := by decide +kernel
theorem d_Course_doAction_28 : decode b_Course_doAction 28 = .ok (.aload_n 2, 1) := by decide +kernel
theorem d_Course_doAction_29 : decode b_Course_doAction 29 = .ok (.iconst (-1), 1) := by decide +kernel
theorem d_Course_doAction_30 : decode b_Course_doAction 30 = .ok (.invokevirtual 181, 3) := by decide +kernel
theorem d_Course_doAction_33 : decode b_Course_doAction 33 = .ok (.iconst 0, 1) := by decide +kernel
theorem d_Course_doAction_34 : decode b_Course_doAction 34 = .ok (.ireturn, 1) := by decide +kernel
theorem d_Course_doAction_35 : decode b_Course_doAction 35 = .ok (.aload_n 3, 1) := by decide +kernel
theorem d_Course_doAction_36 : decode b_Course_doAction 36 = .ok (.getfield 184, 3) := by decide +kernel
theorem d_Course_doAction_39 : decode b_Course_doAction 39 = .ok (.aload_n 2, 1) := by decide +kernel
theorem d_Course_doAction_40 : decode b_Course_doAction 40 = .ok (.getfield 177, 3) := by decide +kernel
theorem d_Course_doAction_43 : decode b_Course_doAction 43 = .ok (.iaload, 1) := by decide +kernel
theorem d_Course_doAction_44 : decode b_Course_doAction 44 = .ok (.istore 4, 2) := by decide +kernel
theorem d_Course_doAction_46 : decode b_Course_doAction 46 = .ok (.aload_n 3, 1) := by decide +kernel
theorem d_Course_doAction_47 : decode b_Course_doAction 47 = .ok (.getfield 187, 3) := by decide +kernel
theorem d_Course_doAction_50 : decode b_Course_doAction 50 = .ok (.aload_n 2, 1) := by decide +kernel
theorem d_Course_doAction_51 : decode b_Course_doAction 51 = .ok (.getfield 177, 3) := by decide +kernel
theorem d_Course_doAction_54 : decode b_Course_doAction 54 = .ok (.iaload, 1) := by decide +kernel
theorem d_Course_doAction_55 : decode b_Course_doAction 55 = .ok (.istore 5, 2) := by decide +kernel
theorem d_Course_doAction_57 : decode b_Course_doAction 57 = .ok (.iload 4, 2) := by decide +kernel
theorem d_Course_doAction_59 : decode b_Course_doAction 59 = .ok (.tableswitch 82 0 10 #[57, 57, 57, 67, 82, 82, 82, 57, 82, 82, 75], 57) := by decide +kernel
theorem d_Course_doAction_116 : decode b_Course_doAction 116 = .ok (.aload_n 0, 1) := by decide +kernel
theorem d_Course_doAction_117 : decode b_Course_doAction 117 = .ok (.iload_n 1, 1) := by decide +kernel
theorem d_Course_doAction_118 : decode b_Course_doAction 118 = .ok (.iload 4, 2) := by decide +kernel
theorem d_Course_doAction_120 : decode b_Course_doAction 120 = .ok (.iload 5, 2) := by decide +kernel
theorem d_Course_doAction_122 : decode b_Course_doAction 122 = .ok (.invokevirtual 190, 3) := by decide +kernel
theorem d_Course_doAction_125 : decode b_Course_doAction 125 = .ok (.ireturn, 1) := by decide +kernel
theorem d_Course_doAction_126 : decode b_Course_doAction 126 = .ok (.aload_n 2, 1) := by decide +kernel
theorem d_Course_doAction_127 : decode b_Course_doAction 127 = .ok (.iload 5, 2) := by decide +kernel
theorem d_Course_doAction_129 : decode b_Course_doAction 129 = .ok (.invokevirtual 181, 3) := by decide +kernel
theorem d_Course_doAction_132 : decode b_Course_doAction 132 = .ok (.iconst 0, 1) := by decide +kernel
theorem d_Course_doAction_133 : decode b_Course_doAction 133 = .ok (.ireturn, 1) := by decide +kernel
theorem d_Course_doAction_134 : decode b_Course_doAction 134 = .ok (.aload_n 2, 1) := by decide +kernel
theorem d_Course_doAction_135 : decode b_Course_doAction 135 = .ok (.iconst (-1), 1) := by decide +kernel
theorem d_Course_doAction_136 : decode b_Course_doAction 136 = .ok (.invokevirtual 181, 3) := by decide +kernel
theorem d_Course_doAction_139 : decode b_Course_doAction 139 = .ok (.iconst 0, 1) := by decide +kernel
theorem d_Course_doAction_140 : decode b_Course_doAction 140 = .ok (.ireturn, 1) := by decide +kernel
theorem d_Course_doAction_141 : decode b_Course_doAction 141 = .ok (.aload_n 0, 1) := by decide +kernel
theorem d_Course_doAction_142 : decode b_Course_doAction 142 = .ok (.iload_n 1, 1) := by decide +kernel
theorem d_Course_doAction_143 : decode b_Course_doAction 143 = .ok (.iload 4, 2) := by decide +kernel
theorem d_Course_doAction_145 : decode b_Course_doAction 145 = .ok (.iload 5, 2) := by decide +kernel
theorem d_Course_doAction_147 : decode b_Course_doAction 147 = .ok (.invokevirtual 194, 3) := by decide +kernel
theorem d_Course_doAction_150 : decode b_Course_doAction 150 = .ok (.aload_n 2, 1) := by decide +kernel
theorem d_Course_doAction_151 : decode b_Course_doAction 151 = .ok (.dup, 1) := by decide +kernel
theorem d_Course_doAction_152 : decode b_Course_doAction 152 = .ok (.getfield 177, 3) := by decide +kernel
theorem d_Course_doAction_155 : decode b_Course_doAction 155 = .ok (.iconst 1, 1) := by decide +kernel
theorem d_Course_doAction_156 : decode b_Course_doAction 156 = .ok (.iadd, 1) := by decide +kernel
theorem d_Course_doAction_157 : decode b_Course_doAction 157 = .ok (.putfield 177, 3) := by decide +kernel
theorem d_Course_doAction_160 : decode b_Course_doAction 160 = .ok (.iconst 1, 1) := by decide +kernel
theorem d_Course_doAction_161 : decode b_Course_doAction 161 = .ok (.ireturn, 1) := by decide +kernel
theorem d_Course_actAtOnce_0 : decode b_Course_actAtOnce 0 = .ok (.aload_n 0, 1) := by decide +kernel
theorem d_Course_actAtOnce_1 : decode b_Course_actAtOnce 1 = .ok (.getfield 25, 3) := by decide +kernel
theorem d_Course_actAtOnce_4 : decode b_Course_actAtOnce 4 = .ok (.iload_n 1, 1) := by decide +kernel
theorem d_Course_actAtOnce_5 : decode b_Course_actAtOnce 5 = .ok (.aaload, 1) := by decide +kernel
theorem d_Course_actAtOnce_6 : decode b_Course_actAtOnce 6 = .ok (.astore 4, 2) := by decide +kernel
theorem d_Course_actAtOnce_8 : decode b_Course_actAtOnce 8 = .ok (.iload_n 2, 1) := by decide +kernel
theorem d_Course_actAtOnce_9 : decode b_Course_actAtOnce 9 = .ok (.tableswitch 135 5 11 #[43, 66, 135, 86, 118, 135, 127], 43) := by decide +kernel
theorem d_Course_actAtOnce_52 : decode b_Course_actAtOnce 52 = .ok (.aload_n 0, 1) := by decide +kernel
theorem d_Course_actAtOnce_53 : decode b_Course_actAtOnce 53 = .ok (.getfield 100, 3) := by decide +kernel
theorem d_Course_actAtOnce_56 : decode b_Course_actAtOnce 56 = .ok (.bipush 40, 2) := by decide +kernel
theorem d_Course_actAtOnce_58 : decode b_Course_actAtOnce 58 = .ok (.if_icmp .ge 86, 3) := by decide +kernel
theorem d_Course_actAtOnce_61 : decode b_Course_actAtOnce 61 = .ok (.aload_n 0, 1) := by decide +kernel
theorem d_Course_actAtOnce_62 : decode b_Course_actAtOnce 62 = .ok (.iload_n 3, 1) := by decide +kernel
theorem d_Course_actAtOnce_63 : decode b_Course_actAtOnce 63 = .ok (.aload 4, 2) := by decide +kernel
theorem d_Course_actAtOnce_65 : decode b_Course_actAtOnce 65 = .ok (.getfield 197, 3) := by decide +kernel
theorem d_Course_actAtOnce_68 : decode b_Course_actAtOnce 68 = .ok (.iload_n 1, 1) := by decide +kernel
theorem d_Course_actAtOnce_69 : decode b_Course_actAtOnce 69 = .ok (.invokevirtual 159, 3) := by decide +kernel
theorem d_Course_actAtOnce_72 : decode b_Course_actAtOnce 72 = .ok (.goto 72, 3) := by decide +kernel
theorem d_Course_actAtOnce_75 : decode b_Course_actAtOnce 75 = .ok (.aload_n 0, 1) := by decide +kernel
theorem d_Course_actAtOnce_76 : decode b_Course_actAtOnce 76 = .ok (.getfield 38, 3) := by decide +kernel
theorem d_Course_actAtOnce_79 : decode b_Course_actAtOnce 79 = .ok (.bipush 100, 2) := by decide +kernel
theorem d_Course_actAtOnce_81 : decode b_Course_actAtOnce 81 = .ok (.aload 4, 2) := by decide +kernel
theorem d_Course_actAtOnce_83 : decode b_Course_actAtOnce 83 = .ok (.getfield 197, 3) := by decide +kernel
theorem d_Course_actAtOnce_86 : decode b_Course_actAtOnce 86 = .ok (.imul, 1) := by decide +kernel
theorem d_Course_actAtOnce_87 : decode b_Course_actAtOnce 87 = .ok (.iload_n 3, 1) := by decide +kernel
theorem d_Course_actAtOnce_88 : decode b_Course_actAtOnce 88 = .ok (.iadd, 1) := by decide +kernel
theorem d_Course_actAtOnce_89 : decode b_Course_actAtOnce 89 = .ok (.invokevirtual 200, 3) := by decide +kernel
theorem d_Course_actAtOnce_92 : decode b_Course_actAtOnce 92 = .ok (.goto 52, 3) := by decide +kernel
theorem d_Course_actAtOnce_95 : decode b_Course_actAtOnce 95 = .ok (.aload_n 0, 1) := by decide +kernel
theorem d_Course_actAtOnce_96 : decode b_Course_actAtOnce 96 = .ok (.getfield 38, 3) := by decide +kernel
theorem d_Course_actAtOnce_99 : decode b_Course_actAtOnce 99 = .ok (.bipush 100, 2) := by decide +kernel
theorem d_Course_actAtOnce_101 : decode b_Course_actAtOnce 101 = .ok (.aload 4, 2) := by decide +kernel
theorem d_Course_actAtOnce_103 : decode b_Course_actAtOnce 103 = .ok (.getfield 197, 3) := by decide +kernel
theorem d_Course_actAtOnce_106 : decode b_Course_actAtOnce 106 = .ok (.imul, 1) := by decide +kernel
theorem d_Course_actAtOnce_107 : decode b_Course_actAtOnce 107 = .ok (.aload 4, 2) := by decide +kernel
theorem d_Course_actAtOnce_109 : decode b_Course_actAtOnce 109 = .ok (.invokevirtual 203, 3) := by decide +kernel
theorem d_Course_actAtOnce_112 : decode b_Course_actAtOnce 112 = .ok (.ifCond .eq 7, 3) := by decide +kernel
theorem d_Course_actAtOnce_115 : decode b_Course_actAtOnce 115 = .ok (.iconst 1, 1) := by decide +kernel
theorem d_Course_actAtOnce_116 : decode b_Course_actAtOnce 116 = .ok (.goto 4, 3) := by decide +kernel
theorem d_Course_actAtOnce_119 : decode b_Course_actAtOnce 119 = .ok (.iconst 0, 1) := by decide +kernel
theorem d_Course_actAtOnce_120 : decode b_Course_actAtOnce 120 = .ok (.iadd, 1) := by decide +kernel
theorem d_Course_actAtOnce_121 : decode b_Course_actAtOnce 121 = .ok (.invokevirtual 200, 3) := by decide +kernel
theorem d_Course_actAtOnce_124 : decode b_Course_actAtOnce 124 = .ok (.goto 20, 3) := by decide +kernel
theorem d_Course_actAtOnce_127 : decode b_Course_actAtOnce 127 = .ok (.aload 4, 2) := by decide +kernel
theorem d_Course_actAtOnce_129 : decode b_Course_actAtOnce 129 = .ok (.iconst 1, 1) := by decide +kernel
theorem d_Course_actAtOnce_130 : decode b_Course_actAtOnce 130 = .ok (.putfield 206, 3) := by decide +kernel
theorem d_Course_actAtOnce_133 : decode b_Course_actAtOnce 133 = .ok (.goto 11, 3) := by decide +kernel
theorem d_Course_actAtOnce_136 : decode b_Course_actAtOnce 136 = .ok (.aload_n 0, 1) := by decide +kernel
theorem d_Course_actAtOnce_137 : decode b_Course_actAtOnce 137 = .ok (.iload_n 1, 1) := by decide +kernel
theorem d_Course_actAtOnce_138 : decode b_Course_actAtOnce 138 = .ok (.invokevirtual 209, 3) := by decide +kernel
theorem d_Course_actAtOnce_141 : decode b_Course_actAtOnce 141 = .ok (.goto 3, 3) := by decide +kernel
theorem d_Course_actAtOnce_144 : decode b_Course_actAtOnce 144 = .ok (.return_, 1) := by decide +kernel
theorem d_Course_waitIn_0 : decode b_Course_waitIn 0 = .ok (.aload_n 0, 1) := by decide +kernel
theorem d_Course_waitIn_1 : decode b_Course_waitIn 1 = .ok (.getfield 25, 3) := by decide +kernel
theorem d_Course_waitIn_4 : decode b_Course_waitIn 4 = .ok (.iload_n 1, 1) := by decide +kernel
theorem d_Course_waitIn_5 : decode b_Course_waitIn 5 = .ok (.aaload, 1) := by decide +kernel
theorem d_Course_waitIn_6 : decode b_Course_waitIn 6 = .ok (.astore 4, 2) := by decide +kernel
theorem d_Course_waitIn_8 : decode b_Course_waitIn 8 = .ok (.aload 4, 2) := by decide +kernel
theorem d_Course_waitIn_10 : decode b_Course_waitIn 10 = .ok (.getfield 212, 3) := by decide +kernel
theorem d_Course_waitIn_13 : decode b_Course_waitIn 13 = .ok (.ifCond .ne 20, 3) := by decide +kernel
theorem d_Course_waitIn_16 : decode b_Course_waitIn 16 = .ok (.aload 4, 2) := by decide +kernel
theorem d_Course_waitIn_18 : decode b_Course_waitIn 18 = .ok (.iconst 1, 1) := by decide +kernel
theorem d_Course_waitIn_19 : decode b_Course_waitIn 19 = .ok (.putfield 212, 3) := by decide +kernel
theorem d_Course_waitIn_22 : decode b_Course_waitIn 22 = .ok (.aload 4, 2) := by decide +kernel
theorem d_Course_waitIn_24 : decode b_Course_waitIn 24 = .ok (.aload_n 0, 1) := by decide +kernel
theorem d_Course_waitIn_25 : decode b_Course_waitIn 25 = .ok (.getfield 87, 3) := by decide +kernel
theorem d_Course_waitIn_28 : decode b_Course_waitIn 28 = .ok (.iload_n 3, 1) := by decide +kernel
theorem d_Course_waitIn_29 : decode b_Course_waitIn 29 = .ok (.iadd, 1) := by decide +kernel
theorem d_Course_waitIn_30 : decode b_Course_waitIn 30 = .ok (.putfield 215, 3) := by decide +kernel
theorem d_Course_waitIn_33 : decode b_Course_waitIn 33 = .ok (.iload_n 2, 1) := by decide +kernel
theorem d_Course_waitIn_34 : decode b_Course_waitIn 34 = .ok (.ifCond .eq 18, 3) := by decide +kernel
theorem d_Course_waitIn_37 : decode b_Course_waitIn 37 = .ok (.aload 4, 2) := by decide +kernel
theorem d_Course_waitIn_39 : decode b_Course_waitIn 39 = .ok (.invokevirtual 203, 3) := by decide +kernel
theorem d_Course_waitIn_42 : decode b_Course_waitIn 42 = .ok (.ifCond .eq 10, 3) := by decide +kernel
theorem d_Course_waitIn_45 : decode b_Course_waitIn 45 = .ok (.aload_n 0, 1) := by decide +kernel
theorem d_Course_waitIn_46 : decode b_Course_waitIn 46 = .ok (.aload 4, 2) := by decide +kernel
theorem d_Course_waitIn_48 : decode b_Course_waitIn 48 = .ok (.invokevirtual 218, 3) := by decide +kernel
theorem d_Course_waitIn_51 : decode b_Course_waitIn 51 = .ok (.ireturn, 1) := by decide +kernel
theorem d_Course_waitIn_52 : decode b_Course_waitIn 52 = .ok (.iload_n 2, 1) := by decide +kernel
theorem d_Course_waitIn_53 : decode b_Course_waitIn 53 = .ok (.bipush 7, 2) := by decide +kernel
theorem d_Course_waitIn_55 : decode b_Course_waitIn 55 = .ok (.if_icmp .ne 11, 3) := by decide +kernel
theorem d_Course_waitIn_58 : decode b_Course_waitIn 58 = .ok (.aload_n 0, 1) := by decide +kernel
theorem d_Course_waitIn_59 : decode b_Course_waitIn 59 = .ok (.iload_n 1, 1) := by decide +kernel
theorem d_Course_waitIn_60 : decode b_Course_waitIn 60 = .ok (.invokevirtual 222, 3) := by decide +kernel
theorem d_Course_waitIn_63 : decode b_Course_waitIn 63 = .ok (.goto 25, 3) := by decide +kernel
theorem d_Course_waitIn_66 : decode b_Course_waitIn 66 = .ok (.iload_n 2, 1) := by decide +kernel
theorem d_Course_waitIn_67 : decode b_Course_waitIn 67 = .ok (.iconst 2, 1) := by decide +kernel
theorem d_Course_waitIn_68 : decode b_Course_waitIn 68 = .ok (.if_icmp .eq 19, 3) := by decide +kernel
theorem d_Course_waitIn_71 : decode b_Course_waitIn 71 = .ok (.aload_n 0, 1) := by decide +kernel
theorem d_Course_waitIn_72 : decode b_Course_waitIn 72 = .ok (.getfield 87, 3) := by decide +kernel
theorem d_Course_waitIn_75 : decode b_Course_waitIn 75 = .ok (.aload 4, 2) := by decide +kernel
theorem d_Course_waitIn_77 : decode b_Course_waitIn 77 = .ok (.getfield 215, 3) := by decide +kernel
theorem d_Course_waitIn_80 : decode b_Course_waitIn 80 = .ok (.if_icmp .lt 7, 3) := by decide +kernel
theorem d_Course_waitIn_83 : decode b_Course_waitIn 83 = .ok (.iconst 1, 1) := by decide +kernel
theorem d_Course_waitIn_84 : decode b_Course_waitIn 84 = .ok (.goto 4, 3) := by decide +kernel
theorem d_Course_waitIn_87 : decode b_Course_waitIn 87 = .ok (.iconst 0, 1) := by decide +kernel
theorem d_Course_waitIn_88 : decode b_Course_waitIn 88 = .ok (.istore 5, 2) := by decide +kernel
theorem d_Course_waitIn_90 : decode b_Course_waitIn 90 = .ok (.iload 5, 2) := by decide +kernel
theorem d_Course_waitIn_92 : decode b_Course_waitIn 92 = .ok (.ifCond .ne 5, 3) := by decide +kernel
theorem d_Course_waitIn_95 : decode b_Course_waitIn 95 = .ok (.iconst 0, 1) := by decide +kernel
theorem d_Course_waitIn_96 : decode b_Course_waitIn 96 = .ok (.ireturn, 1) := by decide +kernel
theorem d_Course_waitIn_97 : decode b_Course_waitIn 97 = .ok (.aload 4, 2) := by decide +kernel
theorem d_Course_waitIn_99 : decode b_Course_waitIn 99 = .ok (.iconst 0, 1) := by decide +kernel
theorem d_Course_waitIn_100 : decode b_Course_waitIn 100 = .ok (.putfield 212, 3) := by decide +kernel
theorem d_Course_waitIn_103 : decode b_Course_waitIn 103 = .ok (.aload 4, 2) := by decide +kernel
theorem d_Course_waitIn_105 : decode b_Course_waitIn 105 = .ok (.dup, 1) := by decide +kernel
theorem d_Course_waitIn_106 : decode b_Course_waitIn 106 = .ok (.getfield 177, 3) := by decide +kernel
theorem d_Course_waitIn_109 : decode b_Course_waitIn 109 = .ok (.iconst 1, 1) := by decide +kernel
theorem d_Course_waitIn_110 : decode b_Course_waitIn 110 = .ok (.iadd, 1) := by decide +kernel
theorem d_Course_waitIn_111 : decode b_Course_waitIn 111 = .ok (.putfield 177, 3) := by decide +kernel
theorem d_Course_waitIn_114 : decode b_Course_waitIn 114 = .ok (.iconst 1, 1) := by decide +kernel
theorem d_Course_waitIn_115 : decode b_Course_waitIn 115 = .ok (.ireturn, 1) := by decide +kernel
theorem d_Course_interrupt_0 : decode b_Course_interrupt 0 = .ok (.aload_n 1, 1) := by decide +kernel
theorem d_Course_interrupt_1 : decode b_Course_interrupt 1 = .ok (.iconst 0, 1) := by decide +kernel
theorem d_Course_interrupt_2 : decode b_Course_interrupt 2 = .ok (.putfield 212, 3) := by decide +kernel
theorem d_Course_interrupt_5 : decode b_Course_interrupt 5 = .ok (.aload_n 0, 1) := by decide +kernel
theorem d_Course_interrupt_6 : decode b_Course_interrupt 6 = .ok (.getfield 11, 3) := by decide +kernel
theorem d_Course_interrupt_9 : decode b_Course_interrupt 9 = .ok (.aload_n 1, 1) := by decide +kernel
theorem d_Course_interrupt_10 : decode b_Course_interrupt 10 = .ok (.getfield 176, 3) := by decide +kernel
theorem d_Course_interrupt_13 : decode b_Course_interrupt 13 = .ok (.aaload, 1) := by decide +kernel
theorem d_Course_interrupt_14 : decode b_Course_interrupt 14 = .ok (.aload_n 1, 1) := by decide +kernel
theorem d_Course_interrupt_15 : decode b_Course_interrupt 15 = .ok (.getfield 177, 3) := by decide +kernel
theorem d_Course_interrupt_18 : decode b_Course_interrupt 18 = .ok (.invokevirtual 225, 3) := by decide +kernel
theorem d_Course_interrupt_21 : decode b_Course_interrupt 21 = .ok (.istore_n 2, 1) := by decide +kernel
theorem d_Course_interrupt_22 : decode b_Course_interrupt 22 = .ok (.iload_n 2, 1) := by decide +kernel
theorem d_Course_interrupt_23 : decode b_Course_interrupt 23 = .ok (.iconst (-1), 1) := by decide +kernel
theorem d_Course_interrupt_24 : decode b_Course_interrupt 24 = .ok (.if_icmp .ne 11, 3) := by decide +kernel
theorem d_Course_interrupt_27 : decode b_Course_interrupt 27 = .ok (.aload_n 1, 1) := by decide +kernel
theorem d_Course_interrupt_28 : decode b_Course_interrupt 28 = .ok (.bipush 100, 2) := by decide +kernel
theorem d_Course_interrupt_30 : decode b_Course_interrupt 30 = .ok (.invokevirtual 181, 3) := by decide +kernel
theorem d_Course_interrupt_33 : decode b_Course_interrupt 33 = .ok (.iconst 0, 1) := by decide +kernel
theorem d_Course_interrupt_34 : decode b_Course_interrupt 34 = .ok (.ireturn, 1) := by decide +kernel
theorem d_Course_interrupt_35 : decode b_Course_interrupt 35 = .ok (.aload_n 1, 1) := by decide +kernel
theorem d_Course_interrupt_36 : decode b_Course_interrupt 36 = .ok (.iload_n 2, 1) := by decide +kernel
theorem d_Course_interrupt_37 : decode b_Course_interrupt 37 = .ok (.putfield 177, 3) := by decide +kernel
theorem d_Course_interrupt_40 : decode b_Course_interrupt 40 = .ok (.iconst 1, 1) := by decide +kernel
theorem d_Course_interrupt_41 : decode b_Course_interrupt 41 = .ok (.ireturn, 1) := by decide +kernel
theorem d_Course_areStartedOver_0 : decode b_Course_areStartedOver 0 = .ok (.iconst 0, 1) := by decide +kernel
theorem d_Course_areStartedOver_1 : decode b_Course_areStartedOver 1 = .ok (.istore_n 2, 1) := by decide +kernel
theorem d_Course_areStartedOver_2 : decode b_Course_areStartedOver 2 = .ok (.iload_n 2, 1) := by decide +kernel
theorem d_Course_areStartedOver_3 : decode b_Course_areStartedOver 3 = .ok (.aload_n 0, 1) := by decide +kernel
theorem d_Course_areStartedOver_4 : decode b_Course_areStartedOver 4 = .ok (.getfield 100, 3) := by decide +kernel
theorem d_Course_areStartedOver_7 : decode b_Course_areStartedOver 7 = .ok (.if_icmp .ge 36, 3) := by decide +kernel
theorem d_Course_areStartedOver_10 : decode b_Course_areStartedOver 10 = .ok (.aload_n 0, 1) := by decide +kernel
theorem d_Course_areStartedOver_11 : decode b_Course_areStartedOver 11 = .ok (.getfield 25, 3) := by decide +kernel
theorem d_Course_areStartedOver_14 : decode b_Course_areStartedOver 14 = .ok (.iload_n 2, 1) := by decide +kernel
theorem d_Course_areStartedOver_15 : decode b_Course_areStartedOver 15 = .ok (.aaload, 1) := by decide +kernel
theorem d_Course_areStartedOver_16 : decode b_Course_areStartedOver 16 = .ok (.getfield 229, 3) := by decide +kernel
theorem d_Course_areStartedOver_19 : decode b_Course_areStartedOver 19 = .ok (.iload_n 1, 1) := by decide +kernel
theorem d_Course_areStartedOver_20 : decode b_Course_areStartedOver 20 = .ok (.if_icmp .ne 17, 3) := by decide +kernel
theorem d_Course_areStartedOver_23 : decode b_Course_areStartedOver 23 = .ok (.aload_n 0, 1) := by decide +kernel
theorem d_Course_areStartedOver_24 : decode b_Course_areStartedOver 24 = .ok (.getfield 25, 3) := by decide +kernel
theorem d_Course_areStartedOver_27 : decode b_Course_areStartedOver 27 = .ok (.iload_n 2, 1) := by decide +kernel
theorem d_Course_areStartedOver_28 : decode b_Course_areStartedOver 28 = .ok (.aaload, 1) := by decide +kernel
theorem d_Course_areStartedOver_29 : decode b_Course_areStartedOver 29 = .ok (.getfield 125, 3) := by decide +kernel
theorem d_Course_areStartedOver_32 : decode b_Course_areStartedOver 32 = .ok (.ifCond .ne 5, 3) := by decide +kernel
theorem d_Course_areStartedOver_35 : decode b_Course_areStartedOver 35 = .ok (.iconst 0, 1) := by decide +kernel
theorem d_Course_areStartedOver_36 : decode b_Course_areStartedOver 36 = .ok (.ireturn, 1) := by decide +kernel
theorem d_Course_areStartedOver_37 : decode b_Course_areStartedOver 37 = .ok (.iinc 2 1, 3) := by decide +kernel
theorem d_Course_areStartedOver_40 : decode b_Course_areStartedOver 40 = .ok (.goto (-38), 3) := by decide +kernel
theorem d_Course_areStartedOver_43 : decode b_Course_areStartedOver 43 = .ok (.iconst 1, 1) := by decide +kernel
theorem d_Course_areStartedOver_44 : decode b_Course_areStartedOver 44 = .ok (.ireturn, 1) := by decide +kernel
theorem d_Course_markStartedBy_0 : decode b_Course_markStartedBy 0 = .ok (.iconst 0, 1) := by decide +kernel
theorem d_Course_markStartedBy_1 : decode b_Course_markStartedBy 1 = .ok (.istore_n 2, 1) := by decide +kernel
theorem d_Course_markStartedBy_2 : decode b_Course_markStartedBy 2 = .ok (.iload_n 2, 1) := by decide +kernel
theorem d_Course_markStartedBy_3 : decode b_Course_markStartedBy 3 = .ok (.aload_n 0, 1) := by decide +kernel
theorem d_Course_markStartedBy_4 : decode b_Course_markStartedBy 4 = .ok (.getfield 100, 3) := by decide +kernel
theorem d_Course_markStartedBy_7 : decode b_Course_markStartedBy 7 = .ok (.if_icmp .ge 44, 3) := by decide +kernel
theorem d_Course_markStartedBy_10 : decode b_Course_markStartedBy 10 = .ok (.aload_n 0, 1) := by decide +kernel
theorem d_Course_markStartedBy_11 : decode b_Course_markStartedBy 11 = .ok (.getfield 25, 3) := by decide +kernel
theorem d_Course_markStartedBy_14 : decode b_Course_markStartedBy 14 = .ok (.iload_n 2, 1) := by decide +kernel
theorem d_Course_markStartedBy_15 : decode b_Course_markStartedBy 15 = .ok (.aaload, 1) := by decide +kernel
theorem d_Course_markStartedBy_16 : decode b_Course_markStartedBy 16 = .ok (.getfield 229, 3) := by decide +kernel
theorem d_Course_markStartedBy_19 : decode b_Course_markStartedBy 19 = .ok (.iload_n 1, 1) := by decide +kernel
theorem d_Course_markStartedBy_20 : decode b_Course_markStartedBy 20 = .ok (.if_icmp .ne 25, 3) := by decide +kernel
theorem d_Course_markStartedBy_23 : decode b_Course_markStartedBy 23 = .ok (.aload_n 0, 1) := by decide +kernel
theorem d_Course_markStartedBy_24 : decode b_Course_markStartedBy 24 = .ok (.getfield 25, 3) := by decide +kernel
theorem d_Course_markStartedBy_27 : decode b_Course_markStartedBy 27 = .ok (.iload_n 2, 1) := by decide +kernel
theorem d_Course_markStartedBy_28 : decode b_Course_markStartedBy 28 = .ok (.aaload, 1) := by decide +kernel
theorem d_Course_markStartedBy_29 : decode b_Course_markStartedBy 29 = .ok (.getfield 125, 3) := by decide +kernel
theorem d_Course_markStartedBy_32 : decode b_Course_markStartedBy 32 = .ok (.ifCond .ne 13, 3) := by decide +kernel
theorem d_Course_markStartedBy_35 : decode b_Course_markStartedBy 35 = .ok (.aload_n 0, 1) := by decide +kernel
theorem d_Course_markStartedBy_36 : decode b_Course_markStartedBy 36 = .ok (.getfield 25, 3) := by decide +kernel
theorem d_Course_markStartedBy_39 : decode b_Course_markStartedBy 39 = .ok (.iload_n 2, 1) := by decide +kernel
theorem d_Course_markStartedBy_40 : decode b_Course_markStartedBy 40 = .ok (.aaload, 1) := by decide +kernel
theorem d_Course_markStartedBy_41 : decode b_Course_markStartedBy 41 = .ok (.iconst 1, 1) := by decide +kernel
theorem d_Course_markStartedBy_42 : decode b_Course_markStartedBy 42 = .ok (.putfield 117, 3) := by decide +kernel
theorem d_Course_markStartedBy_45 : decode b_Course_markStartedBy 45 = .ok (.iinc 2 1, 3) := by decide +kernel
theorem d_Course_markStartedBy_48 : decode b_Course_markStartedBy 48 = .ok (.goto (-46), 3) := by decide +kernel
theorem d_Course_markStartedBy_51 : decode b_Course_markStartedBy 51 = .ok (.return_, 1) := by decide +kernel
theorem d_Course_tellEnd_0 : decode b_Course_tellEnd 0 = .ok (.aload_n 0, 1) := by decide +kernel
theorem d_Course_tellEnd_1 : decode b_Course_tellEnd 1 = .ok (.getfield 25, 3) := by decide +kernel
theorem d_Course_tellEnd_4 : decode b_Course_tellEnd 4 = .ok (.iload_n 1, 1) := by decide +kernel
theorem d_Course_tellEnd_5 : decode b_Course_tellEnd 5 = .ok (.aaload, 1) := by decide +kernel
theorem d_Course_tellEnd_6 : decode b_Course_tellEnd 6 = .ok (.astore_n 2, 1) := by decide +kernel
theorem d_Course_tellEnd_7 : decode b_Course_tellEnd 7 = .ok (.aload_n 0, 1) := by decide +kernel
theorem d_Course_tellEnd_8 : decode b_Course_tellEnd 8 = .ok (.getfield 19, 3) := by decide +kernel
theorem d_Course_tellEnd_11 : decode b_Course_tellEnd 11 = .ok (.aload_n 2, 1) := by decide +kernel
theorem d_Course_tellEnd_12 : decode b_Course_tellEnd 12 = .ok (.getfield 197, 3) := by decide +kernel
theorem d_Course_tellEnd_15 : decode b_Course_tellEnd 15 = .ok (.aaload, 1) := by decide +kernel
theorem d_Course_tellEnd_16 : decode b_Course_tellEnd 16 = .ok (.astore_n 3, 1) := by decide +kernel
theorem d_Course_tellEnd_17 : decode b_Course_tellEnd 17 = .ok (.aload_n 2, 1) := by decide +kernel
theorem d_Course_tellEnd_18 : decode b_Course_tellEnd 18 = .ok (.getfield 232, 3) := by decide +kernel
theorem d_Course_tellEnd_21 : decode b_Course_tellEnd 21 = .ok (.iconst (-1), 1) := by decide +kernel
theorem d_Course_tellEnd_22 : decode b_Course_tellEnd 22 = .ok (.if_icmp .eq 14, 3) := by decide +kernel
theorem d_Course_tellEnd_25 : decode b_Course_tellEnd 25 = .ok (.aload_n 2, 1) := by decide +kernel
theorem d_Course_tellEnd_26 : decode b_Course_tellEnd 26 = .ok (.getfield 206, 3) := by decide +kernel
theorem d_Course_tellEnd_29 : decode b_Course_tellEnd 29 = .ok (.ifCond .ne 7, 3) := by decide +kernel
theorem d_Course_tellEnd_32 : decode b_Course_tellEnd 32 = .ok (.iconst 1, 1) := by decide +kernel
theorem d_Course_tellEnd_33 : decode b_Course_tellEnd 33 = .ok (.goto 4, 3) := by decide +kernel
theorem d_Course_tellEnd_36 : decode b_Course_tellEnd 36 = .ok (.iconst 0, 1) := by decide +kernel
theorem d_Course_tellEnd_37 : decode b_Course_tellEnd 37 = .ok (.istore 4, 2) := by decide +kernel
theorem d_Course_tellEnd_39 : decode b_Course_tellEnd 39 = .ok (.aload_n 3, 1) := by decide +kernel
theorem d_Course_tellEnd_40 : decode b_Course_tellEnd 40 = .ok (.getfield 93, 3) := by decide +kernel
theorem d_Course_tellEnd_43 : decode b_Course_tellEnd 43 = .ok (.ifCond .eq 31, 3) := by decide +kernel
theorem d_Course_tellEnd_46 : decode b_Course_tellEnd 46 = .ok (.iload 4, 2) := by decide +kernel
theorem d_Course_tellEnd_48 : decode b_Course_tellEnd 48 = .ok (.ifCond .eq 70, 3) := by decide +kernel
theorem d_Course_tellEnd_51 : decode b_Course_tellEnd 51 = .ok (.aload_n 0, 1) := by decide +kernel
theorem d_Course_tellEnd_52 : decode b_Course_tellEnd 52 = .ok (.getfield 42, 3) := by decide +kernel
theorem d_Course_tellEnd_55 : decode b_Course_tellEnd 55 = .ok (.sipush 1000, 3) := by decide +kernel
theorem d_Course_tellEnd_58 : decode b_Course_tellEnd 58 = .ok (.aload_n 2, 1) := by decide +kernel
theorem d_Course_tellEnd_59 : decode b_Course_tellEnd 59 = .ok (.getfield 197, 3) := by decide +kernel
theorem d_Course_tellEnd_62 : decode b_Course_tellEnd 62 = .ok (.imul, 1) := by decide +kernel
theorem d_Course_tellEnd_63 : decode b_Course_tellEnd 63 = .ok (.aload_n 2, 1) := by decide +kernel
theorem d_Course_tellEnd_64 : decode b_Course_tellEnd 64 = .ok (.getfield 232, 3) := by decide +kernel
theorem d_Course_tellEnd_67 : decode b_Course_tellEnd 67 = .ok (.iadd, 1) := by decide +kernel
theorem d_Course_tellEnd_68 : decode b_Course_tellEnd 68 = .ok (.invokevirtual 200, 3) := by decide +kernel
theorem d_Course_tellEnd_71 : decode b_Course_tellEnd 71 = .ok (.goto 47, 3) := by decide +kernel
theorem d_Course_tellEnd_74 : decode b_Course_tellEnd 74 = .ok (.iload_n 1, 1) := by decide +kernel
theorem d_Course_tellEnd_75 : decode b_Course_tellEnd 75 = .ok (.aload_n 3, 1) := by decide +kernel
theorem d_Course_tellEnd_76 : decode b_Course_tellEnd 76 = .ok (.getfield 114, 3) := by decide +kernel
theorem d_Course_tellEnd_79 : decode b_Course_tellEnd 79 = .ok (.if_icmp .ne 18, 3) := by decide +kernel
theorem d_Course_tellEnd_82 : decode b_Course_tellEnd 82 = .ok (.aload_n 3, 1) := by decide +kernel
theorem d_Course_tellEnd_83 : decode b_Course_tellEnd 83 = .ok (.aload_n 2, 1) := by decide +kernel
theorem d_Course_tellEnd_84 : decode b_Course_tellEnd 84 = .ok (.getfield 232, 3) := by decide +kernel
theorem d_Course_tellEnd_87 : decode b_Course_tellEnd 87 = .ok (.aload_n 0, 1) := by decide +kernel
theorem d_Course_tellEnd_88 : decode b_Course_tellEnd 88 = .ok (.getfield 87, 3) := by decide +kernel
theorem d_Course_tellEnd_91 : decode b_Course_tellEnd 91 = .ok (.invokevirtual 235, 3) := by decide +kernel
theorem d_Course_tellEnd_94 : decode b_Course_tellEnd 94 = .ok (.goto 24, 3) := by decide +kernel
theorem d_Course_tellEnd_97 : decode b_Course_tellEnd 97 = .ok (.iload 4, 2) := by decide +kernel
theorem d_Course_tellEnd_99 : decode b_Course_tellEnd 99 = .ok (.ifCond .eq 19, 3) := by decide +kernel
theorem d_Course_tellEnd_102 : decode b_Course_tellEnd 102 = .ok (.aload_n 3, 1) := by decide +kernel
theorem d_Course_tellEnd_103 : decode b_Course_tellEnd 103 = .ok (.getfield 238, 3) := by decide +kernel
theorem d_Course_tellEnd_106 : decode b_Course_tellEnd 106 = .ok (.iconst (-1), 1) := by decide +kernel
theorem d_Course_tellEnd_107 : decode b_Course_tellEnd 107 = .ok (.if_icmp .ne 11, 3) := by decide +kernel
theorem d_Course_tellEnd_110 : decode b_Course_tellEnd 110 = .ok (.aload_n 3, 1) := by decide +kernel
theorem d_Course_tellEnd_111 : decode b_Course_tellEnd 111 = .ok (.aload_n 2, 1) := by decide +kernel
theorem d_Course_tellEnd_112 : decode b_Course_tellEnd 112 = .ok (.getfield 232, 3) := by decide +kernel
theorem d_Course_tellEnd_115 : decode b_Course_tellEnd 115 = .ok (.putfield 238, 3) := by decide +kernel
theorem d_Course_tellEnd_118 : decode b_Course_tellEnd 118 = .ok (.return_, 1) := by decide +kernel
theorem d_Course_leaveRest_0 : decode b_Course_leaveRest 0 = .ok (.iconst 0, 1) := by decide +kernel
theorem d_Course_leaveRest_1 : decode b_Course_leaveRest 1 = .ok (.istore_n 1, 1) := by decide +kernel
theorem d_Course_leaveRest_2 : decode b_Course_leaveRest 2 = .ok (.iload_n 1, 1) := by decide +kernel
theorem d_Course_leaveRest_3 : decode b_Course_leaveRest 3 = .ok (.aload_n 0, 1) := by decide +kernel
theorem d_Course_leaveRest_4 : decode b_Course_leaveRest 4 = .ok (.getfield 48, 3) := by decide +kernel
theorem d_Course_leaveRest_7 : decode b_Course_leaveRest 7 = .ok (.if_icmp .ge 35, 3) := by decide +kernel
theorem d_Course_leaveRest_10 : decode b_Course_leaveRest 10 = .ok (.aload_n 0, 1) := by decide +kernel
theorem d_Course_leaveRest_11 : decode b_Course_leaveRest 11 = .ok (.getfield 19, 3) := by decide +kernel
theorem d_Course_leaveRest_14 : decode b_Course_leaveRest 14 = .ok (.iload_n 1, 1) := by decide +kernel
theorem d_Course_leaveRest_15 : decode b_Course_leaveRest 15 = .ok (.aaload, 1) := by decide +kernel
theorem d_Course_leaveRest_16 : decode b_Course_leaveRest 16 = .ok (.getfield 93, 3) := by decide +kernel
theorem d_Course_leaveRest_19 : decode b_Course_leaveRest 19 = .ok (.ifCond .ne 17, 3) := by decide +kernel
theorem d_Course_leaveRest_22 : decode b_Course_leaveRest 22 = .ok (.aload_n 0, 1) := by decide +kernel
theorem d_Course_leaveRest_23 : decode b_Course_leaveRest 23 = .ok (.getfield 19, 3) := by decide +kernel
theorem d_Course_leaveRest_26 : decode b_Course_leaveRest 26 = .ok (.iload_n 1, 1) := by decide +kernel
theorem d_Course_leaveRest_27 : decode b_Course_leaveRest 27 = .ok (.aaload, 1) := by decide +kernel
theorem d_Course_leaveRest_28 : decode b_Course_leaveRest 28 = .ok (.iconst 4, 1) := by decide +kernel
theorem d_Course_leaveRest_29 : decode b_Course_leaveRest 29 = .ok (.aload_n 0, 1) := by decide +kernel
theorem d_Course_leaveRest_30 : decode b_Course_leaveRest 30 = .ok (.getfield 87, 3) := by decide +kernel
theorem d_Course_leaveRest_33 : decode b_Course_leaveRest 33 = .ok (.invokevirtual 110, 3) := by decide +kernel
theorem d_Course_leaveRest_36 : decode b_Course_leaveRest 36 = .ok (.iinc 1 1, 3) := by decide +kernel
theorem d_Course_leaveRest_39 : decode b_Course_leaveRest 39 = .ok (.goto (-37), 3) := by decide +kernel
theorem d_Course_leaveRest_42 : decode b_Course_leaveRest 42 = .ok (.iconst 0, 1) := by decide +kernel
theorem d_Course_leaveRest_43 : decode b_Course_leaveRest 43 = .ok (.istore_n 1, 1) := by decide +kernel
theorem d_Course_leaveRest_44 : decode b_Course_leaveRest 44 = .ok (.iload_n 1, 1) := by decide +kernel
theorem d_Course_leaveRest_45 : decode b_Course_leaveRest 45 = .ok (.aload_n 0, 1) := by decide +kernel
theorem d_Course_leaveRest_46 : decode b_Course_leaveRest 46 = .ok (.getfield 100, 3) := by decide +kernel
theorem d_Course_leaveRest_49 : decode b_Course_leaveRest 49 = .ok (.if_icmp .ge 31, 3) := by decide +kernel
theorem d_Course_leaveRest_52 : decode b_Course_leaveRest 52 = .ok (.aload_n 0, 1) := by decide +kernel
theorem d_Course_leaveRest_53 : decode b_Course_leaveRest 53 = .ok (.getfield 25, 3) := by decide +kernel
theorem d_Course_leaveRest_56 : decode b_Course_leaveRest 56 = .ok (.iload_n 1, 1) := by decide +kernel
theorem d_Course_leaveRest_57 : decode b_Course_leaveRest 57 = .ok (.aaload, 1) := by decide +kernel
theorem d_Course_leaveRest_58 : decode b_Course_leaveRest 58 = .ok (.getfield 125, 3) := by decide +kernel
theorem d_Course_leaveRest_61 : decode b_Course_leaveRest 61 = .ok (.ifCond .ne 13, 3) := by decide +kernel
theorem d_Course_leaveRest_64 : decode b_Course_leaveRest 64 = .ok (.aload_n 0, 1) := by decide +kernel
theorem d_Course_leaveRest_65 : decode b_Course_leaveRest 65 = .ok (.dup, 1) := by decide +kernel
theorem d_Course_leaveRest_66 : decode b_Course_leaveRest 66 = .ok (.getfield 103, 3) := by decide +kernel
theorem d_Course_leaveRest_69 : decode b_Course_leaveRest 69 = .ok (.iconst 1, 1) := by decide +kernel
theorem d_Course_leaveRest_70 : decode b_Course_leaveRest 70 = .ok (.iadd, 1) := by decide +kernel
theorem d_Course_leaveRest_71 : decode b_Course_leaveRest 71 = .ok (.putfield 103, 3) := by decide +kernel
theorem d_Course_leaveRest_74 : decode b_Course_leaveRest 74 = .ok (.iinc 1 1, 3) := by decide +kernel
theorem d_Course_leaveRest_77 : decode b_Course_leaveRest 77 = .ok (.goto (-33), 3) := by decide +kernel
theorem d_Course_leaveRest_80 : decode b_Course_leaveRest 80 = .ok (.return_, 1) := by decide +kernel
theorem d_Log_init_0 : decode b_Log_init 0 = .ok (.aload_n 0, 1) := by decide +kernel
theorem d_Log_init_1 : decode b_Log_init 1 = .ok (.invokespecial 1, 3) := by decide +kernel
theorem d_Log_init_4 : decode b_Log_init 4 = .ok (.aload_n 0, 1) := by decide +kernel
theorem d_Log_init_5 : decode b_Log_init 5 = .ok (.iload_n 1, 1) := by decide +kernel
theorem d_Log_init_6 : decode b_Log_init 6 = .ok (.newarray .int, 2) := by decide +kernel
theorem d_Log_init_8 : decode b_Log_init 8 = .ok (.putfield 7, 3) := by decide +kernel
theorem d_Log_init_11 : decode b_Log_init 11 = .ok (.return_, 1) := by decide +kernel
theorem d_Log_add_0 : decode b_Log_add 0 = .ok (.aload_n 0, 1) := by decide +kernel
theorem d_Log_add_1 : decode b_Log_add 1 = .ok (.getfield 13, 3) := by decide +kernel
theorem d_Log_add_4 : decode b_Log_add 4 = .ok (.aload_n 0, 1) := by decide +kernel
theorem d_Log_add_5 : decode b_Log_add 5 = .ok (.getfield 7, 3) := by decide +kernel
theorem d_Log_add_8 : decode b_Log_add 8 = .ok (.arraylength, 1) := by decide +kernel
theorem d_Log_add_9 : decode b_Log_add 9 = .ok (.if_icmp .ge 13, 3) := by decide +kernel
theorem d_Log_add_12 : decode b_Log_add 12 = .ok (.aload_n 0, 1) := by decide +kernel
theorem d_Log_add_13 : decode b_Log_add 13 = .ok (.getfield 7, 3) := by decide +kernel
theorem d_Log_add_16 : decode b_Log_add 16 = .ok (.aload_n 0, 1) := by decide +kernel
theorem d_Log_add_17 : decode b_Log_add 17 = .ok (.getfield 13, 3) := by decide +kernel
theorem d_Log_add_20 : decode b_Log_add 20 = .ok (.iload_n 1, 1) := by decide +kernel
theorem d_Log_add_21 : decode b_Log_add 21 = .ok (.iastore, 1) := by decide +kernel
theorem d_Log_add_22 : decode b_Log_add 22 = .ok (.aload_n 0, 1) := by decide +kernel
theorem d_Log_add_23 : decode b_Log_add 23 = .ok (.dup, 1) := by decide +kernel
theorem d_Log_add_24 : decode b_Log_add 24 = .ok (.getfield 13, 3) := by decide +kernel
theorem d_Log_add_27 : decode b_Log_add 27 = .ok (.iconst 1, 1) := by decide +kernel
theorem d_Log_add_28 : decode b_Log_add 28 = .ok (.iadd, 1) := by decide +kernel
theorem d_Log_add_29 : decode b_Log_add 29 = .ok (.putfield 13, 3) := by decide +kernel
theorem d_Log_add_32 : decode b_Log_add 32 = .ok (.return_, 1) := by decide +kernel
theorem d_Log_keeps_0 : decode b_Log_keeps 0 = .ok (.iload_n 1, 1) := by decide +kernel
theorem d_Log_keeps_1 : decode b_Log_keeps 1 = .ok (.ifCond .lt 24, 3) := by decide +kernel
theorem d_Log_keeps_4 : decode b_Log_keeps 4 = .ok (.iload_n 1, 1) := by decide +kernel
theorem d_Log_keeps_5 : decode b_Log_keeps 5 = .ok (.aload_n 0, 1) := by decide +kernel
theorem d_Log_keeps_6 : decode b_Log_keeps 6 = .ok (.getfield 13, 3) := by decide +kernel
theorem d_Log_keeps_9 : decode b_Log_keeps 9 = .ok (.if_icmp .ge 16, 3) := by decide +kernel
theorem d_Log_keeps_12 : decode b_Log_keeps 12 = .ok (.iload_n 1, 1) := by decide +kernel
theorem d_Log_keeps_13 : decode b_Log_keeps 13 = .ok (.aload_n 0, 1) := by decide +kernel
theorem d_Log_keeps_14 : decode b_Log_keeps 14 = .ok (.getfield 7, 3) := by decide +kernel
theorem d_Log_keeps_17 : decode b_Log_keeps 17 = .ok (.arraylength, 1) := by decide +kernel
theorem d_Log_keeps_18 : decode b_Log_keeps 18 = .ok (.if_icmp .ge 7, 3) := by decide +kernel
theorem d_Log_keeps_21 : decode b_Log_keeps 21 = .ok (.iconst 1, 1) := by decide +kernel
theorem d_Log_keeps_22 : decode b_Log_keeps 22 = .ok (.goto 4, 3) := by decide +kernel
theorem d_Log_keeps_25 : decode b_Log_keeps 25 = .ok (.iconst 0, 1) := by decide +kernel
theorem d_Log_keeps_26 : decode b_Log_keeps 26 = .ok (.ireturn, 1) := by decide +kernel
theorem d_Program_init_0 : decode b_Program_init 0 = .ok (.aload_n 0, 1) := by decide +kernel
theorem d_Program_init_1 : decode b_Program_init 1 = .ok (.invokespecial 3, 3) := by decide +kernel
theorem d_Program_init_4 : decode b_Program_init 4 = .ok (.aload_n 0, 1) := by decide +kernel
theorem d_Program_init_5 : decode b_Program_init 5 = .ok (.bipush 10, 2) := by decide +kernel
theorem d_Program_init_7 : decode b_Program_init 7 = .ok (.newarray .int, 2) := by decide +kernel
theorem d_Program_init_9 : decode b_Program_init 9 = .ok (.putfield 9, 3) := by decide +kernel
theorem d_Program_init_12 : decode b_Program_init 12 = .ok (.aload_n 0, 1) := by decide +kernel
theorem d_Program_init_13 : decode b_Program_init 13 = .ok (.bipush 10, 2) := by decide +kernel
theorem d_Program_init_15 : decode b_Program_init 15 = .ok (.newarray .int, 2) := by decide +kernel
theorem d_Program_init_17 : decode b_Program_init 17 = .ok (.putfield 15, 3) := by decide +kernel
theorem d_Program_init_20 : decode b_Program_init 20 = .ok (.aload_n 0, 1) := by decide +kernel
theorem d_Program_init_21 : decode b_Program_init 21 = .ok (.bipush 10, 2) := by decide +kernel
theorem d_Program_init_23 : decode b_Program_init 23 = .ok (.newarray .int, 2) := by decide +kernel
theorem d_Program_init_25 : decode b_Program_init 25 = .ok (.putfield 18, 3) := by decide +kernel
theorem d_Program_init_28 : decode b_Program_init 28 = .ok (.return_, 1) := by decide +kernel
theorem d_Program_add_0 : decode b_Program_add 0 = .ok (.aload_n 0, 1) := by decide +kernel
theorem d_Program_add_1 : decode b_Program_add 1 = .ok (.getfield 9, 3) := by decide +kernel
theorem d_Program_add_4 : decode b_Program_add 4 = .ok (.aload_n 0, 1) := by decide +kernel
theorem d_Program_add_5 : decode b_Program_add 5 = .ok (.getfield 21, 3) := by decide +kernel
theorem d_Program_add_8 : decode b_Program_add 8 = .ok (.iload_n 1, 1) := by decide +kernel
theorem d_Program_add_9 : decode b_Program_add 9 = .ok (.iastore, 1) := by decide +kernel
theorem d_Program_add_10 : decode b_Program_add 10 = .ok (.aload_n 0, 1) := by decide +kernel
theorem d_Program_add_11 : decode b_Program_add 11 = .ok (.getfield 15, 3) := by decide +kernel
theorem d_Program_add_14 : decode b_Program_add 14 = .ok (.aload_n 0, 1) := by decide +kernel
theorem d_Program_add_15 : decode b_Program_add 15 = .ok (.getfield 21, 3) := by decide +kernel
theorem d_Program_add_18 : decode b_Program_add 18 = .ok (.iload_n 2, 1) := by decide +kernel
theorem d_Program_add_19 : decode b_Program_add 19 = .ok (.iastore, 1) := by decide +kernel
theorem d_Program_add_20 : decode b_Program_add 20 = .ok (.aload_n 0, 1) := by decide +kernel
theorem d_Program_add_21 : decode b_Program_add 21 = .ok (.getfield 18, 3) := by decide +kernel
theorem d_Program_add_24 : decode b_Program_add 24 = .ok (.aload_n 0, 1) := by decide +kernel
theorem d_Program_add_25 : decode b_Program_add 25 = .ok (.getfield 21, 3) := by decide +kernel
theorem d_Program_add_28 : decode b_Program_add 28 = .ok (.iload_n 1, 1) := by decide +kernel
theorem d_Program_add_29 : decode b_Program_add 29 = .ok (.iconst 4, 1) := by decide +kernel
theorem d_Program_add_30 : decode b_Program_add 30 = .ok (.if_icmp .ne 15, 3) := by decide +kernel
theorem d_Program_add_33 : decode b_Program_add 33 = .ok (.aload_n 0, 1) := by decide +kernel
theorem d_Program_add_34 : decode b_Program_add 34 = .ok (.aload_n 0, 1) := by decide +kernel
theorem d_Program_add_35 : decode b_Program_add 35 = .ok (.getfield 21, 3) := by decide +kernel
theorem d_Program_add_38 : decode b_Program_add 38 = .ok (.iload_n 2, 1) := by decide +kernel
theorem d_Program_add_39 : decode b_Program_add 39 = .ok (.invokevirtual 25, 3) := by decide +kernel
theorem d_Program_add_42 : decode b_Program_add 42 = .ok (.goto 4, 3) := by decide +kernel
theorem d_Program_add_45 : decode b_Program_add 45 = .ok (.iconst 0, 1) := by decide +kernel
theorem d_Program_add_46 : decode b_Program_add 46 = .ok (.iastore, 1) := by decide +kernel
theorem d_Program_add_47 : decode b_Program_add 47 = .ok (.aload_n 0, 1) := by decide +kernel
theorem d_Program_add_48 : decode b_Program_add 48 = .ok (.dup, 1) := by decide +kernel
theorem d_Program_add_49 : decode b_Program_add 49 = .ok (.getfield 21, 3) := by decide +kernel
theorem d_Program_add_52 : decode b_Program_add 52 = .ok (.iconst 1, 1) := by decide +kernel
theorem d_Program_add_53 : decode b_Program_add 53 = .ok (.iadd, 1) := by decide +kernel
theorem d_Program_add_54 : decode b_Program_add 54 = .ok (.putfield 21, 3) := by decide +kernel
theorem d_Program_add_57 : decode b_Program_add 57 = .ok (.return_, 1) := by decide +kernel
theorem d_Program_endOfGuard_0 : decode b_Program_endOfGuard 0 = .ok (.iload_n 1, 1) := by decide +kernel
theorem d_Program_endOfGuard_1 : decode b_Program_endOfGuard 1 = .ok (.iconst 1, 1) := by decide +kernel
theorem d_Program_endOfGuard_2 : decode b_Program_endOfGuard 2 = .ok (.iadd, 1) := by decide +kernel
theorem d_Program_endOfGuard_3 : decode b_Program_endOfGuard 3 = .ok (.iload_n 2, 1) := by decide +kernel
theorem d_Program_endOfGuard_4 : decode b_Program_endOfGuard 4 = .ok (.iadd, 1) := by decide +kernel
theorem d_Program_endOfGuard_5 : decode b_Program_endOfGuard 5 = .ok (.istore_n 3, 1) := by decide +kernel
theorem d_Program_endOfGuard_6 : decode b_Program_endOfGuard 6 = .ok (.aload_n 0, 1) := by decide +kernel
theorem d_Program_endOfGuard_7 : decode b_Program_endOfGuard 7 = .ok (.iload_n 1, 1) := by decide +kernel
theorem d_Program_endOfGuard_8 : decode b_Program_endOfGuard 8 = .ok (.invokevirtual 29, 3) := by decide +kernel
theorem d_Program_endOfGuard_11 : decode b_Program_endOfGuard 11 = .ok (.istore 4, 2) := by decide +kernel
theorem d_Program_endOfGuard_13 : decode b_Program_endOfGuard 13 = .ok (.iload 4, 2) := by decide +kernel
theorem d_Program_endOfGuard_15 : decode b_Program_endOfGuard 15 = .ok (.iconst (-1), 1) := by decide +kernel
theorem d_Program_endOfGuard_16 : decode b_Program_endOfGuard 16 = .ok (.if_icmp .ne 7, 3) := by decide +kernel
theorem d_Program_endOfGuard_19 : decode b_Program_endOfGuard 19 = .ok (.iload_n 3, 1) := by decide +kernel
theorem d_Program_endOfGuard_20 : decode b_Program_endOfGuard 20 = .ok (.goto 9, 3) := by decide +kernel
theorem d_Program_endOfGuard_23 : decode b_Program_endOfGuard 23 = .ok (.iload_n 3, 1) := by decide +kernel
theorem d_Program_endOfGuard_24 : decode b_Program_endOfGuard 24 = .ok (.iload 4, 2) := by decide +kernel
theorem d_Program_endOfGuard_26 : decode b_Program_endOfGuard 26 = .ok (.invokestatic 33, 3) := by decide +kernel
theorem d_Program_endOfGuard_29 : decode b_Program_endOfGuard 29 = .ok (.ireturn, 1) := by decide +kernel
theorem d_Program_endOfGuardAround_0 : decode b_Program_endOfGuardAround 0 = .ok (.iload_n 1, 1) := by decide +kernel
theorem d_Program_endOfGuardAround_1 : decode b_Program_endOfGuardAround 1 = .ok (.iconst 1, 1) := by decide +kernel
theorem d_Program_endOfGuardAround_2 : decode b_Program_endOfGuardAround 2 = .ok (.isub, 1) := by decide +kernel
theorem d_Program_endOfGuardAround_3 : decode b_Program_endOfGuardAround 3 = .ok (.istore_n 2, 1) := by decide +kernel
theorem d_Program_endOfGuardAround_4 : decode b_Program_endOfGuardAround 4 = .ok (.iload_n 2, 1) := by decide +kernel
theorem d_Program_endOfGuardAround_5 : decode b_Program_endOfGuardAround 5 = .ok (.ifCond .lt 26, 3) := by decide +kernel
theorem d_Program_endOfGuardAround_8 : decode b_Program_endOfGuardAround 8 = .ok (.aload_n 0, 1) := by decide +kernel
theorem d_Program_endOfGuardAround_9 : decode b_Program_endOfGuardAround 9 = .ok (.getfield 18, 3) := by decide +kernel
theorem d_Program_endOfGuardAround_12 : decode b_Program_endOfGuardAround 12 = .ok (.iload_n 2, 1) := by decide +kernel
theorem d_Program_endOfGuardAround_13 : decode b_Program_endOfGuardAround 13 = .ok (.iaload, 1) := by decide +kernel
theorem d_Program_endOfGuardAround_14 : decode b_Program_endOfGuardAround 14 = .ok (.iload_n 1, 1) := by decide +kernel
theorem d_Program_endOfGuardAround_15 : decode b_Program_endOfGuardAround 15 = .ok (.if_icmp .le 10, 3) := by decide +kernel
theorem d_Program_endOfGuardAround_18 : decode b_Program_endOfGuardAround 18 = .ok (.aload_n 0, 1) := by decide +kernel
theorem d_Program_endOfGuardAround_19 : decode b_Program_endOfGuardAround 19 = .ok (.getfield 18, 3) := by decide +kernel
theorem d_Program_endOfGuardAround_22 : decode b_Program_endOfGuardAround 22 = .ok (.iload_n 2, 1) := by decide +kernel
theorem d_Program_endOfGuardAround_23 : decode b_Program_endOfGuardAround 23 = .ok (.iaload, 1) := by decide +kernel
theorem d_Program_endOfGuardAround_24 : decode b_Program_endOfGuardAround 24 = .ok (.ireturn, 1) := by decide +kernel
theorem d_Program_endOfGuardAround_25 : decode b_Program_endOfGuardAround 25 = .ok (.iinc 2 (-1), 3) := by decide +kernel
theorem d_Program_endOfGuardAround_28 : decode b_Program_endOfGuardAround 28 = .ok (.goto (-24), 3) := by decide +kernel
theorem d_Program_endOfGuardAround_31 : decode b_Program_endOfGuardAround 31 = .ok (.iconst (-1), 1) := by decide +kernel
theorem d_Program_endOfGuardAround_32 : decode b_Program_endOfGuardAround 32 = .ok (.ireturn, 1) := by decide +kernel
theorem d_Strand_init_0 : decode b_Strand_init 0 = .ok (.aload_n 0, 1) := by decide +kernel
theorem d_Strand_init_1 : decode b_Strand_init 1 = .ok (.invokespecial 3, 3) := by decide +kernel
theorem d_Strand_init_4 : decode b_Strand_init 4 = .ok (.return_, 1) := by decide +kernel
theorem d_Strand_start_0 : decode b_Strand_start 0 = .ok (.aload_n 0, 1) := by decide +kernel
theorem d_Strand_start_1 : decode b_Strand_start 1 = .ok (.iload_n 1, 1) := by decide +kernel
theorem d_Strand_start_2 : decode b_Strand_start 2 = .ok (.putfield 9, 3) := by decide +kernel
theorem d_Strand_start_5 : decode b_Strand_start 5 = .ok (.aload_n 0, 1) := by decide +kernel
theorem d_Strand_start_6 : decode b_Strand_start 6 = .ok (.iload_n 2, 1) := by decide +kernel
theorem d_Strand_start_7 : decode b_Strand_start 7 = .ok (.putfield 15, 3) := by decide +kernel
theorem d_Strand_start_10 : decode b_Strand_start 10 = .ok (.aload_n 0, 1) := by decide +kernel
theorem d_Strand_start_11 : decode b_Strand_start 11 = .ok (.iload_n 3, 1) := by decide +kernel
theorem d_Strand_start_12 : decode b_Strand_start 12 = .ok (.putfield 18, 3) := by decide +kernel
theorem d_Strand_start_15 : decode b_Strand_start 15 = .ok (.aload_n 0, 1) := by decide +kernel
theorem d_Strand_start_16 : decode b_Strand_start 16 = .ok (.iconst 0, 1) := by decide +kernel
theorem d_Strand_start_17 : decode b_Strand_start 17 = .ok (.putfield 21, 3) := by decide +kernel
theorem d_Strand_start_20 : decode b_Strand_start 20 = .ok (.aload_n 0, 1) := by decide +kernel
theorem d_Strand_start_21 : decode b_Strand_start 21 = .ok (.iconst 0, 1) := by decide +kernel
theorem d_Strand_start_22 : decode b_Strand_start 22 = .ok (.putfield 24, 3) := by decide +kernel
theorem d_Strand_start_25 : decode b_Strand_start 25 = .ok (.aload_n 0, 1) := by decide +kernel
theorem d_Strand_start_26 : decode b_Strand_start 26 = .ok (.iconst 0, 1) := by decide +kernel
theorem d_Strand_start_27 : decode b_Strand_start 27 = .ok (.putfield 28, 3) := by decide +kernel
theorem d_Strand_start_30 : decode b_Strand_start 30 = .ok (.aload_n 0, 1) := by decide +kernel
theorem d_Strand_start_31 : decode b_Strand_start 31 = .ok (.iconst 0, 1) := by decide +kernel
theorem d_Strand_start_32 : decode b_Strand_start 32 = .ok (.putfield 31, 3) := by decide +kernel
theorem d_Strand_start_35 : decode b_Strand_start 35 = .ok (.aload_n 0, 1) := by decide +kernel
theorem d_Strand_start_36 : decode b_Strand_start 36 = .ok (.iconst 0, 1) := by decide +kernel
theorem d_Strand_start_37 : decode b_Strand_start 37 = .ok (.putfield 34, 3) := by decide +kernel
theorem d_Strand_start_40 : decode b_Strand_start 40 = .ok (.aload_n 0, 1) := by decide +kernel
theorem d_Strand_start_41 : decode b_Strand_start 41 = .ok (.iconst 0, 1) := by decide +kernel
theorem d_Strand_start_42 : decode b_Strand_start 42 = .ok (.putfield 37, 3) := by decide +kernel
theorem d_Strand_start_45 : decode b_Strand_start 45 = .ok (.aload_n 0, 1) := by decide +kernel
theorem d_Strand_start_46 : decode b_Strand_start 46 = .ok (.iconst (-1), 1) := by decide +kernel
theorem d_Strand_start_47 : decode b_Strand_start 47 = .ok (.putfield 40, 3) := by decide +kernel
theorem d_Strand_start_50 : decode b_Strand_start 50 = .ok (.return_, 1) := by decide +kernel
theorem d_Strand_end_0 : decode b_Strand_end 0 = .ok (.aload_n 0, 1) := by decide +kernel
theorem d_Strand_end_1 : decode b_Strand_end 1 = .ok (.iconst 1, 1) := by decide +kernel
theorem d_Strand_end_2 : decode b_Strand_end 2 = .ok (.putfield 37, 3) := by decide +kernel
theorem d_Strand_end_5 : decode b_Strand_end 5 = .ok (.aload_n 0, 1) := by decide +kernel
theorem d_Strand_end_6 : decode b_Strand_end 6 = .ok (.iload_n 1, 1) := by decide +kernel
theorem d_Strand_end_7 : decode b_Strand_end 7 = .ok (.putfield 40, 3) := by decide +kernel
theorem d_Strand_end_10 : decode b_Strand_end 10 = .ok (.return_, 1) := by decide +kernel
theorem d_Strand_takeMark_0 : decode b_Strand_takeMark 0 = .ok (.aload_n 0, 1) := by decide +kernel
theorem d_Strand_takeMark_1 : decode b_Strand_takeMark 1 = .ok (.getfield 31, 3) := by decide +kernel
theorem d_Strand_takeMark_4 : decode b_Strand_takeMark 4 = .ok (.istore_n 1, 1) := by decide +kernel
theorem d_Strand_takeMark_5 : decode b_Strand_takeMark 5 = .ok (.aload_n 0, 1) := by decide +kernel
theorem d_Strand_takeMark_6 : decode b_Strand_takeMark 6 = .ok (.iconst 0, 1) := by decide +kernel
theorem d_Strand_takeMark_7 : decode b_Strand_takeMark 7 = .ok (.putfield 31, 3) := by decide +kernel
theorem d_Strand_takeMark_10 : decode b_Strand_takeMark 10 = .ok (.iload_n 1, 1) := by decide +kernel
theorem d_Strand_takeMark_11 : decode b_Strand_takeMark 11 = .ok (.ireturn, 1) := by decide +kernel
theorem d_Trial_init_0 : decode b_Trial_init 0 = .ok (.aload_n 0, 1) := by decide +kernel
theorem d_Trial_init_1 : decode b_Trial_init 1 = .ok (.invokespecial 3, 3) := by decide +kernel
theorem d_Trial_init_4 : decode b_Trial_init 4 = .ok (.aload_n 0, 1) := by decide +kernel
theorem d_Trial_init_5 : decode b_Trial_init 5 = .ok (.invokevirtual 9, 3) := by decide +kernel
theorem d_Trial_init_8 : decode b_Trial_init 8 = .ok (.return_, 1) := by decide +kernel
theorem d_Trial_define_0 : decode b_Trial_define 0 = .ok (.aload_n 0, 1) := by decide +kernel
theorem d_Trial_define_1 : decode b_Trial_define 1 = .ok (.iload_n 1, 1) := by decide +kernel
theorem d_Trial_define_2 : decode b_Trial_define 2 = .ok (.putfield 14, 3) := by decide +kernel
theorem d_Trial_define_5 : decode b_Trial_define 5 = .ok (.aload_n 0, 1) := by decide +kernel
theorem d_Trial_define_6 : decode b_Trial_define 6 = .ok (.iload_n 2, 1) := by decide +kernel
theorem d_Trial_define_7 : decode b_Trial_define 7 = .ok (.putfield 18, 3) := by decide +kernel
theorem d_Trial_define_10 : decode b_Trial_define 10 = .ok (.aload_n 0, 1) := by decide +kernel
theorem d_Trial_define_11 : decode b_Trial_define 11 = .ok (.iload_n 3, 1) := by decide +kernel
theorem d_Trial_define_12 : decode b_Trial_define 12 = .ok (.putfield 21, 3) := by decide +kernel
theorem d_Trial_define_15 : decode b_Trial_define 15 = .ok (.aload_n 0, 1) := by decide +kernel
theorem d_Trial_define_16 : decode b_Trial_define 16 = .ok (.iload 4, 2) := by decide +kernel
theorem d_Trial_define_18 : decode b_Trial_define 18 = .ok (.putfield 24, 3) := by decide +kernel
theorem d_Trial_define_21 : decode b_Trial_define 21 = .ok (.return_, 1) := by decide +kernel
theorem d_Trial_forgetRun_0 : decode b_Trial_forgetRun 0 = .ok (.aload_n 0, 1) := by decide +kernel
theorem d_Trial_forgetRun_1 : decode b_Trial_forgetRun 1 = .ok (.iconst 0, 1) := by decide +kernel
theorem d_Trial_forgetRun_2 : decode b_Trial_forgetRun 2 = .ok (.putfield 27, 3) := by decide +kernel
theorem d_Trial_forgetRun_5 : decode b_Trial_forgetRun 5 = .ok (.aload_n 0, 1) := by decide +kernel
theorem d_Trial_forgetRun_6 : decode b_Trial_forgetRun 6 = .ok (.iconst (-1), 1) := by decide +kernel
theorem d_Trial_forgetRun_7 : decode b_Trial_forgetRun 7 = .ok (.putfield 30, 3) := by decide +kernel
theorem d_Trial_forgetRun_10 : decode b_Trial_forgetRun 10 = .ok (.aload_n 0, 1) := by decide +kernel
theorem d_Trial_forgetRun_11 : decode b_Trial_forgetRun 11 = .ok (.iconst (-1), 1) := by decide +kernel
theorem d_Trial_forgetRun_12 : decode b_Trial_forgetRun 12 = .ok (.putfield 33, 3) := by decide +kernel
theorem d_Trial_forgetRun_15 : decode b_Trial_forgetRun 15 = .ok (.aload_n 0, 1) := by decide +kernel
theorem d_Trial_forgetRun_16 : decode b_Trial_forgetRun 16 = .ok (.iconst (-1), 1) := by decide +kernel
theorem d_Trial_forgetRun_17 : decode b_Trial_forgetRun 17 = .ok (.putfield 36, 3) := by decide +kernel
theorem d_Trial_forgetRun_20 : decode b_Trial_forgetRun 20 = .ok (.aload_n 0, 1) := by decide +kernel
theorem d_Trial_forgetRun_21 : decode b_Trial_forgetRun 21 = .ok (.iconst (-1), 1) := by decide +kernel
theorem d_Trial_forgetRun_22 : decode b_Trial_forgetRun 22 = .ok (.putfield 39, 3) := by decide +kernel
theorem d_Trial_forgetRun_25 : decode b_Trial_forgetRun 25 = .ok (.aload_n 0, 1) := by decide +kernel
theorem d_Trial_forgetRun_26 : decode b_Trial_forgetRun 26 = .ok (.iconst 0, 1) := by decide +kernel
theorem d_Trial_forgetRun_27 : decode b_Trial_forgetRun 27 = .ok (.putfield 42, 3) := by decide +kernel
theorem d_Trial_forgetRun_30 : decode b_Trial_forgetRun 30 = .ok (.aload_n 0, 1) := by decide +kernel
theorem d_Trial_forgetRun_31 : decode b_Trial_forgetRun 31 = .ok (.iconst 0, 1) := by decide +kernel
theorem d_Trial_forgetRun_32 : decode b_Trial_forgetRun 32 = .ok (.putfield 46, 3) := by decide +kernel
theorem d_Trial_forgetRun_35 : decode b_Trial_forgetRun 35 = .ok (.aload_n 0, 1) := by decide +kernel
theorem d_Trial_forgetRun_36 : decode b_Trial_forgetRun 36 = .ok (.iconst (-1), 1) := by decide +kernel
theorem d_Trial_forgetRun_37 : decode b_Trial_forgetRun 37 = .ok (.putfield 49, 3) := by decide +kernel
theorem d_Trial_forgetRun_40 : decode b_Trial_forgetRun 40 = .ok (.aload_n 0, 1) := by decide +kernel
theorem d_Trial_forgetRun_41 : decode b_Trial_forgetRun 41 = .ok (.iconst (-1), 1) := by decide +kernel
theorem d_Trial_forgetRun_42 : decode b_Trial_forgetRun 42 = .ok (.putfield 52, 3) := by decide +kernel
theorem d_Trial_forgetRun_45 : decode b_Trial_forgetRun 45 = .ok (.return_, 1) := by decide +kernel
theorem d_Trial_isRunning_0 : decode b_Trial_isRunning 0 = .ok (.aload_n 0, 1) := by decide +kernel
theorem d_Trial_isRunning_1 : decode b_Trial_isRunning 1 = .ok (.getfield 33, 3) := by decide +kernel
theorem d_Trial_isRunning_4 : decode b_Trial_isRunning 4 = .ok (.iconst (-1), 1) := by decide +kernel
theorem d_Trial_isRunning_5 : decode b_Trial_isRunning 5 = .ok (.if_icmp .eq 14, 3) := by decide +kernel
theorem d_Trial_isRunning_8 : decode b_Trial_isRunning 8 = .ok (.aload_n 0, 1) := by decide +kernel
theorem d_Trial_isRunning_9 : decode b_Trial_isRunning 9 = .ok (.getfield 27, 3) := by decide +kernel
theorem d_Trial_isRunning_12 : decode b_Trial_isRunning 12 = .ok (.ifCond .ne 7, 3) := by decide +kernel
theorem d_Trial_isRunning_15 : decode b_Trial_isRunning 15 = .ok (.iconst 1, 1) := by decide +kernel
theorem d_Trial_isRunning_16 : decode b_Trial_isRunning 16 = .ok (.goto 4, 3) := by decide +kernel
theorem d_Trial_isRunning_19 : decode b_Trial_isRunning 19 = .ok (.iconst 0, 1) := by decide +kernel
theorem d_Trial_isRunning_20 : decode b_Trial_isRunning 20 = .ok (.ireturn, 1) := by decide +kernel
theorem d_Trial_overrunsAt_0 : decode b_Trial_overrunsAt 0 = .ok (.aload_n 0, 1) := by decide +kernel
theorem d_Trial_overrunsAt_1 : decode b_Trial_overrunsAt 1 = .ok (.invokevirtual 55, 3) := by decide +kernel
theorem d_Trial_overrunsAt_4 : decode b_Trial_overrunsAt 4 = .ok (.ifCond .eq 27, 3) := by decide +kernel
theorem d_Trial_overrunsAt_7 : decode b_Trial_overrunsAt 7 = .ok (.aload_n 0, 1) := by decide +kernel
theorem d_Trial_overrunsAt_8 : decode b_Trial_overrunsAt 8 = .ok (.getfield 18, 3) := by decide +kernel
theorem d_Trial_overrunsAt_11 : decode b_Trial_overrunsAt 11 = .ok (.ifCond .eq 20, 3) := by decide +kernel
theorem d_Trial_overrunsAt_14 : decode b_Trial_overrunsAt 14 = .ok (.iload_n 1, 1) := by decide +kernel
theorem d_Trial_overrunsAt_15 : decode b_Trial_overrunsAt 15 = .ok (.aload_n 0, 1) := by decide +kernel
theorem d_Trial_overrunsAt_16 : decode b_Trial_overrunsAt 16 = .ok (.getfield 33, 3) := by decide +kernel
theorem d_Trial_overrunsAt_19 : decode b_Trial_overrunsAt 19 = .ok (.aload_n 0, 1) := by decide +kernel
theorem d_Trial_overrunsAt_20 : decode b_Trial_overrunsAt 20 = .ok (.getfield 18, 3) := by decide +kernel
theorem d_Trial_overrunsAt_23 : decode b_Trial_overrunsAt 23 = .ok (.iadd, 1) := by decide +kernel
theorem d_Trial_overrunsAt_24 : decode b_Trial_overrunsAt 24 = .ok (.if_icmp .lt 7, 3) := by decide +kernel
theorem d_Trial_overrunsAt_27 : decode b_Trial_overrunsAt 27 = .ok (.iconst 1, 1) := by decide +kernel
theorem d_Trial_overrunsAt_28 : decode b_Trial_overrunsAt 28 = .ok (.goto 4, 3) := by decide +kernel
theorem d_Trial_overrunsAt_31 : decode b_Trial_overrunsAt 31 = .ok (.iconst 0, 1) := by decide +kernel
theorem d_Trial_overrunsAt_32 : decode b_Trial_overrunsAt 32 = .ok (.ireturn, 1) := by decide +kernel
theorem d_Trial_hindersLocksOf_0 : decode b_Trial_hindersLocksOf 0 = .ok (.aload_n 0, 1) := by decide +kernel
theorem d_Trial_hindersLocksOf_1 : decode b_Trial_hindersLocksOf 1 = .ok (.getfield 24, 3) := by decide +kernel
theorem d_Trial_hindersLocksOf_4 : decode b_Trial_hindersLocksOf 4 = .ok (.aload_n 1, 1) := by decide +kernel
theorem d_Trial_hindersLocksOf_5 : decode b_Trial_hindersLocksOf 5 = .ok (.getfield 21, 3) := by decide +kernel
theorem d_Trial_hindersLocksOf_8 : decode b_Trial_hindersLocksOf 8 = .ok (.aload_n 1, 1) := by decide +kernel
theorem d_Trial_hindersLocksOf_9 : decode b_Trial_hindersLocksOf 9 = .ok (.getfield 24, 3) := by decide +kernel
theorem d_Trial_hindersLocksOf_12 : decode b_Trial_hindersLocksOf 12 = .ok (.ior, 1) := by decide +kernel
theorem d_Trial_hindersLocksOf_13 : decode b_Trial_hindersLocksOf 13 = .ok (.iand, 1) := by decide +kernel
theorem d_Trial_hindersLocksOf_14 : decode b_Trial_hindersLocksOf 14 = .ok (.ifCond .ne 15, 3) := by decide +kernel
theorem d_Trial_hindersLocksOf_17 : decode b_Trial_hindersLocksOf 17 = .ok (.aload_n 0, 1) := by decide +kernel
theorem d_Trial_hindersLocksOf_18 : decode b_Trial_hindersLocksOf 18 = .ok (.getfield 21, 3) := by decide +kernel
theorem d_Trial_hindersLocksOf_21 : decode b_Trial_hindersLocksOf 21 = .ok (.aload_n 1, 1) := by decide +kernel
theorem d_Trial_hindersLocksOf_22 : decode b_Trial_hindersLocksOf 22 = .ok (.getfield 24, 3) := by decide +kernel
theorem d_Trial_hindersLocksOf_25 : decode b_Trial_hindersLocksOf 25 = .ok (.iand, 1) := by decide +kernel
theorem d_Trial_hindersLocksOf_26 : decode b_Trial_hindersLocksOf 26 = .ok (.ifCond .eq 7, 3) := by decide +kernel
theorem d_Trial_hindersLocksOf_29 : decode b_Trial_hindersLocksOf 29 = .ok (.iconst 1, 1) := by decide +kernel
theorem d_Trial_hindersLocksOf_30 : decode b_Trial_hindersLocksOf 30 = .ok (.goto 4, 3) := by decide +kernel
theorem d_Trial_hindersLocksOf_33 : decode b_Trial_hindersLocksOf 33 = .ok (.iconst 0, 1) := by decide +kernel
theorem d_Trial_hindersLocksOf_34 : decode b_Trial_hindersLocksOf 34 = .ok (.ireturn, 1) := by decide +kernel
theorem d_Trial_decide_0 : decode b_Trial_decide 0 = .ok (.aload_n 0, 1) := by decide +kernel
theorem d_Trial_decide_1 : decode b_Trial_decide 1 = .ok (.iload_n 1, 1) := by decide +kernel
theorem d_Trial_decide_2 : decode b_Trial_decide 2 = .ok (.putfield 27, 3) := by decide +kernel
theorem d_Trial_decide_5 : decode b_Trial_decide 5 = .ok (.aload_n 0, 1) := by decide +kernel
theorem d_Trial_decide_6 : decode b_Trial_decide 6 = .ok (.iload_n 2, 1) := by decide +kernel
theorem d_Trial_decide_7 : decode b_Trial_decide 7 = .ok (.putfield 36, 3) := by decide +kernel
theorem d_Trial_decide_10 : decode b_Trial_decide 10 = .ok (.return_, 1) := by decide +kernel
theorem d_Trial_decideByDeath_0 : decode b_Trial_decideByDeath 0 = .ok (.aload_n 0, 1) := by decide +kernel
theorem d_Trial_decideByDeath_1 : decode b_Trial_decideByDeath 1 = .ok (.iload_n 1, 1) := by decide +kernel
theorem d_Trial_decideByDeath_2 : decode b_Trial_decideByDeath 2 = .ok (.iconst (-1), 1) := by decide +kernel
theorem d_Trial_decideByDeath_3 : decode b_Trial_decideByDeath 3 = .ok (.if_icmp .eq 7, 3) := by decide +kernel
theorem d_Trial_decideByDeath_6 : decode b_Trial_decideByDeath 6 = .ok (.iload_n 1, 1) := by decide +kernel
theorem d_Trial_decideByDeath_7 : decode b_Trial_decideByDeath 7 = .ok (.goto 7, 3) := by decide +kernel
theorem d_Trial_decideByDeath_10 : decode b_Trial_decideByDeath 10 = .ok (.aload_n 0, 1) := by decide +kernel
theorem d_Trial_decideByDeath_11 : decode b_Trial_decideByDeath 11 = .ok (.getfield 52, 3) := by decide +kernel
theorem d_Trial_decideByDeath_14 : decode b_Trial_decideByDeath 14 = .ok (.putfield 30, 3) := by decide +kernel
theorem d_Trial_decideByDeath_17 : decode b_Trial_decideByDeath 17 = .ok (.aload_n 0, 1) := by decide +kernel
theorem d_Trial_decideByDeath_18 : decode b_Trial_decideByDeath 18 = .ok (.aload_n 0, 1) := by decide +kernel
theorem d_Trial_decideByDeath_19 : decode b_Trial_decideByDeath 19 = .ok (.getfield 30, 3) := by decide +kernel
theorem d_Trial_decideByDeath_22 : decode b_Trial_decideByDeath 22 = .ok (.iconst (-1), 1) := by decide +kernel
theorem d_Trial_decideByDeath_23 : decode b_Trial_decideByDeath 23 = .ok (.if_icmp .eq 7, 3) := by decide +kernel
theorem d_Trial_decideByDeath_26 : decode b_Trial_decideByDeath 26 = .ok (.iconst 2, 1) := by decide +kernel
theorem d_Trial_decideByDeath_27 : decode b_Trial_decideByDeath 27 = .ok (.goto 4, 3) := by decide +kernel
theorem d_Trial_decideByDeath_30 : decode b_Trial_decideByDeath 30 = .ok (.iconst 1, 1) := by decide +kernel
theorem d_Trial_decideByDeath_31 : decode b_Trial_decideByDeath 31 = .ok (.iload_n 2, 1) := by decide +kernel
theorem d_Trial_decideByDeath_32 : decode b_Trial_decideByDeath 32 = .ok (.invokevirtual 59, 3) := by decide +kernel
theorem d_Trial_decideByDeath_35 : decode b_Trial_decideByDeath 35 = .ok (.return_, 1) := by decide +kernel
