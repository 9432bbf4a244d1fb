theorem d_X_init_0 : decode b_X_init 0 = .ok (.aload_n 0, 1) := by decide +kernel
theorem d_X_init_1 : decode b_X_init 1 = .ok (.invokespecial 1, 3) := by decide +kernel
theorem d_X_init_4 : decode b_X_init 4 = .ok (.aload_n 0, 1) := by decide +kernel
theorem d_X_init_5 : decode b_X_init 5 = .ok (.bipush 6, 2) := by decide +kernel
theorem d_X_init_7 : decode b_X_init 7 = .ok (.newarray .boolean, 2) := by decide +kernel
theorem d_X_init_9 : decode b_X_init 9 = .ok (.putfield 9, 3) := by decide +kernel
theorem d_X_init_12 : decode b_X_init 12 = .ok (.aload_n 0, 1) := by decide +kernel
theorem d_X_init_13 : decode b_X_init 13 = .ok (.sipush 150, 3) := by decide +kernel
theorem d_X_init_16 : decode b_X_init 16 = .ok (.newarray .int, 2) := by decide +kernel
theorem d_X_init_18 : decode b_X_init 18 = .ok (.putfield 13, 3) := by decide +kernel
theorem d_X_init_21 : decode b_X_init 21 = .ok (.aload_n 0, 1) := by decide +kernel
theorem d_X_init_22 : decode b_X_init 22 = .ok (.sipush 150, 3) := by decide +kernel
theorem d_X_init_25 : decode b_X_init 25 = .ok (.newarray .int, 2) := by decide +kernel
theorem d_X_init_27 : decode b_X_init 27 = .ok (.putfield 17, 3) := by decide +kernel
theorem d_X_init_30 : decode b_X_init 30 = .ok (.aload_n 0, 1) := by decide +kernel
theorem d_X_init_31 : decode b_X_init 31 = .ok (.sipush 150, 3) := by decide +kernel
theorem d_X_init_34 : decode b_X_init 34 = .ok (.newarray .boolean, 2) := by decide +kernel
theorem d_X_init_36 : decode b_X_init 36 = .ok (.putfield 20, 3) := by decide +kernel
theorem d_X_init_39 : decode b_X_init 39 = .ok (.aload_n 0, 1) := by decide +kernel
theorem d_X_init_40 : decode b_X_init 40 = .ok (.sipush 150, 3) := by decide +kernel
theorem d_X_init_43 : decode b_X_init 43 = .ok (.newarray .int, 2) := by decide +kernel
theorem d_X_init_45 : decode b_X_init 45 = .ok (.putfield 23, 3) := by decide +kernel
theorem d_X_init_48 : decode b_X_init 48 = .ok (.aload_n 0, 1) := by decide +kernel
theorem d_X_init_49 : decode b_X_init 49 = .ok (.iconst 0, 1) := by decide +kernel
theorem d_X_init_50 : decode b_X_init 50 = .ok (.putfield 26, 3) := by decide +kernel
theorem d_X_init_53 : decode b_X_init 53 = .ok (.aload_n 0, 1) := by decide +kernel
theorem d_X_init_54 : decode b_X_init 54 = .ok (.iconst 0, 1) := by decide +kernel
theorem d_X_init_55 : decode b_X_init 55 = .ok (.putfield 30, 3) := by decide +kernel
theorem d_X_init_58 : decode b_X_init 58 = .ok (.aload_n 0, 1) := by decide +kernel
theorem d_X_init_59 : decode b_X_init 59 = .ok (.sipush 150, 3) := by decide +kernel
theorem d_X_init_62 : decode b_X_init 62 = .ok (.newarray .int, 2) := by decide +kernel
theorem d_X_init_64 : decode b_X_init 64 = .ok (.putfield 33, 3) := by decide +kernel
theorem d_X_init_67 : decode b_X_init 67 = .ok (.aload_n 0, 1) := by decide +kernel
theorem d_X_init_68 : decode b_X_init 68 = .ok (.iconst 0, 1) := by decide +kernel
theorem d_X_init_69 : decode b_X_init 69 = .ok (.putfield 36, 3) := by decide +kernel
theorem d_X_init_72 : decode b_X_init 72 = .ok (.aload_n 0, 1) := by decide +kernel
theorem d_X_init_73 : decode b_X_init 73 = .ok (.new 39, 3) := by decide +kernel
theorem d_X_init_76 : decode b_X_init 76 = .ok (.dup, 1) := by decide +kernel
theorem d_X_init_77 : decode b_X_init 77 = .ok (.invokespecial 41, 3) := by decide +kernel
theorem d_X_init_80 : decode b_X_init 80 = .ok (.putfield 42, 3) := by decide +kernel
theorem d_X_init_83 : decode b_X_init 83 = .ok (.aload_n 0, 1) := by decide +kernel
theorem d_X_init_84 : decode b_X_init 84 = .ok (.bipush 10, 2) := by decide +kernel
theorem d_X_init_86 : decode b_X_init 86 = .ok (.anewarray 46, 3) := by decide +kernel
theorem d_X_init_89 : decode b_X_init 89 = .ok (.putfield 48, 3) := by decide +kernel
theorem d_X_init_92 : decode b_X_init 92 = .ok (.aload_n 0, 1) := by decide +kernel
theorem d_X_init_93 : decode b_X_init 93 = .ok (.bipush 10, 2) := by decide +kernel
theorem d_X_init_95 : decode b_X_init 95 = .ok (.newarray .int, 2) := by decide +kernel
theorem d_X_init_97 : decode b_X_init 97 = .ok (.putfield 52, 3) := by decide +kernel
theorem d_X_init_100 : decode b_X_init 100 = .ok (.aload_n 0, 1) := by decide +kernel
theorem d_X_init_101 : decode b_X_init 101 = .ok (.iconst 0, 1) := by decide +kernel
theorem d_X_init_102 : decode b_X_init 102 = .ok (.putfield 55, 3) := by decide +kernel
theorem d_X_init_105 : decode b_X_init 105 = .ok (.aload_n 0, 1) := by decide +kernel
theorem d_X_init_106 : decode b_X_init 106 = .ok (.iload_n 1, 1) := by decide +kernel
theorem d_X_init_107 : decode b_X_init 107 = .ok (.iconst 1, 1) := by decide +kernel
theorem d_X_init_108 : decode b_X_init 108 = .ok (.bipush 50, 2) := by decide +kernel
theorem d_X_init_110 : decode b_X_init 110 = .ok (.invokestatic 58, 3) := by decide +kernel
theorem d_X_init_113 : decode b_X_init 113 = .ok (.putfield 62, 3) := by decide +kernel
theorem d_X_init_116 : decode b_X_init 116 = .ok (.aload_n 0, 1) := by decide +kernel
theorem d_X_init_117 : decode b_X_init 117 = .ok (.iload_n 2, 1) := by decide +kernel
theorem d_X_init_118 : decode b_X_init 118 = .ok (.iconst 1, 1) := by decide +kernel
theorem d_X_init_119 : decode b_X_init 119 = .ok (.bipush 100, 2) := by decide +kernel
theorem d_X_init_121 : decode b_X_init 121 = .ok (.invokestatic 58, 3) := by decide +kernel
theorem d_X_init_124 : decode b_X_init 124 = .ok (.putfield 65, 3) := by decide +kernel
theorem d_X_init_127 : decode b_X_init 127 = .ok (.aload_n 0, 1) := by decide +kernel
theorem d_X_init_128 : decode b_X_init 128 = .ok (.iload_n 3, 1) := by decide +kernel
theorem d_X_init_129 : decode b_X_init 129 = .ok (.iconst 0, 1) := by decide +kernel
theorem d_X_init_130 : decode b_X_init 130 = .ok (.ldc 68, 2) := by decide +kernel
theorem d_X_init_132 : decode b_X_init 132 = .ok (.invokestatic 58, 3) := by decide +kernel
theorem d_X_init_135 : decode b_X_init 135 = .ok (.putfield 69, 3) := by decide +kernel
theorem d_X_init_138 : decode b_X_init 138 = .ok (.return_, 1) := by decide +kernel
theorem d_X_nearest_0 : decode b_X_nearest 0 = .ok (.iload_n 1, 1) := by decide +kernel
theorem d_X_nearest_1 : decode b_X_nearest 1 = .ok (.iload_n 2, 1) := by decide +kernel
theorem d_X_nearest_2 : decode b_X_nearest 2 = .ok (.iload_n 0, 1) := by decide +kernel
theorem d_X_nearest_3 : decode b_X_nearest 3 = .ok (.invokestatic 178, 3) := by decide +kernel
theorem d_X_nearest_6 : decode b_X_nearest 6 = .ok (.invokestatic 184, 3) := by decide +kernel
theorem d_X_nearest_9 : decode b_X_nearest 9 = .ok (.ireturn, 1) := by decide +kernel
theorem d_X_record_0 : decode b_X_record 0 = .ok (.iload_n 1, 1) := by decide +kernel
theorem d_X_record_1 : decode b_X_record 1 = .ok (.invokestatic 72, 3) := by decide +kernel
theorem d_X_record_4 : decode b_X_record 4 = .ok (.ifCond .eq 11, 3) := by decide +kernel
theorem d_X_record_7 : decode b_X_record 7 = .ok (.aload_n 0, 1) := by decide +kernel
theorem d_X_record_8 : decode b_X_record 8 = .ok (.iload_n 2, 1) := by decide +kernel
theorem d_X_record_9 : decode b_X_record 9 = .ok (.invokevirtual 76, 3) := by decide +kernel
theorem d_X_record_12 : decode b_X_record 12 = .ok (.ifCond .ne 6, 3) := by decide +kernel
theorem d_X_record_15 : decode b_X_record 15 = .ok (.bipush (-2), 2) := by decide +kernel
theorem d_X_record_17 : decode b_X_record 17 = .ok (.ireturn, 1) := by decide +kernel
theorem d_X_record_18 : decode b_X_record 18 = .ok (.aload_n 0, 1) := by decide +kernel
theorem d_X_record_19 : decode b_X_record 19 = .ok (.getfield 26, 3) := by decide +kernel
theorem d_X_record_22 : decode b_X_record 22 = .ok (.sipush 150, 3) := by decide +kernel
theorem d_X_record_25 : decode b_X_record 25 = .ok (.if_icmp .lt 6, 3) := by decide +kernel
theorem d_X_record_28 : decode b_X_record 28 = .ok (.bipush (-4), 2) := by decide +kernel
theorem d_X_record_30 : decode b_X_record 30 = .ok (.ireturn, 1) := by decide +kernel
theorem d_X_record_31 : decode b_X_record 31 = .ok (.aload_n 0, 1) := by decide +kernel
theorem d_X_record_32 : decode b_X_record 32 = .ok (.getfield 26, 3) := by decide +kernel
theorem d_X_record_35 : decode b_X_record 35 = .ok (.istore_n 3, 1) := by decide +kernel
theorem d_X_record_36 : decode b_X_record 36 = .ok (.aload_n 0, 1) := by decide +kernel
theorem d_X_record_37 : decode b_X_record 37 = .ok (.dup, 1) := by decide +kernel
theorem d_X_record_38 : decode b_X_record 38 = .ok (.getfield 26, 3) := by decide +kernel
theorem d_X_record_41 : decode b_X_record 41 = .ok (.iconst 1, 1) := by decide +kernel
theorem d_X_record_42 : decode b_X_record 42 = .ok (.iadd, 1) := by decide +kernel
theorem d_X_record_43 : decode b_X_record 43 = .ok (.putfield 26, 3) := by decide +kernel
theorem d_X_record_46 : decode b_X_record 46 = .ok (.aload_n 0, 1) := by decide +kernel
theorem d_X_record_47 : decode b_X_record 47 = .ok (.getfield 13, 3) := by decide +kernel
theorem d_X_record_50 : decode b_X_record 50 = .ok (.iload_n 3, 1) := by decide +kernel
theorem d_X_record_51 : decode b_X_record 51 = .ok (.iload_n 1, 1) := by decide +kernel
theorem d_X_record_52 : decode b_X_record 52 = .ok (.iastore, 1) := by decide +kernel
theorem d_X_record_53 : decode b_X_record 53 = .ok (.aload_n 0, 1) := by decide +kernel
theorem d_X_record_54 : decode b_X_record 54 = .ok (.iload_n 3, 1) := by decide +kernel
theorem d_X_record_55 : decode b_X_record 55 = .ok (.iload_n 2, 1) := by decide +kernel
theorem d_X_record_56 : decode b_X_record 56 = .ok (.iconst 0, 1) := by decide +kernel
theorem d_X_record_57 : decode b_X_record 57 = .ok (.invokevirtual 79, 3) := by decide +kernel
theorem d_X_record_60 : decode b_X_record 60 = .ok (.iload_n 3, 1) := by decide +kernel
theorem d_X_record_61 : decode b_X_record 61 = .ok (.ireturn, 1) := by decide +kernel
theorem d_X_isSet_0 : decode b_X_isSet 0 = .ok (.iload_n 0, 1) := by decide +kernel
theorem d_X_isSet_1 : decode b_X_isSet 1 = .ok (.ifCond .lt 13, 3) := by decide +kernel
theorem d_X_isSet_4 : decode b_X_isSet 4 = .ok (.iload_n 0, 1) := by decide +kernel
theorem d_X_isSet_5 : decode b_X_isSet 5 = .ok (.bipush 10, 2) := by decide +kernel
theorem d_X_isSet_7 : decode b_X_isSet 7 = .ok (.if_icmp .ge 7, 3) := by decide +kernel
theorem d_X_isSet_10 : decode b_X_isSet 10 = .ok (.iconst 1, 1) := by decide +kernel
theorem d_X_isSet_11 : decode b_X_isSet 11 = .ok (.goto 4, 3) := by decide +kernel
theorem d_X_isSet_14 : decode b_X_isSet 14 = .ok (.iconst 0, 1) := by decide +kernel
theorem d_X_isSet_15 : decode b_X_isSet 15 = .ok (.ireturn, 1) := by decide +kernel
theorem d_X_canBeDay_0 : decode b_X_canBeDay 0 = .ok (.iload_n 1, 1) := by decide +kernel
theorem d_X_canBeDay_1 : decode b_X_canBeDay 1 = .ok (.ifCond .lt 29, 3) := by decide +kernel
theorem d_X_canBeDay_4 : decode b_X_canBeDay 4 = .ok (.iload_n 1, 1) := by decide +kernel
theorem d_X_canBeDay_5 : decode b_X_canBeDay 5 = .ok (.ldc 68, 2) := by decide +kernel
theorem d_X_canBeDay_7 : decode b_X_canBeDay 7 = .ok (.if_icmp .gt 23, 3) := by decide +kernel
theorem d_X_canBeDay_10 : decode b_X_canBeDay 10 = .ok (.aload_n 0, 1) := by decide +kernel
theorem d_X_canBeDay_11 : decode b_X_canBeDay 11 = .ok (.getfield 65, 3) := by decide +kernel
theorem d_X_canBeDay_14 : decode b_X_canBeDay 14 = .ok (.ifCond .le 16, 3) := by decide +kernel
theorem d_X_canBeDay_17 : decode b_X_canBeDay 17 = .ok (.iload_n 1, 1) := by decide +kernel
theorem d_X_canBeDay_18 : decode b_X_canBeDay 18 = .ok (.aload_n 0, 1) := by decide +kernel
theorem d_X_canBeDay_19 : decode b_X_canBeDay 19 = .ok (.getfield 65, 3) := by decide +kernel
theorem d_X_canBeDay_22 : decode b_X_canBeDay 22 = .ok (.irem, 1) := by decide +kernel
theorem d_X_canBeDay_23 : decode b_X_canBeDay 23 = .ok (.ifCond .ne 7, 3) := by decide +kernel
theorem d_X_canBeDay_26 : decode b_X_canBeDay 26 = .ok (.iconst 1, 1) := by decide +kernel
theorem d_X_canBeDay_27 : decode b_X_canBeDay 27 = .ok (.goto 4, 3) := by decide +kernel
theorem d_X_canBeDay_30 : decode b_X_canBeDay 30 = .ok (.iconst 0, 1) := by decide +kernel
theorem d_X_canBeDay_31 : decode b_X_canBeDay 31 = .ok (.ireturn, 1) := by decide +kernel
theorem d_X_act_0 : decode b_X_act 0 = .ok (.aload_n 0, 1) := by decide +kernel
theorem d_X_act_1 : decode b_X_act 1 = .ok (.dup, 1) := by decide +kernel
theorem d_X_act_2 : decode b_X_act 2 = .ok (.getfield 30, 3) := by decide +kernel
theorem d_X_act_5 : decode b_X_act 5 = .ok (.iconst 1, 1) := by decide +kernel
theorem d_X_act_6 : decode b_X_act 6 = .ok (.iadd, 1) := by decide +kernel
theorem d_X_act_7 : decode b_X_act 7 = .ok (.putfield 30, 3) := by decide +kernel
theorem d_X_act_10 : decode b_X_act 10 = .ok (.aload_n 0, 1) := by decide +kernel
theorem d_X_act_11 : decode b_X_act 11 = .ok (.getfield 23, 3) := by decide +kernel
theorem d_X_act_14 : decode b_X_act 14 = .ok (.iload_n 1, 1) := by decide +kernel
theorem d_X_act_15 : decode b_X_act 15 = .ok (.aload_n 0, 1) := by decide +kernel
theorem d_X_act_16 : decode b_X_act 16 = .ok (.getfield 30, 3) := by decide +kernel
theorem d_X_act_19 : decode b_X_act 19 = .ok (.iastore, 1) := by decide +kernel
theorem d_X_act_20 : decode b_X_act 20 = .ok (.aload_n 0, 1) := by decide +kernel
theorem d_X_act_21 : decode b_X_act 21 = .ok (.getfield 17, 3) := by decide +kernel
theorem d_X_act_24 : decode b_X_act 24 = .ok (.iload_n 1, 1) := by decide +kernel
theorem d_X_act_25 : decode b_X_act 25 = .ok (.iload_n 2, 1) := by decide +kernel
theorem d_X_act_26 : decode b_X_act 26 = .ok (.iastore, 1) := by decide +kernel
theorem d_X_act_27 : decode b_X_act 27 = .ok (.aload_n 0, 1) := by decide +kernel
theorem d_X_act_28 : decode b_X_act 28 = .ok (.getfield 20, 3) := by decide +kernel
theorem d_X_act_31 : decode b_X_act 31 = .ok (.iload_n 1, 1) := by decide +kernel
theorem d_X_act_32 : decode b_X_act 32 = .ok (.iload_n 3, 1) := by decide +kernel
theorem d_X_act_33 : decode b_X_act 33 = .ok (.bastore, 1) := by decide +kernel
theorem d_X_act_34 : decode b_X_act 34 = .ok (.return_, 1) := by decide +kernel
theorem d_X_change_0 : decode b_X_change 0 = .ok (.aload_n 0, 1) := by decide +kernel
theorem d_X_change_1 : decode b_X_change 1 = .ok (.iload_n 1, 1) := by decide +kernel
theorem d_X_change_2 : decode b_X_change 2 = .ok (.invokevirtual 83, 3) := by decide +kernel
theorem d_X_change_5 : decode b_X_change 5 = .ok (.ifCond .ne 5, 3) := by decide +kernel
theorem d_X_change_8 : decode b_X_change 8 = .ok (.iconst (-1), 1) := by decide +kernel
theorem d_X_change_9 : decode b_X_change 9 = .ok (.ireturn, 1) := by decide +kernel
theorem d_X_change_10 : decode b_X_change 10 = .ok (.aload_n 0, 1) := by decide +kernel
theorem d_X_change_11 : decode b_X_change 11 = .ok (.iload_n 2, 1) := by decide +kernel
theorem d_X_change_12 : decode b_X_change 12 = .ok (.invokevirtual 76, 3) := by decide +kernel
theorem d_X_change_15 : decode b_X_change 15 = .ok (.ifCond .ne 6, 3) := by decide +kernel
theorem d_X_change_18 : decode b_X_change 18 = .ok (.bipush (-2), 2) := by decide +kernel
theorem d_X_change_20 : decode b_X_change 20 = .ok (.ireturn, 1) := by decide +kernel
theorem d_X_change_21 : decode b_X_change 21 = .ok (.iload_n 2, 1) := by decide +kernel
theorem d_X_change_22 : decode b_X_change 22 = .ok (.aload_n 0, 1) := by decide +kernel
theorem d_X_change_23 : decode b_X_change 23 = .ok (.getfield 17, 3) := by decide +kernel
theorem d_X_change_26 : decode b_X_change 26 = .ok (.iload_n 1, 1) := by decide +kernel
theorem d_X_change_27 : decode b_X_change 27 = .ok (.iaload, 1) := by decide +kernel
theorem d_X_change_28 : decode b_X_change 28 = .ok (.if_icmp .ge 6, 3) := by decide +kernel
theorem d_X_change_31 : decode b_X_change 31 = .ok (.bipush (-3), 2) := by decide +kernel
theorem d_X_change_33 : decode b_X_change 33 = .ok (.ireturn, 1) := by decide +kernel
theorem d_X_change_34 : decode b_X_change 34 = .ok (.aload_n 0, 1) := by decide +kernel
theorem d_X_change_35 : decode b_X_change 35 = .ok (.iload_n 1, 1) := by decide +kernel
theorem d_X_change_36 : decode b_X_change 36 = .ok (.iload_n 2, 1) := by decide +kernel
theorem d_X_change_37 : decode b_X_change 37 = .ok (.iconst 0, 1) := by decide +kernel
theorem d_X_change_38 : decode b_X_change 38 = .ok (.invokevirtual 79, 3) := by decide +kernel
theorem d_X_change_41 : decode b_X_change 41 = .ok (.iconst 1, 1) := by decide +kernel
theorem d_X_change_42 : decode b_X_change 42 = .ok (.ireturn, 1) := by decide +kernel
theorem d_X_isRecord_0 : decode b_X_isRecord 0 = .ok (.iload_n 1, 1) := by decide +kernel
theorem d_X_isRecord_1 : decode b_X_isRecord 1 = .ok (.ifCond .lt 15, 3) := by decide +kernel
theorem d_X_isRecord_4 : decode b_X_isRecord 4 = .ok (.iload_n 1, 1) := by decide +kernel
theorem d_X_isRecord_5 : decode b_X_isRecord 5 = .ok (.aload_n 0, 1) := by decide +kernel
theorem d_X_isRecord_6 : decode b_X_isRecord 6 = .ok (.getfield 26, 3) := by decide +kernel
theorem d_X_isRecord_9 : decode b_X_isRecord 9 = .ok (.if_icmp .ge 7, 3) := by decide +kernel
theorem d_X_isRecord_12 : decode b_X_isRecord 12 = .ok (.iconst 1, 1) := by decide +kernel
theorem d_X_isRecord_13 : decode b_X_isRecord 13 = .ok (.goto 4, 3) := by decide +kernel
theorem d_X_isRecord_16 : decode b_X_isRecord 16 = .ok (.iconst 0, 1) := by decide +kernel
theorem d_X_isRecord_17 : decode b_X_isRecord 17 = .ok (.ireturn, 1) := by decide +kernel
theorem d_X_delete_0 : decode b_X_delete 0 = .ok (.aload_n 0, 1) := by decide +kernel
theorem d_X_delete_1 : decode b_X_delete 1 = .ok (.iload_n 1, 1) := by decide +kernel
theorem d_X_delete_2 : decode b_X_delete 2 = .ok (.invokevirtual 83, 3) := by decide +kernel
theorem d_X_delete_5 : decode b_X_delete 5 = .ok (.ifCond .ne 5, 3) := by decide +kernel
theorem d_X_delete_8 : decode b_X_delete 8 = .ok (.iconst (-1), 1) := by decide +kernel
theorem d_X_delete_9 : decode b_X_delete 9 = .ok (.ireturn, 1) := by decide +kernel
theorem d_X_delete_10 : decode b_X_delete 10 = .ok (.aload_n 0, 1) := by decide +kernel
theorem d_X_delete_11 : decode b_X_delete 11 = .ok (.iload_n 2, 1) := by decide +kernel
theorem d_X_delete_12 : decode b_X_delete 12 = .ok (.invokevirtual 76, 3) := by decide +kernel
theorem d_X_delete_15 : decode b_X_delete 15 = .ok (.ifCond .ne 6, 3) := by decide +kernel
theorem d_X_delete_18 : decode b_X_delete 18 = .ok (.bipush (-2), 2) := by decide +kernel
theorem d_X_delete_20 : decode b_X_delete 20 = .ok (.ireturn, 1) := by decide +kernel
theorem d_X_delete_21 : decode b_X_delete 21 = .ok (.aload_n 0, 1) := by decide +kernel
theorem d_X_delete_22 : decode b_X_delete 22 = .ok (.getfield 20, 3) := by decide +kernel
theorem d_X_delete_25 : decode b_X_delete 25 = .ok (.iload_n 1, 1) := by decide +kernel
theorem d_X_delete_26 : decode b_X_delete 26 = .ok (.baload, 1) := by decide +kernel
theorem d_X_delete_27 : decode b_X_delete 27 = .ok (.ifCond .ne 13, 3) := by decide +kernel
theorem d_X_delete_30 : decode b_X_delete 30 = .ok (.iload_n 2, 1) := by decide +kernel
theorem d_X_delete_31 : decode b_X_delete 31 = .ok (.aload_n 0, 1) := by decide +kernel
theorem d_X_delete_32 : decode b_X_delete 32 = .ok (.getfield 17, 3) := by decide +kernel
theorem d_X_delete_35 : decode b_X_delete 35 = .ok (.iload_n 1, 1) := by decide +kernel
theorem d_X_delete_36 : decode b_X_delete 36 = .ok (.iaload, 1) := by decide +kernel
theorem d_X_delete_37 : decode b_X_delete 37 = .ok (.if_icmp .ge 6, 3) := by decide +kernel
theorem d_X_delete_40 : decode b_X_delete 40 = .ok (.bipush (-3), 2) := by decide +kernel
theorem d_X_delete_42 : decode b_X_delete 42 = .ok (.ireturn, 1) := by decide +kernel
theorem d_X_delete_43 : decode b_X_delete 43 = .ok (.aload_n 0, 1) := by decide +kernel
theorem d_X_delete_44 : decode b_X_delete 44 = .ok (.iload_n 1, 1) := by decide +kernel
theorem d_X_delete_45 : decode b_X_delete 45 = .ok (.iload_n 2, 1) := by decide +kernel
theorem d_X_delete_46 : decode b_X_delete 46 = .ok (.iconst 1, 1) := by decide +kernel
theorem d_X_delete_47 : decode b_X_delete 47 = .ok (.invokevirtual 79, 3) := by decide +kernel
theorem d_X_delete_50 : decode b_X_delete 50 = .ok (.iconst 1, 1) := by decide +kernel
theorem d_X_delete_51 : decode b_X_delete 51 = .ok (.ireturn, 1) := by decide +kernel
theorem d_X_form_0 : decode b_X_form 0 = .ok (.iload_n 1, 1) := by decide +kernel
theorem d_X_form_1 : decode b_X_form 1 = .ok (.invokestatic 86, 3) := by decide +kernel
theorem d_X_form_4 : decode b_X_form 4 = .ok (.ifCond .ne 6, 3) := by decide +kernel
theorem d_X_form_7 : decode b_X_form 7 = .ok (.bipush (-2), 2) := by decide +kernel
theorem d_X_form_9 : decode b_X_form 9 = .ok (.ireturn, 1) := by decide +kernel
theorem d_X_form_10 : decode b_X_form 10 = .ok (.aload_n 0, 1) := by decide +kernel
theorem d_X_form_11 : decode b_X_form 11 = .ok (.getfield 9, 3) := by decide +kernel
theorem d_X_form_14 : decode b_X_form 14 = .ok (.iload_n 1, 1) := by decide +kernel
theorem d_X_form_15 : decode b_X_form 15 = .ok (.iload_n 2, 1) := by decide +kernel
theorem d_X_form_16 : decode b_X_form 16 = .ok (.bastore, 1) := by decide +kernel
theorem d_X_form_17 : decode b_X_form 17 = .ok (.iconst 1, 1) := by decide +kernel
theorem d_X_form_18 : decode b_X_form 18 = .ok (.ireturn, 1) := by decide +kernel
theorem d_X_isForm_0 : decode b_X_isForm 0 = .ok (.iload_n 0, 1) := by decide +kernel
theorem d_X_isForm_1 : decode b_X_isForm 1 = .ok (.ifCond .lt 13, 3) := by decide +kernel
theorem d_X_isForm_4 : decode b_X_isForm 4 = .ok (.iload_n 0, 1) := by decide +kernel
theorem d_X_isForm_5 : decode b_X_isForm 5 = .ok (.bipush 6, 2) := by decide +kernel
theorem d_X_isForm_7 : decode b_X_isForm 7 = .ok (.if_icmp .ge 7, 3) := by decide +kernel
theorem d_X_isForm_10 : decode b_X_isForm 10 = .ok (.iconst 1, 1) := by decide +kernel
theorem d_X_isForm_11 : decode b_X_isForm 11 = .ok (.goto 4, 3) := by decide +kernel
theorem d_X_isForm_14 : decode b_X_isForm 14 = .ok (.iconst 0, 1) := by decide +kernel
theorem d_X_isForm_15 : decode b_X_isForm 15 = .ok (.ireturn, 1) := by decide +kernel
theorem d_X_list_0 : decode b_X_list 0 = .ok (.iload_n 1, 1) := by decide +kernel
theorem d_X_list_1 : decode b_X_list 1 = .ok (.invokestatic 89, 3) := by decide +kernel
theorem d_X_list_4 : decode b_X_list 4 = .ok (.ifCond .ne 5, 3) := by decide +kernel
theorem d_X_list_7 : decode b_X_list 7 = .ok (.iconst (-1), 1) := by decide +kernel
theorem d_X_list_8 : decode b_X_list 8 = .ok (.ireturn, 1) := by decide +kernel
theorem d_X_list_9 : decode b_X_list 9 = .ok (.iload 6, 2) := by decide +kernel
theorem d_X_list_11 : decode b_X_list 11 = .ok (.invokestatic 92, 3) := by decide +kernel
theorem d_X_list_14 : decode b_X_list 14 = .ok (.ifCond .ne 6, 3) := by decide +kernel
theorem d_X_list_17 : decode b_X_list 17 = .ok (.bipush (-2), 2) := by decide +kernel
theorem d_X_list_19 : decode b_X_list 19 = .ok (.ireturn, 1) := by decide +kernel
theorem d_X_list_20 : decode b_X_list 20 = .ok (.aload_n 0, 1) := by decide +kernel
theorem d_X_list_21 : decode b_X_list 21 = .ok (.iload_n 3, 1) := by decide +kernel
theorem d_X_list_22 : decode b_X_list 22 = .ok (.invokevirtual 76, 3) := by decide +kernel
theorem d_X_list_25 : decode b_X_list 25 = .ok (.ifCond .eq 18, 3) := by decide +kernel
theorem d_X_list_28 : decode b_X_list 28 = .ok (.aload_n 0, 1) := by decide +kernel
theorem d_X_list_29 : decode b_X_list 29 = .ok (.iload 4, 2) := by decide +kernel
theorem d_X_list_31 : decode b_X_list 31 = .ok (.invokevirtual 76, 3) := by decide +kernel
theorem d_X_list_34 : decode b_X_list 34 = .ok (.ifCond .eq 9, 3) := by decide +kernel
theorem d_X_list_37 : decode b_X_list 37 = .ok (.iload_n 3, 1) := by decide +kernel
theorem d_X_list_38 : decode b_X_list 38 = .ok (.iload 4, 2) := by decide +kernel
theorem d_X_list_40 : decode b_X_list 40 = .ok (.if_icmp .le 6, 3) := by decide +kernel
theorem d_X_list_43 : decode b_X_list 43 = .ok (.bipush (-11), 2) := by decide +kernel
theorem d_X_list_45 : decode b_X_list 45 = .ok (.ireturn, 1) := by decide +kernel
theorem d_X_list_46 : decode b_X_list 46 = .ok (.aload_n 0, 1) := by decide +kernel
theorem d_X_list_47 : decode b_X_list 47 = .ok (.iload_n 2, 1) := by decide +kernel
theorem d_X_list_48 : decode b_X_list 48 = .ok (.invokevirtual 95, 3) := by decide +kernel
theorem d_X_list_51 : decode b_X_list 51 = .ok (.ifCond .ne 6, 3) := by decide +kernel
theorem d_X_list_54 : decode b_X_list 54 = .ok (.bipush (-12), 2) := by decide +kernel
theorem d_X_list_56 : decode b_X_list 56 = .ok (.ireturn, 1) := by decide +kernel
theorem d_X_list_57 : decode b_X_list 57 = .ok (.iload 5, 2) := by decide +kernel
theorem d_X_list_59 : decode b_X_list 59 = .ok (.iconst (-1), 1) := by decide +kernel
theorem d_X_list_60 : decode b_X_list 60 = .ok (.if_icmp .eq 14, 3) := by decide +kernel
theorem d_X_list_63 : decode b_X_list 63 = .ok (.iload 5, 2) := by decide +kernel
theorem d_X_list_65 : decode b_X_list 65 = .ok (.invokestatic 72, 3) := by decide +kernel
theorem d_X_list_68 : decode b_X_list 68 = .ok (.ifCond .ne 6, 3) := by decide +kernel
theorem d_X_list_71 : decode b_X_list 71 = .ok (.bipush (-13), 2) := by decide +kernel
theorem d_X_list_73 : decode b_X_list 73 = .ok (.ireturn, 1) := by decide +kernel
theorem d_X_list_74 : decode b_X_list 74 = .ok (.aload_n 0, 1) := by decide +kernel
theorem d_X_list_75 : decode b_X_list 75 = .ok (.iload_n 3, 1) := by decide +kernel
theorem d_X_list_76 : decode b_X_list 76 = .ok (.iload 4, 2) := by decide +kernel
theorem d_X_list_78 : decode b_X_list 78 = .ok (.iload 5, 2) := by decide +kernel
theorem d_X_list_80 : decode b_X_list 80 = .ok (.invokevirtual 98, 3) := by decide +kernel
theorem d_X_list_83 : decode b_X_list 83 = .ok (.istore 7, 2) := by decide +kernel
theorem d_X_list_85 : decode b_X_list 85 = .ok (.iload 7, 2) := by decide +kernel
theorem d_X_list_87 : decode b_X_list 87 = .ok (.iconst 1, 1) := by decide +kernel
theorem d_X_list_88 : decode b_X_list 88 = .ok (.if_icmp .ge 6, 3) := by decide +kernel
theorem d_X_list_91 : decode b_X_list 91 = .ok (.bipush (-14), 2) := by decide +kernel
theorem d_X_list_93 : decode b_X_list 93 = .ok (.ireturn, 1) := by decide +kernel
theorem d_X_list_94 : decode b_X_list 94 = .ok (.aload_n 0, 1) := by decide +kernel
theorem d_X_list_95 : decode b_X_list 95 = .ok (.getfield 36, 3) := by decide +kernel
theorem d_X_list_98 : decode b_X_list 98 = .ok (.bipush 30, 2) := by decide +kernel
theorem d_X_list_100 : decode b_X_list 100 = .ok (.if_icmp .lt 6, 3) := by decide +kernel
theorem d_X_list_103 : decode b_X_list 103 = .ok (.bipush (-4), 2) := by decide +kernel
theorem d_X_list_105 : decode b_X_list 105 = .ok (.ireturn, 1) := by decide +kernel
theorem d_X_list_106 : decode b_X_list 106 = .ok (.aload_n 0, 1) := by decide +kernel
theorem d_X_list_107 : decode b_X_list 107 = .ok (.dup, 1) := by decide +kernel
theorem d_X_list_108 : decode b_X_list 108 = .ok (.getfield 36, 3) := by decide +kernel
theorem d_X_list_111 : decode b_X_list 111 = .ok (.iconst 1, 1) := by decide +kernel
theorem d_X_list_112 : decode b_X_list 112 = .ok (.iadd, 1) := by decide +kernel
theorem d_X_list_113 : decode b_X_list 113 = .ok (.putfield 36, 3) := by decide +kernel
theorem d_X_list_116 : decode b_X_list 116 = .ok (.new 101, 3) := by decide +kernel
theorem d_X_list_119 : decode b_X_list 119 = .ok (.dup, 1) := by decide +kernel
theorem d_X_list_120 : decode b_X_list 120 = .ok (.iload_n 1, 1) := by decide +kernel
theorem d_X_list_121 : decode b_X_list 121 = .ok (.iload_n 2, 1) := by decide +kernel
theorem d_X_list_122 : decode b_X_list 122 = .ok (.aload_n 0, 1) := by decide +kernel
theorem d_X_list_123 : decode b_X_list 123 = .ok (.getfield 30, 3) := by decide +kernel
theorem d_X_list_126 : decode b_X_list 126 = .ok (.aload_n 0, 1) := by decide +kernel
theorem d_X_list_127 : decode b_X_list 127 = .ok (.getfield 33, 3) := by decide +kernel
theorem d_X_list_130 : decode b_X_list 130 = .ok (.iload 7, 2) := by decide +kernel
theorem d_X_list_132 : decode b_X_list 132 = .ok (.invokestatic 103, 3) := by decide +kernel
theorem d_X_list_135 : decode b_X_list 135 = .ok (.invokespecial 109, 3) := by decide +kernel
theorem d_X_list_138 : decode b_X_list 138 = .ok (.astore 8, 2) := by decide +kernel
theorem d_X_list_140 : decode b_X_list 140 = .ok (.aload_n 0, 1) := by decide +kernel
theorem d_X_list_141 : decode b_X_list 141 = .ok (.iload_n 1, 1) := by decide +kernel
theorem d_X_list_142 : decode b_X_list 142 = .ok (.aload_n 0, 1) := by decide +kernel
theorem d_X_list_143 : decode b_X_list 143 = .ok (.aload 8, 2) := by decide +kernel
theorem d_X_list_145 : decode b_X_list 145 = .ok (.iconst 0, 1) := by decide +kernel
theorem d_X_list_146 : decode b_X_list 146 = .ok (.iload 6, 2) := by decide +kernel
theorem d_X_list_148 : decode b_X_list 148 = .ok (.invokevirtual 112, 3) := by decide +kernel
theorem d_X_list_151 : decode b_X_list 151 = .ok (.invokevirtual 116, 3) := by decide +kernel
theorem d_X_list_154 : decode b_X_list 154 = .ok (.ireturn, 1) := by decide +kernel
theorem d_X_isHarvester_0 : decode b_X_isHarvester 0 = .ok (.iload_n 0, 1) := by decide +kernel
theorem d_X_isHarvester_1 : decode b_X_isHarvester 1 = .ok (.ifCond .lt 13, 3) := by decide +kernel
theorem d_X_isHarvester_4 : decode b_X_isHarvester 4 = .ok (.iload_n 0, 1) := by decide +kernel
theorem d_X_isHarvester_5 : decode b_X_isHarvester 5 = .ok (.bipush 10, 2) := by decide +kernel
theorem d_X_isHarvester_7 : decode b_X_isHarvester 7 = .ok (.if_icmp .ge 7, 3) := by decide +kernel
theorem d_X_isHarvester_10 : decode b_X_isHarvester 10 = .ok (.iconst 1, 1) := by decide +kernel
theorem d_X_isHarvester_11 : decode b_X_isHarvester 11 = .ok (.goto 4, 3) := by decide +kernel
theorem d_X_isHarvester_14 : decode b_X_isHarvester 14 = .ok (.iconst 0, 1) := by decide +kernel
theorem d_X_isHarvester_15 : decode b_X_isHarvester 15 = .ok (.ireturn, 1) := by decide +kernel
theorem d_X_isTime_0 : decode b_X_isTime 0 = .ok (.iload_n 0, 1) := by decide +kernel
theorem d_X_isTime_1 : decode b_X_isTime 1 = .ok (.ifCond .lt 13, 3) := by decide +kernel
theorem d_X_isTime_4 : decode b_X_isTime 4 = .ok (.iload_n 0, 1) := by decide +kernel
theorem d_X_isTime_5 : decode b_X_isTime 5 = .ok (.ldc 187, 2) := by decide +kernel
theorem d_X_isTime_7 : decode b_X_isTime 7 = .ok (.if_icmp .gt 7, 3) := by decide +kernel
theorem d_X_isTime_10 : decode b_X_isTime 10 = .ok (.iconst 1, 1) := by decide +kernel
theorem d_X_isTime_11 : decode b_X_isTime 11 = .ok (.goto 4, 3) := by decide +kernel
theorem d_X_isTime_14 : decode b_X_isTime 14 = .ok (.iconst 0, 1) := by decide +kernel
theorem d_X_isTime_15 : decode b_X_isTime 15 = .ok (.ireturn, 1) := by decide +kernel
theorem d_X_isHeld_0 : decode b_X_isHeld 0 = .ok (.iload_n 1, 1) := by decide +kernel
theorem d_X_isHeld_1 : decode b_X_isHeld 1 = .ok (.invokestatic 86, 3) := by decide +kernel
theorem d_X_isHeld_4 : decode b_X_isHeld 4 = .ok (.ifCond .eq 16, 3) := by decide +kernel
theorem d_X_isHeld_7 : decode b_X_isHeld 7 = .ok (.aload_n 0, 1) := by decide +kernel
theorem d_X_isHeld_8 : decode b_X_isHeld 8 = .ok (.getfield 9, 3) := by decide +kernel
theorem d_X_isHeld_11 : decode b_X_isHeld 11 = .ok (.iload_n 1, 1) := by decide +kernel
theorem d_X_isHeld_12 : decode b_X_isHeld 12 = .ok (.baload, 1) := by decide +kernel
theorem d_X_isHeld_13 : decode b_X_isHeld 13 = .ok (.ifCond .eq 7, 3) := by decide +kernel
theorem d_X_isHeld_16 : decode b_X_isHeld 16 = .ok (.iconst 1, 1) := by decide +kernel
theorem d_X_isHeld_17 : decode b_X_isHeld 17 = .ok (.goto 4, 3) := by decide +kernel
theorem d_X_isHeld_20 : decode b_X_isHeld 20 = .ok (.iconst 0, 1) := by decide +kernel
theorem d_X_isHeld_21 : decode b_X_isHeld 21 = .ok (.ireturn, 1) := by decide +kernel
theorem d_X_sortSpan_0 : decode b_X_sortSpan 0 = .ok (.iconst 0, 1) := by decide +kernel
theorem d_X_sortSpan_1 : decode b_X_sortSpan 1 = .ok (.istore 4, 2) := by decide +kernel
theorem d_X_sortSpan_3 : decode b_X_sortSpan 3 = .ok (.iconst 0, 1) := by decide +kernel
theorem d_X_sortSpan_4 : decode b_X_sortSpan 4 = .ok (.istore 5, 2) := by decide +kernel
theorem d_X_sortSpan_6 : decode b_X_sortSpan 6 = .ok (.iload 5, 2) := by decide +kernel
theorem d_X_sortSpan_8 : decode b_X_sortSpan 8 = .ok (.aload_n 0, 1) := by decide +kernel
theorem d_X_sortSpan_9 : decode b_X_sortSpan 9 = .ok (.getfield 26, 3) := by decide +kernel
theorem d_X_sortSpan_12 : decode b_X_sortSpan 12 = .ok (.if_icmp .ge 70, 3) := by decide +kernel
theorem d_X_sortSpan_15 : decode b_X_sortSpan 15 = .ok (.aload_n 0, 1) := by decide +kernel
theorem d_X_sortSpan_16 : decode b_X_sortSpan 16 = .ok (.getfield 17, 3) := by decide +kernel
theorem d_X_sortSpan_19 : decode b_X_sortSpan 19 = .ok (.iload 5, 2) := by decide +kernel
theorem d_X_sortSpan_21 : decode b_X_sortSpan 21 = .ok (.iaload, 1) := by decide +kernel
theorem d_X_sortSpan_22 : decode b_X_sortSpan 22 = .ok (.iload_n 1, 1) := by decide +kernel
theorem d_X_sortSpan_23 : decode b_X_sortSpan 23 = .ok (.if_icmp .lt 18, 3) := by decide +kernel
theorem d_X_sortSpan_26 : decode b_X_sortSpan 26 = .ok (.aload_n 0, 1) := by decide +kernel
theorem d_X_sortSpan_27 : decode b_X_sortSpan 27 = .ok (.getfield 17, 3) := by decide +kernel
theorem d_X_sortSpan_30 : decode b_X_sortSpan 30 = .ok (.iload 5, 2) := by decide +kernel
theorem d_X_sortSpan_32 : decode b_X_sortSpan 32 = .ok (.iaload, 1) := by decide +kernel
theorem d_X_sortSpan_33 : decode b_X_sortSpan 33 = .ok (.iload_n 2, 1) := by decide +kernel
theorem d_X_sortSpan_34 : decode b_X_sortSpan 34 = .ok (.if_icmp .gt 7, 3) := by decide +kernel
theorem d_X_sortSpan_37 : decode b_X_sortSpan 37 = .ok (.iconst 1, 1) := by decide +kernel
theorem d_X_sortSpan_38 : decode b_X_sortSpan 38 = .ok (.goto 4, 3) := by decide +kernel
theorem d_X_sortSpan_41 : decode b_X_sortSpan 41 = .ok (.iconst 0, 1) := by decide +kernel
theorem d_X_sortSpan_42 : decode b_X_sortSpan 42 = .ok (.istore 6, 2) := by decide +kernel
theorem d_X_sortSpan_44 : decode b_X_sortSpan 44 = .ok (.iload 6, 2) := by decide +kernel
theorem d_X_sortSpan_46 : decode b_X_sortSpan 46 = .ok (.ifCond .eq 30, 3) := by decide +kernel
theorem d_X_sortSpan_49 : decode b_X_sortSpan 49 = .ok (.iload_n 3, 1) := by decide +kernel
theorem d_X_sortSpan_50 : decode b_X_sortSpan 50 = .ok (.iconst (-1), 1) := by decide +kernel
theorem d_X_sortSpan_51 : decode b_X_sortSpan 51 = .ok (.if_icmp .eq 14, 3) := by decide +kernel
theorem d_X_sortSpan_54 : decode b_X_sortSpan 54 = .ok (.aload_n 0, 1) := by decide +kernel
theorem d_X_sortSpan_55 : decode b_X_sortSpan 55 = .ok (.getfield 13, 3) := by decide +kernel
theorem d_X_sortSpan_58 : decode b_X_sortSpan 58 = .ok (.iload 5, 2) := by decide +kernel
theorem d_X_sortSpan_60 : decode b_X_sortSpan 60 = .ok (.iaload, 1) := by decide +kernel
theorem d_X_sortSpan_61 : decode b_X_sortSpan 61 = .ok (.iload_n 3, 1) := by decide +kernel
theorem d_X_sortSpan_62 : decode b_X_sortSpan 62 = .ok (.if_icmp .ne 14, 3) := by decide +kernel
theorem d_X_sortSpan_65 : decode b_X_sortSpan 65 = .ok (.aload_n 0, 1) := by decide +kernel
theorem d_X_sortSpan_66 : decode b_X_sortSpan 66 = .ok (.iload 5, 2) := by decide +kernel
theorem d_X_sortSpan_68 : decode b_X_sortSpan 68 = .ok (.iload 4, 2) := by decide +kernel
theorem d_X_sortSpan_70 : decode b_X_sortSpan 70 = .ok (.invokevirtual 192, 3) := by decide +kernel
theorem d_X_sortSpan_73 : decode b_X_sortSpan 73 = .ok (.iinc 4 1, 3) := by decide +kernel
theorem d_X_sortSpan_76 : decode b_X_sortSpan 76 = .ok (.iinc 5 1, 3) := by decide +kernel
theorem d_X_sortSpan_79 : decode b_X_sortSpan 79 = .ok (.goto (-73), 3) := by decide +kernel
theorem d_X_sortSpan_82 : decode b_X_sortSpan 82 = .ok (.iload 4, 2) := by decide +kernel
theorem d_X_sortSpan_84 : decode b_X_sortSpan 84 = .ok (.ireturn, 1) := by decide +kernel
theorem d_X_insertByDay_0 : decode b_X_insertByDay 0 = .ok (.iload_n 2, 1) := by decide +kernel
theorem d_X_insertByDay_1 : decode b_X_insertByDay 1 = .ok (.istore_n 3, 1) := by decide +kernel
theorem d_X_insertByDay_2 : decode b_X_insertByDay 2 = .ok (.iload_n 3, 1) := by decide +kernel
theorem d_X_insertByDay_3 : decode b_X_insertByDay 3 = .ok (.ifCond .le 45, 3) := by decide +kernel
theorem d_X_insertByDay_6 : decode b_X_insertByDay 6 = .ok (.aload_n 0, 1) := by decide +kernel
theorem d_X_insertByDay_7 : decode b_X_insertByDay 7 = .ok (.getfield 17, 3) := by decide +kernel
theorem d_X_insertByDay_10 : decode b_X_insertByDay 10 = .ok (.aload_n 0, 1) := by decide +kernel
theorem d_X_insertByDay_11 : decode b_X_insertByDay 11 = .ok (.getfield 33, 3) := by decide +kernel
theorem d_X_insertByDay_14 : decode b_X_insertByDay 14 = .ok (.iload_n 3, 1) := by decide +kernel
theorem d_X_insertByDay_15 : decode b_X_insertByDay 15 = .ok (.iconst 1, 1) := by decide +kernel
theorem d_X_insertByDay_16 : decode b_X_insertByDay 16 = .ok (.isub, 1) := by decide +kernel
theorem d_X_insertByDay_17 : decode b_X_insertByDay 17 = .ok (.iaload, 1) := by decide +kernel
theorem d_X_insertByDay_18 : decode b_X_insertByDay 18 = .ok (.iaload, 1) := by decide +kernel
theorem d_X_insertByDay_19 : decode b_X_insertByDay 19 = .ok (.aload_n 0, 1) := by decide +kernel
theorem d_X_insertByDay_20 : decode b_X_insertByDay 20 = .ok (.getfield 17, 3) := by decide +kernel
theorem d_X_insertByDay_23 : decode b_X_insertByDay 23 = .ok (.iload_n 1, 1) := by decide +kernel
theorem d_X_insertByDay_24 : decode b_X_insertByDay 24 = .ok (.iaload, 1) := by decide +kernel
theorem d_X_insertByDay_25 : decode b_X_insertByDay 25 = .ok (.if_icmp .le 23, 3) := by decide +kernel
theorem d_X_insertByDay_28 : decode b_X_insertByDay 28 = .ok (.aload_n 0, 1) := by decide +kernel
theorem d_X_insertByDay_29 : decode b_X_insertByDay 29 = .ok (.getfield 33, 3) := by decide +kernel
theorem d_X_insertByDay_32 : decode b_X_insertByDay 32 = .ok (.iload_n 3, 1) := by decide +kernel
theorem d_X_insertByDay_33 : decode b_X_insertByDay 33 = .ok (.aload_n 0, 1) := by decide +kernel
theorem d_X_insertByDay_34 : decode b_X_insertByDay 34 = .ok (.getfield 33, 3) := by decide +kernel
theorem d_X_insertByDay_37 : decode b_X_insertByDay 37 = .ok (.iload_n 3, 1) := by decide +kernel
theorem d_X_insertByDay_38 : decode b_X_insertByDay 38 = .ok (.iconst 1, 1) := by decide +kernel
theorem d_X_insertByDay_39 : decode b_X_insertByDay 39 = .ok (.isub, 1) := by decide +kernel
theorem d_X_insertByDay_40 : decode b_X_insertByDay 40 = .ok (.iaload, 1) := by decide +kernel
theorem d_X_insertByDay_41 : decode b_X_insertByDay 41 = .ok (.iastore, 1) := by decide +kernel
theorem d_X_insertByDay_42 : decode b_X_insertByDay 42 = .ok (.iinc 3 (-1), 3) := by decide +kernel
theorem d_X_insertByDay_45 : decode b_X_insertByDay 45 = .ok (.goto (-43), 3) := by decide +kernel
theorem d_X_insertByDay_48 : decode b_X_insertByDay 48 = .ok (.aload_n 0, 1) := by decide +kernel
theorem d_X_insertByDay_49 : decode b_X_insertByDay 49 = .ok (.getfield 33, 3) := by decide +kernel
theorem d_X_insertByDay_52 : decode b_X_insertByDay 52 = .ok (.iload_n 3, 1) := by decide +kernel
theorem d_X_insertByDay_53 : decode b_X_insertByDay 53 = .ok (.iload_n 1, 1) := by decide +kernel
theorem d_X_insertByDay_54 : decode b_X_insertByDay 54 = .ok (.iastore, 1) := by decide +kernel
theorem d_X_insertByDay_55 : decode b_X_insertByDay 55 = .ok (.return_, 1) := by decide +kernel
theorem d_L_init_0 : decode b_L_init 0 = .ok (.aload_n 0, 1) := by decide +kernel
theorem d_L_init_1 : decode b_L_init 1 = .ok (.invokespecial 1, 3) := by decide +kernel
theorem d_L_init_4 : decode b_L_init 4 = .ok (.aload_n 0, 1) := by decide +kernel
theorem d_L_init_5 : decode b_L_init 5 = .ok (.iload_n 1, 1) := by decide +kernel
theorem d_L_init_6 : decode b_L_init 6 = .ok (.putfield 7, 3) := by decide +kernel
theorem d_L_init_9 : decode b_L_init 9 = .ok (.aload_n 0, 1) := by decide +kernel
theorem d_L_init_10 : decode b_L_init 10 = .ok (.iload_n 2, 1) := by decide +kernel
theorem d_L_init_11 : decode b_L_init 11 = .ok (.putfield 13, 3) := by decide +kernel
theorem d_L_init_14 : decode b_L_init 14 = .ok (.aload_n 0, 1) := by decide +kernel
theorem d_L_init_15 : decode b_L_init 15 = .ok (.iload_n 3, 1) := by decide +kernel
theorem d_L_init_16 : decode b_L_init 16 = .ok (.putfield 16, 3) := by decide +kernel
theorem d_L_init_19 : decode b_L_init 19 = .ok (.aload_n 0, 1) := by decide +kernel
theorem d_L_init_20 : decode b_L_init 20 = .ok (.aload 4, 2) := by decide +kernel
theorem d_L_init_22 : decode b_L_init 22 = .ok (.putfield 19, 3) := by decide +kernel
theorem d_L_init_25 : decode b_L_init 25 = .ok (.return_, 1) := by decide +kernel
theorem d_X_makePage_0 : decode b_X_makePage 0 = .ok (.iload_n 2, 1) := by decide +kernel
theorem d_X_makePage_1 : decode b_X_makePage 1 = .ok (.aload_n 0, 1) := by decide +kernel
theorem d_X_makePage_2 : decode b_X_makePage 2 = .ok (.getfield 62, 3) := by decide +kernel
theorem d_X_makePage_5 : decode b_X_makePage 5 = .ok (.iadd, 1) := by decide +kernel
theorem d_X_makePage_6 : decode b_X_makePage 6 = .ok (.aload_n 1, 1) := by decide +kernel
theorem d_X_makePage_7 : decode b_X_makePage 7 = .ok (.getfield 177, 3) := by decide +kernel
theorem d_X_makePage_10 : decode b_X_makePage 10 = .ok (.arraylength, 1) := by decide +kernel
theorem d_X_makePage_11 : decode b_X_makePage 11 = .ok (.invokestatic 178, 3) := by decide +kernel
theorem d_X_makePage_14 : decode b_X_makePage 14 = .ok (.istore 4, 2) := by decide +kernel
theorem d_X_makePage_16 : decode b_X_makePage 16 = .ok (.new 46, 3) := by decide +kernel
theorem d_X_makePage_19 : decode b_X_makePage 19 = .ok (.dup, 1) := by decide +kernel
theorem d_X_makePage_20 : decode b_X_makePage 20 = .ok (.aload_n 1, 1) := by decide +kernel
theorem d_X_makePage_21 : decode b_X_makePage 21 = .ok (.getfield 196, 3) := by decide +kernel
theorem d_X_makePage_24 : decode b_X_makePage 24 = .ok (.iconst 0, 1) := by decide +kernel
theorem d_X_makePage_25 : decode b_X_makePage 25 = .ok (.iload 4, 2) := by decide +kernel
theorem d_X_makePage_27 : decode b_X_makePage 27 = .ok (.iload_n 2, 1) := by decide +kernel
theorem d_X_makePage_28 : decode b_X_makePage 28 = .ok (.isub, 1) := by decide +kernel
theorem d_X_makePage_29 : decode b_X_makePage 29 = .ok (.invokestatic 184, 3) := by decide +kernel
theorem d_X_makePage_32 : decode b_X_makePage 32 = .ok (.invokespecial 197, 3) := by decide +kernel
theorem d_X_makePage_35 : decode b_X_makePage 35 = .ok (.astore 5, 2) := by decide +kernel
theorem d_X_makePage_37 : decode b_X_makePage 37 = .ok (.iload_n 2, 1) := by decide +kernel
theorem d_X_makePage_38 : decode b_X_makePage 38 = .ok (.istore 6, 2) := by decide +kernel
theorem d_X_makePage_40 : decode b_X_makePage 40 = .ok (.iload 6, 2) := by decide +kernel
theorem d_X_makePage_42 : decode b_X_makePage 42 = .ok (.iload 4, 2) := by decide +kernel
theorem d_X_makePage_44 : decode b_X_makePage 44 = .ok (.if_icmp .ge 66, 3) := by decide +kernel
theorem d_X_makePage_47 : decode b_X_makePage 47 = .ok (.aload_n 1, 1) := by decide +kernel
theorem d_X_makePage_48 : decode b_X_makePage 48 = .ok (.getfield 177, 3) := by decide +kernel
theorem d_X_makePage_51 : decode b_X_makePage 51 = .ok (.iload 6, 2) := by decide +kernel
theorem d_X_makePage_53 : decode b_X_makePage 53 = .ok (.iaload, 1) := by decide +kernel
theorem d_X_makePage_54 : decode b_X_makePage 54 = .ok (.istore 7, 2) := by decide +kernel
theorem d_X_makePage_56 : decode b_X_makePage 56 = .ok (.aload_n 0, 1) := by decide +kernel
theorem d_X_makePage_57 : decode b_X_makePage 57 = .ok (.getfield 23, 3) := by decide +kernel
theorem d_X_makePage_60 : decode b_X_makePage 60 = .ok (.iload 7, 2) := by decide +kernel
theorem d_X_makePage_62 : decode b_X_makePage 62 = .ok (.iaload, 1) := by decide +kernel
theorem d_X_makePage_63 : decode b_X_makePage 63 = .ok (.aload_n 1, 1) := by decide +kernel
theorem d_X_makePage_64 : decode b_X_makePage 64 = .ok (.getfield 199, 3) := by decide +kernel
theorem d_X_makePage_67 : decode b_X_makePage 67 = .ok (.if_icmp .le 16, 3) := by decide +kernel
theorem d_X_makePage_70 : decode b_X_makePage 70 = .ok (.aload_n 0, 1) := by decide +kernel
theorem d_X_makePage_71 : decode b_X_makePage 71 = .ok (.dup, 1) := by decide +kernel
theorem d_X_makePage_72 : decode b_X_makePage 72 = .ok (.getfield 55, 3) := by decide +kernel
theorem d_X_makePage_75 : decode b_X_makePage 75 = .ok (.iconst 1, 1) := by decide +kernel
theorem d_X_makePage_76 : decode b_X_makePage 76 = .ok (.iadd, 1) := by decide +kernel
theorem d_X_makePage_77 : decode b_X_makePage 77 = .ok (.putfield 55, 3) := by decide +kernel
theorem d_X_makePage_80 : decode b_X_makePage 80 = .ok (.goto 24, 3) := by decide +kernel
theorem d_X_makePage_83 : decode b_X_makePage 83 = .ok (.aload 5, 2) := by decide +kernel
theorem d_X_makePage_85 : decode b_X_makePage 85 = .ok (.iload 7, 2) := by decide +kernel
theorem d_X_makePage_87 : decode b_X_makePage 87 = .ok (.aload_n 0, 1) := by decide +kernel
theorem d_X_makePage_88 : decode b_X_makePage 88 = .ok (.getfield 17, 3) := by decide +kernel
theorem d_X_makePage_91 : decode b_X_makePage 91 = .ok (.iload 7, 2) := by decide +kernel
theorem d_X_makePage_93 : decode b_X_makePage 93 = .ok (.iaload, 1) := by decide +kernel
theorem d_X_makePage_94 : decode b_X_makePage 94 = .ok (.aload_n 0, 1) := by decide +kernel
theorem d_X_makePage_95 : decode b_X_makePage 95 = .ok (.getfield 20, 3) := by decide +kernel
theorem d_X_makePage_98 : decode b_X_makePage 98 = .ok (.iload 7, 2) := by decide +kernel
theorem d_X_makePage_100 : decode b_X_makePage 100 = .ok (.baload, 1) := by decide +kernel
theorem d_X_makePage_101 : decode b_X_makePage 101 = .ok (.invokevirtual 202, 3) := by decide +kernel
theorem d_X_makePage_104 : decode b_X_makePage 104 = .ok (.iinc 6 1, 3) := by decide +kernel
theorem d_X_makePage_107 : decode b_X_makePage 107 = .ok (.goto (-67), 3) := by decide +kernel
theorem d_X_makePage_110 : decode b_X_makePage 110 = .ok (.iload 4, 2) := by decide +kernel
theorem d_X_makePage_112 : decode b_X_makePage 112 = .ok (.aload_n 1, 1) := by decide +kernel
theorem d_X_makePage_113 : decode b_X_makePage 113 = .ok (.getfield 177, 3) := by decide +kernel
theorem d_X_makePage_116 : decode b_X_makePage 116 = .ok (.arraylength, 1) := by decide +kernel
theorem d_X_makePage_117 : decode b_X_makePage 117 = .ok (.if_icmp .ge 34, 3) := by decide +kernel
theorem d_X_makePage_120 : decode b_X_makePage 120 = .ok (.aload 5, 2) := by decide +kernel
theorem d_X_makePage_122 : decode b_X_makePage 122 = .ok (.aload_n 0, 1) := by decide +kernel
theorem d_X_makePage_123 : decode b_X_makePage 123 = .ok (.getfield 42, 3) := by decide +kernel
theorem d_X_makePage_126 : decode b_X_makePage 126 = .ok (.invokevirtual 188, 3) := by decide +kernel
theorem d_X_makePage_129 : decode b_X_makePage 129 = .ok (.putfield 146, 3) := by decide +kernel
theorem d_X_makePage_132 : decode b_X_makePage 132 = .ok (.aload_n 0, 1) := by decide +kernel
theorem d_X_makePage_133 : decode b_X_makePage 133 = .ok (.getfield 42, 3) := by decide +kernel
theorem d_X_makePage_136 : decode b_X_makePage 136 = .ok (.new 127, 3) := by decide +kernel
theorem d_X_makePage_139 : decode b_X_makePage 139 = .ok (.dup, 1) := by decide +kernel
theorem d_X_makePage_140 : decode b_X_makePage 140 = .ok (.aload_n 1, 1) := by decide +kernel
theorem d_X_makePage_141 : decode b_X_makePage 141 = .ok (.iload 4, 2) := by decide +kernel
theorem d_X_makePage_143 : decode b_X_makePage 143 = .ok (.iload_n 3, 1) := by decide +kernel
theorem d_X_makePage_144 : decode b_X_makePage 144 = .ok (.invokespecial 205, 3) := by decide +kernel
theorem d_X_makePage_147 : decode b_X_makePage 147 = .ok (.invokevirtual 208, 3) := by decide +kernel
theorem d_X_makePage_150 : decode b_X_makePage 150 = .ok (.pop, 1) := by decide +kernel
theorem d_X_makePage_151 : decode b_X_makePage 151 = .ok (.aload 5, 2) := by decide +kernel
theorem d_X_makePage_153 : decode b_X_makePage 153 = .ok (.areturn, 1) := by decide +kernel
theorem d_P_init_0 : decode b_P_init 0 = .ok (.aload_n 0, 1) := by decide +kernel
theorem d_P_init_1 : decode b_P_init 1 = .ok (.invokespecial 3, 3) := by decide +kernel
theorem d_P_init_4 : decode b_P_init 4 = .ok (.aload_n 0, 1) := by decide +kernel
theorem d_P_init_5 : decode b_P_init 5 = .ok (.iconst 0, 1) := by decide +kernel
theorem d_P_init_6 : decode b_P_init 6 = .ok (.putfield 9, 3) := by decide +kernel
theorem d_P_init_9 : decode b_P_init 9 = .ok (.aload_n 0, 1) := by decide +kernel
theorem d_P_init_10 : decode b_P_init 10 = .ok (.iconst (-1), 1) := by decide +kernel
theorem d_P_init_11 : decode b_P_init 11 = .ok (.putfield 15, 3) := by decide +kernel
theorem d_P_init_14 : decode b_P_init 14 = .ok (.aload_n 0, 1) := by decide +kernel
theorem d_P_init_15 : decode b_P_init 15 = .ok (.iload_n 1, 1) := by decide +kernel
theorem d_P_init_16 : decode b_P_init 16 = .ok (.putfield 18, 3) := by decide +kernel
theorem d_P_init_19 : decode b_P_init 19 = .ok (.aload_n 0, 1) := by decide +kernel
theorem d_P_init_20 : decode b_P_init 20 = .ok (.iload_n 2, 1) := by decide +kernel
theorem d_P_init_21 : decode b_P_init 21 = .ok (.newarray .int, 2) := by decide +kernel
theorem d_P_init_23 : decode b_P_init 23 = .ok (.putfield 21, 3) := by decide +kernel
theorem d_P_init_26 : decode b_P_init 26 = .ok (.aload_n 0, 1) := by decide +kernel
theorem d_P_init_27 : decode b_P_init 27 = .ok (.iload_n 2, 1) := by decide +kernel
theorem d_P_init_28 : decode b_P_init 28 = .ok (.newarray .int, 2) := by decide +kernel
theorem d_P_init_30 : decode b_P_init 30 = .ok (.putfield 25, 3) := by decide +kernel
theorem d_P_init_33 : decode b_P_init 33 = .ok (.aload_n 0, 1) := by decide +kernel
theorem d_P_init_34 : decode b_P_init 34 = .ok (.iload_n 2, 1) := by decide +kernel
theorem d_P_init_35 : decode b_P_init 35 = .ok (.newarray .boolean, 2) := by decide +kernel
theorem d_P_init_37 : decode b_P_init 37 = .ok (.putfield 28, 3) := by decide +kernel
theorem d_P_init_40 : decode b_P_init 40 = .ok (.return_, 1) := by decide +kernel
theorem d_P_keep_0 : decode b_P_keep 0 = .ok (.aload_n 0, 1) := by decide +kernel
theorem d_P_keep_1 : decode b_P_keep 1 = .ok (.getfield 9, 3) := by decide +kernel
theorem d_P_keep_4 : decode b_P_keep 4 = .ok (.aload_n 0, 1) := by decide +kernel
theorem d_P_keep_5 : decode b_P_keep 5 = .ok (.getfield 21, 3) := by decide +kernel
theorem d_P_keep_8 : decode b_P_keep 8 = .ok (.arraylength, 1) := by decide +kernel
theorem d_P_keep_9 : decode b_P_keep 9 = .ok (.if_icmp .lt 4, 3) := by decide +kernel
theorem d_P_keep_12 : decode b_P_keep 12 = .ok (.return_, 1) := by decide +kernel
theorem d_P_keep_13 : decode b_P_keep 13 = .ok (.aload_n 0, 1) := by decide +kernel
theorem d_P_keep_14 : decode b_P_keep 14 = .ok (.getfield 21, 3) := by decide +kernel
theorem d_P_keep_17 : decode b_P_keep 17 = .ok (.aload_n 0, 1) := by decide +kernel
theorem d_P_keep_18 : decode b_P_keep 18 = .ok (.getfield 9, 3) := by decide +kernel
theorem d_P_keep_21 : decode b_P_keep 21 = .ok (.iload_n 1, 1) := by decide +kernel
theorem d_P_keep_22 : decode b_P_keep 22 = .ok (.iastore, 1) := by decide +kernel
theorem d_P_keep_23 : decode b_P_keep 23 = .ok (.aload_n 0, 1) := by decide +kernel
theorem d_P_keep_24 : decode b_P_keep 24 = .ok (.getfield 25, 3) := by decide +kernel
theorem d_P_keep_27 : decode b_P_keep 27 = .ok (.aload_n 0, 1) := by decide +kernel
theorem d_P_keep_28 : decode b_P_keep 28 = .ok (.getfield 9, 3) := by decide +kernel
theorem d_P_keep_31 : decode b_P_keep 31 = .ok (.iload_n 2, 1) := by decide +kernel
theorem d_P_keep_32 : decode b_P_keep 32 = .ok (.iastore, 1) := by decide +kernel
theorem d_P_keep_33 : decode b_P_keep 33 = .ok (.aload_n 0, 1) := by decide +kernel
theorem d_P_keep_34 : decode b_P_keep 34 = .ok (.getfield 28, 3) := by decide +kernel
theorem d_P_keep_37 : decode b_P_keep 37 = .ok (.aload_n 0, 1) := by decide +kernel
theorem d_P_keep_38 : decode b_P_keep 38 = .ok (.getfield 9, 3) := by decide +kernel
theorem d_P_keep_41 : decode b_P_keep 41 = .ok (.iload_n 3, 1) := by decide +kernel
theorem d_P_keep_42 : decode b_P_keep 42 = .ok (.bastore, 1) := by decide +kernel
theorem d_P_keep_43 : decode b_P_keep 43 = .ok (.aload_n 0, 1) := by decide +kernel
theorem d_P_keep_44 : decode b_P_keep 44 = .ok (.dup, 1) := by decide +kernel
theorem d_P_keep_45 : decode b_P_keep 45 = .ok (.getfield 9, 3) := by decide +kernel
theorem d_P_keep_48 : decode b_P_keep 48 = .ok (.iconst 1, 1) := by decide +kernel
theorem d_P_keep_49 : decode b_P_keep 49 = .ok (.iadd, 1) := by decide +kernel
theorem d_P_keep_50 : decode b_P_keep 50 = .ok (.putfield 9, 3) := by decide +kernel
theorem d_P_keep_53 : decode b_P_keep 53 = .ok (.return_, 1) := by decide +kernel
theorem d_T_init_0 : decode b_T_init 0 = .ok (.aload_n 0, 1) := by decide +kernel
theorem d_T_init_1 : decode b_T_init 1 = .ok (.invokespecial 1, 3) := by decide +kernel
theorem d_T_init_4 : decode b_T_init 4 = .ok (.aload_n 0, 1) := by decide +kernel
theorem d_T_init_5 : decode b_T_init 5 = .ok (.aconst_null, 1) := by decide +kernel
theorem d_T_init_6 : decode b_T_init 6 = .ok (.putfield 7, 3) := by decide +kernel
theorem d_T_init_9 : decode b_T_init 9 = .ok (.aload_n 0, 1) := by decide +kernel
theorem d_T_init_10 : decode b_T_init 10 = .ok (.aload_n 1, 1) := by decide +kernel
theorem d_T_init_11 : decode b_T_init 11 = .ok (.putfield 13, 3) := by decide +kernel
theorem d_T_init_14 : decode b_T_init 14 = .ok (.aload_n 0, 1) := by decide +kernel
theorem d_T_init_15 : decode b_T_init 15 = .ok (.iload_n 2, 1) := by decide +kernel
theorem d_T_init_16 : decode b_T_init 16 = .ok (.putfield 17, 3) := by decide +kernel
theorem d_T_init_19 : decode b_T_init 19 = .ok (.aload_n 0, 1) := by decide +kernel
theorem d_T_init_20 : decode b_T_init 20 = .ok (.iload_n 3, 1) := by decide +kernel
theorem d_T_init_21 : decode b_T_init 21 = .ok (.putfield 21, 3) := by decide +kernel
theorem d_T_init_24 : decode b_T_init 24 = .ok (.return_, 1) := by decide +kernel
theorem d_X_answer_0 : decode b_X_answer 0 = .ok (.aload_n 0, 1) := by decide +kernel
theorem d_X_answer_1 : decode b_X_answer 1 = .ok (.getfield 48, 3) := by decide +kernel
theorem d_X_answer_4 : decode b_X_answer 4 = .ok (.iload_n 1, 1) := by decide +kernel
theorem d_X_answer_5 : decode b_X_answer 5 = .ok (.aload_n 2, 1) := by decide +kernel
theorem d_X_answer_6 : decode b_X_answer 6 = .ok (.aastore, 1) := by decide +kernel
theorem d_X_answer_7 : decode b_X_answer 7 = .ok (.aload_n 0, 1) := by decide +kernel
theorem d_X_answer_8 : decode b_X_answer 8 = .ok (.getfield 52, 3) := by decide +kernel
theorem d_X_answer_11 : decode b_X_answer 11 = .ok (.iload_n 1, 1) := by decide +kernel
theorem d_X_answer_12 : decode b_X_answer 12 = .ok (.dup2, 1) := by decide +kernel
theorem d_X_answer_13 : decode b_X_answer 13 = .ok (.iaload, 1) := by decide +kernel
theorem d_X_answer_14 : decode b_X_answer 14 = .ok (.aload_n 2, 1) := by decide +kernel
theorem d_X_answer_15 : decode b_X_answer 15 = .ok (.getfield 158, 3) := by decide +kernel
theorem d_X_answer_18 : decode b_X_answer 18 = .ok (.iadd, 1) := by decide +kernel
theorem d_X_answer_19 : decode b_X_answer 19 = .ok (.iastore, 1) := by decide +kernel
theorem d_X_answer_20 : decode b_X_answer 20 = .ok (.aload_n 2, 1) := by decide +kernel
theorem d_X_answer_21 : decode b_X_answer 21 = .ok (.getfield 158, 3) := by decide +kernel
theorem d_X_answer_24 : decode b_X_answer 24 = .ok (.ireturn, 1) := by decide +kernel
theorem d_X_resume_0 : decode b_X_resume 0 = .ok (.iload_n 1, 1) := by decide +kernel
theorem d_X_resume_1 : decode b_X_resume 1 = .ok (.invokestatic 89, 3) := by decide +kernel
theorem d_X_resume_4 : decode b_X_resume 4 = .ok (.ifCond .ne 5, 3) := by decide +kernel
theorem d_X_resume_7 : decode b_X_resume 7 = .ok (.iconst (-1), 1) := by decide +kernel
theorem d_X_resume_8 : decode b_X_resume 8 = .ok (.ireturn, 1) := by decide +kernel
theorem d_X_resume_9 : decode b_X_resume 9 = .ok (.iload_n 3, 1) := by decide +kernel
theorem d_X_resume_10 : decode b_X_resume 10 = .ok (.invokestatic 92, 3) := by decide +kernel
theorem d_X_resume_13 : decode b_X_resume 13 = .ok (.ifCond .ne 6, 3) := by decide +kernel
theorem d_X_resume_16 : decode b_X_resume 16 = .ok (.bipush (-2), 2) := by decide +kernel
theorem d_X_resume_18 : decode b_X_resume 18 = .ok (.ireturn, 1) := by decide +kernel
theorem d_X_resume_19 : decode b_X_resume 19 = .ok (.aload_n 0, 1) := by decide +kernel
theorem d_X_resume_20 : decode b_X_resume 20 = .ok (.iload_n 2, 1) := by decide +kernel
theorem d_X_resume_21 : decode b_X_resume 21 = .ok (.invokevirtual 120, 3) := by decide +kernel
theorem d_X_resume_24 : decode b_X_resume 24 = .ok (.ifCond .ne 6, 3) := by decide +kernel
theorem d_X_resume_27 : decode b_X_resume 27 = .ok (.bipush (-15), 2) := by decide +kernel
theorem d_X_resume_29 : decode b_X_resume 29 = .ok (.ireturn, 1) := by decide +kernel
theorem d_X_resume_30 : decode b_X_resume 30 = .ok (.aload_n 0, 1) := by decide +kernel
theorem d_X_resume_31 : decode b_X_resume 31 = .ok (.getfield 42, 3) := by decide +kernel
theorem d_X_resume_34 : decode b_X_resume 34 = .ok (.iload_n 2, 1) := by decide +kernel
theorem d_X_resume_35 : decode b_X_resume 35 = .ok (.invokevirtual 123, 3) := by decide +kernel
theorem d_X_resume_38 : decode b_X_resume 38 = .ok (.checkcast 127, 3) := by decide +kernel
theorem d_X_resume_41 : decode b_X_resume 41 = .ok (.astore 4, 2) := by decide +kernel
theorem d_X_resume_43 : decode b_X_resume 43 = .ok (.aload 4, 2) := by decide +kernel
theorem d_X_resume_45 : decode b_X_resume 45 = .ok (.getfield 129, 3) := by decide +kernel
theorem d_X_resume_48 : decode b_X_resume 48 = .ok (.getfield 133, 3) := by decide +kernel
theorem d_X_resume_51 : decode b_X_resume 51 = .ok (.iload_n 1, 1) := by decide +kernel
theorem d_X_resume_52 : decode b_X_resume 52 = .ok (.if_icmp .ne 17, 3) := by decide +kernel
theorem d_X_resume_55 : decode b_X_resume 55 = .ok (.iload_n 3, 1) := by decide +kernel
theorem d_X_resume_56 : decode b_X_resume 56 = .ok (.aload 4, 2) := by decide +kernel
theorem d_X_resume_58 : decode b_X_resume 58 = .ok (.getfield 136, 3) := by decide +kernel
theorem d_X_resume_61 : decode b_X_resume 61 = .ok (.aload_n 0, 1) := by decide +kernel
theorem d_X_resume_62 : decode b_X_resume 62 = .ok (.getfield 69, 3) := by decide +kernel
theorem d_X_resume_65 : decode b_X_resume 65 = .ok (.iadd, 1) := by decide +kernel
theorem d_X_resume_66 : decode b_X_resume 66 = .ok (.if_icmp .le 6, 3) := by decide +kernel
theorem d_X_resume_69 : decode b_X_resume 69 = .ok (.bipush (-15), 2) := by decide +kernel
theorem d_X_resume_71 : decode b_X_resume 71 = .ok (.ireturn, 1) := by decide +kernel
theorem d_X_resume_72 : decode b_X_resume 72 = .ok (.aload 4, 2) := by decide +kernel
theorem d_X_resume_74 : decode b_X_resume 74 = .ok (.getfield 139, 3) := by decide +kernel
theorem d_X_resume_77 : decode b_X_resume 77 = .ok (.ifnonnull 23, 3) := by decide +kernel
theorem d_X_resume_80 : decode b_X_resume 80 = .ok (.aload 4, 2) := by decide +kernel
theorem d_X_resume_82 : decode b_X_resume 82 = .ok (.aload_n 0, 1) := by decide +kernel
theorem d_X_resume_83 : decode b_X_resume 83 = .ok (.aload 4, 2) := by decide +kernel
theorem d_X_resume_85 : decode b_X_resume 85 = .ok (.getfield 129, 3) := by decide +kernel
theorem d_X_resume_88 : decode b_X_resume 88 = .ok (.aload 4, 2) := by decide +kernel
theorem d_X_resume_90 : decode b_X_resume 90 = .ok (.getfield 143, 3) := by decide +kernel
theorem d_X_resume_93 : decode b_X_resume 93 = .ok (.iload_n 3, 1) := by decide +kernel
theorem d_X_resume_94 : decode b_X_resume 94 = .ok (.invokevirtual 112, 3) := by decide +kernel
theorem d_X_resume_97 : decode b_X_resume 97 = .ok (.putfield 139, 3) := by decide +kernel
theorem d_X_resume_100 : decode b_X_resume 100 = .ok (.aload_n 0, 1) := by decide +kernel
theorem d_X_resume_101 : decode b_X_resume 101 = .ok (.iload_n 1, 1) := by decide +kernel
theorem d_X_resume_102 : decode b_X_resume 102 = .ok (.aload 4, 2) := by decide +kernel
theorem d_X_resume_104 : decode b_X_resume 104 = .ok (.getfield 139, 3) := by decide +kernel
theorem d_X_resume_107 : decode b_X_resume 107 = .ok (.invokevirtual 116, 3) := by decide +kernel
theorem d_X_resume_110 : decode b_X_resume 110 = .ok (.ireturn, 1) := by decide +kernel
theorem d_X_isToken_0 : decode b_X_isToken 0 = .ok (.iload_n 1, 1) := by decide +kernel
theorem d_X_isToken_1 : decode b_X_isToken 1 = .ok (.ifCond .lt 18, 3) := by decide +kernel
theorem d_X_isToken_4 : decode b_X_isToken 4 = .ok (.iload_n 1, 1) := by decide +kernel
theorem d_X_isToken_5 : decode b_X_isToken 5 = .ok (.aload_n 0, 1) := by decide +kernel
theorem d_X_isToken_6 : decode b_X_isToken 6 = .ok (.getfield 42, 3) := by decide +kernel
theorem d_X_isToken_9 : decode b_X_isToken 9 = .ok (.invokevirtual 188, 3) := by decide +kernel
theorem d_X_isToken_12 : decode b_X_isToken 12 = .ok (.if_icmp .ge 7, 3) := by decide +kernel
theorem d_X_isToken_15 : decode b_X_isToken 15 = .ok (.iconst 1, 1) := by decide +kernel
theorem d_X_isToken_16 : decode b_X_isToken 16 = .ok (.goto 4, 3) := by decide +kernel
theorem d_X_isToken_19 : decode b_X_isToken 19 = .ok (.iconst 0, 1) := by decide +kernel
theorem d_X_isToken_20 : decode b_X_isToken 20 = .ok (.ireturn, 1) := by decide +kernel
theorem d_X_token_0 : decode b_X_token 0 = .ok (.iload_n 1, 1) := by decide +kernel
theorem d_X_token_1 : decode b_X_token 1 = .ok (.invokestatic 89, 3) := by decide +kernel
theorem d_X_token_4 : decode b_X_token 4 = .ok (.ifCond .ne 5, 3) := by decide +kernel
theorem d_X_token_7 : decode b_X_token 7 = .ok (.iconst (-1), 1) := by decide +kernel
theorem d_X_token_8 : decode b_X_token 8 = .ok (.ireturn, 1) := by decide +kernel
theorem d_X_token_9 : decode b_X_token 9 = .ok (.aload_n 0, 1) := by decide +kernel
theorem d_X_token_10 : decode b_X_token 10 = .ok (.getfield 48, 3) := by decide +kernel
theorem d_X_token_13 : decode b_X_token 13 = .ok (.iload_n 1, 1) := by decide +kernel
theorem d_X_token_14 : decode b_X_token 14 = .ok (.aaload, 1) := by decide +kernel
theorem d_X_token_15 : decode b_X_token 15 = .ok (.astore_n 2, 1) := by decide +kernel
theorem d_X_token_16 : decode b_X_token 16 = .ok (.aload_n 2, 1) := by decide +kernel
theorem d_X_token_17 : decode b_X_token 17 = .ok (.ifnonnull 7, 3) := by decide +kernel
theorem d_X_token_20 : decode b_X_token 20 = .ok (.iconst (-1), 1) := by decide +kernel
theorem d_X_token_21 : decode b_X_token 21 = .ok (.goto 7, 3) := by decide +kernel
theorem d_X_token_24 : decode b_X_token 24 = .ok (.aload_n 2, 1) := by decide +kernel
theorem d_X_token_25 : decode b_X_token 25 = .ok (.getfield 146, 3) := by decide +kernel
theorem d_X_token_28 : decode b_X_token 28 = .ok (.ireturn, 1) := by decide +kernel
theorem d_X_get_0 : decode b_X_get 0 = .ok (.aload_n 0, 1) := by decide +kernel
theorem d_X_get_1 : decode b_X_get 1 = .ok (.iload_n 2, 1) := by decide +kernel
theorem d_X_get_2 : decode b_X_get 2 = .ok (.invokevirtual 95, 3) := by decide +kernel
theorem d_X_get_5 : decode b_X_get 5 = .ok (.ifCond .ne 6, 3) := by decide +kernel
theorem d_X_get_8 : decode b_X_get 8 = .ok (.bipush (-12), 2) := by decide +kernel
theorem d_X_get_10 : decode b_X_get 10 = .ok (.ireturn, 1) := by decide +kernel
theorem d_X_get_11 : decode b_X_get 11 = .ok (.aload_n 0, 1) := by decide +kernel
theorem d_X_get_12 : decode b_X_get 12 = .ok (.iload_n 1, 1) := by decide +kernel
theorem d_X_get_13 : decode b_X_get 13 = .ok (.invokevirtual 83, 3) := by decide +kernel
theorem d_X_get_16 : decode b_X_get 16 = .ok (.ifCond .ne 6, 3) := by decide +kernel
theorem d_X_get_19 : decode b_X_get 19 = .ok (.bipush (-16), 2) := by decide +kernel
theorem d_X_get_21 : decode b_X_get 21 = .ok (.ireturn, 1) := by decide +kernel
theorem d_X_get_22 : decode b_X_get 22 = .ok (.aload_n 0, 1) := by decide +kernel
theorem d_X_get_23 : decode b_X_get 23 = .ok (.getfield 20, 3) := by decide +kernel
theorem d_X_get_26 : decode b_X_get 26 = .ok (.iload_n 1, 1) := by decide +kernel
theorem d_X_get_27 : decode b_X_get 27 = .ok (.baload, 1) := by decide +kernel
theorem d_X_get_28 : decode b_X_get 28 = .ok (.ifCond .eq 15, 3) := by decide +kernel
theorem d_X_get_31 : decode b_X_get 31 = .ok (.bipush (-20), 2) := by decide +kernel
theorem d_X_get_33 : decode b_X_get 33 = .ok (.aload_n 0, 1) := by decide +kernel
theorem d_X_get_34 : decode b_X_get 34 = .ok (.getfield 17, 3) := by decide +kernel
theorem d_X_get_37 : decode b_X_get 37 = .ok (.iload_n 1, 1) := by decide +kernel
theorem d_X_get_38 : decode b_X_get 38 = .ok (.iaload, 1) := by decide +kernel
theorem d_X_get_39 : decode b_X_get 39 = .ok (.isub, 1) := by decide +kernel
theorem d_X_get_40 : decode b_X_get 40 = .ok (.goto 9, 3) := by decide +kernel
theorem d_X_get_43 : decode b_X_get 43 = .ok (.aload_n 0, 1) := by decide +kernel
theorem d_X_get_44 : decode b_X_get 44 = .ok (.getfield 17, 3) := by decide +kernel
theorem d_X_get_47 : decode b_X_get 47 = .ok (.iload_n 1, 1) := by decide +kernel
theorem d_X_get_48 : decode b_X_get 48 = .ok (.iaload, 1) := by decide +kernel
theorem d_X_get_49 : decode b_X_get 49 = .ok (.ireturn, 1) := by decide +kernel
theorem d_X_counted_0 : decode b_X_counted 0 = .ok (.iload_n 1, 1) := by decide +kernel
theorem d_X_counted_1 : decode b_X_counted 1 = .ok (.invokestatic 89, 3) := by decide +kernel
theorem d_X_counted_4 : decode b_X_counted 4 = .ok (.ifCond .eq 12, 3) := by decide +kernel
theorem d_X_counted_7 : decode b_X_counted 7 = .ok (.aload_n 0, 1) := by decide +kernel
theorem d_X_counted_8 : decode b_X_counted 8 = .ok (.getfield 52, 3) := by decide +kernel
theorem d_X_counted_11 : decode b_X_counted 11 = .ok (.iload_n 1, 1) := by decide +kernel
theorem d_X_counted_12 : decode b_X_counted 12 = .ok (.iaload, 1) := by decide +kernel
theorem d_X_counted_13 : decode b_X_counted 13 = .ok (.goto 4, 3) := by decide +kernel
theorem d_X_counted_16 : decode b_X_counted 16 = .ok (.iconst (-1), 1) := by decide +kernel
theorem d_X_counted_17 : decode b_X_counted 17 = .ok (.ireturn, 1) := by decide +kernel
theorem d_X_passed_0 : decode b_X_passed 0 = .ok (.aload_n 0, 1) := by decide +kernel
theorem d_X_passed_1 : decode b_X_passed 1 = .ok (.getfield 55, 3) := by decide +kernel
theorem d_X_passed_4 : decode b_X_passed 4 = .ok (.ireturn, 1) := by decide +kernel
theorem d_X_about_0 : decode b_X_about 0 = .ok (.aload_n 0, 1) := by decide +kernel
theorem d_X_about_1 : decode b_X_about 1 = .ok (.iload_n 1, 1) := by decide +kernel
theorem d_X_about_2 : decode b_X_about 2 = .ok (.invokevirtual 120, 3) := by decide +kernel
theorem d_X_about_5 : decode b_X_about 5 = .ok (.ifCond .ne 5, 3) := by decide +kernel
theorem d_X_about_8 : decode b_X_about 8 = .ok (.iconst (-1), 1) := by decide +kernel
theorem d_X_about_9 : decode b_X_about 9 = .ok (.ireturn, 1) := by decide +kernel
theorem d_X_about_10 : decode b_X_about 10 = .ok (.aload_n 0, 1) := by decide +kernel
theorem d_X_about_11 : decode b_X_about 11 = .ok (.getfield 42, 3) := by decide +kernel
theorem d_X_about_14 : decode b_X_about 14 = .ok (.iload_n 1, 1) := by decide +kernel
theorem d_X_about_15 : decode b_X_about 15 = .ok (.invokevirtual 123, 3) := by decide +kernel
theorem d_X_about_18 : decode b_X_about 18 = .ok (.checkcast 127, 3) := by decide +kernel
theorem d_X_about_21 : decode b_X_about 21 = .ok (.astore_n 3, 1) := by decide +kernel
theorem d_X_about_22 : decode b_X_about 22 = .ok (.iload_n 2, 1) := by decide +kernel
theorem d_X_about_23 : decode b_X_about 23 = .ok (.tableswitch 52 0 2 #[25, 33, 38], 25) := by decide +kernel
theorem d_X_about_48 : decode b_X_about 48 = .ok (.aload_n 3, 1) := by decide +kernel
theorem d_X_about_49 : decode b_X_about 49 = .ok (.getfield 129, 3) := by decide +kernel
theorem d_X_about_52 : decode b_X_about 52 = .ok (.getfield 133, 3) := by decide +kernel
theorem d_X_about_55 : decode b_X_about 55 = .ok (.ireturn, 1) := by decide +kernel
theorem d_X_about_56 : decode b_X_about 56 = .ok (.aload_n 3, 1) := by decide +kernel
theorem d_X_about_57 : decode b_X_about 57 = .ok (.getfield 136, 3) := by decide +kernel
theorem d_X_about_60 : decode b_X_about 60 = .ok (.ireturn, 1) := by decide +kernel
theorem d_X_about_61 : decode b_X_about 61 = .ok (.aload_n 3, 1) := by decide +kernel
theorem d_X_about_62 : decode b_X_about 62 = .ok (.getfield 129, 3) := by decide +kernel
theorem d_X_about_65 : decode b_X_about 65 = .ok (.getfield 177, 3) := by decide +kernel
theorem d_X_about_68 : decode b_X_about 68 = .ok (.arraylength, 1) := by decide +kernel
theorem d_X_about_69 : decode b_X_about 69 = .ok (.aload_n 3, 1) := by decide +kernel
theorem d_X_about_70 : decode b_X_about 70 = .ok (.getfield 143, 3) := by decide +kernel
theorem d_X_about_73 : decode b_X_about 73 = .ok (.isub, 1) := by decide +kernel
theorem d_X_about_74 : decode b_X_about 74 = .ok (.ireturn, 1) := by decide +kernel
theorem d_X_about_75 : decode b_X_about 75 = .ok (.iconst (-1), 1) := by decide +kernel
theorem d_X_about_76 : decode b_X_about 76 = .ok (.ireturn, 1) := by decide +kernel
theorem d_X_row_0 : decode b_X_row 0 = .ok (.iload_n 1, 1) := by decide +kernel
theorem d_X_row_1 : decode b_X_row 1 = .ok (.invokestatic 89, 3) := by decide +kernel
theorem d_X_row_4 : decode b_X_row 4 = .ok (.ifCond .ne 13, 3) := by decide +kernel
theorem d_X_row_7 : decode b_X_row 7 = .ok (.new 149, 3) := by decide +kernel
theorem d_X_row_10 : decode b_X_row 10 = .ok (.dup, 1) := by decide +kernel
theorem d_X_row_11 : decode b_X_row 11 = .ok (.ldc 151, 2) := by decide +kernel
theorem d_X_row_13 : decode b_X_row 13 = .ok (.invokespecial 153, 3) := by decide +kernel
theorem d_X_row_16 : decode b_X_row 16 = .ok (.athrow, 1) := by decide +kernel
theorem d_X_row_17 : decode b_X_row 17 = .ok (.aload_n 0, 1) := by decide +kernel
theorem d_X_row_18 : decode b_X_row 18 = .ok (.getfield 48, 3) := by decide +kernel
theorem d_X_row_21 : decode b_X_row 21 = .ok (.iload_n 1, 1) := by decide +kernel
theorem d_X_row_22 : decode b_X_row 22 = .ok (.aaload, 1) := by decide +kernel
theorem d_X_row_23 : decode b_X_row 23 = .ok (.astore 4, 2) := by decide +kernel
theorem d_X_row_25 : decode b_X_row 25 = .ok (.aload 4, 2) := by decide +kernel
theorem d_X_row_27 : decode b_X_row 27 = .ok (.ifnonnull 13, 3) := by decide +kernel
theorem d_X_row_30 : decode b_X_row 30 = .ok (.new 149, 3) := by decide +kernel
theorem d_X_row_33 : decode b_X_row 33 = .ok (.dup, 1) := by decide +kernel
theorem d_X_row_34 : decode b_X_row 34 = .ok (.ldc 156, 2) := by decide +kernel
theorem d_X_row_36 : decode b_X_row 36 = .ok (.invokespecial 153, 3) := by decide +kernel
theorem d_X_row_39 : decode b_X_row 39 = .ok (.athrow, 1) := by decide +kernel
theorem d_X_row_40 : decode b_X_row 40 = .ok (.iload_n 2, 1) := by decide +kernel
theorem d_X_row_41 : decode b_X_row 41 = .ok (.ifCond .lt 12, 3) := by decide +kernel
theorem d_X_row_44 : decode b_X_row 44 = .ok (.iload_n 2, 1) := by decide +kernel
theorem d_X_row_45 : decode b_X_row 45 = .ok (.aload 4, 2) := by decide +kernel
theorem d_X_row_47 : decode b_X_row 47 = .ok (.getfield 158, 3) := by decide +kernel
theorem d_X_row_50 : decode b_X_row 50 = .ok (.if_icmp .lt 13, 3) := by decide +kernel
theorem d_X_row_53 : decode b_X_row 53 = .ok (.new 149, 3) := by decide +kernel
theorem d_X_row_56 : decode b_X_row 56 = .ok (.dup, 1) := by decide +kernel
theorem d_X_row_57 : decode b_X_row 57 = .ok (.ldc 161, 2) := by decide +kernel
theorem d_X_row_59 : decode b_X_row 59 = .ok (.invokespecial 153, 3) := by decide +kernel
theorem d_X_row_62 : decode b_X_row 62 = .ok (.athrow, 1) := by decide +kernel
theorem d_X_row_63 : decode b_X_row 63 = .ok (.iload_n 3, 1) := by decide +kernel
theorem d_X_row_64 : decode b_X_row 64 = .ok (.tableswitch 70 0 3 #[32, 40, 48, 64], 32) := by decide +kernel
theorem d_X_row_96 : decode b_X_row 96 = .ok (.aload 4, 2) := by decide +kernel
theorem d_X_row_98 : decode b_X_row 98 = .ok (.getfield 163, 3) := by decide +kernel
theorem d_X_row_101 : decode b_X_row 101 = .ok (.iload_n 2, 1) := by decide +kernel
theorem d_X_row_102 : decode b_X_row 102 = .ok (.iaload, 1) := by decide +kernel
theorem d_X_row_103 : decode b_X_row 103 = .ok (.ireturn, 1) := by decide +kernel
theorem d_X_row_104 : decode b_X_row 104 = .ok (.aload 4, 2) := by decide +kernel
theorem d_X_row_106 : decode b_X_row 106 = .ok (.getfield 166, 3) := by decide +kernel
theorem d_X_row_109 : decode b_X_row 109 = .ok (.iload_n 2, 1) := by decide +kernel
theorem d_X_row_110 : decode b_X_row 110 = .ok (.iaload, 1) := by decide +kernel
theorem d_X_row_111 : decode b_X_row 111 = .ok (.ireturn, 1) := by decide +kernel
theorem d_X_row_112 : decode b_X_row 112 = .ok (.aload 4, 2) := by decide +kernel
theorem d_X_row_114 : decode b_X_row 114 = .ok (.getfield 169, 3) := by decide +kernel
theorem d_X_row_117 : decode b_X_row 117 = .ok (.iload_n 2, 1) := by decide +kernel
theorem d_X_row_118 : decode b_X_row 118 = .ok (.baload, 1) := by decide +kernel
theorem d_X_row_119 : decode b_X_row 119 = .ok (.ifCond .eq 7, 3) := by decide +kernel
theorem d_X_row_122 : decode b_X_row 122 = .ok (.iconst 1, 1) := by decide +kernel
theorem d_X_row_123 : decode b_X_row 123 = .ok (.goto 4, 3) := by decide +kernel
theorem d_X_row_126 : decode b_X_row 126 = .ok (.iconst 0, 1) := by decide +kernel
theorem d_X_row_127 : decode b_X_row 127 = .ok (.ireturn, 1) := by decide +kernel
theorem d_X_row_128 : decode b_X_row 128 = .ok (.aload 4, 2) := by decide +kernel
theorem d_X_row_130 : decode b_X_row 130 = .ok (.getfield 172, 3) := by decide +kernel
theorem d_X_row_133 : decode b_X_row 133 = .ok (.ireturn, 1) := by decide +kernel
theorem d_X_row_134 : decode b_X_row 134 = .ok (.new 149, 3) := by decide +kernel
theorem d_X_row_137 : decode b_X_row 137 = .ok (.dup, 1) := by decide +kernel
theorem d_X_row_138 : decode b_X_row 138 = .ok (.ldc 175, 2) := by decide +kernel
theorem d_X_row_140 : decode b_X_row 140 = .ok (.invokespecial 153, 3) := by decide +kernel
theorem d_X_row_143 : decode b_X_row 143 = .ok (.athrow, 1) := by decide +kernel
