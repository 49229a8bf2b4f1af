/-! decode rows -/
theorem nd_M_walk_0 : decode nc_M_walk 0 = .ok (.iload_n 1, 1) := by decide +kernel
theorem nd_M_walk_1 : decode nc_M_walk 1 = .ok (.istore_n 2, 1) := by decide +kernel
theorem nd_M_walk_2 : decode nc_M_walk 2 = .ok (.aload_n 0, 1) := by decide +kernel
theorem nd_M_walk_3 : decode nc_M_walk 3 = .ok (.sipush 2000, 3) := by decide +kernel
theorem nd_M_walk_6 : decode nc_M_walk 6 = .ok (.putfield 70, 3) := by decide +kernel
theorem nd_M_walk_9 : decode nc_M_walk 9 = .ok (.iconst 0, 1) := by decide +kernel
theorem nd_M_walk_10 : decode nc_M_walk 10 = .ok (.istore_n 3, 1) := by decide +kernel
theorem nd_M_walk_11 : decode nc_M_walk 11 = .ok (.iload_n 3, 1) := by decide +kernel
theorem nd_M_walk_12 : decode nc_M_walk 12 = .ok (.sipush 400, 3) := by decide +kernel
theorem nd_M_walk_15 : decode nc_M_walk 15 = .ok (.if_icmp .ge 64, 3) := by decide +kernel
theorem nd_M_walk_18 : decode nc_M_walk 18 = .ok (.iload_n 2, 1) := by decide +kernel
theorem nd_M_walk_19 : decode nc_M_walk 19 = .ok (.aload_n 0, 1) := by decide +kernel
theorem nd_M_walk_20 : decode nc_M_walk 20 = .ok (.getfield 70, 3) := by decide +kernel
theorem nd_M_walk_23 : decode nc_M_walk 23 = .ok (.invokestatic 66, 3) := by decide +kernel
theorem nd_M_walk_26 : decode nc_M_walk 26 = .ok (.ifCond .eq 9, 3) := by decide +kernel
theorem nd_M_walk_29 : decode nc_M_walk 29 = .ok (.sipush 366, 3) := by decide +kernel
theorem nd_M_walk_32 : decode nc_M_walk 32 = .ok (.goto 6, 3) := by decide +kernel
theorem nd_M_walk_35 : decode nc_M_walk 35 = .ok (.sipush 365, 3) := by decide +kernel
theorem nd_M_walk_38 : decode nc_M_walk 38 = .ok (.if_icmp .lt 41, 3) := by decide +kernel
theorem nd_M_walk_41 : decode nc_M_walk 41 = .ok (.iload_n 2, 1) := by decide +kernel
theorem nd_M_walk_42 : decode nc_M_walk 42 = .ok (.aload_n 0, 1) := by decide +kernel
theorem nd_M_walk_43 : decode nc_M_walk 43 = .ok (.getfield 70, 3) := by decide +kernel
theorem nd_M_walk_46 : decode nc_M_walk 46 = .ok (.invokestatic 66, 3) := by decide +kernel
theorem nd_M_walk_49 : decode nc_M_walk 49 = .ok (.ifCond .eq 9, 3) := by decide +kernel
theorem nd_M_walk_52 : decode nc_M_walk 52 = .ok (.sipush 366, 3) := by decide +kernel
theorem nd_M_walk_55 : decode nc_M_walk 55 = .ok (.goto 6, 3) := by decide +kernel
theorem nd_M_walk_58 : decode nc_M_walk 58 = .ok (.sipush 365, 3) := by decide +kernel
theorem nd_M_walk_61 : decode nc_M_walk 61 = .ok (.isub, 1) := by decide +kernel
theorem nd_M_walk_62 : decode nc_M_walk 62 = .ok (.istore_n 2, 1) := by decide +kernel
theorem nd_M_walk_63 : decode nc_M_walk 63 = .ok (.aload_n 0, 1) := by decide +kernel
theorem nd_M_walk_64 : decode nc_M_walk 64 = .ok (.dup, 1) := by decide +kernel
theorem nd_M_walk_65 : decode nc_M_walk 65 = .ok (.getfield 70, 3) := by decide +kernel
theorem nd_M_walk_68 : decode nc_M_walk 68 = .ok (.iconst 1, 1) := by decide +kernel
theorem nd_M_walk_69 : decode nc_M_walk 69 = .ok (.iadd, 1) := by decide +kernel
theorem nd_M_walk_70 : decode nc_M_walk 70 = .ok (.putfield 70, 3) := by decide +kernel
theorem nd_M_walk_73 : decode nc_M_walk 73 = .ok (.iinc 3 1, 3) := by decide +kernel
theorem nd_M_walk_76 : decode nc_M_walk 76 = .ok (.goto (-65), 3) := by decide +kernel
theorem nd_M_walk_79 : decode nc_M_walk 79 = .ok (.aload_n 0, 1) := by decide +kernel
theorem nd_M_walk_80 : decode nc_M_walk 80 = .ok (.iconst 1, 1) := by decide +kernel
theorem nd_M_walk_81 : decode nc_M_walk 81 = .ok (.putfield 73, 3) := by decide +kernel
theorem nd_M_walk_84 : decode nc_M_walk 84 = .ok (.iconst 0, 1) := by decide +kernel
theorem nd_M_walk_85 : decode nc_M_walk 85 = .ok (.istore_n 3, 1) := by decide +kernel
theorem nd_M_walk_86 : decode nc_M_walk 86 = .ok (.iload_n 3, 1) := by decide +kernel
theorem nd_M_walk_87 : decode nc_M_walk 87 = .ok (.bipush 12, 2) := by decide +kernel
theorem nd_M_walk_89 : decode nc_M_walk 89 = .ok (.if_icmp .ge 48, 3) := by decide +kernel
theorem nd_M_walk_92 : decode nc_M_walk 92 = .ok (.iload_n 2, 1) := by decide +kernel
theorem nd_M_walk_93 : decode nc_M_walk 93 = .ok (.aload_n 0, 1) := by decide +kernel
theorem nd_M_walk_94 : decode nc_M_walk 94 = .ok (.getfield 70, 3) := by decide +kernel
theorem nd_M_walk_97 : decode nc_M_walk 97 = .ok (.aload_n 0, 1) := by decide +kernel
theorem nd_M_walk_98 : decode nc_M_walk 98 = .ok (.getfield 73, 3) := by decide +kernel
theorem nd_M_walk_101 : decode nc_M_walk 101 = .ok (.invokestatic 76, 3) := by decide +kernel
theorem nd_M_walk_104 : decode nc_M_walk 104 = .ok (.if_icmp .lt 33, 3) := by decide +kernel
theorem nd_M_walk_107 : decode nc_M_walk 107 = .ok (.iload_n 2, 1) := by decide +kernel
theorem nd_M_walk_108 : decode nc_M_walk 108 = .ok (.aload_n 0, 1) := by decide +kernel
theorem nd_M_walk_109 : decode nc_M_walk 109 = .ok (.getfield 70, 3) := by decide +kernel
theorem nd_M_walk_112 : decode nc_M_walk 112 = .ok (.aload_n 0, 1) := by decide +kernel
theorem nd_M_walk_113 : decode nc_M_walk 113 = .ok (.getfield 73, 3) := by decide +kernel
theorem nd_M_walk_116 : decode nc_M_walk 116 = .ok (.invokestatic 76, 3) := by decide +kernel
theorem nd_M_walk_119 : decode nc_M_walk 119 = .ok (.isub, 1) := by decide +kernel
theorem nd_M_walk_120 : decode nc_M_walk 120 = .ok (.istore_n 2, 1) := by decide +kernel
theorem nd_M_walk_121 : decode nc_M_walk 121 = .ok (.aload_n 0, 1) := by decide +kernel
theorem nd_M_walk_122 : decode nc_M_walk 122 = .ok (.dup, 1) := by decide +kernel
theorem nd_M_walk_123 : decode nc_M_walk 123 = .ok (.getfield 73, 3) := by decide +kernel
theorem nd_M_walk_126 : decode nc_M_walk 126 = .ok (.iconst 1, 1) := by decide +kernel
theorem nd_M_walk_127 : decode nc_M_walk 127 = .ok (.iadd, 1) := by decide +kernel
theorem nd_M_walk_128 : decode nc_M_walk 128 = .ok (.putfield 73, 3) := by decide +kernel
theorem nd_M_walk_131 : decode nc_M_walk 131 = .ok (.iinc 3 1, 3) := by decide +kernel
theorem nd_M_walk_134 : decode nc_M_walk 134 = .ok (.goto (-48), 3) := by decide +kernel
theorem nd_M_walk_137 : decode nc_M_walk 137 = .ok (.aload_n 0, 1) := by decide +kernel
theorem nd_M_walk_138 : decode nc_M_walk 138 = .ok (.iload_n 2, 1) := by decide +kernel
theorem nd_M_walk_139 : decode nc_M_walk 139 = .ok (.iconst 1, 1) := by decide +kernel
theorem nd_M_walk_140 : decode nc_M_walk 140 = .ok (.iadd, 1) := by decide +kernel
theorem nd_M_walk_141 : decode nc_M_walk 141 = .ok (.putfield 80, 3) := by decide +kernel
theorem nd_M_walk_144 : decode nc_M_walk 144 = .ok (.return_, 1) := by decide +kernel
theorem nd_M_leap_0 : decode nc_M_leap 0 = .ok (.iload_n 0, 1) := by decide +kernel
theorem nd_M_leap_1 : decode nc_M_leap 1 = .ok (.iconst 4, 1) := by decide +kernel
theorem nd_M_leap_2 : decode nc_M_leap 2 = .ok (.irem, 1) := by decide +kernel
theorem nd_M_leap_3 : decode nc_M_leap 3 = .ok (.ifCond .ne 10, 3) := by decide +kernel
theorem nd_M_leap_6 : decode nc_M_leap 6 = .ok (.iload_n 0, 1) := by decide +kernel
theorem nd_M_leap_7 : decode nc_M_leap 7 = .ok (.bipush 100, 2) := by decide +kernel
theorem nd_M_leap_9 : decode nc_M_leap 9 = .ok (.irem, 1) := by decide +kernel
theorem nd_M_leap_10 : decode nc_M_leap 10 = .ok (.ifCond .ne 11, 3) := by decide +kernel
theorem nd_M_leap_13 : decode nc_M_leap 13 = .ok (.iload_n 0, 1) := by decide +kernel
theorem nd_M_leap_14 : decode nc_M_leap 14 = .ok (.sipush 400, 3) := by decide +kernel
theorem nd_M_leap_17 : decode nc_M_leap 17 = .ok (.irem, 1) := by decide +kernel
theorem nd_M_leap_18 : decode nc_M_leap 18 = .ok (.ifCond .ne 7, 3) := by decide +kernel
theorem nd_M_leap_21 : decode nc_M_leap 21 = .ok (.iconst 1, 1) := by decide +kernel
theorem nd_M_leap_22 : decode nc_M_leap 22 = .ok (.goto 4, 3) := by decide +kernel
theorem nd_M_leap_25 : decode nc_M_leap 25 = .ok (.iconst 0, 1) := by decide +kernel
theorem nd_M_leap_26 : decode nc_M_leap 26 = .ok (.ireturn, 1) := by decide +kernel
theorem nd_M_length_0 : decode nc_M_length 0 = .ok (.iload_n 1, 1) := by decide +kernel
theorem nd_M_length_1 : decode nc_M_length 1 = .ok (.iconst 2, 1) := by decide +kernel
theorem nd_M_length_2 : decode nc_M_length 2 = .ok (.if_icmp .ne 20, 3) := by decide +kernel
theorem nd_M_length_5 : decode nc_M_length 5 = .ok (.iload_n 0, 1) := by decide +kernel
theorem nd_M_length_6 : decode nc_M_length 6 = .ok (.invokestatic 66, 3) := by decide +kernel
theorem nd_M_length_9 : decode nc_M_length 9 = .ok (.ifCond .eq 8, 3) := by decide +kernel
theorem nd_M_length_12 : decode nc_M_length 12 = .ok (.bipush 29, 2) := by decide +kernel
theorem nd_M_length_14 : decode nc_M_length 14 = .ok (.goto 38, 3) := by decide +kernel
theorem nd_M_length_17 : decode nc_M_length 17 = .ok (.bipush 28, 2) := by decide +kernel
theorem nd_M_length_19 : decode nc_M_length 19 = .ok (.goto 33, 3) := by decide +kernel
theorem nd_M_length_22 : decode nc_M_length 22 = .ok (.iload_n 1, 1) := by decide +kernel
theorem nd_M_length_23 : decode nc_M_length 23 = .ok (.iconst 4, 1) := by decide +kernel
theorem nd_M_length_24 : decode nc_M_length 24 = .ok (.if_icmp .eq 21, 3) := by decide +kernel
theorem nd_M_length_27 : decode nc_M_length 27 = .ok (.iload_n 1, 1) := by decide +kernel
theorem nd_M_length_28 : decode nc_M_length 28 = .ok (.bipush 6, 2) := by decide +kernel
theorem nd_M_length_30 : decode nc_M_length 30 = .ok (.if_icmp .eq 15, 3) := by decide +kernel
theorem nd_M_length_33 : decode nc_M_length 33 = .ok (.iload_n 1, 1) := by decide +kernel
theorem nd_M_length_34 : decode nc_M_length 34 = .ok (.bipush 9, 2) := by decide +kernel
theorem nd_M_length_36 : decode nc_M_length 36 = .ok (.if_icmp .eq 9, 3) := by decide +kernel
theorem nd_M_length_39 : decode nc_M_length 39 = .ok (.iload_n 1, 1) := by decide +kernel
theorem nd_M_length_40 : decode nc_M_length 40 = .ok (.bipush 11, 2) := by decide +kernel
theorem nd_M_length_42 : decode nc_M_length 42 = .ok (.if_icmp .ne 8, 3) := by decide +kernel
theorem nd_M_length_45 : decode nc_M_length 45 = .ok (.bipush 30, 2) := by decide +kernel
theorem nd_M_length_47 : decode nc_M_length 47 = .ok (.goto 5, 3) := by decide +kernel
theorem nd_M_length_50 : decode nc_M_length 50 = .ok (.bipush 31, 2) := by decide +kernel
theorem nd_M_length_52 : decode nc_M_length 52 = .ok (.ireturn, 1) := by decide +kernel
theorem nd_M_run_0 : decode nc_M_run 0 = .ok (.aload_n 0, 1) := by decide +kernel
theorem nd_M_run_1 : decode nc_M_run 1 = .ok (.getfield 102, 3) := by decide +kernel
theorem nd_M_run_4 : decode nc_M_run 4 = .ok (.ifCond .eq 5, 3) := by decide +kernel
theorem nd_M_run_7 : decode nc_M_run 7 = .ok (.iconst (-1), 1) := by decide +kernel
theorem nd_M_run_8 : decode nc_M_run 8 = .ok (.ireturn, 1) := by decide +kernel
theorem nd_M_run_9 : decode nc_M_run 9 = .ok (.iload_n 1, 1) := by decide +kernel
theorem nd_M_run_10 : decode nc_M_run 10 = .ok (.iconst 1, 1) := by decide +kernel
theorem nd_M_run_11 : decode nc_M_run 11 = .ok (.if_icmp .lt 9, 3) := by decide +kernel
theorem nd_M_run_14 : decode nc_M_run 14 = .ok (.iload_n 1, 1) := by decide +kernel
theorem nd_M_run_15 : decode nc_M_run 15 = .ok (.bipush 31, 2) := by decide +kernel
theorem nd_M_run_17 : decode nc_M_run 17 = .ok (.if_icmp .le 6, 3) := by decide +kernel
theorem nd_M_run_20 : decode nc_M_run 20 = .ok (.bipush (-3), 2) := by decide +kernel
theorem nd_M_run_22 : decode nc_M_run 22 = .ok (.ireturn, 1) := by decide +kernel
theorem nd_M_run_23 : decode nc_M_run 23 = .ok (.iconst 0, 1) := by decide +kernel
theorem nd_M_run_24 : decode nc_M_run 24 = .ok (.istore_n 2, 1) := by decide +kernel
theorem nd_M_run_25 : decode nc_M_run 25 = .ok (.iload_n 2, 1) := by decide +kernel
theorem nd_M_run_26 : decode nc_M_run 26 = .ok (.iload_n 1, 1) := by decide +kernel
theorem nd_M_run_27 : decode nc_M_run 27 = .ok (.if_icmp .ge 18, 3) := by decide +kernel
theorem nd_M_run_30 : decode nc_M_run 30 = .ok (.aload_n 0, 1) := by decide +kernel
theorem nd_M_run_31 : decode nc_M_run 31 = .ok (.invokevirtual 186, 3) := by decide +kernel
theorem nd_M_run_34 : decode nc_M_run 34 = .ok (.ifCond .ne 5, 3) := by decide +kernel
theorem nd_M_run_37 : decode nc_M_run 37 = .ok (.iconst (-1), 1) := by decide +kernel
theorem nd_M_run_38 : decode nc_M_run 38 = .ok (.ireturn, 1) := by decide +kernel
theorem nd_M_run_39 : decode nc_M_run 39 = .ok (.iinc 2 1, 3) := by decide +kernel
theorem nd_M_run_42 : decode nc_M_run 42 = .ok (.goto (-17), 3) := by decide +kernel
theorem nd_M_run_45 : decode nc_M_run 45 = .ok (.iload_n 1, 1) := by decide +kernel
theorem nd_M_run_46 : decode nc_M_run 46 = .ok (.ireturn, 1) := by decide +kernel
theorem nd_M_dayEnd_0 : decode nc_M_dayEnd 0 = .ok (.aload_n 0, 1) := by decide +kernel
theorem nd_M_dayEnd_1 : decode nc_M_dayEnd 1 = .ok (.getfield 118, 3) := by decide +kernel
theorem nd_M_dayEnd_4 : decode nc_M_dayEnd 4 = .ok (.ifCond .ne 19, 3) := by decide +kernel
theorem nd_M_dayEnd_7 : decode nc_M_dayEnd 7 = .ok (.aload_n 0, 1) := by decide +kernel
theorem nd_M_dayEnd_8 : decode nc_M_dayEnd 8 = .ok (.iconst 0, 1) := by decide +kernel
theorem nd_M_dayEnd_9 : decode nc_M_dayEnd 9 = .ok (.iconst 0, 1) := by decide +kernel
theorem nd_M_dayEnd_10 : decode nc_M_dayEnd 10 = .ok (.invokevirtual 129, 3) := by decide +kernel
theorem nd_M_dayEnd_13 : decode nc_M_dayEnd 13 = .ok (.ifCond .ne 5, 3) := by decide +kernel
theorem nd_M_dayEnd_16 : decode nc_M_dayEnd 16 = .ok (.iconst 0, 1) := by decide +kernel
theorem nd_M_dayEnd_17 : decode nc_M_dayEnd 17 = .ok (.ireturn, 1) := by decide +kernel
theorem nd_M_dayEnd_18 : decode nc_M_dayEnd 18 = .ok (.aload_n 0, 1) := by decide +kernel
theorem nd_M_dayEnd_19 : decode nc_M_dayEnd 19 = .ok (.iconst 1, 1) := by decide +kernel
theorem nd_M_dayEnd_20 : decode nc_M_dayEnd 20 = .ok (.putfield 118, 3) := by decide +kernel
theorem nd_M_dayEnd_23 : decode nc_M_dayEnd 23 = .ok (.iconst 0, 1) := by decide +kernel
theorem nd_M_dayEnd_24 : decode nc_M_dayEnd 24 = .ok (.istore_n 1, 1) := by decide +kernel
theorem nd_M_dayEnd_25 : decode nc_M_dayEnd 25 = .ok (.iload_n 1, 1) := by decide +kernel
theorem nd_M_dayEnd_26 : decode nc_M_dayEnd 26 = .ok (.aload_n 0, 1) := by decide +kernel
theorem nd_M_dayEnd_27 : decode nc_M_dayEnd 27 = .ok (.getfield 121, 3) := by decide +kernel
theorem nd_M_dayEnd_30 : decode nc_M_dayEnd 30 = .ok (.if_icmp .ge 32, 3) := by decide +kernel
theorem nd_M_dayEnd_33 : decode nc_M_dayEnd 33 = .ok (.aload_n 0, 1) := by decide +kernel
theorem nd_M_dayEnd_34 : decode nc_M_dayEnd 34 = .ok (.getfield 22, 3) := by decide +kernel
theorem nd_M_dayEnd_37 : decode nc_M_dayEnd 37 = .ok (.iload_n 1, 1) := by decide +kernel
theorem nd_M_dayEnd_38 : decode nc_M_dayEnd 38 = .ok (.iaload, 1) := by decide +kernel
theorem nd_M_dayEnd_39 : decode nc_M_dayEnd 39 = .ok (.aload_n 0, 1) := by decide +kernel
theorem nd_M_dayEnd_40 : decode nc_M_dayEnd 40 = .ok (.getfield 90, 3) := by decide +kernel
theorem nd_M_dayEnd_43 : decode nc_M_dayEnd 43 = .ok (.if_icmp .ge 13, 3) := by decide +kernel
theorem nd_M_dayEnd_46 : decode nc_M_dayEnd 46 = .ok (.aload_n 0, 1) := by decide +kernel
theorem nd_M_dayEnd_47 : decode nc_M_dayEnd 47 = .ok (.iload_n 1, 1) := by decide +kernel
theorem nd_M_dayEnd_48 : decode nc_M_dayEnd 48 = .ok (.invokevirtual 183, 3) := by decide +kernel
theorem nd_M_dayEnd_51 : decode nc_M_dayEnd 51 = .ok (.ifCond .ne 5, 3) := by decide +kernel
theorem nd_M_dayEnd_54 : decode nc_M_dayEnd 54 = .ok (.iconst 0, 1) := by decide +kernel
theorem nd_M_dayEnd_55 : decode nc_M_dayEnd 55 = .ok (.ireturn, 1) := by decide +kernel
theorem nd_M_dayEnd_56 : decode nc_M_dayEnd 56 = .ok (.iinc 1 1, 3) := by decide +kernel
theorem nd_M_dayEnd_59 : decode nc_M_dayEnd 59 = .ok (.goto (-34), 3) := by decide +kernel
theorem nd_M_dayEnd_62 : decode nc_M_dayEnd 62 = .ok (.aload_n 0, 1) := by decide +kernel
theorem nd_M_dayEnd_63 : decode nc_M_dayEnd 63 = .ok (.iconst 0, 1) := by decide +kernel
theorem nd_M_dayEnd_64 : decode nc_M_dayEnd 64 = .ok (.iconst 0, 1) := by decide +kernel
theorem nd_M_dayEnd_65 : decode nc_M_dayEnd 65 = .ok (.invokevirtual 129, 3) := by decide +kernel
theorem nd_M_dayEnd_68 : decode nc_M_dayEnd 68 = .ok (.ifCond .ne 5, 3) := by decide +kernel
theorem nd_M_dayEnd_71 : decode nc_M_dayEnd 71 = .ok (.iconst 0, 1) := by decide +kernel
theorem nd_M_dayEnd_72 : decode nc_M_dayEnd 72 = .ok (.ireturn, 1) := by decide +kernel
theorem nd_M_dayEnd_73 : decode nc_M_dayEnd 73 = .ok (.aload_n 0, 1) := by decide +kernel
theorem nd_M_dayEnd_74 : decode nc_M_dayEnd 74 = .ok (.iconst 0, 1) := by decide +kernel
theorem nd_M_dayEnd_75 : decode nc_M_dayEnd 75 = .ok (.putfield 118, 3) := by decide +kernel
theorem nd_M_dayEnd_78 : decode nc_M_dayEnd 78 = .ok (.aload_n 0, 1) := by decide +kernel
theorem nd_M_dayEnd_79 : decode nc_M_dayEnd 79 = .ok (.dup, 1) := by decide +kernel
theorem nd_M_dayEnd_80 : decode nc_M_dayEnd 80 = .ok (.getfield 90, 3) := by decide +kernel
theorem nd_M_dayEnd_83 : decode nc_M_dayEnd 83 = .ok (.iconst 1, 1) := by decide +kernel
theorem nd_M_dayEnd_84 : decode nc_M_dayEnd 84 = .ok (.iadd, 1) := by decide +kernel
theorem nd_M_dayEnd_85 : decode nc_M_dayEnd 85 = .ok (.putfield 90, 3) := by decide +kernel
theorem nd_M_dayEnd_88 : decode nc_M_dayEnd 88 = .ok (.iconst 1, 1) := by decide +kernel
theorem nd_M_dayEnd_89 : decode nc_M_dayEnd 89 = .ok (.ireturn, 1) := by decide +kernel
theorem nd_M_step_0 : decode nc_M_step 0 = .ok (.aload_n 0, 1) := by decide +kernel
theorem nd_M_step_1 : decode nc_M_step 1 = .ok (.iload_n 1, 1) := by decide +kernel
theorem nd_M_step_2 : decode nc_M_step 2 = .ok (.invokevirtual 168, 3) := by decide +kernel
theorem nd_M_step_5 : decode nc_M_step 5 = .ok (.istore_n 2, 1) := by decide +kernel
theorem nd_M_step_6 : decode nc_M_step 6 = .ok (.iconst 1, 1) := by decide +kernel
theorem nd_M_step_7 : decode nc_M_step 7 = .ok (.istore_n 3, 1) := by decide +kernel
theorem nd_M_step_8 : decode nc_M_step 8 = .ok (.iconst 1, 1) := by decide +kernel
theorem nd_M_step_9 : decode nc_M_step 9 = .ok (.iload_n 1, 1) := by decide +kernel
theorem nd_M_step_10 : decode nc_M_step 10 = .ok (.ishl, 1) := by decide +kernel
theorem nd_M_step_11 : decode nc_M_step 11 = .ok (.istore 4, 2) := by decide +kernel
theorem nd_M_step_13 : decode nc_M_step 13 = .ok (.iconst 0, 1) := by decide +kernel
theorem nd_M_step_14 : decode nc_M_step 14 = .ok (.istore 5, 2) := by decide +kernel
theorem nd_M_step_16 : decode nc_M_step 16 = .ok (.iload 5, 2) := by decide +kernel
theorem nd_M_step_18 : decode nc_M_step 18 = .ok (.aload_n 0, 1) := by decide +kernel
theorem nd_M_step_19 : decode nc_M_step 19 = .ok (.getfield 159, 3) := by decide +kernel
theorem nd_M_step_22 : decode nc_M_step 22 = .ok (.if_icmp .ge 36, 3) := by decide +kernel
theorem nd_M_step_25 : decode nc_M_step 25 = .ok (.iload_n 2, 1) := by decide +kernel
theorem nd_M_step_26 : decode nc_M_step 26 = .ok (.iload 5, 2) := by decide +kernel
theorem nd_M_step_28 : decode nc_M_step 28 = .ok (.ishr, 1) := by decide +kernel
theorem nd_M_step_29 : decode nc_M_step 29 = .ok (.iconst 1, 1) := by decide +kernel
theorem nd_M_step_30 : decode nc_M_step 30 = .ok (.iand, 1) := by decide +kernel
theorem nd_M_step_31 : decode nc_M_step 31 = .ok (.iconst 1, 1) := by decide +kernel
theorem nd_M_step_32 : decode nc_M_step 32 = .ok (.if_icmp .ne 20, 3) := by decide +kernel
theorem nd_M_step_35 : decode nc_M_step 35 = .ok (.iinc 3 1, 3) := by decide +kernel
theorem nd_M_step_38 : decode nc_M_step 38 = .ok (.iload 4, 2) := by decide +kernel
theorem nd_M_step_40 : decode nc_M_step 40 = .ok (.iconst 1, 1) := by decide +kernel
theorem nd_M_step_41 : decode nc_M_step 41 = .ok (.aload_n 0, 1) := by decide +kernel
theorem nd_M_step_42 : decode nc_M_step 42 = .ok (.getfield 41, 3) := by decide +kernel
theorem nd_M_step_45 : decode nc_M_step 45 = .ok (.iload 5, 2) := by decide +kernel
theorem nd_M_step_47 : decode nc_M_step 47 = .ok (.iaload, 1) := by decide +kernel
theorem nd_M_step_48 : decode nc_M_step 48 = .ok (.ishl, 1) := by decide +kernel
theorem nd_M_step_49 : decode nc_M_step 49 = .ok (.ior, 1) := by decide +kernel
theorem nd_M_step_50 : decode nc_M_step 50 = .ok (.istore 4, 2) := by decide +kernel
theorem nd_M_step_52 : decode nc_M_step 52 = .ok (.iinc 5 1, 3) := by decide +kernel
theorem nd_M_step_55 : decode nc_M_step 55 = .ok (.goto (-39), 3) := by decide +kernel
theorem nd_M_step_58 : decode nc_M_step 58 = .ok (.aload_n 0, 1) := by decide +kernel
theorem nd_M_step_59 : decode nc_M_step 59 = .ok (.iload_n 3, 1) := by decide +kernel
theorem nd_M_step_60 : decode nc_M_step 60 = .ok (.iload 4, 2) := by decide +kernel
theorem nd_M_step_62 : decode nc_M_step 62 = .ok (.invokevirtual 129, 3) := by decide +kernel
theorem nd_M_step_65 : decode nc_M_step 65 = .ok (.ifCond .ne 5, 3) := by decide +kernel
theorem nd_M_step_68 : decode nc_M_step 68 = .ok (.iconst 0, 1) := by decide +kernel
theorem nd_M_step_69 : decode nc_M_step 69 = .ok (.ireturn, 1) := by decide +kernel
theorem nd_M_step_70 : decode nc_M_step 70 = .ok (.iconst 0, 1) := by decide +kernel
theorem nd_M_step_71 : decode nc_M_step 71 = .ok (.istore 5, 2) := by decide +kernel
theorem nd_M_step_73 : decode nc_M_step 73 = .ok (.iload 5, 2) := by decide +kernel
theorem nd_M_step_75 : decode nc_M_step 75 = .ok (.aload_n 0, 1) := by decide +kernel
theorem nd_M_step_76 : decode nc_M_step 76 = .ok (.getfield 159, 3) := by decide +kernel
theorem nd_M_step_79 : decode nc_M_step 79 = .ok (.if_icmp .ge 77, 3) := by decide +kernel
theorem nd_M_step_82 : decode nc_M_step 82 = .ok (.iload_n 2, 1) := by decide +kernel
theorem nd_M_step_83 : decode nc_M_step 83 = .ok (.iload 5, 2) := by decide +kernel
theorem nd_M_step_85 : decode nc_M_step 85 = .ok (.ishr, 1) := by decide +kernel
theorem nd_M_step_86 : decode nc_M_step 86 = .ok (.iconst 1, 1) := by decide +kernel
theorem nd_M_step_87 : decode nc_M_step 87 = .ok (.iand, 1) := by decide +kernel
theorem nd_M_step_88 : decode nc_M_step 88 = .ok (.iconst 1, 1) := by decide +kernel
theorem nd_M_step_89 : decode nc_M_step 89 = .ok (.if_icmp .ne 25, 3) := by decide +kernel
theorem nd_M_step_92 : decode nc_M_step 92 = .ok (.aload_n 0, 1) := by decide +kernel
theorem nd_M_step_93 : decode nc_M_step 93 = .ok (.iload_n 1, 1) := by decide +kernel
theorem nd_M_step_94 : decode nc_M_step 94 = .ok (.aload_n 0, 1) := by decide +kernel
theorem nd_M_step_95 : decode nc_M_step 95 = .ok (.getfield 41, 3) := by decide +kernel
theorem nd_M_step_98 : decode nc_M_step 98 = .ok (.iload 5, 2) := by decide +kernel
theorem nd_M_step_100 : decode nc_M_step 100 = .ok (.iaload, 1) := by decide +kernel
theorem nd_M_step_101 : decode nc_M_step 101 = .ok (.aload_n 0, 1) := by decide +kernel
theorem nd_M_step_102 : decode nc_M_step 102 = .ok (.getfield 44, 3) := by decide +kernel
theorem nd_M_step_105 : decode nc_M_step 105 = .ok (.iload 5, 2) := by decide +kernel
theorem nd_M_step_107 : decode nc_M_step 107 = .ok (.iaload, 1) := by decide +kernel
theorem nd_M_step_108 : decode nc_M_step 108 = .ok (.invokevirtual 152, 3) := by decide +kernel
theorem nd_M_step_111 : decode nc_M_step 111 = .ok (.goto 39, 3) := by decide +kernel
theorem nd_M_step_114 : decode nc_M_step 114 = .ok (.aload_n 0, 1) := by decide +kernel
theorem nd_M_step_115 : decode nc_M_step 115 = .ok (.getfield 38, 3) := by decide +kernel
theorem nd_M_step_118 : decode nc_M_step 118 = .ok (.iload 5, 2) := by decide +kernel
theorem nd_M_step_120 : decode nc_M_step 120 = .ok (.iaload, 1) := by decide +kernel
theorem nd_M_step_121 : decode nc_M_step 121 = .ok (.iload_n 1, 1) := by decide +kernel
theorem nd_M_step_122 : decode nc_M_step 122 = .ok (.if_icmp .ne 28, 3) := by decide +kernel
theorem nd_M_step_125 : decode nc_M_step 125 = .ok (.aload_n 0, 1) := by decide +kernel
theorem nd_M_step_126 : decode nc_M_step 126 = .ok (.aload_n 0, 1) := by decide +kernel
theorem nd_M_step_127 : decode nc_M_step 127 = .ok (.getfield 47, 3) := by decide +kernel
theorem nd_M_step_130 : decode nc_M_step 130 = .ok (.iload 5, 2) := by decide +kernel
theorem nd_M_step_132 : decode nc_M_step 132 = .ok (.iaload, 1) := by decide +kernel
theorem nd_M_step_133 : decode nc_M_step 133 = .ok (.invokevirtual 165, 3) := by decide +kernel
theorem nd_M_step_136 : decode nc_M_step 136 = .ok (.ifCond .eq 14, 3) := by decide +kernel
theorem nd_M_step_139 : decode nc_M_step 139 = .ok (.aload_n 0, 1) := by decide +kernel
theorem nd_M_step_140 : decode nc_M_step 140 = .ok (.getfield 50, 3) := by decide +kernel
theorem nd_M_step_143 : decode nc_M_step 143 = .ok (.iload 5, 2) := by decide +kernel
theorem nd_M_step_145 : decode nc_M_step 145 = .ok (.dup2, 1) := by decide +kernel
theorem nd_M_step_146 : decode nc_M_step 146 = .ok (.iaload, 1) := by decide +kernel
theorem nd_M_step_147 : decode nc_M_step 147 = .ok (.iconst 1, 1) := by decide +kernel
theorem nd_M_step_148 : decode nc_M_step 148 = .ok (.iadd, 1) := by decide +kernel
theorem nd_M_step_149 : decode nc_M_step 149 = .ok (.iastore, 1) := by decide +kernel
theorem nd_M_step_150 : decode nc_M_step 150 = .ok (.iinc 5 1, 3) := by decide +kernel
theorem nd_M_step_153 : decode nc_M_step 153 = .ok (.goto (-80), 3) := by decide +kernel
theorem nd_M_step_156 : decode nc_M_step 156 = .ok (.aload_n 0, 1) := by decide +kernel
theorem nd_M_step_157 : decode nc_M_step 157 = .ok (.iload_n 1, 1) := by decide +kernel
theorem nd_M_step_158 : decode nc_M_step 158 = .ok (.invokevirtual 172, 3) := by decide +kernel
theorem nd_M_step_161 : decode nc_M_step 161 = .ok (.aload_n 0, 1) := by decide +kernel
theorem nd_M_step_162 : decode nc_M_step 162 = .ok (.getfield 22, 3) := by decide +kernel
theorem nd_M_step_165 : decode nc_M_step 165 = .ok (.iload_n 1, 1) := by decide +kernel
theorem nd_M_step_166 : decode nc_M_step 166 = .ok (.aload_n 0, 1) := by decide +kernel
theorem nd_M_step_167 : decode nc_M_step 167 = .ok (.getfield 90, 3) := by decide +kernel
theorem nd_M_step_170 : decode nc_M_step 170 = .ok (.iastore, 1) := by decide +kernel
theorem nd_M_step_171 : decode nc_M_step 171 = .ok (.iconst 1, 1) := by decide +kernel
theorem nd_M_step_172 : decode nc_M_step 172 = .ok (.ireturn, 1) := by decide +kernel
theorem nd_M_paidOrders_0 : decode nc_M_paidOrders 0 = .ok (.iconst 0, 1) := by decide +kernel
theorem nd_M_paidOrders_1 : decode nc_M_paidOrders 1 = .ok (.istore_n 2, 1) := by decide +kernel
theorem nd_M_paidOrders_2 : decode nc_M_paidOrders 2 = .ok (.aload_n 0, 1) := by decide +kernel
theorem nd_M_paidOrders_3 : decode nc_M_paidOrders 3 = .ok (.iload_n 1, 1) := by decide +kernel
theorem nd_M_paidOrders_4 : decode nc_M_paidOrders 4 = .ok (.invokevirtual 142, 3) := by decide +kernel
theorem nd_M_paidOrders_7 : decode nc_M_paidOrders 7 = .ok (.lstore_n 3, 1) := by decide +kernel
theorem nd_M_paidOrders_8 : decode nc_M_paidOrders 8 = .ok (.iconst 0, 1) := by decide +kernel
theorem nd_M_paidOrders_9 : decode nc_M_paidOrders 9 = .ok (.istore 5, 2) := by decide +kernel
theorem nd_M_paidOrders_11 : decode nc_M_paidOrders 11 = .ok (.iload 5, 2) := by decide +kernel
theorem nd_M_paidOrders_13 : decode nc_M_paidOrders 13 = .ok (.aload_n 0, 1) := by decide +kernel
theorem nd_M_paidOrders_14 : decode nc_M_paidOrders 14 = .ok (.getfield 159, 3) := by decide +kernel
theorem nd_M_paidOrders_17 : decode nc_M_paidOrders 17 = .ok (.if_icmp .ge 65, 3) := by decide +kernel
theorem nd_M_paidOrders_20 : decode nc_M_paidOrders 20 = .ok (.aload_n 0, 1) := by decide +kernel
theorem nd_M_paidOrders_21 : decode nc_M_paidOrders 21 = .ok (.getfield 38, 3) := by decide +kernel
theorem nd_M_paidOrders_24 : decode nc_M_paidOrders 24 = .ok (.iload 5, 2) := by decide +kernel
theorem nd_M_paidOrders_26 : decode nc_M_paidOrders 26 = .ok (.iaload, 1) := by decide +kernel
theorem nd_M_paidOrders_27 : decode nc_M_paidOrders 27 = .ok (.iload_n 1, 1) := by decide +kernel
theorem nd_M_paidOrders_28 : decode nc_M_paidOrders 28 = .ok (.if_icmp .ne 48, 3) := by decide +kernel
theorem nd_M_paidOrders_31 : decode nc_M_paidOrders 31 = .ok (.aload_n 0, 1) := by decide +kernel
theorem nd_M_paidOrders_32 : decode nc_M_paidOrders 32 = .ok (.getfield 44, 3) := by decide +kernel
theorem nd_M_paidOrders_35 : decode nc_M_paidOrders 35 = .ok (.iload 5, 2) := by decide +kernel
theorem nd_M_paidOrders_37 : decode nc_M_paidOrders 37 = .ok (.iaload, 1) := by decide +kernel
theorem nd_M_paidOrders_38 : decode nc_M_paidOrders 38 = .ok (.i2l, 1) := by decide +kernel
theorem nd_M_paidOrders_39 : decode nc_M_paidOrders 39 = .ok (.lload_n 3, 1) := by decide +kernel
theorem nd_M_paidOrders_40 : decode nc_M_paidOrders 40 = .ok (.lcmp, 1) := by decide +kernel
theorem nd_M_paidOrders_41 : decode nc_M_paidOrders 41 = .ok (.ifCond .gt 35, 3) := by decide +kernel
theorem nd_M_paidOrders_44 : decode nc_M_paidOrders 44 = .ok (.aload_n 0, 1) := by decide +kernel
theorem nd_M_paidOrders_45 : decode nc_M_paidOrders 45 = .ok (.aload_n 0, 1) := by decide +kernel
theorem nd_M_paidOrders_46 : decode nc_M_paidOrders 46 = .ok (.getfield 47, 3) := by decide +kernel
theorem nd_M_paidOrders_49 : decode nc_M_paidOrders 49 = .ok (.iload 5, 2) := by decide +kernel
theorem nd_M_paidOrders_51 : decode nc_M_paidOrders 51 = .ok (.iaload, 1) := by decide +kernel
theorem nd_M_paidOrders_52 : decode nc_M_paidOrders 52 = .ok (.invokevirtual 165, 3) := by decide +kernel
theorem nd_M_paidOrders_55 : decode nc_M_paidOrders 55 = .ok (.ifCond .eq 21, 3) := by decide +kernel
theorem nd_M_paidOrders_58 : decode nc_M_paidOrders 58 = .ok (.iload_n 2, 1) := by decide +kernel
theorem nd_M_paidOrders_59 : decode nc_M_paidOrders 59 = .ok (.iconst 1, 1) := by decide +kernel
theorem nd_M_paidOrders_60 : decode nc_M_paidOrders 60 = .ok (.iload 5, 2) := by decide +kernel
theorem nd_M_paidOrders_62 : decode nc_M_paidOrders 62 = .ok (.ishl, 1) := by decide +kernel
theorem nd_M_paidOrders_63 : decode nc_M_paidOrders 63 = .ok (.ior, 1) := by decide +kernel
theorem nd_M_paidOrders_64 : decode nc_M_paidOrders 64 = .ok (.istore_n 2, 1) := by decide +kernel
theorem nd_M_paidOrders_65 : decode nc_M_paidOrders 65 = .ok (.lload_n 3, 1) := by decide +kernel
theorem nd_M_paidOrders_66 : decode nc_M_paidOrders 66 = .ok (.aload_n 0, 1) := by decide +kernel
theorem nd_M_paidOrders_67 : decode nc_M_paidOrders 67 = .ok (.getfield 44, 3) := by decide +kernel
theorem nd_M_paidOrders_70 : decode nc_M_paidOrders 70 = .ok (.iload 5, 2) := by decide +kernel
theorem nd_M_paidOrders_72 : decode nc_M_paidOrders 72 = .ok (.iaload, 1) := by decide +kernel
theorem nd_M_paidOrders_73 : decode nc_M_paidOrders 73 = .ok (.i2l, 1) := by decide +kernel
theorem nd_M_paidOrders_74 : decode nc_M_paidOrders 74 = .ok (.lsub, 1) := by decide +kernel
theorem nd_M_paidOrders_75 : decode nc_M_paidOrders 75 = .ok (.lstore_n 3, 1) := by decide +kernel
theorem nd_M_paidOrders_76 : decode nc_M_paidOrders 76 = .ok (.iinc 5 1, 3) := by decide +kernel
theorem nd_M_paidOrders_79 : decode nc_M_paidOrders 79 = .ok (.goto (-68), 3) := by decide +kernel
theorem nd_M_paidOrders_82 : decode nc_M_paidOrders 82 = .ok (.iload_n 2, 1) := by decide +kernel
theorem nd_M_paidOrders_83 : decode nc_M_paidOrders 83 = .ok (.ireturn, 1) := by decide +kernel
theorem nd_M_due_0 : decode nc_M_due 0 = .ok (.aload_n 0, 1) := by decide +kernel
theorem nd_M_due_1 : decode nc_M_due 1 = .ok (.aload_n 0, 1) := by decide +kernel
theorem nd_M_due_2 : decode nc_M_due 2 = .ok (.getfield 90, 3) := by decide +kernel
theorem nd_M_due_5 : decode nc_M_due 5 = .ok (.invokevirtual 83, 3) := by decide +kernel
theorem nd_M_due_8 : decode nc_M_due 8 = .ok (.aload_n 0, 1) := by decide +kernel
theorem nd_M_due_9 : decode nc_M_due 9 = .ok (.getfield 90, 3) := by decide +kernel
theorem nd_M_due_12 : decode nc_M_due 12 = .ok (.aload_n 0, 1) := by decide +kernel
theorem nd_M_due_13 : decode nc_M_due 13 = .ok (.getfield 80, 3) := by decide +kernel
theorem nd_M_due_16 : decode nc_M_due 16 = .ok (.isub, 1) := by decide +kernel
theorem nd_M_due_17 : decode nc_M_due 17 = .ok (.iconst 1, 1) := by decide +kernel
theorem nd_M_due_18 : decode nc_M_due 18 = .ok (.iadd, 1) := by decide +kernel
theorem nd_M_due_19 : decode nc_M_due 19 = .ok (.istore_n 2, 1) := by decide +kernel
theorem nd_M_due_20 : decode nc_M_due 20 = .ok (.aload_n 0, 1) := by decide +kernel
theorem nd_M_due_21 : decode nc_M_due 21 = .ok (.getfield 70, 3) := by decide +kernel
theorem nd_M_due_24 : decode nc_M_due 24 = .ok (.aload_n 0, 1) := by decide +kernel
theorem nd_M_due_25 : decode nc_M_due 25 = .ok (.getfield 73, 3) := by decide +kernel
theorem nd_M_due_28 : decode nc_M_due 28 = .ok (.invokestatic 76, 3) := by decide +kernel
theorem nd_M_due_31 : decode nc_M_due 31 = .ok (.istore_n 3, 1) := by decide +kernel
theorem nd_M_due_32 : decode nc_M_due 32 = .ok (.iload_n 2, 1) := by decide +kernel
theorem nd_M_due_33 : decode nc_M_due 33 = .ok (.iload_n 1, 1) := by decide +kernel
theorem nd_M_due_34 : decode nc_M_due 34 = .ok (.iload_n 3, 1) := by decide +kernel
theorem nd_M_due_35 : decode nc_M_due 35 = .ok (.if_icmp .ge 7, 3) := by decide +kernel
theorem nd_M_due_38 : decode nc_M_due 38 = .ok (.iload_n 1, 1) := by decide +kernel
theorem nd_M_due_39 : decode nc_M_due 39 = .ok (.goto 4, 3) := by decide +kernel
theorem nd_M_due_42 : decode nc_M_due 42 = .ok (.iload_n 3, 1) := by decide +kernel
theorem nd_M_due_43 : decode nc_M_due 43 = .ok (.iadd, 1) := by decide +kernel
theorem nd_M_due_44 : decode nc_M_due 44 = .ok (.iconst 1, 1) := by decide +kernel
theorem nd_M_due_45 : decode nc_M_due 45 = .ok (.isub, 1) := by decide +kernel
theorem nd_M_due_46 : decode nc_M_due 46 = .ok (.istore 4, 2) := by decide +kernel
theorem nd_M_due_48 : decode nc_M_due 48 = .ok (.iload 4, 2) := by decide +kernel
theorem nd_M_due_50 : decode nc_M_due 50 = .ok (.istore 5, 2) := by decide +kernel
theorem nd_M_due_52 : decode nc_M_due 52 = .ok (.iconst 0, 1) := by decide +kernel
theorem nd_M_due_53 : decode nc_M_due 53 = .ok (.istore 6, 2) := by decide +kernel
theorem nd_M_due_55 : decode nc_M_due 55 = .ok (.iload 6, 2) := by decide +kernel
theorem nd_M_due_57 : decode nc_M_due 57 = .ok (.bipush 40, 2) := by decide +kernel
theorem nd_M_due_59 : decode nc_M_due 59 = .ok (.if_icmp .ge 21, 3) := by decide +kernel
theorem nd_M_due_62 : decode nc_M_due 62 = .ok (.aload_n 0, 1) := by decide +kernel
theorem nd_M_due_63 : decode nc_M_due 63 = .ok (.iload 5, 2) := by decide +kernel
theorem nd_M_due_65 : decode nc_M_due 65 = .ok (.invokevirtual 93, 3) := by decide +kernel
theorem nd_M_due_68 : decode nc_M_due 68 = .ok (.ifCond .eq 12, 3) := by decide +kernel
theorem nd_M_due_71 : decode nc_M_due 71 = .ok (.iinc 5 1, 3) := by decide +kernel
theorem nd_M_due_74 : decode nc_M_due 74 = .ok (.iinc 6 1, 3) := by decide +kernel
theorem nd_M_due_77 : decode nc_M_due 77 = .ok (.goto (-22), 3) := by decide +kernel
theorem nd_M_due_80 : decode nc_M_due 80 = .ok (.iload 5, 2) := by decide +kernel
theorem nd_M_due_82 : decode nc_M_due 82 = .ok (.iload_n 2, 1) := by decide +kernel
theorem nd_M_due_83 : decode nc_M_due 83 = .ok (.iload_n 3, 1) := by decide +kernel
theorem nd_M_due_84 : decode nc_M_due 84 = .ok (.iadd, 1) := by decide +kernel
theorem nd_M_due_85 : decode nc_M_due 85 = .ok (.if_icmp .ge 18, 3) := by decide +kernel
theorem nd_M_due_88 : decode nc_M_due 88 = .ok (.iload 5, 2) := by decide +kernel
theorem nd_M_due_90 : decode nc_M_due 90 = .ok (.aload_n 0, 1) := by decide +kernel
theorem nd_M_due_91 : decode nc_M_due 91 = .ok (.getfield 90, 3) := by decide +kernel
theorem nd_M_due_94 : decode nc_M_due 94 = .ok (.if_icmp .ne 7, 3) := by decide +kernel
theorem nd_M_due_97 : decode nc_M_due 97 = .ok (.iconst 1, 1) := by decide +kernel
theorem nd_M_due_98 : decode nc_M_due 98 = .ok (.goto 4, 3) := by decide +kernel
theorem nd_M_due_101 : decode nc_M_due 101 = .ok (.iconst 0, 1) := by decide +kernel
theorem nd_M_due_102 : decode nc_M_due 102 = .ok (.ireturn, 1) := by decide +kernel
theorem nd_M_due_103 : decode nc_M_due 103 = .ok (.iconst 0, 1) := by decide +kernel
theorem nd_M_due_104 : decode nc_M_due 104 = .ok (.istore 6, 2) := by decide +kernel
theorem nd_M_due_106 : decode nc_M_due 106 = .ok (.iload 6, 2) := by decide +kernel
theorem nd_M_due_108 : decode nc_M_due 108 = .ok (.bipush 40, 2) := by decide +kernel
theorem nd_M_due_110 : decode nc_M_due 110 = .ok (.if_icmp .ge 21, 3) := by decide +kernel
theorem nd_M_due_113 : decode nc_M_due 113 = .ok (.aload_n 0, 1) := by decide +kernel
theorem nd_M_due_114 : decode nc_M_due 114 = .ok (.iload 4, 2) := by decide +kernel
theorem nd_M_due_116 : decode nc_M_due 116 = .ok (.invokevirtual 93, 3) := by decide +kernel
theorem nd_M_due_119 : decode nc_M_due 119 = .ok (.ifCond .eq 12, 3) := by decide +kernel
theorem nd_M_due_122 : decode nc_M_due 122 = .ok (.iinc 4 (-1), 3) := by decide +kernel
theorem nd_M_due_125 : decode nc_M_due 125 = .ok (.iinc 6 1, 3) := by decide +kernel
theorem nd_M_due_128 : decode nc_M_due 128 = .ok (.goto (-22), 3) := by decide +kernel
theorem nd_M_due_131 : decode nc_M_due 131 = .ok (.iload 4, 2) := by decide +kernel
theorem nd_M_due_133 : decode nc_M_due 133 = .ok (.aload_n 0, 1) := by decide +kernel
theorem nd_M_due_134 : decode nc_M_due 134 = .ok (.getfield 90, 3) := by decide +kernel
theorem nd_M_due_137 : decode nc_M_due 137 = .ok (.if_icmp .ne 7, 3) := by decide +kernel
theorem nd_M_due_140 : decode nc_M_due 140 = .ok (.iconst 1, 1) := by decide +kernel
theorem nd_M_due_141 : decode nc_M_due 141 = .ok (.goto 4, 3) := by decide +kernel
theorem nd_M_due_144 : decode nc_M_due 144 = .ok (.iconst 0, 1) := by decide +kernel
theorem nd_M_due_145 : decode nc_M_due 145 = .ok (.ireturn, 1) := by decide +kernel
theorem nd_M_grow_0 : decode nc_M_grow 0 = .ok (.aload_n 0, 1) := by decide +kernel
theorem nd_M_grow_1 : decode nc_M_grow 1 = .ok (.getfield 29, 3) := by decide +kernel
theorem nd_M_grow_4 : decode nc_M_grow 4 = .ok (.iload_n 1, 1) := by decide +kernel
theorem nd_M_grow_5 : decode nc_M_grow 5 = .ok (.dup2, 1) := by decide +kernel
theorem nd_M_grow_6 : decode nc_M_grow 6 = .ok (.laload, 1) := by decide +kernel
theorem nd_M_grow_7 : decode nc_M_grow 7 = .ok (.aload_n 0, 1) := by decide +kernel
theorem nd_M_grow_8 : decode nc_M_grow 8 = .ok (.getfield 25, 3) := by decide +kernel
theorem nd_M_grow_11 : decode nc_M_grow 11 = .ok (.iload_n 1, 1) := by decide +kernel
theorem nd_M_grow_12 : decode nc_M_grow 12 = .ok (.laload, 1) := by decide +kernel
theorem nd_M_grow_13 : decode nc_M_grow 13 = .ok (.aload_n 0, 1) := by decide +kernel
theorem nd_M_grow_14 : decode nc_M_grow 14 = .ok (.getfield 19, 3) := by decide +kernel
theorem nd_M_grow_17 : decode nc_M_grow 17 = .ok (.iload_n 1, 1) := by decide +kernel
theorem nd_M_grow_18 : decode nc_M_grow 18 = .ok (.iaload, 1) := by decide +kernel
theorem nd_M_grow_19 : decode nc_M_grow 19 = .ok (.i2l, 1) := by decide +kernel
theorem nd_M_grow_20 : decode nc_M_grow 20 = .ok (.lmul, 1) := by decide +kernel
theorem nd_M_grow_21 : decode nc_M_grow 21 = .ok (.aload_n 0, 1) := by decide +kernel
theorem nd_M_grow_22 : decode nc_M_grow 22 = .ok (.aload_n 0, 1) := by decide +kernel
theorem nd_M_grow_23 : decode nc_M_grow 23 = .ok (.getfield 13, 3) := by decide +kernel
theorem nd_M_grow_26 : decode nc_M_grow 26 = .ok (.iload_n 1, 1) := by decide +kernel
theorem nd_M_grow_27 : decode nc_M_grow 27 = .ok (.iaload, 1) := by decide +kernel
theorem nd_M_grow_28 : decode nc_M_grow 28 = .ok (.aload_n 0, 1) := by decide +kernel
theorem nd_M_grow_29 : decode nc_M_grow 29 = .ok (.getfield 90, 3) := by decide +kernel
theorem nd_M_grow_32 : decode nc_M_grow 32 = .ok (.aload_n 0, 1) := by decide +kernel
theorem nd_M_grow_33 : decode nc_M_grow 33 = .ok (.getfield 90, 3) := by decide +kernel
theorem nd_M_grow_36 : decode nc_M_grow 36 = .ok (.iconst 1, 1) := by decide +kernel
theorem nd_M_grow_37 : decode nc_M_grow 37 = .ok (.iadd, 1) := by decide +kernel
theorem nd_M_grow_38 : decode nc_M_grow 38 = .ok (.invokevirtual 175, 3) := by decide +kernel
theorem nd_M_grow_41 : decode nc_M_grow 41 = .ok (.i2l, 1) := by decide +kernel
theorem nd_M_grow_42 : decode nc_M_grow 42 = .ok (.lmul, 1) := by decide +kernel
theorem nd_M_grow_43 : decode nc_M_grow 43 = .ok (.ladd, 1) := by decide +kernel
theorem nd_M_grow_44 : decode nc_M_grow 44 = .ok (.lastore, 1) := by decide +kernel
theorem nd_M_grow_45 : decode nc_M_grow 45 = .ok (.aload_n 0, 1) := by decide +kernel
theorem nd_M_grow_46 : decode nc_M_grow 46 = .ok (.aload_n 0, 1) := by decide +kernel
theorem nd_M_grow_47 : decode nc_M_grow 47 = .ok (.getfield 90, 3) := by decide +kernel
theorem nd_M_grow_50 : decode nc_M_grow 50 = .ok (.invokevirtual 83, 3) := by decide +kernel
theorem nd_M_grow_53 : decode nc_M_grow 53 = .ok (.aload_n 0, 1) := by decide +kernel
theorem nd_M_grow_54 : decode nc_M_grow 54 = .ok (.getfield 80, 3) := by decide +kernel
theorem nd_M_grow_57 : decode nc_M_grow 57 = .ok (.aload_n 0, 1) := by decide +kernel
theorem nd_M_grow_58 : decode nc_M_grow 58 = .ok (.getfield 70, 3) := by decide +kernel
theorem nd_M_grow_61 : decode nc_M_grow 61 = .ok (.aload_n 0, 1) := by decide +kernel
theorem nd_M_grow_62 : decode nc_M_grow 62 = .ok (.getfield 73, 3) := by decide +kernel
theorem nd_M_grow_65 : decode nc_M_grow 65 = .ok (.invokestatic 76, 3) := by decide +kernel
theorem nd_M_grow_68 : decode nc_M_grow 68 = .ok (.if_icmp .eq 4, 3) := by decide +kernel
theorem nd_M_grow_71 : decode nc_M_grow 71 = .ok (.return_, 1) := by decide +kernel
theorem nd_M_grow_72 : decode nc_M_grow 72 = .ok (.ldc2_w 179, 3) := by decide +kernel
theorem nd_M_grow_75 : decode nc_M_grow 75 = .ok (.aload_n 0, 1) := by decide +kernel
theorem nd_M_grow_76 : decode nc_M_grow 76 = .ok (.getfield 13, 3) := by decide +kernel
theorem nd_M_grow_79 : decode nc_M_grow 79 = .ok (.iload_n 1, 1) := by decide +kernel
theorem nd_M_grow_80 : decode nc_M_grow 80 = .ok (.iaload, 1) := by decide +kernel
theorem nd_M_grow_81 : decode nc_M_grow 81 = .ok (.ifCond .ne 9, 3) := by decide +kernel
theorem nd_M_grow_84 : decode nc_M_grow 84 = .ok (.sipush 365, 3) := by decide +kernel
theorem nd_M_grow_87 : decode nc_M_grow 87 = .ok (.goto 6, 3) := by decide +kernel
theorem nd_M_grow_90 : decode nc_M_grow 90 = .ok (.sipush 360, 3) := by decide +kernel
theorem nd_M_grow_93 : decode nc_M_grow 93 = .ok (.i2l, 1) := by decide +kernel
theorem nd_M_grow_94 : decode nc_M_grow 94 = .ok (.lmul, 1) := by decide +kernel
theorem nd_M_grow_95 : decode nc_M_grow 95 = .ok (.lstore_n 2, 1) := by decide +kernel
theorem nd_M_grow_96 : decode nc_M_grow 96 = .ok (.aload_n 0, 1) := by decide +kernel
theorem nd_M_grow_97 : decode nc_M_grow 97 = .ok (.getfield 29, 3) := by decide +kernel
theorem nd_M_grow_100 : decode nc_M_grow 100 = .ok (.iload_n 1, 1) := by decide +kernel
theorem nd_M_grow_101 : decode nc_M_grow 101 = .ok (.laload, 1) := by decide +kernel
theorem nd_M_grow_102 : decode nc_M_grow 102 = .ok (.lload_n 2, 1) := by decide +kernel
theorem nd_M_grow_103 : decode nc_M_grow 103 = .ok (.ldiv, 1) := by decide +kernel
theorem nd_M_grow_104 : decode nc_M_grow 104 = .ok (.lstore 4, 2) := by decide +kernel
theorem nd_M_grow_106 : decode nc_M_grow 106 = .ok (.aload_n 0, 1) := by decide +kernel
theorem nd_M_grow_107 : decode nc_M_grow 107 = .ok (.getfield 29, 3) := by decide +kernel
theorem nd_M_grow_110 : decode nc_M_grow 110 = .ok (.iload_n 1, 1) := by decide +kernel
theorem nd_M_grow_111 : decode nc_M_grow 111 = .ok (.laload, 1) := by decide +kernel
theorem nd_M_grow_112 : decode nc_M_grow 112 = .ok (.lload 4, 2) := by decide +kernel
theorem nd_M_grow_114 : decode nc_M_grow 114 = .ok (.lload_n 2, 1) := by decide +kernel
theorem nd_M_grow_115 : decode nc_M_grow 115 = .ok (.lmul, 1) := by decide +kernel
theorem nd_M_grow_116 : decode nc_M_grow 116 = .ok (.lsub, 1) := by decide +kernel
theorem nd_M_grow_117 : decode nc_M_grow 117 = .ok (.lstore 6, 2) := by decide +kernel
theorem nd_M_grow_119 : decode nc_M_grow 119 = .ok (.lload 6, 2) := by decide +kernel
theorem nd_M_grow_121 : decode nc_M_grow 121 = .ok (.lconst 0, 1) := by decide +kernel
theorem nd_M_grow_122 : decode nc_M_grow 122 = .ok (.lcmp, 1) := by decide +kernel
theorem nd_M_grow_123 : decode nc_M_grow 123 = .ok (.ifCond .ge 15, 3) := by decide +kernel
theorem nd_M_grow_126 : decode nc_M_grow 126 = .ok (.lload 4, 2) := by decide +kernel
theorem nd_M_grow_128 : decode nc_M_grow 128 = .ok (.lconst 1, 1) := by decide +kernel
theorem nd_M_grow_129 : decode nc_M_grow 129 = .ok (.lsub, 1) := by decide +kernel
theorem nd_M_grow_130 : decode nc_M_grow 130 = .ok (.lstore 4, 2) := by decide +kernel
theorem nd_M_grow_132 : decode nc_M_grow 132 = .ok (.lload 6, 2) := by decide +kernel
theorem nd_M_grow_134 : decode nc_M_grow 134 = .ok (.lload_n 2, 1) := by decide +kernel
theorem nd_M_grow_135 : decode nc_M_grow 135 = .ok (.ladd, 1) := by decide +kernel
theorem nd_M_grow_136 : decode nc_M_grow 136 = .ok (.lstore 6, 2) := by decide +kernel
theorem nd_M_grow_138 : decode nc_M_grow 138 = .ok (.ldc2_w 181, 3) := by decide +kernel
theorem nd_M_grow_141 : decode nc_M_grow 141 = .ok (.lload 6, 2) := by decide +kernel
theorem nd_M_grow_143 : decode nc_M_grow 143 = .ok (.lmul, 1) := by decide +kernel
theorem nd_M_grow_144 : decode nc_M_grow 144 = .ok (.lload_n 2, 1) := by decide +kernel
theorem nd_M_grow_145 : decode nc_M_grow 145 = .ok (.lcmp, 1) := by decide +kernel
theorem nd_M_grow_146 : decode nc_M_grow 146 = .ok (.ifCond .gt 23, 3) := by decide +kernel
theorem nd_M_grow_149 : decode nc_M_grow 149 = .ok (.ldc2_w 181, 3) := by decide +kernel
theorem nd_M_grow_152 : decode nc_M_grow 152 = .ok (.lload 6, 2) := by decide +kernel
theorem nd_M_grow_154 : decode nc_M_grow 154 = .ok (.lmul, 1) := by decide +kernel
theorem nd_M_grow_155 : decode nc_M_grow 155 = .ok (.lload_n 2, 1) := by decide +kernel
theorem nd_M_grow_156 : decode nc_M_grow 156 = .ok (.lcmp, 1) := by decide +kernel
theorem nd_M_grow_157 : decode nc_M_grow 157 = .ok (.ifCond .ne 16, 3) := by decide +kernel
theorem nd_M_grow_160 : decode nc_M_grow 160 = .ok (.lload 4, 2) := by decide +kernel
theorem nd_M_grow_162 : decode nc_M_grow 162 = .ok (.lconst 1, 1) := by decide +kernel
theorem nd_M_grow_163 : decode nc_M_grow 163 = .ok (.land, 1) := by decide +kernel
theorem nd_M_grow_164 : decode nc_M_grow 164 = .ok (.lconst 1, 1) := by decide +kernel
theorem nd_M_grow_165 : decode nc_M_grow 165 = .ok (.lcmp, 1) := by decide +kernel
theorem nd_M_grow_166 : decode nc_M_grow 166 = .ok (.ifCond .ne 7, 3) := by decide +kernel
theorem nd_M_grow_169 : decode nc_M_grow 169 = .ok (.iconst 1, 1) := by decide +kernel
theorem nd_M_grow_170 : decode nc_M_grow 170 = .ok (.goto 4, 3) := by decide +kernel
theorem nd_M_grow_173 : decode nc_M_grow 173 = .ok (.iconst 0, 1) := by decide +kernel
theorem nd_M_grow_174 : decode nc_M_grow 174 = .ok (.istore 8, 2) := by decide +kernel
theorem nd_M_grow_176 : decode nc_M_grow 176 = .ok (.iload 8, 2) := by decide +kernel
theorem nd_M_grow_178 : decode nc_M_grow 178 = .ok (.ifCond .eq 10, 3) := by decide +kernel
theorem nd_M_grow_181 : decode nc_M_grow 181 = .ok (.lload 4, 2) := by decide +kernel
theorem nd_M_grow_183 : decode nc_M_grow 183 = .ok (.lconst 1, 1) := by decide +kernel
theorem nd_M_grow_184 : decode nc_M_grow 184 = .ok (.ladd, 1) := by decide +kernel
theorem nd_M_grow_185 : decode nc_M_grow 185 = .ok (.goto 5, 3) := by decide +kernel
theorem nd_M_grow_188 : decode nc_M_grow 188 = .ok (.lload 4, 2) := by decide +kernel
theorem nd_M_grow_190 : decode nc_M_grow 190 = .ok (.lstore 4, 2) := by decide +kernel
theorem nd_M_grow_192 : decode nc_M_grow 192 = .ok (.aload_n 0, 1) := by decide +kernel
theorem nd_M_grow_193 : decode nc_M_grow 193 = .ok (.getfield 25, 3) := by decide +kernel
theorem nd_M_grow_196 : decode nc_M_grow 196 = .ok (.iload_n 1, 1) := by decide +kernel
theorem nd_M_grow_197 : decode nc_M_grow 197 = .ok (.dup2, 1) := by decide +kernel
theorem nd_M_grow_198 : decode nc_M_grow 198 = .ok (.laload, 1) := by decide +kernel
theorem nd_M_grow_199 : decode nc_M_grow 199 = .ok (.lload 4, 2) := by decide +kernel
theorem nd_M_grow_201 : decode nc_M_grow 201 = .ok (.ladd, 1) := by decide +kernel
theorem nd_M_grow_202 : decode nc_M_grow 202 = .ok (.lastore, 1) := by decide +kernel
theorem nd_M_grow_203 : decode nc_M_grow 203 = .ok (.aload_n 0, 1) := by decide +kernel
theorem nd_M_grow_204 : decode nc_M_grow 204 = .ok (.getfield 59, 3) := by decide +kernel
theorem nd_M_grow_207 : decode nc_M_grow 207 = .ok (.aload_n 0, 1) := by decide +kernel
theorem nd_M_grow_208 : decode nc_M_grow 208 = .ok (.getfield 7, 3) := by decide +kernel
theorem nd_M_grow_211 : decode nc_M_grow 211 = .ok (.iload_n 1, 1) := by decide +kernel
theorem nd_M_grow_212 : decode nc_M_grow 212 = .ok (.iaload, 1) := by decide +kernel
theorem nd_M_grow_213 : decode nc_M_grow 213 = .ok (.dup2, 1) := by decide +kernel
theorem nd_M_grow_214 : decode nc_M_grow 214 = .ok (.laload, 1) := by decide +kernel
theorem nd_M_grow_215 : decode nc_M_grow 215 = .ok (.lload 4, 2) := by decide +kernel
theorem nd_M_grow_217 : decode nc_M_grow 217 = .ok (.ladd, 1) := by decide +kernel
theorem nd_M_grow_218 : decode nc_M_grow 218 = .ok (.lastore, 1) := by decide +kernel
theorem nd_M_grow_219 : decode nc_M_grow 219 = .ok (.aload_n 0, 1) := by decide +kernel
theorem nd_M_grow_220 : decode nc_M_grow 220 = .ok (.getfield 29, 3) := by decide +kernel
theorem nd_M_grow_223 : decode nc_M_grow 223 = .ok (.iload_n 1, 1) := by decide +kernel
theorem nd_M_grow_224 : decode nc_M_grow 224 = .ok (.dup2, 1) := by decide +kernel
theorem nd_M_grow_225 : decode nc_M_grow 225 = .ok (.laload, 1) := by decide +kernel
theorem nd_M_grow_226 : decode nc_M_grow 226 = .ok (.lload 4, 2) := by decide +kernel
theorem nd_M_grow_228 : decode nc_M_grow 228 = .ok (.lload_n 2, 1) := by decide +kernel
theorem nd_M_grow_229 : decode nc_M_grow 229 = .ok (.lmul, 1) := by decide +kernel
theorem nd_M_grow_230 : decode nc_M_grow 230 = .ok (.lsub, 1) := by decide +kernel
theorem nd_M_grow_231 : decode nc_M_grow 231 = .ok (.lastore, 1) := by decide +kernel
theorem nd_M_grow_232 : decode nc_M_grow 232 = .ok (.return_, 1) := by decide +kernel
theorem nd_M_days_0 : decode nc_M_days 0 = .ok (.iload_n 1, 1) := by decide +kernel
theorem nd_M_days_1 : decode nc_M_days 1 = .ok (.iconst 2, 1) := by decide +kernel
theorem nd_M_days_2 : decode nc_M_days 2 = .ok (.if_icmp .ge 7, 3) := by decide +kernel
theorem nd_M_days_5 : decode nc_M_days 5 = .ok (.iload_n 3, 1) := by decide +kernel
theorem nd_M_days_6 : decode nc_M_days 6 = .ok (.iload_n 2, 1) := by decide +kernel
theorem nd_M_days_7 : decode nc_M_days 7 = .ok (.isub, 1) := by decide +kernel
theorem nd_M_days_8 : decode nc_M_days 8 = .ok (.ireturn, 1) := by decide +kernel
theorem nd_M_days_9 : decode nc_M_days 9 = .ok (.aload_n 0, 1) := by decide +kernel
theorem nd_M_days_10 : decode nc_M_days 10 = .ok (.iload_n 2, 1) := by decide +kernel
theorem nd_M_days_11 : decode nc_M_days 11 = .ok (.invokevirtual 83, 3) := by decide +kernel
theorem nd_M_days_14 : decode nc_M_days 14 = .ok (.aload_n 0, 1) := by decide +kernel
theorem nd_M_days_15 : decode nc_M_days 15 = .ok (.getfield 70, 3) := by decide +kernel
theorem nd_M_days_18 : decode nc_M_days 18 = .ok (.istore 4, 2) := by decide +kernel
theorem nd_M_days_20 : decode nc_M_days 20 = .ok (.aload_n 0, 1) := by decide +kernel
theorem nd_M_days_21 : decode nc_M_days 21 = .ok (.getfield 73, 3) := by decide +kernel
theorem nd_M_days_24 : decode nc_M_days 24 = .ok (.istore 5, 2) := by decide +kernel
theorem nd_M_days_26 : decode nc_M_days 26 = .ok (.aload_n 0, 1) := by decide +kernel
theorem nd_M_days_27 : decode nc_M_days 27 = .ok (.getfield 80, 3) := by decide +kernel
theorem nd_M_days_30 : decode nc_M_days 30 = .ok (.bipush 31, 2) := by decide +kernel
theorem nd_M_days_32 : decode nc_M_days 32 = .ok (.if_icmp .ne 8, 3) := by decide +kernel
theorem nd_M_days_35 : decode nc_M_days 35 = .ok (.bipush 30, 2) := by decide +kernel
theorem nd_M_days_37 : decode nc_M_days 37 = .ok (.goto 7, 3) := by decide +kernel
theorem nd_M_days_40 : decode nc_M_days 40 = .ok (.aload_n 0, 1) := by decide +kernel
theorem nd_M_days_41 : decode nc_M_days 41 = .ok (.getfield 80, 3) := by decide +kernel
theorem nd_M_days_44 : decode nc_M_days 44 = .ok (.istore 6, 2) := by decide +kernel
theorem nd_M_days_46 : decode nc_M_days 46 = .ok (.aload_n 0, 1) := by decide +kernel
theorem nd_M_days_47 : decode nc_M_days 47 = .ok (.iload_n 3, 1) := by decide +kernel
theorem nd_M_days_48 : decode nc_M_days 48 = .ok (.invokevirtual 83, 3) := by decide +kernel
theorem nd_M_days_51 : decode nc_M_days 51 = .ok (.iload 6, 2) := by decide +kernel
theorem nd_M_days_53 : decode nc_M_days 53 = .ok (.bipush 30, 2) := by decide +kernel
theorem nd_M_days_55 : decode nc_M_days 55 = .ok (.if_icmp .ne 17, 3) := by decide +kernel
theorem nd_M_days_58 : decode nc_M_days 58 = .ok (.aload_n 0, 1) := by decide +kernel
theorem nd_M_days_59 : decode nc_M_days 59 = .ok (.getfield 80, 3) := by decide +kernel
theorem nd_M_days_62 : decode nc_M_days 62 = .ok (.bipush 31, 2) := by decide +kernel
theorem nd_M_days_64 : decode nc_M_days 64 = .ok (.if_icmp .ne 8, 3) := by decide +kernel
theorem nd_M_days_67 : decode nc_M_days 67 = .ok (.bipush 30, 2) := by decide +kernel
theorem nd_M_days_69 : decode nc_M_days 69 = .ok (.goto 7, 3) := by decide +kernel
theorem nd_M_days_72 : decode nc_M_days 72 = .ok (.aload_n 0, 1) := by decide +kernel
theorem nd_M_days_73 : decode nc_M_days 73 = .ok (.getfield 80, 3) := by decide +kernel
theorem nd_M_days_76 : decode nc_M_days 76 = .ok (.istore 7, 2) := by decide +kernel
theorem nd_M_days_78 : decode nc_M_days 78 = .ok (.sipush 360, 3) := by decide +kernel
theorem nd_M_days_81 : decode nc_M_days 81 = .ok (.aload_n 0, 1) := by decide +kernel
theorem nd_M_days_82 : decode nc_M_days 82 = .ok (.getfield 70, 3) := by decide +kernel
theorem nd_M_days_85 : decode nc_M_days 85 = .ok (.iload 4, 2) := by decide +kernel
theorem nd_M_days_87 : decode nc_M_days 87 = .ok (.isub, 1) := by decide +kernel
theorem nd_M_days_88 : decode nc_M_days 88 = .ok (.imul, 1) := by decide +kernel
theorem nd_M_days_89 : decode nc_M_days 89 = .ok (.bipush 30, 2) := by decide +kernel
theorem nd_M_days_91 : decode nc_M_days 91 = .ok (.aload_n 0, 1) := by decide +kernel
theorem nd_M_days_92 : decode nc_M_days 92 = .ok (.getfield 73, 3) := by decide +kernel
theorem nd_M_days_95 : decode nc_M_days 95 = .ok (.iload 5, 2) := by decide +kernel
theorem nd_M_days_97 : decode nc_M_days 97 = .ok (.isub, 1) := by decide +kernel
theorem nd_M_days_98 : decode nc_M_days 98 = .ok (.imul, 1) := by decide +kernel
theorem nd_M_days_99 : decode nc_M_days 99 = .ok (.iadd, 1) := by decide +kernel
theorem nd_M_days_100 : decode nc_M_days 100 = .ok (.iload 7, 2) := by decide +kernel
theorem nd_M_days_102 : decode nc_M_days 102 = .ok (.iadd, 1) := by decide +kernel
theorem nd_M_days_103 : decode nc_M_days 103 = .ok (.iload 6, 2) := by decide +kernel
theorem nd_M_days_105 : decode nc_M_days 105 = .ok (.isub, 1) := by decide +kernel
theorem nd_M_days_106 : decode nc_M_days 106 = .ok (.ireturn, 1) := by decide +kernel
theorem nd_M_fuse_0 : decode nc_M_fuse 0 = .ok (.aload_n 0, 1) := by decide +kernel
theorem nd_M_fuse_1 : decode nc_M_fuse 1 = .ok (.getfield 102, 3) := by decide +kernel
theorem nd_M_fuse_4 : decode nc_M_fuse 4 = .ok (.ifCond .ne 15, 3) := by decide +kernel
theorem nd_M_fuse_7 : decode nc_M_fuse 7 = .ok (.iload_n 1, 1) := by decide +kernel
theorem nd_M_fuse_8 : decode nc_M_fuse 8 = .ok (.iconst (-1), 1) := by decide +kernel
theorem nd_M_fuse_9 : decode nc_M_fuse 9 = .ok (.if_icmp .lt 10, 3) := by decide +kernel
theorem nd_M_fuse_12 : decode nc_M_fuse 12 = .ok (.iload_n 1, 1) := by decide +kernel
theorem nd_M_fuse_13 : decode nc_M_fuse 13 = .ok (.sipush 500, 3) := by decide +kernel
theorem nd_M_fuse_16 : decode nc_M_fuse 16 = .ok (.if_icmp .le 5, 3) := by decide +kernel
theorem nd_M_fuse_19 : decode nc_M_fuse 19 = .ok (.iconst 0, 1) := by decide +kernel
theorem nd_M_fuse_20 : decode nc_M_fuse 20 = .ok (.ireturn, 1) := by decide +kernel
theorem nd_M_fuse_21 : decode nc_M_fuse 21 = .ok (.aload_n 0, 1) := by decide +kernel
theorem nd_M_fuse_22 : decode nc_M_fuse 22 = .ok (.iload_n 1, 1) := by decide +kernel
theorem nd_M_fuse_23 : decode nc_M_fuse 23 = .ok (.putfield 62, 3) := by decide +kernel
theorem nd_M_fuse_26 : decode nc_M_fuse 26 = .ok (.iconst 1, 1) := by decide +kernel
theorem nd_M_fuse_27 : decode nc_M_fuse 27 = .ok (.ireturn, 1) := by decide +kernel
theorem nd_M_restart_0 : decode nc_M_restart 0 = .ok (.aload_n 0, 1) := by decide +kernel
theorem nd_M_restart_1 : decode nc_M_restart 1 = .ok (.getfield 102, 3) := by decide +kernel
theorem nd_M_restart_4 : decode nc_M_restart 4 = .ok (.ifCond .ne 6, 3) := by decide +kernel
theorem nd_M_restart_7 : decode nc_M_restart 7 = .ok (.bipush (-3), 2) := by decide +kernel
theorem nd_M_restart_9 : decode nc_M_restart 9 = .ok (.ireturn, 1) := by decide +kernel
theorem nd_M_restart_10 : decode nc_M_restart 10 = .ok (.aload_n 0, 1) := by decide +kernel
theorem nd_M_restart_11 : decode nc_M_restart 11 = .ok (.iconst 0, 1) := by decide +kernel
theorem nd_M_restart_12 : decode nc_M_restart 12 = .ok (.putfield 102, 3) := by decide +kernel
theorem nd_M_restart_15 : decode nc_M_restart 15 = .ok (.aload_n 0, 1) := by decide +kernel
theorem nd_M_restart_16 : decode nc_M_restart 16 = .ok (.iconst (-1), 1) := by decide +kernel
theorem nd_M_restart_17 : decode nc_M_restart 17 = .ok (.putfield 62, 3) := by decide +kernel
theorem nd_M_restart_20 : decode nc_M_restart 20 = .ok (.aload_n 0, 1) := by decide +kernel
theorem nd_M_restart_21 : decode nc_M_restart 21 = .ok (.getfield 115, 3) := by decide +kernel
theorem nd_M_restart_24 : decode nc_M_restart 24 = .ok (.ireturn, 1) := by decide +kernel
theorem nd_M_balance_0 : decode nc_M_balance 0 = .ok (.aload_n 0, 1) := by decide +kernel
theorem nd_M_balance_1 : decode nc_M_balance 1 = .ok (.getfield 102, 3) := by decide +kernel
theorem nd_M_balance_4 : decode nc_M_balance 4 = .ok (.ifCond .ne 20, 3) := by decide +kernel
theorem nd_M_balance_7 : decode nc_M_balance 7 = .ok (.aload_n 0, 1) := by decide +kernel
theorem nd_M_balance_8 : decode nc_M_balance 8 = .ok (.iload_n 1, 1) := by decide +kernel
theorem nd_M_balance_9 : decode nc_M_balance 9 = .ok (.invokevirtual 133, 3) := by decide +kernel
theorem nd_M_balance_12 : decode nc_M_balance 12 = .ok (.ifCond .eq 12, 3) := by decide +kernel
theorem nd_M_balance_15 : decode nc_M_balance 15 = .ok (.aload_n 0, 1) := by decide +kernel
theorem nd_M_balance_16 : decode nc_M_balance 16 = .ok (.getfield 25, 3) := by decide +kernel
theorem nd_M_balance_19 : decode nc_M_balance 19 = .ok (.iload_n 1, 1) := by decide +kernel
theorem nd_M_balance_20 : decode nc_M_balance 20 = .ok (.laload, 1) := by decide +kernel
theorem nd_M_balance_21 : decode nc_M_balance 21 = .ok (.goto 4, 3) := by decide +kernel
theorem nd_M_balance_24 : decode nc_M_balance 24 = .ok (.lconst 0, 1) := by decide +kernel
theorem nd_M_balance_25 : decode nc_M_balance 25 = .ok (.lreturn, 1) := by decide +kernel
theorem nd_M_available_0 : decode nc_M_available 0 = .ok (.aload_n 0, 1) := by decide +kernel
theorem nd_M_available_1 : decode nc_M_available 1 = .ok (.getfield 102, 3) := by decide +kernel
theorem nd_M_available_4 : decode nc_M_available 4 = .ok (.ifCond .ne 19, 3) := by decide +kernel
theorem nd_M_available_7 : decode nc_M_available 7 = .ok (.aload_n 0, 1) := by decide +kernel
theorem nd_M_available_8 : decode nc_M_available 8 = .ok (.iload_n 1, 1) := by decide +kernel
theorem nd_M_available_9 : decode nc_M_available 9 = .ok (.invokevirtual 133, 3) := by decide +kernel
theorem nd_M_available_12 : decode nc_M_available 12 = .ok (.ifCond .eq 11, 3) := by decide +kernel
theorem nd_M_available_15 : decode nc_M_available 15 = .ok (.aload_n 0, 1) := by decide +kernel
theorem nd_M_available_16 : decode nc_M_available 16 = .ok (.iload_n 1, 1) := by decide +kernel
theorem nd_M_available_17 : decode nc_M_available 17 = .ok (.invokevirtual 142, 3) := by decide +kernel
theorem nd_M_available_20 : decode nc_M_available 20 = .ok (.goto 4, 3) := by decide +kernel
theorem nd_M_available_23 : decode nc_M_available 23 = .ok (.lconst 0, 1) := by decide +kernel
theorem nd_M_available_24 : decode nc_M_available 24 = .ok (.lreturn, 1) := by decide +kernel
theorem nd_M_accrued_0 : decode nc_M_accrued 0 = .ok (.aload_n 0, 1) := by decide +kernel
theorem nd_M_accrued_1 : decode nc_M_accrued 1 = .ok (.getfield 102, 3) := by decide +kernel
theorem nd_M_accrued_4 : decode nc_M_accrued 4 = .ok (.ifCond .ne 20, 3) := by decide +kernel
theorem nd_M_accrued_7 : decode nc_M_accrued 7 = .ok (.aload_n 0, 1) := by decide +kernel
theorem nd_M_accrued_8 : decode nc_M_accrued 8 = .ok (.iload_n 1, 1) := by decide +kernel
theorem nd_M_accrued_9 : decode nc_M_accrued 9 = .ok (.invokevirtual 133, 3) := by decide +kernel
theorem nd_M_accrued_12 : decode nc_M_accrued 12 = .ok (.ifCond .eq 12, 3) := by decide +kernel
theorem nd_M_accrued_15 : decode nc_M_accrued 15 = .ok (.aload_n 0, 1) := by decide +kernel
theorem nd_M_accrued_16 : decode nc_M_accrued 16 = .ok (.getfield 29, 3) := by decide +kernel
theorem nd_M_accrued_19 : decode nc_M_accrued 19 = .ok (.iload_n 1, 1) := by decide +kernel
theorem nd_M_accrued_20 : decode nc_M_accrued 20 = .ok (.laload, 1) := by decide +kernel
theorem nd_M_accrued_21 : decode nc_M_accrued 21 = .ok (.goto 4, 3) := by decide +kernel
theorem nd_M_accrued_24 : decode nc_M_accrued 24 = .ok (.lconst 0, 1) := by decide +kernel
theorem nd_M_accrued_25 : decode nc_M_accrued 25 = .ok (.lreturn, 1) := by decide +kernel
theorem nd_M_mark_0 : decode nc_M_mark 0 = .ok (.aload_n 0, 1) := by decide +kernel
theorem nd_M_mark_1 : decode nc_M_mark 1 = .ok (.getfield 102, 3) := by decide +kernel
theorem nd_M_mark_4 : decode nc_M_mark 4 = .ok (.ifCond .ne 20, 3) := by decide +kernel
theorem nd_M_mark_7 : decode nc_M_mark 7 = .ok (.aload_n 0, 1) := by decide +kernel
theorem nd_M_mark_8 : decode nc_M_mark 8 = .ok (.iload_n 1, 1) := by decide +kernel
theorem nd_M_mark_9 : decode nc_M_mark 9 = .ok (.invokevirtual 133, 3) := by decide +kernel
theorem nd_M_mark_12 : decode nc_M_mark 12 = .ok (.ifCond .eq 12, 3) := by decide +kernel
theorem nd_M_mark_15 : decode nc_M_mark 15 = .ok (.aload_n 0, 1) := by decide +kernel
theorem nd_M_mark_16 : decode nc_M_mark 16 = .ok (.getfield 22, 3) := by decide +kernel
theorem nd_M_mark_19 : decode nc_M_mark 19 = .ok (.iload_n 1, 1) := by decide +kernel
theorem nd_M_mark_20 : decode nc_M_mark 20 = .ok (.iaload, 1) := by decide +kernel
theorem nd_M_mark_21 : decode nc_M_mark 21 = .ok (.goto 4, 3) := by decide +kernel
theorem nd_M_mark_24 : decode nc_M_mark 24 = .ok (.iconst 0, 1) := by decide +kernel
theorem nd_M_mark_25 : decode nc_M_mark 25 = .ok (.ireturn, 1) := by decide +kernel
theorem nd_M_ledger_0 : decode nc_M_ledger 0 = .ok (.aload_n 0, 1) := by decide +kernel
theorem nd_M_ledger_1 : decode nc_M_ledger 1 = .ok (.getfield 102, 3) := by decide +kernel
theorem nd_M_ledger_4 : decode nc_M_ledger 4 = .ok (.ifCond .ne 21, 3) := by decide +kernel
theorem nd_M_ledger_7 : decode nc_M_ledger 7 = .ok (.iload_n 1, 1) := by decide +kernel
theorem nd_M_ledger_8 : decode nc_M_ledger 8 = .ok (.ifCond .lt 17, 3) := by decide +kernel
theorem nd_M_ledger_11 : decode nc_M_ledger 11 = .ok (.iload_n 1, 1) := by decide +kernel
theorem nd_M_ledger_12 : decode nc_M_ledger 12 = .ok (.iconst 2, 1) := by decide +kernel
theorem nd_M_ledger_13 : decode nc_M_ledger 13 = .ok (.if_icmp .gt 12, 3) := by decide +kernel
theorem nd_M_ledger_16 : decode nc_M_ledger 16 = .ok (.iload_n 2, 1) := by decide +kernel
theorem nd_M_ledger_17 : decode nc_M_ledger 17 = .ok (.ifCond .lt 8, 3) := by decide +kernel
theorem nd_M_ledger_20 : decode nc_M_ledger 20 = .ok (.iload_n 2, 1) := by decide +kernel
theorem nd_M_ledger_21 : decode nc_M_ledger 21 = .ok (.iconst 2, 1) := by decide +kernel
theorem nd_M_ledger_22 : decode nc_M_ledger 22 = .ok (.if_icmp .le 5, 3) := by decide +kernel
theorem nd_M_ledger_25 : decode nc_M_ledger 25 = .ok (.lconst 0, 1) := by decide +kernel
theorem nd_M_ledger_26 : decode nc_M_ledger 26 = .ok (.lreturn, 1) := by decide +kernel
theorem nd_M_ledger_27 : decode nc_M_ledger 27 = .ok (.iload_n 2, 1) := by decide +kernel
theorem nd_M_ledger_28 : decode nc_M_ledger 28 = .ok (.iconst 2, 1) := by decide +kernel
theorem nd_M_ledger_29 : decode nc_M_ledger 29 = .ok (.if_icmp .ge 23, 3) := by decide +kernel
theorem nd_M_ledger_32 : decode nc_M_ledger 32 = .ok (.iload_n 2, 1) := by decide +kernel
theorem nd_M_ledger_33 : decode nc_M_ledger 33 = .ok (.ifCond .ne 12, 3) := by decide +kernel
theorem nd_M_ledger_36 : decode nc_M_ledger 36 = .ok (.aload_n 0, 1) := by decide +kernel
theorem nd_M_ledger_37 : decode nc_M_ledger 37 = .ok (.getfield 56, 3) := by decide +kernel
theorem nd_M_ledger_40 : decode nc_M_ledger 40 = .ok (.iload_n 1, 1) := by decide +kernel
theorem nd_M_ledger_41 : decode nc_M_ledger 41 = .ok (.laload, 1) := by decide +kernel
theorem nd_M_ledger_42 : decode nc_M_ledger 42 = .ok (.goto 9, 3) := by decide +kernel
theorem nd_M_ledger_45 : decode nc_M_ledger 45 = .ok (.aload_n 0, 1) := by decide +kernel
theorem nd_M_ledger_46 : decode nc_M_ledger 46 = .ok (.getfield 59, 3) := by decide +kernel
theorem nd_M_ledger_49 : decode nc_M_ledger 49 = .ok (.iload_n 1, 1) := by decide +kernel
theorem nd_M_ledger_50 : decode nc_M_ledger 50 = .ok (.laload, 1) := by decide +kernel
theorem nd_M_ledger_51 : decode nc_M_ledger 51 = .ok (.lreturn, 1) := by decide +kernel
theorem nd_M_ledger_52 : decode nc_M_ledger 52 = .ok (.lconst 0, 1) := by decide +kernel
theorem nd_M_ledger_53 : decode nc_M_ledger 53 = .ok (.lstore_n 3, 1) := by decide +kernel
theorem nd_M_ledger_54 : decode nc_M_ledger 54 = .ok (.iconst 0, 1) := by decide +kernel
theorem nd_M_ledger_55 : decode nc_M_ledger 55 = .ok (.istore 5, 2) := by decide +kernel
theorem nd_M_ledger_57 : decode nc_M_ledger 57 = .ok (.iload 5, 2) := by decide +kernel
theorem nd_M_ledger_59 : decode nc_M_ledger 59 = .ok (.aload_n 0, 1) := by decide +kernel
theorem nd_M_ledger_60 : decode nc_M_ledger 60 = .ok (.getfield 121, 3) := by decide +kernel
theorem nd_M_ledger_63 : decode nc_M_ledger 63 = .ok (.if_icmp .ge 34, 3) := by decide +kernel
theorem nd_M_ledger_66 : decode nc_M_ledger 66 = .ok (.lload_n 3, 1) := by decide +kernel
theorem nd_M_ledger_67 : decode nc_M_ledger 67 = .ok (.aload_n 0, 1) := by decide +kernel
theorem nd_M_ledger_68 : decode nc_M_ledger 68 = .ok (.getfield 7, 3) := by decide +kernel
theorem nd_M_ledger_71 : decode nc_M_ledger 71 = .ok (.iload 5, 2) := by decide +kernel
theorem nd_M_ledger_73 : decode nc_M_ledger 73 = .ok (.iaload, 1) := by decide +kernel
theorem nd_M_ledger_74 : decode nc_M_ledger 74 = .ok (.iload_n 1, 1) := by decide +kernel
theorem nd_M_ledger_75 : decode nc_M_ledger 75 = .ok (.if_icmp .ne 13, 3) := by decide +kernel
theorem nd_M_ledger_78 : decode nc_M_ledger 78 = .ok (.aload_n 0, 1) := by decide +kernel
theorem nd_M_ledger_79 : decode nc_M_ledger 79 = .ok (.getfield 25, 3) := by decide +kernel
theorem nd_M_ledger_82 : decode nc_M_ledger 82 = .ok (.iload 5, 2) := by decide +kernel
theorem nd_M_ledger_84 : decode nc_M_ledger 84 = .ok (.laload, 1) := by decide +kernel
theorem nd_M_ledger_85 : decode nc_M_ledger 85 = .ok (.goto 4, 3) := by decide +kernel
theorem nd_M_ledger_88 : decode nc_M_ledger 88 = .ok (.lconst 0, 1) := by decide +kernel
theorem nd_M_ledger_89 : decode nc_M_ledger 89 = .ok (.ladd, 1) := by decide +kernel
theorem nd_M_ledger_90 : decode nc_M_ledger 90 = .ok (.lstore_n 3, 1) := by decide +kernel
theorem nd_M_ledger_91 : decode nc_M_ledger 91 = .ok (.iinc 5 1, 3) := by decide +kernel
theorem nd_M_ledger_94 : decode nc_M_ledger 94 = .ok (.goto (-37), 3) := by decide +kernel
theorem nd_M_ledger_97 : decode nc_M_ledger 97 = .ok (.lload_n 3, 1) := by decide +kernel
theorem nd_M_ledger_98 : decode nc_M_ledger 98 = .ok (.lreturn, 1) := by decide +kernel
theorem nd_M_missed_0 : decode nc_M_missed 0 = .ok (.aload_n 0, 1) := by decide +kernel
theorem nd_M_missed_1 : decode nc_M_missed 1 = .ok (.getfield 102, 3) := by decide +kernel
theorem nd_M_missed_4 : decode nc_M_missed 4 = .ok (.ifCond .ne 24, 3) := by decide +kernel
theorem nd_M_missed_7 : decode nc_M_missed 7 = .ok (.iload_n 1, 1) := by decide +kernel
theorem nd_M_missed_8 : decode nc_M_missed 8 = .ok (.ifCond .lt 20, 3) := by decide +kernel
theorem nd_M_missed_11 : decode nc_M_missed 11 = .ok (.iload_n 1, 1) := by decide +kernel
theorem nd_M_missed_12 : decode nc_M_missed 12 = .ok (.aload_n 0, 1) := by decide +kernel
theorem nd_M_missed_13 : decode nc_M_missed 13 = .ok (.getfield 159, 3) := by decide +kernel
theorem nd_M_missed_16 : decode nc_M_missed 16 = .ok (.if_icmp .ge 12, 3) := by decide +kernel
theorem nd_M_missed_19 : decode nc_M_missed 19 = .ok (.aload_n 0, 1) := by decide +kernel
theorem nd_M_missed_20 : decode nc_M_missed 20 = .ok (.getfield 50, 3) := by decide +kernel
theorem nd_M_missed_23 : decode nc_M_missed 23 = .ok (.iload_n 1, 1) := by decide +kernel
theorem nd_M_missed_24 : decode nc_M_missed 24 = .ok (.iaload, 1) := by decide +kernel
theorem nd_M_missed_25 : decode nc_M_missed 25 = .ok (.goto 4, 3) := by decide +kernel
theorem nd_M_missed_28 : decode nc_M_missed 28 = .ok (.iconst 0, 1) := by decide +kernel
theorem nd_M_missed_29 : decode nc_M_missed 29 = .ok (.ireturn, 1) := by decide +kernel
theorem nd_M_today_0 : decode nc_M_today 0 = .ok (.aload_n 0, 1) := by decide +kernel
theorem nd_M_today_1 : decode nc_M_today 1 = .ok (.getfield 102, 3) := by decide +kernel
theorem nd_M_today_4 : decode nc_M_today 4 = .ok (.ifCond .eq 7, 3) := by decide +kernel
theorem nd_M_today_7 : decode nc_M_today 7 = .ok (.iconst 0, 1) := by decide +kernel
theorem nd_M_today_8 : decode nc_M_today 8 = .ok (.goto 7, 3) := by decide +kernel
theorem nd_M_today_11 : decode nc_M_today 11 = .ok (.aload_n 0, 1) := by decide +kernel
theorem nd_M_today_12 : decode nc_M_today 12 = .ok (.getfield 90, 3) := by decide +kernel
theorem nd_M_today_15 : decode nc_M_today 15 = .ok (.ireturn, 1) := by decide +kernel
theorem nd_M_count_0 : decode nc_M_count 0 = .ok (.iload_n 1, 1) := by decide +kernel
theorem nd_M_count_1 : decode nc_M_count 1 = .ok (.ifCond .lt 23, 3) := by decide +kernel
theorem nd_M_count_4 : decode nc_M_count 4 = .ok (.iload_n 1, 1) := by decide +kernel
theorem nd_M_count_5 : decode nc_M_count 5 = .ok (.iconst 2, 1) := by decide +kernel
theorem nd_M_count_6 : decode nc_M_count 6 = .ok (.if_icmp .gt 18, 3) := by decide +kernel
theorem nd_M_count_9 : decode nc_M_count 9 = .ok (.iload_n 2, 1) := by decide +kernel
theorem nd_M_count_10 : decode nc_M_count 10 = .ok (.ifCond .lt 14, 3) := by decide +kernel
theorem nd_M_count_13 : decode nc_M_count 13 = .ok (.iload_n 3, 1) := by decide +kernel
theorem nd_M_count_14 : decode nc_M_count 14 = .ok (.ldc 190, 2) := by decide +kernel
theorem nd_M_count_16 : decode nc_M_count 16 = .ok (.if_icmp .gt 8, 3) := by decide +kernel
theorem nd_M_count_19 : decode nc_M_count 19 = .ok (.iload_n 2, 1) := by decide +kernel
theorem nd_M_count_20 : decode nc_M_count 20 = .ok (.iload_n 3, 1) := by decide +kernel
theorem nd_M_count_21 : decode nc_M_count 21 = .ok (.if_icmp .le 7, 3) := by decide +kernel
theorem nd_M_count_24 : decode nc_M_count 24 = .ok (.iconst (-1), 1) := by decide +kernel
theorem nd_M_count_25 : decode nc_M_count 25 = .ok (.goto 10, 3) := by decide +kernel
theorem nd_M_count_28 : decode nc_M_count 28 = .ok (.aload_n 0, 1) := by decide +kernel
theorem nd_M_count_29 : decode nc_M_count 29 = .ok (.iload_n 1, 1) := by decide +kernel
theorem nd_M_count_30 : decode nc_M_count 30 = .ok (.iload_n 2, 1) := by decide +kernel
theorem nd_M_count_31 : decode nc_M_count 31 = .ok (.iload_n 3, 1) := by decide +kernel
theorem nd_M_count_32 : decode nc_M_count 32 = .ok (.invokevirtual 175, 3) := by decide +kernel
theorem nd_M_count_35 : decode nc_M_count 35 = .ok (.ireturn, 1) := by decide +kernel
theorem nd_M_writes_0 : decode nc_M_writes 0 = .ok (.aload_n 0, 1) := by decide +kernel
theorem nd_M_writes_1 : decode nc_M_writes 1 = .ok (.getfield 96, 3) := by decide +kernel
theorem nd_M_writes_4 : decode nc_M_writes 4 = .ok (.ireturn, 1) := by decide +kernel
theorem nd_M_lines_0 : decode nc_M_lines 0 = .ok (.aload_n 0, 1) := by decide +kernel
theorem nd_M_lines_1 : decode nc_M_lines 1 = .ok (.getfield 102, 3) := by decide +kernel
theorem nd_M_lines_4 : decode nc_M_lines 4 = .ok (.ifCond .eq 7, 3) := by decide +kernel
theorem nd_M_lines_7 : decode nc_M_lines 7 = .ok (.iconst 0, 1) := by decide +kernel
theorem nd_M_lines_8 : decode nc_M_lines 8 = .ok (.goto 7, 3) := by decide +kernel
theorem nd_M_lines_11 : decode nc_M_lines 11 = .ok (.aload_n 0, 1) := by decide +kernel
theorem nd_M_lines_12 : decode nc_M_lines 12 = .ok (.getfield 106, 3) := by decide +kernel
theorem nd_M_lines_15 : decode nc_M_lines 15 = .ok (.ireturn, 1) := by decide +kernel
