/-! decode rows -/
theorem nd_B_init_0 : decode nc_B_init 0 = .ok (.aload_n 0, 1) := by decide +kernel
theorem nd_B_init_1 : decode nc_B_init 1 = .ok (.invokespecial 1, 3) := by decide +kernel
theorem nd_B_init_4 : decode nc_B_init 4 = .ok (.aload_n 0, 1) := by decide +kernel
theorem nd_B_init_5 : decode nc_B_init 5 = .ok (.bipush 6, 2) := by decide +kernel
theorem nd_B_init_7 : decode nc_B_init 7 = .ok (.anewarray 9, 3) := by decide +kernel
theorem nd_B_init_10 : decode nc_B_init 10 = .ok (.putfield 11, 3) := by decide +kernel
theorem nd_B_init_13 : decode nc_B_init 13 = .ok (.aload_n 0, 1) := by decide +kernel
theorem nd_B_init_14 : decode nc_B_init 14 = .ok (.bipush 8, 2) := by decide +kernel
theorem nd_B_init_16 : decode nc_B_init 16 = .ok (.anewarray 15, 3) := by decide +kernel
theorem nd_B_init_19 : decode nc_B_init 19 = .ok (.putfield 17, 3) := by decide +kernel
theorem nd_B_init_22 : decode nc_B_init 22 = .ok (.aload_n 0, 1) := by decide +kernel
theorem nd_B_init_23 : decode nc_B_init 23 = .ok (.bipush 6, 2) := by decide +kernel
theorem nd_B_init_25 : decode nc_B_init 25 = .ok (.anewarray 21, 3) := by decide +kernel
theorem nd_B_init_28 : decode nc_B_init 28 = .ok (.putfield 23, 3) := by decide +kernel
theorem nd_B_init_31 : decode nc_B_init 31 = .ok (.aload_n 0, 1) := by decide +kernel
theorem nd_B_init_32 : decode nc_B_init 32 = .ok (.new 27, 3) := by decide +kernel
theorem nd_B_init_35 : decode nc_B_init 35 = .ok (.dup, 1) := by decide +kernel
theorem nd_B_init_36 : decode nc_B_init 36 = .ok (.invokespecial 29, 3) := by decide +kernel
theorem nd_B_init_39 : decode nc_B_init 39 = .ok (.putfield 30, 3) := by decide +kernel
theorem nd_B_init_42 : decode nc_B_init 42 = .ok (.aload_n 0, 1) := by decide +kernel
theorem nd_B_init_43 : decode nc_B_init 43 = .ok (.new 34, 3) := by decide +kernel
theorem nd_B_init_46 : decode nc_B_init 46 = .ok (.dup, 1) := by decide +kernel
theorem nd_B_init_47 : decode nc_B_init 47 = .ok (.invokespecial 36, 3) := by decide +kernel
theorem nd_B_init_50 : decode nc_B_init 50 = .ok (.putfield 37, 3) := by decide +kernel
theorem nd_B_init_53 : decode nc_B_init 53 = .ok (.aload_n 0, 1) := by decide +kernel
theorem nd_B_init_54 : decode nc_B_init 54 = .ok (.iconst 3, 1) := by decide +kernel
theorem nd_B_init_55 : decode nc_B_init 55 = .ok (.newarray .long, 2) := by decide +kernel
theorem nd_B_init_57 : decode nc_B_init 57 = .ok (.putfield 41, 3) := by decide +kernel
theorem nd_B_init_60 : decode nc_B_init 60 = .ok (.aload_n 0, 1) := by decide +kernel
theorem nd_B_init_61 : decode nc_B_init 61 = .ok (.iconst 3, 1) := by decide +kernel
theorem nd_B_init_62 : decode nc_B_init 62 = .ok (.newarray .long, 2) := by decide +kernel
theorem nd_B_init_64 : decode nc_B_init 64 = .ok (.putfield 45, 3) := by decide +kernel
theorem nd_B_init_67 : decode nc_B_init 67 = .ok (.iconst 0, 1) := by decide +kernel
theorem nd_B_init_68 : decode nc_B_init 68 = .ok (.istore_n 1, 1) := by decide +kernel
theorem nd_B_init_69 : decode nc_B_init 69 = .ok (.iload_n 1, 1) := by decide +kernel
theorem nd_B_init_70 : decode nc_B_init 70 = .ok (.bipush 6, 2) := by decide +kernel
theorem nd_B_init_72 : decode nc_B_init 72 = .ok (.if_icmp .ge 23, 3) := by decide +kernel
theorem nd_B_init_75 : decode nc_B_init 75 = .ok (.aload_n 0, 1) := by decide +kernel
theorem nd_B_init_76 : decode nc_B_init 76 = .ok (.getfield 11, 3) := by decide +kernel
theorem nd_B_init_79 : decode nc_B_init 79 = .ok (.iload_n 1, 1) := by decide +kernel
theorem nd_B_init_80 : decode nc_B_init 80 = .ok (.new 9, 3) := by decide +kernel
theorem nd_B_init_83 : decode nc_B_init 83 = .ok (.dup, 1) := by decide +kernel
theorem nd_B_init_84 : decode nc_B_init 84 = .ok (.iload_n 1, 1) := by decide +kernel
theorem nd_B_init_85 : decode nc_B_init 85 = .ok (.invokespecial 48, 3) := by decide +kernel
theorem nd_B_init_88 : decode nc_B_init 88 = .ok (.aastore, 1) := by decide +kernel
theorem nd_B_init_89 : decode nc_B_init 89 = .ok (.iinc 1 1, 3) := by decide +kernel
theorem nd_B_init_92 : decode nc_B_init 92 = .ok (.goto (-23), 3) := by decide +kernel
theorem nd_B_init_95 : decode nc_B_init 95 = .ok (.iconst 0, 1) := by decide +kernel
theorem nd_B_init_96 : decode nc_B_init 96 = .ok (.istore_n 1, 1) := by decide +kernel
theorem nd_B_init_97 : decode nc_B_init 97 = .ok (.iload_n 1, 1) := by decide +kernel
theorem nd_B_init_98 : decode nc_B_init 98 = .ok (.bipush 8, 2) := by decide +kernel
theorem nd_B_init_100 : decode nc_B_init 100 = .ok (.if_icmp .ge 22, 3) := by decide +kernel
theorem nd_B_init_103 : decode nc_B_init 103 = .ok (.aload_n 0, 1) := by decide +kernel
theorem nd_B_init_104 : decode nc_B_init 104 = .ok (.getfield 17, 3) := by decide +kernel
theorem nd_B_init_107 : decode nc_B_init 107 = .ok (.iload_n 1, 1) := by decide +kernel
theorem nd_B_init_108 : decode nc_B_init 108 = .ok (.new 15, 3) := by decide +kernel
theorem nd_B_init_111 : decode nc_B_init 111 = .ok (.dup, 1) := by decide +kernel
theorem nd_B_init_112 : decode nc_B_init 112 = .ok (.invokespecial 51, 3) := by decide +kernel
theorem nd_B_init_115 : decode nc_B_init 115 = .ok (.aastore, 1) := by decide +kernel
theorem nd_B_init_116 : decode nc_B_init 116 = .ok (.iinc 1 1, 3) := by decide +kernel
theorem nd_B_init_119 : decode nc_B_init 119 = .ok (.goto (-22), 3) := by decide +kernel
theorem nd_B_init_122 : decode nc_B_init 122 = .ok (.iconst 0, 1) := by decide +kernel
theorem nd_B_init_123 : decode nc_B_init 123 = .ok (.istore_n 1, 1) := by decide +kernel
theorem nd_B_init_124 : decode nc_B_init 124 = .ok (.iload_n 1, 1) := by decide +kernel
theorem nd_B_init_125 : decode nc_B_init 125 = .ok (.bipush 6, 2) := by decide +kernel
theorem nd_B_init_127 : decode nc_B_init 127 = .ok (.if_icmp .ge 22, 3) := by decide +kernel
theorem nd_B_init_130 : decode nc_B_init 130 = .ok (.aload_n 0, 1) := by decide +kernel
theorem nd_B_init_131 : decode nc_B_init 131 = .ok (.getfield 23, 3) := by decide +kernel
theorem nd_B_init_134 : decode nc_B_init 134 = .ok (.iload_n 1, 1) := by decide +kernel
theorem nd_B_init_135 : decode nc_B_init 135 = .ok (.new 21, 3) := by decide +kernel
theorem nd_B_init_138 : decode nc_B_init 138 = .ok (.dup, 1) := by decide +kernel
theorem nd_B_init_139 : decode nc_B_init 139 = .ok (.invokespecial 52, 3) := by decide +kernel
theorem nd_B_init_142 : decode nc_B_init 142 = .ok (.aastore, 1) := by decide +kernel
theorem nd_B_init_143 : decode nc_B_init 143 = .ok (.iinc 1 1, 3) := by decide +kernel
theorem nd_B_init_146 : decode nc_B_init 146 = .ok (.goto (-22), 3) := by decide +kernel
theorem nd_B_init_149 : decode nc_B_init 149 = .ok (.return_, 1) := by decide +kernel
theorem nd_R_init_0 : decode nc_R_init 0 = .ok (.aload_n 0, 1) := by decide +kernel
theorem nd_R_init_1 : decode nc_R_init 1 = .ok (.invokespecial 1, 3) := by decide +kernel
theorem nd_R_init_4 : decode nc_R_init 4 = .ok (.aload_n 0, 1) := by decide +kernel
theorem nd_R_init_5 : decode nc_R_init 5 = .ok (.bipush 8, 2) := by decide +kernel
theorem nd_R_init_7 : decode nc_R_init 7 = .ok (.newarray .int, 2) := by decide +kernel
theorem nd_R_init_9 : decode nc_R_init 9 = .ok (.putfield 9, 3) := by decide +kernel
theorem nd_R_init_12 : decode nc_R_init 12 = .ok (.return_, 1) := by decide +kernel
theorem nd_D_init_0 : decode nc_D_init 0 = .ok (.aload_n 0, 1) := by decide +kernel
theorem nd_D_init_1 : decode nc_D_init 1 = .ok (.invokespecial 1, 3) := by decide +kernel
theorem nd_D_init_4 : decode nc_D_init 4 = .ok (.aload_n 0, 1) := by decide +kernel
theorem nd_D_init_5 : decode nc_D_init 5 = .ok (.iconst (-1), 1) := by decide +kernel
theorem nd_D_init_6 : decode nc_D_init 6 = .ok (.putfield 9, 3) := by decide +kernel
theorem nd_D_init_9 : decode nc_D_init 9 = .ok (.return_, 1) := by decide +kernel
theorem nd_A_init_0 : decode nc_A_init 0 = .ok (.aload_n 0, 1) := by decide +kernel
theorem nd_A_init_1 : decode nc_A_init 1 = .ok (.invokespecial 1, 3) := by decide +kernel
theorem nd_A_init_4 : decode nc_A_init 4 = .ok (.aload_n 0, 1) := by decide +kernel
theorem nd_A_init_5 : decode nc_A_init 5 = .ok (.iload_n 1, 1) := by decide +kernel
theorem nd_A_init_6 : decode nc_A_init 6 = .ok (.putfield 7, 3) := by decide +kernel
theorem nd_A_init_9 : decode nc_A_init 9 = .ok (.return_, 1) := by decide +kernel
theorem nd_H_init_0 : decode nc_H_init 0 = .ok (.aload_n 0, 1) := by decide +kernel
theorem nd_H_init_1 : decode nc_H_init 1 = .ok (.invokespecial 1, 3) := by decide +kernel
theorem nd_H_init_4 : decode nc_H_init 4 = .ok (.return_, 1) := by decide +kernel
theorem nd_O_init_0 : decode nc_O_init 0 = .ok (.aload_n 0, 1) := by decide +kernel
theorem nd_O_init_1 : decode nc_O_init 1 = .ok (.invokespecial 1, 3) := by decide +kernel
theorem nd_O_init_4 : decode nc_O_init 4 = .ok (.return_, 1) := by decide +kernel
theorem nd_B_open_0 : decode nc_B_open 0 = .ok (.aload_n 0, 1) := by decide +kernel
theorem nd_B_open_1 : decode nc_B_open 1 = .ok (.invokevirtual 53, 3) := by decide +kernel
theorem nd_B_open_4 : decode nc_B_open 4 = .ok (.istore 5, 2) := by decide +kernel
theorem nd_B_open_6 : decode nc_B_open 6 = .ok (.iload 5, 2) := by decide +kernel
theorem nd_B_open_8 : decode nc_B_open 8 = .ok (.ifCond .eq 6, 3) := by decide +kernel
theorem nd_B_open_11 : decode nc_B_open 11 = .ok (.iload 5, 2) := by decide +kernel
theorem nd_B_open_13 : decode nc_B_open 13 = .ok (.ireturn, 1) := by decide +kernel
theorem nd_B_open_14 : decode nc_B_open 14 = .ok (.iload_n 1, 1) := by decide +kernel
theorem nd_B_open_15 : decode nc_B_open 15 = .ok (.invokestatic 57, 3) := by decide +kernel
theorem nd_B_open_18 : decode nc_B_open 18 = .ok (.ifCond .eq 10, 3) := by decide +kernel
theorem nd_B_open_21 : decode nc_B_open 21 = .ok (.iload_n 2, 1) := by decide +kernel
theorem nd_B_open_22 : decode nc_B_open 22 = .ok (.invokestatic 61, 3) := by decide +kernel
theorem nd_B_open_25 : decode nc_B_open 25 = .ok (.ifCond .ne 6, 3) := by decide +kernel
theorem nd_B_open_28 : decode nc_B_open 28 = .ok (.bipush (-3), 2) := by decide +kernel
theorem nd_B_open_30 : decode nc_B_open 30 = .ok (.ireturn, 1) := by decide +kernel
theorem nd_B_open_31 : decode nc_B_open 31 = .ok (.iload_n 3, 1) := by decide +kernel
theorem nd_B_open_32 : decode nc_B_open 32 = .ok (.iconst 0, 1) := by decide +kernel
theorem nd_B_open_33 : decode nc_B_open 33 = .ok (.ldc 66, 2) := by decide +kernel
theorem nd_B_open_35 : decode nc_B_open 35 = .ok (.invokestatic 67, 3) := by decide +kernel
theorem nd_B_open_38 : decode nc_B_open 38 = .ok (.ifCond .eq 15, 3) := by decide +kernel
theorem nd_B_open_41 : decode nc_B_open 41 = .ok (.iload 4, 2) := by decide +kernel
theorem nd_B_open_43 : decode nc_B_open 43 = .ok (.iconst 0, 1) := by decide +kernel
theorem nd_B_open_44 : decode nc_B_open 44 = .ok (.sipush 1000, 3) := by decide +kernel
theorem nd_B_open_47 : decode nc_B_open 47 = .ok (.invokestatic 67, 3) := by decide +kernel
theorem nd_B_open_50 : decode nc_B_open 50 = .ok (.ifCond .ne 6, 3) := by decide +kernel
theorem nd_B_open_53 : decode nc_B_open 53 = .ok (.bipush (-3), 2) := by decide +kernel
theorem nd_B_open_55 : decode nc_B_open 55 = .ok (.ireturn, 1) := by decide +kernel
theorem nd_B_open_56 : decode nc_B_open 56 = .ok (.aload_n 0, 1) := by decide +kernel
theorem nd_B_open_57 : decode nc_B_open 57 = .ok (.getfield 71, 3) := by decide +kernel
theorem nd_B_open_60 : decode nc_B_open 60 = .ok (.bipush 6, 2) := by decide +kernel
theorem nd_B_open_62 : decode nc_B_open 62 = .ok (.if_icmp .lt 6, 3) := by decide +kernel
theorem nd_B_open_65 : decode nc_B_open 65 = .ok (.bipush (-4), 2) := by decide +kernel
theorem nd_B_open_67 : decode nc_B_open 67 = .ok (.ireturn, 1) := by decide +kernel
theorem nd_B_open_68 : decode nc_B_open 68 = .ok (.aload_n 0, 1) := by decide +kernel
theorem nd_B_open_69 : decode nc_B_open 69 = .ok (.getfield 11, 3) := by decide +kernel
theorem nd_B_open_72 : decode nc_B_open 72 = .ok (.aload_n 0, 1) := by decide +kernel
theorem nd_B_open_73 : decode nc_B_open 73 = .ok (.getfield 71, 3) := by decide +kernel
theorem nd_B_open_76 : decode nc_B_open 76 = .ok (.aaload, 1) := by decide +kernel
theorem nd_B_open_77 : decode nc_B_open 77 = .ok (.astore 6, 2) := by decide +kernel
theorem nd_B_open_79 : decode nc_B_open 79 = .ok (.aload_n 0, 1) := by decide +kernel
theorem nd_B_open_80 : decode nc_B_open 80 = .ok (.getfield 37, 3) := by decide +kernel
theorem nd_B_open_83 : decode nc_B_open 83 = .ok (.aload 6, 2) := by decide +kernel
theorem nd_B_open_85 : decode nc_B_open 85 = .ok (.invokestatic 75, 3) := by decide +kernel
theorem nd_B_open_88 : decode nc_B_open 88 = .ok (.invokevirtual 79, 3) := by decide +kernel
theorem nd_B_open_91 : decode nc_B_open 91 = .ok (.ifCond .ne 5, 3) := by decide +kernel
theorem nd_B_open_94 : decode nc_B_open 94 = .ok (.iconst (-1), 1) := by decide +kernel
theorem nd_B_open_95 : decode nc_B_open 95 = .ok (.ireturn, 1) := by decide +kernel
theorem nd_B_open_96 : decode nc_B_open 96 = .ok (.aload 6, 2) := by decide +kernel
theorem nd_B_open_98 : decode nc_B_open 98 = .ok (.iload_n 1, 1) := by decide +kernel
theorem nd_B_open_99 : decode nc_B_open 99 = .ok (.putfield 82, 3) := by decide +kernel
theorem nd_B_open_102 : decode nc_B_open 102 = .ok (.aload 6, 2) := by decide +kernel
theorem nd_B_open_104 : decode nc_B_open 104 = .ok (.iload_n 2, 1) := by decide +kernel
theorem nd_B_open_105 : decode nc_B_open 105 = .ok (.putfield 85, 3) := by decide +kernel
theorem nd_B_open_108 : decode nc_B_open 108 = .ok (.aload 6, 2) := by decide +kernel
theorem nd_B_open_110 : decode nc_B_open 110 = .ok (.iload_n 3, 1) := by decide +kernel
theorem nd_B_open_111 : decode nc_B_open 111 = .ok (.putfield 88, 3) := by decide +kernel
theorem nd_B_open_114 : decode nc_B_open 114 = .ok (.aload 6, 2) := by decide +kernel
theorem nd_B_open_116 : decode nc_B_open 116 = .ok (.iload 4, 2) := by decide +kernel
theorem nd_B_open_118 : decode nc_B_open 118 = .ok (.putfield 91, 3) := by decide +kernel
theorem nd_B_open_121 : decode nc_B_open 121 = .ok (.aload 6, 2) := by decide +kernel
theorem nd_B_open_123 : decode nc_B_open 123 = .ok (.aload_n 0, 1) := by decide +kernel
theorem nd_B_open_124 : decode nc_B_open 124 = .ok (.getfield 94, 3) := by decide +kernel
theorem nd_B_open_127 : decode nc_B_open 127 = .ok (.iconst 1, 1) := by decide +kernel
theorem nd_B_open_128 : decode nc_B_open 128 = .ok (.isub, 1) := by decide +kernel
theorem nd_B_open_129 : decode nc_B_open 129 = .ok (.putfield 97, 3) := by decide +kernel
theorem nd_B_open_132 : decode nc_B_open 132 = .ok (.aload_n 0, 1) := by decide +kernel
theorem nd_B_open_133 : decode nc_B_open 133 = .ok (.dup, 1) := by decide +kernel
theorem nd_B_open_134 : decode nc_B_open 134 = .ok (.getfield 71, 3) := by decide +kernel
theorem nd_B_open_137 : decode nc_B_open 137 = .ok (.iconst 1, 1) := by decide +kernel
theorem nd_B_open_138 : decode nc_B_open 138 = .ok (.iadd, 1) := by decide +kernel
theorem nd_B_open_139 : decode nc_B_open 139 = .ok (.putfield 71, 3) := by decide +kernel
theorem nd_B_open_142 : decode nc_B_open 142 = .ok (.aload 6, 2) := by decide +kernel
theorem nd_B_open_144 : decode nc_B_open 144 = .ok (.getfield 100, 3) := by decide +kernel
theorem nd_B_open_147 : decode nc_B_open 147 = .ok (.ireturn, 1) := by decide +kernel
theorem nd_B_refusalOfChange_0 : decode nc_B_refusalOfChange 0 = .ok (.aload_n 0, 1) := by decide +kernel
theorem nd_B_refusalOfChange_1 : decode nc_B_refusalOfChange 1 = .ok (.getfield 37, 3) := by decide +kernel
theorem nd_B_refusalOfChange_4 : decode nc_B_refusalOfChange 4 = .ok (.getfield 163, 3) := by decide +kernel
theorem nd_B_refusalOfChange_7 : decode nc_B_refusalOfChange 7 = .ok (.ifCond .eq 5, 3) := by decide +kernel
theorem nd_B_refusalOfChange_10 : decode nc_B_refusalOfChange 10 = .ok (.iconst (-1), 1) := by decide +kernel
theorem nd_B_refusalOfChange_11 : decode nc_B_refusalOfChange 11 = .ok (.ireturn, 1) := by decide +kernel
theorem nd_B_refusalOfChange_12 : decode nc_B_refusalOfChange 12 = .ok (.aload_n 0, 1) := by decide +kernel
theorem nd_B_refusalOfChange_13 : decode nc_B_refusalOfChange 13 = .ok (.getfield 204, 3) := by decide +kernel
theorem nd_B_refusalOfChange_16 : decode nc_B_refusalOfChange 16 = .ok (.ifCond .eq 8, 3) := by decide +kernel
theorem nd_B_refusalOfChange_19 : decode nc_B_refusalOfChange 19 = .ok (.bipush (-2), 2) := by decide +kernel
theorem nd_B_refusalOfChange_21 : decode nc_B_refusalOfChange 21 = .ok (.goto 4, 3) := by decide +kernel
theorem nd_B_refusalOfChange_24 : decode nc_B_refusalOfChange 24 = .ok (.iconst 0, 1) := by decide +kernel
theorem nd_B_refusalOfChange_25 : decode nc_B_refusalOfChange 25 = .ok (.ireturn, 1) := by decide +kernel
theorem nd_B_isCurrency_0 : decode nc_B_isCurrency 0 = .ok (.iload_n 0, 1) := by decide +kernel
theorem nd_B_isCurrency_1 : decode nc_B_isCurrency 1 = .ok (.iconst 0, 1) := by decide +kernel
theorem nd_B_isCurrency_2 : decode nc_B_isCurrency 2 = .ok (.iconst 2, 1) := by decide +kernel
theorem nd_B_isCurrency_3 : decode nc_B_isCurrency 3 = .ok (.invokestatic 67, 3) := by decide +kernel
theorem nd_B_isCurrency_6 : decode nc_B_isCurrency 6 = .ok (.ireturn, 1) := by decide +kernel
theorem nd_B_isWithin_0 : decode nc_B_isWithin 0 = .ok (.iload_n 1, 1) := by decide +kernel
theorem nd_B_isWithin_1 : decode nc_B_isWithin 1 = .ok (.iload_n 0, 1) := by decide +kernel
theorem nd_B_isWithin_2 : decode nc_B_isWithin 2 = .ok (.if_icmp .gt 12, 3) := by decide +kernel
theorem nd_B_isWithin_5 : decode nc_B_isWithin 5 = .ok (.iload_n 0, 1) := by decide +kernel
theorem nd_B_isWithin_6 : decode nc_B_isWithin 6 = .ok (.iload_n 2, 1) := by decide +kernel
theorem nd_B_isWithin_7 : decode nc_B_isWithin 7 = .ok (.if_icmp .gt 7, 3) := by decide +kernel
theorem nd_B_isWithin_10 : decode nc_B_isWithin 10 = .ok (.iconst 1, 1) := by decide +kernel
theorem nd_B_isWithin_11 : decode nc_B_isWithin 11 = .ok (.goto 4, 3) := by decide +kernel
theorem nd_B_isWithin_14 : decode nc_B_isWithin 14 = .ok (.iconst 0, 1) := by decide +kernel
theorem nd_B_isWithin_15 : decode nc_B_isWithin 15 = .ok (.ireturn, 1) := by decide +kernel
theorem nd_C_isBasis_0 : decode nc_C_isBasis 0 = .ok (.iconst 0, 1) := by decide +kernel
theorem nd_C_isBasis_1 : decode nc_C_isBasis 1 = .ok (.iload_n 0, 1) := by decide +kernel
theorem nd_C_isBasis_2 : decode nc_C_isBasis 2 = .ok (.if_icmp .gt 12, 3) := by decide +kernel
theorem nd_C_isBasis_5 : decode nc_C_isBasis 5 = .ok (.iload_n 0, 1) := by decide +kernel
theorem nd_C_isBasis_6 : decode nc_C_isBasis 6 = .ok (.iconst 3, 1) := by decide +kernel
theorem nd_C_isBasis_7 : decode nc_C_isBasis 7 = .ok (.if_icmp .ge 7, 3) := by decide +kernel
theorem nd_C_isBasis_10 : decode nc_C_isBasis 10 = .ok (.iconst 1, 1) := by decide +kernel
theorem nd_C_isBasis_11 : decode nc_C_isBasis 11 = .ok (.goto 4, 3) := by decide +kernel
theorem nd_C_isBasis_14 : decode nc_C_isBasis 14 = .ok (.iconst 0, 1) := by decide +kernel
theorem nd_C_isBasis_15 : decode nc_C_isBasis 15 = .ok (.ireturn, 1) := by decide +kernel
theorem nd_B_bitOf_0 : decode nc_B_bitOf 0 = .ok (.aload_n 0, 1) := by decide +kernel
theorem nd_B_bitOf_1 : decode nc_B_bitOf 1 = .ok (.ifnonnull 7, 3) := by decide +kernel
theorem nd_B_bitOf_4 : decode nc_B_bitOf 4 = .ok (.iconst 0, 1) := by decide +kernel
theorem nd_B_bitOf_5 : decode nc_B_bitOf 5 = .ok (.goto 9, 3) := by decide +kernel
theorem nd_B_bitOf_8 : decode nc_B_bitOf 8 = .ok (.iconst 1, 1) := by decide +kernel
theorem nd_B_bitOf_9 : decode nc_B_bitOf 9 = .ok (.aload_n 0, 1) := by decide +kernel
theorem nd_B_bitOf_10 : decode nc_B_bitOf 10 = .ok (.getfield 100, 3) := by decide +kernel
theorem nd_B_bitOf_13 : decode nc_B_bitOf 13 = .ok (.ishl, 1) := by decide +kernel
theorem nd_B_bitOf_14 : decode nc_B_bitOf 14 = .ok (.ireturn, 1) := by decide +kernel
theorem nd_D_writeTransaction_0 : decode nc_D_writeTransaction 0 = .ok (.aload_n 0, 1) := by decide +kernel
theorem nd_D_writeTransaction_1 : decode nc_D_writeTransaction 1 = .ok (.iload_n 1, 1) := by decide +kernel
theorem nd_D_writeTransaction_2 : decode nc_D_writeTransaction 2 = .ok (.iload_n 1, 1) := by decide +kernel
theorem nd_D_writeTransaction_3 : decode nc_D_writeTransaction 3 = .ok (.invokestatic 13, 3) := by decide +kernel
theorem nd_D_writeTransaction_6 : decode nc_D_writeTransaction 6 = .ok (.iconst 1, 1) := by decide +kernel
theorem nd_D_writeTransaction_7 : decode nc_D_writeTransaction 7 = .ok (.iadd, 1) := by decide +kernel
theorem nd_D_writeTransaction_8 : decode nc_D_writeTransaction 8 = .ok (.invokevirtual 19, 3) := by decide +kernel
theorem nd_D_writeTransaction_11 : decode nc_D_writeTransaction 11 = .ok (.ireturn, 1) := by decide +kernel
theorem nd_I_bitCount_0 : decode nc_I_bitCount 0 = .ok (.iload_n 0, 1) := by decide +kernel
theorem nd_I_bitCount_1 : decode nc_I_bitCount 1 = .ok (.iload_n 0, 1) := by decide +kernel
theorem nd_I_bitCount_2 : decode nc_I_bitCount 2 = .ok (.iconst 1, 1) := by decide +kernel
theorem nd_I_bitCount_3 : decode nc_I_bitCount 3 = .ok (.iushr, 1) := by decide +kernel
theorem nd_I_bitCount_4 : decode nc_I_bitCount 4 = .ok (.ldc_w 265, 3) := by decide +kernel
theorem nd_I_bitCount_7 : decode nc_I_bitCount 7 = .ok (.iand, 1) := by decide +kernel
theorem nd_I_bitCount_8 : decode nc_I_bitCount 8 = .ok (.isub, 1) := by decide +kernel
theorem nd_I_bitCount_9 : decode nc_I_bitCount 9 = .ok (.istore_n 0, 1) := by decide +kernel
theorem nd_I_bitCount_10 : decode nc_I_bitCount 10 = .ok (.iload_n 0, 1) := by decide +kernel
theorem nd_I_bitCount_11 : decode nc_I_bitCount 11 = .ok (.ldc_w 266, 3) := by decide +kernel
theorem nd_I_bitCount_14 : decode nc_I_bitCount 14 = .ok (.iand, 1) := by decide +kernel
theorem nd_I_bitCount_15 : decode nc_I_bitCount 15 = .ok (.iload_n 0, 1) := by decide +kernel
theorem nd_I_bitCount_16 : decode nc_I_bitCount 16 = .ok (.iconst 2, 1) := by decide +kernel
theorem nd_I_bitCount_17 : decode nc_I_bitCount 17 = .ok (.iushr, 1) := by decide +kernel
theorem nd_I_bitCount_18 : decode nc_I_bitCount 18 = .ok (.ldc_w 266, 3) := by decide +kernel
theorem nd_I_bitCount_21 : decode nc_I_bitCount 21 = .ok (.iand, 1) := by decide +kernel
theorem nd_I_bitCount_22 : decode nc_I_bitCount 22 = .ok (.iadd, 1) := by decide +kernel
theorem nd_I_bitCount_23 : decode nc_I_bitCount 23 = .ok (.istore_n 0, 1) := by decide +kernel
theorem nd_I_bitCount_24 : decode nc_I_bitCount 24 = .ok (.iload_n 0, 1) := by decide +kernel
theorem nd_I_bitCount_25 : decode nc_I_bitCount 25 = .ok (.iload_n 0, 1) := by decide +kernel
theorem nd_I_bitCount_26 : decode nc_I_bitCount 26 = .ok (.iconst 4, 1) := by decide +kernel
theorem nd_I_bitCount_27 : decode nc_I_bitCount 27 = .ok (.iushr, 1) := by decide +kernel
theorem nd_I_bitCount_28 : decode nc_I_bitCount 28 = .ok (.iadd, 1) := by decide +kernel
theorem nd_I_bitCount_29 : decode nc_I_bitCount 29 = .ok (.ldc_w 267, 3) := by decide +kernel
theorem nd_I_bitCount_32 : decode nc_I_bitCount 32 = .ok (.iand, 1) := by decide +kernel
theorem nd_I_bitCount_33 : decode nc_I_bitCount 33 = .ok (.istore_n 0, 1) := by decide +kernel
theorem nd_I_bitCount_34 : decode nc_I_bitCount 34 = .ok (.iload_n 0, 1) := by decide +kernel
theorem nd_I_bitCount_35 : decode nc_I_bitCount 35 = .ok (.iload_n 0, 1) := by decide +kernel
theorem nd_I_bitCount_36 : decode nc_I_bitCount 36 = .ok (.bipush 8, 2) := by decide +kernel
theorem nd_I_bitCount_38 : decode nc_I_bitCount 38 = .ok (.iushr, 1) := by decide +kernel
theorem nd_I_bitCount_39 : decode nc_I_bitCount 39 = .ok (.iadd, 1) := by decide +kernel
theorem nd_I_bitCount_40 : decode nc_I_bitCount 40 = .ok (.istore_n 0, 1) := by decide +kernel
theorem nd_I_bitCount_41 : decode nc_I_bitCount 41 = .ok (.iload_n 0, 1) := by decide +kernel
theorem nd_I_bitCount_42 : decode nc_I_bitCount 42 = .ok (.iload_n 0, 1) := by decide +kernel
theorem nd_I_bitCount_43 : decode nc_I_bitCount 43 = .ok (.bipush 16, 2) := by decide +kernel
theorem nd_I_bitCount_45 : decode nc_I_bitCount 45 = .ok (.iushr, 1) := by decide +kernel
theorem nd_I_bitCount_46 : decode nc_I_bitCount 46 = .ok (.iadd, 1) := by decide +kernel
theorem nd_I_bitCount_47 : decode nc_I_bitCount 47 = .ok (.istore_n 0, 1) := by decide +kernel
theorem nd_I_bitCount_48 : decode nc_I_bitCount 48 = .ok (.iload_n 0, 1) := by decide +kernel
theorem nd_I_bitCount_49 : decode nc_I_bitCount 49 = .ok (.bipush 63, 2) := by decide +kernel
theorem nd_I_bitCount_51 : decode nc_I_bitCount 51 = .ok (.iand, 1) := by decide +kernel
theorem nd_I_bitCount_52 : decode nc_I_bitCount 52 = .ok (.ireturn, 1) := by decide +kernel
theorem nd_D_writeLines_0 : decode nc_D_writeLines 0 = .ok (.aload_n 0, 1) := by decide +kernel
theorem nd_D_writeLines_1 : decode nc_D_writeLines 1 = .ok (.getfield 23, 3) := by decide +kernel
theorem nd_D_writeLines_4 : decode nc_D_writeLines 4 = .ok (.iload_n 2, 1) := by decide +kernel
theorem nd_D_writeLines_5 : decode nc_D_writeLines 5 = .ok (.iadd, 1) := by decide +kernel
theorem nd_D_writeLines_6 : decode nc_D_writeLines 6 = .ok (.bipush 24, 2) := by decide +kernel
theorem nd_D_writeLines_8 : decode nc_D_writeLines 8 = .ok (.if_icmp .le 12, 3) := by decide +kernel
theorem nd_D_writeLines_11 : decode nc_D_writeLines 11 = .ok (.aload_n 0, 1) := by decide +kernel
theorem nd_D_writeLines_12 : decode nc_D_writeLines 12 = .ok (.invokevirtual 26, 3) := by decide +kernel
theorem nd_D_writeLines_15 : decode nc_D_writeLines 15 = .ok (.ifCond .ne 5, 3) := by decide +kernel
theorem nd_D_writeLines_18 : decode nc_D_writeLines 18 = .ok (.iconst 0, 1) := by decide +kernel
theorem nd_D_writeLines_19 : decode nc_D_writeLines 19 = .ok (.ireturn, 1) := by decide +kernel
theorem nd_D_writeLines_20 : decode nc_D_writeLines 20 = .ok (.iconst 0, 1) := by decide +kernel
theorem nd_D_writeLines_21 : decode nc_D_writeLines 21 = .ok (.istore_n 3, 1) := by decide +kernel
theorem nd_D_writeLines_22 : decode nc_D_writeLines 22 = .ok (.iload_n 3, 1) := by decide +kernel
theorem nd_D_writeLines_23 : decode nc_D_writeLines 23 = .ok (.iload_n 2, 1) := by decide +kernel
theorem nd_D_writeLines_24 : decode nc_D_writeLines 24 = .ok (.if_icmp .ge 18, 3) := by decide +kernel
theorem nd_D_writeLines_27 : decode nc_D_writeLines 27 = .ok (.aload_n 0, 1) := by decide +kernel
theorem nd_D_writeLines_28 : decode nc_D_writeLines 28 = .ok (.invokevirtual 30, 3) := by decide +kernel
theorem nd_D_writeLines_31 : decode nc_D_writeLines 31 = .ok (.ifCond .ne 5, 3) := by decide +kernel
theorem nd_D_writeLines_34 : decode nc_D_writeLines 34 = .ok (.iconst 0, 1) := by decide +kernel
theorem nd_D_writeLines_35 : decode nc_D_writeLines 35 = .ok (.ireturn, 1) := by decide +kernel
theorem nd_D_writeLines_36 : decode nc_D_writeLines 36 = .ok (.iinc 3 1, 3) := by decide +kernel
theorem nd_D_writeLines_39 : decode nc_D_writeLines 39 = .ok (.goto (-17), 3) := by decide +kernel
theorem nd_D_writeLines_42 : decode nc_D_writeLines 42 = .ok (.aload_n 0, 1) := by decide +kernel
theorem nd_D_writeLines_43 : decode nc_D_writeLines 43 = .ok (.dup, 1) := by decide +kernel
theorem nd_D_writeLines_44 : decode nc_D_writeLines 44 = .ok (.getfield 23, 3) := by decide +kernel
theorem nd_D_writeLines_47 : decode nc_D_writeLines 47 = .ok (.iload_n 2, 1) := by decide +kernel
theorem nd_D_writeLines_48 : decode nc_D_writeLines 48 = .ok (.iadd, 1) := by decide +kernel
theorem nd_D_writeLines_49 : decode nc_D_writeLines 49 = .ok (.putfield 23, 3) := by decide +kernel
theorem nd_D_writeLines_52 : decode nc_D_writeLines 52 = .ok (.aload_n 0, 1) := by decide +kernel
theorem nd_D_writeLines_53 : decode nc_D_writeLines 53 = .ok (.dup, 1) := by decide +kernel
theorem nd_D_writeLines_54 : decode nc_D_writeLines 54 = .ok (.getfield 33, 3) := by decide +kernel
theorem nd_D_writeLines_57 : decode nc_D_writeLines 57 = .ok (.iconst 1, 1) := by decide +kernel
theorem nd_D_writeLines_58 : decode nc_D_writeLines 58 = .ok (.iadd, 1) := by decide +kernel
theorem nd_D_writeLines_59 : decode nc_D_writeLines 59 = .ok (.putfield 33, 3) := by decide +kernel
theorem nd_D_writeLines_62 : decode nc_D_writeLines 62 = .ok (.aload_n 0, 1) := by decide +kernel
theorem nd_D_writeLines_63 : decode nc_D_writeLines 63 = .ok (.dup, 1) := by decide +kernel
theorem nd_D_writeLines_64 : decode nc_D_writeLines 64 = .ok (.getfield 36, 3) := by decide +kernel
theorem nd_D_writeLines_67 : decode nc_D_writeLines 67 = .ok (.iload_n 1, 1) := by decide +kernel
theorem nd_D_writeLines_68 : decode nc_D_writeLines 68 = .ok (.ior, 1) := by decide +kernel
theorem nd_D_writeLines_69 : decode nc_D_writeLines 69 = .ok (.putfield 36, 3) := by decide +kernel
theorem nd_D_writeLines_72 : decode nc_D_writeLines 72 = .ok (.iconst 1, 1) := by decide +kernel
theorem nd_D_writeLines_73 : decode nc_D_writeLines 73 = .ok (.ireturn, 1) := by decide +kernel
theorem nd_D_makeCheckpoint_0 : decode nc_D_makeCheckpoint 0 = .ok (.aload_n 0, 1) := by decide +kernel
theorem nd_D_makeCheckpoint_1 : decode nc_D_makeCheckpoint 1 = .ok (.getfield 36, 3) := by decide +kernel
theorem nd_D_makeCheckpoint_4 : decode nc_D_makeCheckpoint 4 = .ok (.invokestatic 13, 3) := by decide +kernel
theorem nd_D_makeCheckpoint_7 : decode nc_D_makeCheckpoint 7 = .ok (.istore_n 1, 1) := by decide +kernel
theorem nd_D_makeCheckpoint_8 : decode nc_D_makeCheckpoint 8 = .ok (.iconst 0, 1) := by decide +kernel
theorem nd_D_makeCheckpoint_9 : decode nc_D_makeCheckpoint 9 = .ok (.istore_n 2, 1) := by decide +kernel
theorem nd_D_makeCheckpoint_10 : decode nc_D_makeCheckpoint 10 = .ok (.iload_n 2, 1) := by decide +kernel
theorem nd_D_makeCheckpoint_11 : decode nc_D_makeCheckpoint 11 = .ok (.iload_n 1, 1) := by decide +kernel
theorem nd_D_makeCheckpoint_12 : decode nc_D_makeCheckpoint 12 = .ok (.if_icmp .ge 18, 3) := by decide +kernel
theorem nd_D_makeCheckpoint_15 : decode nc_D_makeCheckpoint 15 = .ok (.aload_n 0, 1) := by decide +kernel
theorem nd_D_makeCheckpoint_16 : decode nc_D_makeCheckpoint 16 = .ok (.invokevirtual 30, 3) := by decide +kernel
theorem nd_D_makeCheckpoint_19 : decode nc_D_makeCheckpoint 19 = .ok (.ifCond .ne 5, 3) := by decide +kernel
theorem nd_D_makeCheckpoint_22 : decode nc_D_makeCheckpoint 22 = .ok (.iconst 0, 1) := by decide +kernel
theorem nd_D_makeCheckpoint_23 : decode nc_D_makeCheckpoint 23 = .ok (.ireturn, 1) := by decide +kernel
theorem nd_D_makeCheckpoint_24 : decode nc_D_makeCheckpoint 24 = .ok (.iinc 2 1, 3) := by decide +kernel
theorem nd_D_makeCheckpoint_27 : decode nc_D_makeCheckpoint 27 = .ok (.goto (-17), 3) := by decide +kernel
theorem nd_D_makeCheckpoint_30 : decode nc_D_makeCheckpoint 30 = .ok (.aload_n 0, 1) := by decide +kernel
theorem nd_D_makeCheckpoint_31 : decode nc_D_makeCheckpoint 31 = .ok (.invokevirtual 30, 3) := by decide +kernel
theorem nd_D_makeCheckpoint_34 : decode nc_D_makeCheckpoint 34 = .ok (.ifCond .ne 5, 3) := by decide +kernel
theorem nd_D_makeCheckpoint_37 : decode nc_D_makeCheckpoint 37 = .ok (.iconst 0, 1) := by decide +kernel
theorem nd_D_makeCheckpoint_38 : decode nc_D_makeCheckpoint 38 = .ok (.ireturn, 1) := by decide +kernel
theorem nd_D_makeCheckpoint_39 : decode nc_D_makeCheckpoint 39 = .ok (.aload_n 0, 1) := by decide +kernel
theorem nd_D_makeCheckpoint_40 : decode nc_D_makeCheckpoint 40 = .ok (.iconst 0, 1) := by decide +kernel
theorem nd_D_makeCheckpoint_41 : decode nc_D_makeCheckpoint 41 = .ok (.putfield 23, 3) := by decide +kernel
theorem nd_D_makeCheckpoint_44 : decode nc_D_makeCheckpoint 44 = .ok (.aload_n 0, 1) := by decide +kernel
theorem nd_D_makeCheckpoint_45 : decode nc_D_makeCheckpoint 45 = .ok (.iconst 0, 1) := by decide +kernel
theorem nd_D_makeCheckpoint_46 : decode nc_D_makeCheckpoint 46 = .ok (.putfield 33, 3) := by decide +kernel
theorem nd_D_makeCheckpoint_49 : decode nc_D_makeCheckpoint 49 = .ok (.aload_n 0, 1) := by decide +kernel
theorem nd_D_makeCheckpoint_50 : decode nc_D_makeCheckpoint 50 = .ok (.iconst 0, 1) := by decide +kernel
theorem nd_D_makeCheckpoint_51 : decode nc_D_makeCheckpoint 51 = .ok (.putfield 36, 3) := by decide +kernel
theorem nd_D_makeCheckpoint_54 : decode nc_D_makeCheckpoint 54 = .ok (.iconst 1, 1) := by decide +kernel
theorem nd_D_makeCheckpoint_55 : decode nc_D_makeCheckpoint 55 = .ok (.ireturn, 1) := by decide +kernel
theorem nd_D_writeOnce_0 : decode nc_D_writeOnce 0 = .ok (.aload_n 0, 1) := by decide +kernel
theorem nd_D_writeOnce_1 : decode nc_D_writeOnce 1 = .ok (.getfield 9, 3) := by decide +kernel
theorem nd_D_writeOnce_4 : decode nc_D_writeOnce 4 = .ok (.ifCond .ne 10, 3) := by decide +kernel
theorem nd_D_writeOnce_7 : decode nc_D_writeOnce 7 = .ok (.aload_n 0, 1) := by decide +kernel
theorem nd_D_writeOnce_8 : decode nc_D_writeOnce 8 = .ok (.iconst 1, 1) := by decide +kernel
theorem nd_D_writeOnce_9 : decode nc_D_writeOnce 9 = .ok (.putfield 39, 3) := by decide +kernel
theorem nd_D_writeOnce_12 : decode nc_D_writeOnce 12 = .ok (.iconst 0, 1) := by decide +kernel
theorem nd_D_writeOnce_13 : decode nc_D_writeOnce 13 = .ok (.ireturn, 1) := by decide +kernel
theorem nd_D_writeOnce_14 : decode nc_D_writeOnce 14 = .ok (.aload_n 0, 1) := by decide +kernel
theorem nd_D_writeOnce_15 : decode nc_D_writeOnce 15 = .ok (.getfield 9, 3) := by decide +kernel
theorem nd_D_writeOnce_18 : decode nc_D_writeOnce 18 = .ok (.ifCond .le 13, 3) := by decide +kernel
theorem nd_D_writeOnce_21 : decode nc_D_writeOnce 21 = .ok (.aload_n 0, 1) := by decide +kernel
theorem nd_D_writeOnce_22 : decode nc_D_writeOnce 22 = .ok (.dup, 1) := by decide +kernel
theorem nd_D_writeOnce_23 : decode nc_D_writeOnce 23 = .ok (.getfield 9, 3) := by decide +kernel
theorem nd_D_writeOnce_26 : decode nc_D_writeOnce 26 = .ok (.iconst 1, 1) := by decide +kernel
theorem nd_D_writeOnce_27 : decode nc_D_writeOnce 27 = .ok (.isub, 1) := by decide +kernel
theorem nd_D_writeOnce_28 : decode nc_D_writeOnce 28 = .ok (.putfield 9, 3) := by decide +kernel
theorem nd_D_writeOnce_31 : decode nc_D_writeOnce 31 = .ok (.aload_n 0, 1) := by decide +kernel
theorem nd_D_writeOnce_32 : decode nc_D_writeOnce 32 = .ok (.dup, 1) := by decide +kernel
theorem nd_D_writeOnce_33 : decode nc_D_writeOnce 33 = .ok (.getfield 43, 3) := by decide +kernel
theorem nd_D_writeOnce_36 : decode nc_D_writeOnce 36 = .ok (.iconst 1, 1) := by decide +kernel
theorem nd_D_writeOnce_37 : decode nc_D_writeOnce 37 = .ok (.iadd, 1) := by decide +kernel
theorem nd_D_writeOnce_38 : decode nc_D_writeOnce 38 = .ok (.putfield 43, 3) := by decide +kernel
theorem nd_D_writeOnce_41 : decode nc_D_writeOnce 41 = .ok (.iconst 1, 1) := by decide +kernel
theorem nd_D_writeOnce_42 : decode nc_D_writeOnce 42 = .ok (.ireturn, 1) := by decide +kernel
theorem nd_B_pay_0 : decode nc_B_pay 0 = .ok (.aload_n 0, 1) := by decide +kernel
theorem nd_B_pay_1 : decode nc_B_pay 1 = .ok (.invokevirtual 53, 3) := by decide +kernel
theorem nd_B_pay_4 : decode nc_B_pay 4 = .ok (.istore 4, 2) := by decide +kernel
theorem nd_B_pay_6 : decode nc_B_pay 6 = .ok (.iload 4, 2) := by decide +kernel
theorem nd_B_pay_8 : decode nc_B_pay 8 = .ok (.ifCond .eq 6, 3) := by decide +kernel
theorem nd_B_pay_11 : decode nc_B_pay 11 = .ok (.iload 4, 2) := by decide +kernel
theorem nd_B_pay_13 : decode nc_B_pay 13 = .ok (.ireturn, 1) := by decide +kernel
theorem nd_B_pay_14 : decode nc_B_pay 14 = .ok (.aload_n 0, 1) := by decide +kernel
theorem nd_B_pay_15 : decode nc_B_pay 15 = .ok (.iload_n 1, 1) := by decide +kernel
theorem nd_B_pay_16 : decode nc_B_pay 16 = .ok (.iload_n 2, 1) := by decide +kernel
theorem nd_B_pay_17 : decode nc_B_pay 17 = .ok (.invokevirtual 103, 3) := by decide +kernel
theorem nd_B_pay_20 : decode nc_B_pay 20 = .ok (.ifCond .eq 10, 3) := by decide +kernel
theorem nd_B_pay_23 : decode nc_B_pay 23 = .ok (.iload_n 3, 1) := by decide +kernel
theorem nd_B_pay_24 : decode nc_B_pay 24 = .ok (.invokestatic 107, 3) := by decide +kernel
theorem nd_B_pay_27 : decode nc_B_pay 27 = .ok (.ifCond .ne 6, 3) := by decide +kernel
theorem nd_B_pay_30 : decode nc_B_pay 30 = .ok (.bipush (-3), 2) := by decide +kernel
theorem nd_B_pay_32 : decode nc_B_pay 32 = .ok (.ireturn, 1) := by decide +kernel
theorem nd_B_pay_33 : decode nc_B_pay 33 = .ok (.aload_n 0, 1) := by decide +kernel
theorem nd_B_pay_34 : decode nc_B_pay 34 = .ok (.iload_n 1, 1) := by decide +kernel
theorem nd_B_pay_35 : decode nc_B_pay 35 = .ok (.invokevirtual 110, 3) := by decide +kernel
theorem nd_B_pay_38 : decode nc_B_pay 38 = .ok (.astore 5, 2) := by decide +kernel
theorem nd_B_pay_40 : decode nc_B_pay 40 = .ok (.aload_n 0, 1) := by decide +kernel
theorem nd_B_pay_41 : decode nc_B_pay 41 = .ok (.iload_n 2, 1) := by decide +kernel
theorem nd_B_pay_42 : decode nc_B_pay 42 = .ok (.invokevirtual 110, 3) := by decide +kernel
theorem nd_B_pay_45 : decode nc_B_pay 45 = .ok (.astore 6, 2) := by decide +kernel
theorem nd_B_pay_47 : decode nc_B_pay 47 = .ok (.aload 5, 2) := by decide +kernel
theorem nd_B_pay_49 : decode nc_B_pay 49 = .ok (.ifnull 17, 3) := by decide +kernel
theorem nd_B_pay_52 : decode nc_B_pay 52 = .ok (.iload_n 3, 1) := by decide +kernel
theorem nd_B_pay_53 : decode nc_B_pay 53 = .ok (.i2l, 1) := by decide +kernel
theorem nd_B_pay_54 : decode nc_B_pay 54 = .ok (.aload 5, 2) := by decide +kernel
theorem nd_B_pay_56 : decode nc_B_pay 56 = .ok (.invokevirtual 114, 3) := by decide +kernel
theorem nd_B_pay_59 : decode nc_B_pay 59 = .ok (.lcmp, 1) := by decide +kernel
theorem nd_B_pay_60 : decode nc_B_pay 60 = .ok (.ifCond .le 6, 3) := by decide +kernel
theorem nd_B_pay_63 : decode nc_B_pay 63 = .ok (.bipush (-5), 2) := by decide +kernel
theorem nd_B_pay_65 : decode nc_B_pay 65 = .ok (.ireturn, 1) := by decide +kernel
theorem nd_B_pay_66 : decode nc_B_pay 66 = .ok (.aload_n 0, 1) := by decide +kernel
theorem nd_B_pay_67 : decode nc_B_pay 67 = .ok (.getfield 37, 3) := by decide +kernel
theorem nd_B_pay_70 : decode nc_B_pay 70 = .ok (.aload 5, 2) := by decide +kernel
theorem nd_B_pay_72 : decode nc_B_pay 72 = .ok (.invokestatic 75, 3) := by decide +kernel
theorem nd_B_pay_75 : decode nc_B_pay 75 = .ok (.aload 6, 2) := by decide +kernel
theorem nd_B_pay_77 : decode nc_B_pay 77 = .ok (.invokestatic 75, 3) := by decide +kernel
theorem nd_B_pay_80 : decode nc_B_pay 80 = .ok (.ior, 1) := by decide +kernel
theorem nd_B_pay_81 : decode nc_B_pay 81 = .ok (.invokevirtual 79, 3) := by decide +kernel
theorem nd_B_pay_84 : decode nc_B_pay 84 = .ok (.ifCond .ne 5, 3) := by decide +kernel
theorem nd_B_pay_87 : decode nc_B_pay 87 = .ok (.iconst (-1), 1) := by decide +kernel
theorem nd_B_pay_88 : decode nc_B_pay 88 = .ok (.ireturn, 1) := by decide +kernel
theorem nd_B_pay_89 : decode nc_B_pay 89 = .ok (.aload_n 0, 1) := by decide +kernel
theorem nd_B_pay_90 : decode nc_B_pay 90 = .ok (.aload 5, 2) := by decide +kernel
theorem nd_B_pay_92 : decode nc_B_pay 92 = .ok (.aload 6, 2) := by decide +kernel
theorem nd_B_pay_94 : decode nc_B_pay 94 = .ok (.iload_n 3, 1) := by decide +kernel
theorem nd_B_pay_95 : decode nc_B_pay 95 = .ok (.invokevirtual 118, 3) := by decide +kernel
theorem nd_B_pay_98 : decode nc_B_pay 98 = .ok (.iconst 0, 1) := by decide +kernel
theorem nd_B_pay_99 : decode nc_B_pay 99 = .ok (.ireturn, 1) := by decide +kernel
theorem nd_B_isPayable_0 : decode nc_B_isPayable 0 = .ok (.iload_n 1, 1) := by decide +kernel
theorem nd_B_isPayable_1 : decode nc_B_isPayable 1 = .ok (.iload_n 2, 1) := by decide +kernel
theorem nd_B_isPayable_2 : decode nc_B_isPayable 2 = .ok (.if_icmp .eq 19, 3) := by decide +kernel
theorem nd_B_isPayable_5 : decode nc_B_isPayable 5 = .ok (.aload_n 0, 1) := by decide +kernel
theorem nd_B_isPayable_6 : decode nc_B_isPayable 6 = .ok (.iload_n 1, 1) := by decide +kernel
theorem nd_B_isPayable_7 : decode nc_B_isPayable 7 = .ok (.invokevirtual 207, 3) := by decide +kernel
theorem nd_B_isPayable_10 : decode nc_B_isPayable 10 = .ok (.ifCond .eq 11, 3) := by decide +kernel
theorem nd_B_isPayable_13 : decode nc_B_isPayable 13 = .ok (.aload_n 0, 1) := by decide +kernel
theorem nd_B_isPayable_14 : decode nc_B_isPayable 14 = .ok (.iload_n 2, 1) := by decide +kernel
theorem nd_B_isPayable_15 : decode nc_B_isPayable 15 = .ok (.invokevirtual 207, 3) := by decide +kernel
theorem nd_B_isPayable_18 : decode nc_B_isPayable 18 = .ok (.ifCond .ne 5, 3) := by decide +kernel
theorem nd_B_isPayable_21 : decode nc_B_isPayable 21 = .ok (.iconst 0, 1) := by decide +kernel
theorem nd_B_isPayable_22 : decode nc_B_isPayable 22 = .ok (.ireturn, 1) := by decide +kernel
theorem nd_B_isPayable_23 : decode nc_B_isPayable 23 = .ok (.aload_n 0, 1) := by decide +kernel
theorem nd_B_isPayable_24 : decode nc_B_isPayable 24 = .ok (.iload_n 1, 1) := by decide +kernel
theorem nd_B_isPayable_25 : decode nc_B_isPayable 25 = .ok (.invokevirtual 110, 3) := by decide +kernel
theorem nd_B_isPayable_28 : decode nc_B_isPayable 28 = .ok (.astore_n 3, 1) := by decide +kernel
theorem nd_B_isPayable_29 : decode nc_B_isPayable 29 = .ok (.aload_n 0, 1) := by decide +kernel
theorem nd_B_isPayable_30 : decode nc_B_isPayable 30 = .ok (.iload_n 2, 1) := by decide +kernel
theorem nd_B_isPayable_31 : decode nc_B_isPayable 31 = .ok (.invokevirtual 110, 3) := by decide +kernel
theorem nd_B_isPayable_34 : decode nc_B_isPayable 34 = .ok (.astore 4, 2) := by decide +kernel
theorem nd_B_isPayable_36 : decode nc_B_isPayable 36 = .ok (.aload_n 3, 1) := by decide +kernel
theorem nd_B_isPayable_37 : decode nc_B_isPayable 37 = .ok (.ifnull 20, 3) := by decide +kernel
theorem nd_B_isPayable_40 : decode nc_B_isPayable 40 = .ok (.aload 4, 2) := by decide +kernel
theorem nd_B_isPayable_42 : decode nc_B_isPayable 42 = .ok (.ifnull 15, 3) := by decide +kernel
theorem nd_B_isPayable_45 : decode nc_B_isPayable 45 = .ok (.aload_n 3, 1) := by decide +kernel
theorem nd_B_isPayable_46 : decode nc_B_isPayable 46 = .ok (.getfield 82, 3) := by decide +kernel
theorem nd_B_isPayable_49 : decode nc_B_isPayable 49 = .ok (.aload 4, 2) := by decide +kernel
theorem nd_B_isPayable_51 : decode nc_B_isPayable 51 = .ok (.getfield 82, 3) := by decide +kernel
theorem nd_B_isPayable_54 : decode nc_B_isPayable 54 = .ok (.if_icmp .ne 7, 3) := by decide +kernel
theorem nd_B_isPayable_57 : decode nc_B_isPayable 57 = .ok (.iconst 1, 1) := by decide +kernel
theorem nd_B_isPayable_58 : decode nc_B_isPayable 58 = .ok (.goto 4, 3) := by decide +kernel
theorem nd_B_isPayable_61 : decode nc_B_isPayable 61 = .ok (.iconst 0, 1) := by decide +kernel
theorem nd_B_isPayable_62 : decode nc_B_isPayable 62 = .ok (.ireturn, 1) := by decide +kernel
theorem nd_B_isParty_0 : decode nc_B_isParty 0 = .ok (.iload_n 1, 1) := by decide +kernel
theorem nd_B_isParty_1 : decode nc_B_isParty 1 = .ok (.iconst (-1), 1) := by decide +kernel
theorem nd_B_isParty_2 : decode nc_B_isParty 2 = .ok (.if_icmp .eq 11, 3) := by decide +kernel
theorem nd_B_isParty_5 : decode nc_B_isParty 5 = .ok (.aload_n 0, 1) := by decide +kernel
theorem nd_B_isParty_6 : decode nc_B_isParty 6 = .ok (.iload_n 1, 1) := by decide +kernel
theorem nd_B_isParty_7 : decode nc_B_isParty 7 = .ok (.invokevirtual 110, 3) := by decide +kernel
theorem nd_B_isParty_10 : decode nc_B_isParty 10 = .ok (.ifnull 7, 3) := by decide +kernel
theorem nd_B_isParty_13 : decode nc_B_isParty 13 = .ok (.iconst 1, 1) := by decide +kernel
theorem nd_B_isParty_14 : decode nc_B_isParty 14 = .ok (.goto 4, 3) := by decide +kernel
theorem nd_B_isParty_17 : decode nc_B_isParty 17 = .ok (.iconst 0, 1) := by decide +kernel
theorem nd_B_isParty_18 : decode nc_B_isParty 18 = .ok (.ireturn, 1) := by decide +kernel
theorem nd_B_accountOf_0 : decode nc_B_accountOf 0 = .ok (.iload_n 1, 1) := by decide +kernel
theorem nd_B_accountOf_1 : decode nc_B_accountOf 1 = .ok (.iconst 0, 1) := by decide +kernel
theorem nd_B_accountOf_2 : decode nc_B_accountOf 2 = .ok (.aload_n 0, 1) := by decide +kernel
theorem nd_B_accountOf_3 : decode nc_B_accountOf 3 = .ok (.getfield 71, 3) := by decide +kernel
theorem nd_B_accountOf_6 : decode nc_B_accountOf 6 = .ok (.iconst 1, 1) := by decide +kernel
theorem nd_B_accountOf_7 : decode nc_B_accountOf 7 = .ok (.isub, 1) := by decide +kernel
theorem nd_B_accountOf_8 : decode nc_B_accountOf 8 = .ok (.invokestatic 67, 3) := by decide +kernel
theorem nd_B_accountOf_11 : decode nc_B_accountOf 11 = .ok (.ifCond .eq 12, 3) := by decide +kernel
theorem nd_B_accountOf_14 : decode nc_B_accountOf 14 = .ok (.aload_n 0, 1) := by decide +kernel
theorem nd_B_accountOf_15 : decode nc_B_accountOf 15 = .ok (.getfield 11, 3) := by decide +kernel
theorem nd_B_accountOf_18 : decode nc_B_accountOf 18 = .ok (.iload_n 1, 1) := by decide +kernel
theorem nd_B_accountOf_19 : decode nc_B_accountOf 19 = .ok (.aaload, 1) := by decide +kernel
theorem nd_B_accountOf_20 : decode nc_B_accountOf 20 = .ok (.goto 4, 3) := by decide +kernel
theorem nd_B_accountOf_23 : decode nc_B_accountOf 23 = .ok (.aconst_null, 1) := by decide +kernel
theorem nd_B_accountOf_24 : decode nc_B_accountOf 24 = .ok (.areturn, 1) := by decide +kernel
theorem nd_B_isAmount_0 : decode nc_B_isAmount 0 = .ok (.iload_n 0, 1) := by decide +kernel
theorem nd_B_isAmount_1 : decode nc_B_isAmount 1 = .ok (.iconst 1, 1) := by decide +kernel
theorem nd_B_isAmount_2 : decode nc_B_isAmount 2 = .ok (.ldc 66, 2) := by decide +kernel
theorem nd_B_isAmount_4 : decode nc_B_isAmount 4 = .ok (.invokestatic 67, 3) := by decide +kernel
theorem nd_B_isAmount_7 : decode nc_B_isAmount 7 = .ok (.ireturn, 1) := by decide +kernel
theorem nd_A_spendable_0 : decode nc_A_spendable 0 = .ok (.aload_n 0, 1) := by decide +kernel
theorem nd_A_spendable_1 : decode nc_A_spendable 1 = .ok (.getfield 13, 3) := by decide +kernel
theorem nd_A_spendable_4 : decode nc_A_spendable 4 = .ok (.aload_n 0, 1) := by decide +kernel
theorem nd_A_spendable_5 : decode nc_A_spendable 5 = .ok (.getfield 17, 3) := by decide +kernel
theorem nd_A_spendable_8 : decode nc_A_spendable 8 = .ok (.i2l, 1) := by decide +kernel
theorem nd_A_spendable_9 : decode nc_A_spendable 9 = .ok (.ladd, 1) := by decide +kernel
theorem nd_A_spendable_10 : decode nc_A_spendable 10 = .ok (.aload_n 0, 1) := by decide +kernel
theorem nd_A_spendable_11 : decode nc_A_spendable 11 = .ok (.getfield 20, 3) := by decide +kernel
theorem nd_A_spendable_14 : decode nc_A_spendable 14 = .ok (.lsub, 1) := by decide +kernel
theorem nd_A_spendable_15 : decode nc_A_spendable 15 = .ok (.lreturn, 1) := by decide +kernel
theorem nd_B_transfer_0 : decode nc_B_transfer 0 = .ok (.aload_n 1, 1) := by decide +kernel
theorem nd_B_transfer_1 : decode nc_B_transfer 1 = .ok (.ifnull 17, 3) := by decide +kernel
theorem nd_B_transfer_4 : decode nc_B_transfer 4 = .ok (.aload_n 1, 1) := by decide +kernel
theorem nd_B_transfer_5 : decode nc_B_transfer 5 = .ok (.dup, 1) := by decide +kernel
theorem nd_B_transfer_6 : decode nc_B_transfer 6 = .ok (.getfield 179, 3) := by decide +kernel
theorem nd_B_transfer_9 : decode nc_B_transfer 9 = .ok (.iload_n 3, 1) := by decide +kernel
theorem nd_B_transfer_10 : decode nc_B_transfer 10 = .ok (.i2l, 1) := by decide +kernel
theorem nd_B_transfer_11 : decode nc_B_transfer 11 = .ok (.lsub, 1) := by decide +kernel
theorem nd_B_transfer_12 : decode nc_B_transfer 12 = .ok (.putfield 179, 3) := by decide +kernel
theorem nd_B_transfer_15 : decode nc_B_transfer 15 = .ok (.goto 21, 3) := by decide +kernel
theorem nd_B_transfer_18 : decode nc_B_transfer 18 = .ok (.aload_n 2, 1) := by decide +kernel
theorem nd_B_transfer_19 : decode nc_B_transfer 19 = .ok (.ifnull 17, 3) := by decide +kernel
theorem nd_B_transfer_22 : decode nc_B_transfer 22 = .ok (.aload_n 0, 1) := by decide +kernel
theorem nd_B_transfer_23 : decode nc_B_transfer 23 = .ok (.getfield 41, 3) := by decide +kernel
theorem nd_B_transfer_26 : decode nc_B_transfer 26 = .ok (.aload_n 2, 1) := by decide +kernel
theorem nd_B_transfer_27 : decode nc_B_transfer 27 = .ok (.getfield 82, 3) := by decide +kernel
theorem nd_B_transfer_30 : decode nc_B_transfer 30 = .ok (.dup2, 1) := by decide +kernel
theorem nd_B_transfer_31 : decode nc_B_transfer 31 = .ok (.laload, 1) := by decide +kernel
theorem nd_B_transfer_32 : decode nc_B_transfer 32 = .ok (.iload_n 3, 1) := by decide +kernel
theorem nd_B_transfer_33 : decode nc_B_transfer 33 = .ok (.i2l, 1) := by decide +kernel
theorem nd_B_transfer_34 : decode nc_B_transfer 34 = .ok (.ladd, 1) := by decide +kernel
theorem nd_B_transfer_35 : decode nc_B_transfer 35 = .ok (.lastore, 1) := by decide +kernel
theorem nd_B_transfer_36 : decode nc_B_transfer 36 = .ok (.aload_n 2, 1) := by decide +kernel
theorem nd_B_transfer_37 : decode nc_B_transfer 37 = .ok (.ifnull 17, 3) := by decide +kernel
theorem nd_B_transfer_40 : decode nc_B_transfer 40 = .ok (.aload_n 2, 1) := by decide +kernel
theorem nd_B_transfer_41 : decode nc_B_transfer 41 = .ok (.dup, 1) := by decide +kernel
theorem nd_B_transfer_42 : decode nc_B_transfer 42 = .ok (.getfield 179, 3) := by decide +kernel
theorem nd_B_transfer_45 : decode nc_B_transfer 45 = .ok (.iload_n 3, 1) := by decide +kernel
theorem nd_B_transfer_46 : decode nc_B_transfer 46 = .ok (.i2l, 1) := by decide +kernel
theorem nd_B_transfer_47 : decode nc_B_transfer 47 = .ok (.ladd, 1) := by decide +kernel
theorem nd_B_transfer_48 : decode nc_B_transfer 48 = .ok (.putfield 179, 3) := by decide +kernel
theorem nd_B_transfer_51 : decode nc_B_transfer 51 = .ok (.goto 21, 3) := by decide +kernel
theorem nd_B_transfer_54 : decode nc_B_transfer 54 = .ok (.aload_n 1, 1) := by decide +kernel
theorem nd_B_transfer_55 : decode nc_B_transfer 55 = .ok (.ifnull 17, 3) := by decide +kernel
theorem nd_B_transfer_58 : decode nc_B_transfer 58 = .ok (.aload_n 0, 1) := by decide +kernel
theorem nd_B_transfer_59 : decode nc_B_transfer 59 = .ok (.getfield 41, 3) := by decide +kernel
theorem nd_B_transfer_62 : decode nc_B_transfer 62 = .ok (.aload_n 1, 1) := by decide +kernel
theorem nd_B_transfer_63 : decode nc_B_transfer 63 = .ok (.getfield 82, 3) := by decide +kernel
theorem nd_B_transfer_66 : decode nc_B_transfer 66 = .ok (.dup2, 1) := by decide +kernel
theorem nd_B_transfer_67 : decode nc_B_transfer 67 = .ok (.laload, 1) := by decide +kernel
theorem nd_B_transfer_68 : decode nc_B_transfer 68 = .ok (.iload_n 3, 1) := by decide +kernel
theorem nd_B_transfer_69 : decode nc_B_transfer 69 = .ok (.i2l, 1) := by decide +kernel
theorem nd_B_transfer_70 : decode nc_B_transfer 70 = .ok (.lsub, 1) := by decide +kernel
theorem nd_B_transfer_71 : decode nc_B_transfer 71 = .ok (.lastore, 1) := by decide +kernel
theorem nd_B_transfer_72 : decode nc_B_transfer 72 = .ok (.return_, 1) := by decide +kernel
theorem nd_B_hold_0 : decode nc_B_hold 0 = .ok (.aload_n 0, 1) := by decide +kernel
theorem nd_B_hold_1 : decode nc_B_hold 1 = .ok (.invokevirtual 53, 3) := by decide +kernel
theorem nd_B_hold_4 : decode nc_B_hold 4 = .ok (.istore_n 3, 1) := by decide +kernel
theorem nd_B_hold_5 : decode nc_B_hold 5 = .ok (.iload_n 3, 1) := by decide +kernel
theorem nd_B_hold_6 : decode nc_B_hold 6 = .ok (.ifCond .eq 5, 3) := by decide +kernel
theorem nd_B_hold_9 : decode nc_B_hold 9 = .ok (.iload_n 3, 1) := by decide +kernel
theorem nd_B_hold_10 : decode nc_B_hold 10 = .ok (.ireturn, 1) := by decide +kernel
theorem nd_B_hold_11 : decode nc_B_hold 11 = .ok (.aload_n 0, 1) := by decide +kernel
theorem nd_B_hold_12 : decode nc_B_hold 12 = .ok (.iload_n 1, 1) := by decide +kernel
theorem nd_B_hold_13 : decode nc_B_hold 13 = .ok (.invokevirtual 110, 3) := by decide +kernel
theorem nd_B_hold_16 : decode nc_B_hold 16 = .ok (.astore 4, 2) := by decide +kernel
theorem nd_B_hold_18 : decode nc_B_hold 18 = .ok (.aload 4, 2) := by decide +kernel
theorem nd_B_hold_20 : decode nc_B_hold 20 = .ok (.ifnull 10, 3) := by decide +kernel
theorem nd_B_hold_23 : decode nc_B_hold 23 = .ok (.iload_n 2, 1) := by decide +kernel
theorem nd_B_hold_24 : decode nc_B_hold 24 = .ok (.invokestatic 107, 3) := by decide +kernel
theorem nd_B_hold_27 : decode nc_B_hold 27 = .ok (.ifCond .ne 6, 3) := by decide +kernel
theorem nd_B_hold_30 : decode nc_B_hold 30 = .ok (.bipush (-3), 2) := by decide +kernel
theorem nd_B_hold_32 : decode nc_B_hold 32 = .ok (.ireturn, 1) := by decide +kernel
theorem nd_B_hold_33 : decode nc_B_hold 33 = .ok (.aload_n 0, 1) := by decide +kernel
theorem nd_B_hold_34 : decode nc_B_hold 34 = .ok (.invokevirtual 122, 3) := by decide +kernel
theorem nd_B_hold_37 : decode nc_B_hold 37 = .ok (.istore 5, 2) := by decide +kernel
theorem nd_B_hold_39 : decode nc_B_hold 39 = .ok (.iload 5, 2) := by decide +kernel
theorem nd_B_hold_41 : decode nc_B_hold 41 = .ok (.bipush 8, 2) := by decide +kernel
theorem nd_B_hold_43 : decode nc_B_hold 43 = .ok (.if_icmp .lt 6, 3) := by decide +kernel
theorem nd_B_hold_46 : decode nc_B_hold 46 = .ok (.bipush (-4), 2) := by decide +kernel
theorem nd_B_hold_48 : decode nc_B_hold 48 = .ok (.ireturn, 1) := by decide +kernel
theorem nd_B_hold_49 : decode nc_B_hold 49 = .ok (.iload_n 2, 1) := by decide +kernel
theorem nd_B_hold_50 : decode nc_B_hold 50 = .ok (.i2l, 1) := by decide +kernel
theorem nd_B_hold_51 : decode nc_B_hold 51 = .ok (.aload 4, 2) := by decide +kernel
theorem nd_B_hold_53 : decode nc_B_hold 53 = .ok (.invokevirtual 114, 3) := by decide +kernel
theorem nd_B_hold_56 : decode nc_B_hold 56 = .ok (.lcmp, 1) := by decide +kernel
theorem nd_B_hold_57 : decode nc_B_hold 57 = .ok (.ifCond .le 6, 3) := by decide +kernel
theorem nd_B_hold_60 : decode nc_B_hold 60 = .ok (.bipush (-5), 2) := by decide +kernel
theorem nd_B_hold_62 : decode nc_B_hold 62 = .ok (.ireturn, 1) := by decide +kernel
theorem nd_B_hold_63 : decode nc_B_hold 63 = .ok (.aload_n 0, 1) := by decide +kernel
theorem nd_B_hold_64 : decode nc_B_hold 64 = .ok (.getfield 37, 3) := by decide +kernel
theorem nd_B_hold_67 : decode nc_B_hold 67 = .ok (.aload 4, 2) := by decide +kernel
theorem nd_B_hold_69 : decode nc_B_hold 69 = .ok (.invokestatic 75, 3) := by decide +kernel
theorem nd_B_hold_72 : decode nc_B_hold 72 = .ok (.invokevirtual 79, 3) := by decide +kernel
theorem nd_B_hold_75 : decode nc_B_hold 75 = .ok (.ifCond .ne 5, 3) := by decide +kernel
theorem nd_B_hold_78 : decode nc_B_hold 78 = .ok (.iconst (-1), 1) := by decide +kernel
theorem nd_B_hold_79 : decode nc_B_hold 79 = .ok (.ireturn, 1) := by decide +kernel
theorem nd_B_hold_80 : decode nc_B_hold 80 = .ok (.aload_n 0, 1) := by decide +kernel
theorem nd_B_hold_81 : decode nc_B_hold 81 = .ok (.getfield 17, 3) := by decide +kernel
theorem nd_B_hold_84 : decode nc_B_hold 84 = .ok (.iload 5, 2) := by decide +kernel
theorem nd_B_hold_86 : decode nc_B_hold 86 = .ok (.aaload, 1) := by decide +kernel
theorem nd_B_hold_87 : decode nc_B_hold 87 = .ok (.aload 4, 2) := by decide +kernel
theorem nd_B_hold_89 : decode nc_B_hold 89 = .ok (.iload_n 2, 1) := by decide +kernel
theorem nd_B_hold_90 : decode nc_B_hold 90 = .ok (.invokevirtual 125, 3) := by decide +kernel
theorem nd_B_hold_93 : decode nc_B_hold 93 = .ok (.iload 5, 2) := by decide +kernel
theorem nd_B_hold_95 : decode nc_B_hold 95 = .ok (.ireturn, 1) := by decide +kernel
theorem nd_B_leastFreeHold_0 : decode nc_B_leastFreeHold 0 = .ok (.iconst 0, 1) := by decide +kernel
theorem nd_B_leastFreeHold_1 : decode nc_B_leastFreeHold 1 = .ok (.istore_n 1, 1) := by decide +kernel
theorem nd_B_leastFreeHold_2 : decode nc_B_leastFreeHold 2 = .ok (.iload_n 1, 1) := by decide +kernel
theorem nd_B_leastFreeHold_3 : decode nc_B_leastFreeHold 3 = .ok (.bipush 8, 2) := by decide +kernel
theorem nd_B_leastFreeHold_5 : decode nc_B_leastFreeHold 5 = .ok (.if_icmp .ge 21, 3) := by decide +kernel
theorem nd_B_leastFreeHold_8 : decode nc_B_leastFreeHold 8 = .ok (.aload_n 0, 1) := by decide +kernel
theorem nd_B_leastFreeHold_9 : decode nc_B_leastFreeHold 9 = .ok (.getfield 17, 3) := by decide +kernel
theorem nd_B_leastFreeHold_12 : decode nc_B_leastFreeHold 12 = .ok (.iload_n 1, 1) := by decide +kernel
theorem nd_B_leastFreeHold_13 : decode nc_B_leastFreeHold 13 = .ok (.aaload, 1) := by decide +kernel
theorem nd_B_leastFreeHold_14 : decode nc_B_leastFreeHold 14 = .ok (.getfield 133, 3) := by decide +kernel
theorem nd_B_leastFreeHold_17 : decode nc_B_leastFreeHold 17 = .ok (.ifnull 9, 3) := by decide +kernel
theorem nd_B_leastFreeHold_20 : decode nc_B_leastFreeHold 20 = .ok (.iinc 1 1, 3) := by decide +kernel
theorem nd_B_leastFreeHold_23 : decode nc_B_leastFreeHold 23 = .ok (.goto (-21), 3) := by decide +kernel
theorem nd_B_leastFreeHold_26 : decode nc_B_leastFreeHold 26 = .ok (.iload_n 1, 1) := by decide +kernel
theorem nd_B_leastFreeHold_27 : decode nc_B_leastFreeHold 27 = .ok (.ireturn, 1) := by decide +kernel
theorem nd_H_begin_0 : decode nc_H_begin 0 = .ok (.aload_n 0, 1) := by decide +kernel
theorem nd_H_begin_1 : decode nc_H_begin 1 = .ok (.aload_n 1, 1) := by decide +kernel
theorem nd_H_begin_2 : decode nc_H_begin 2 = .ok (.putfield 7, 3) := by decide +kernel
theorem nd_H_begin_5 : decode nc_H_begin 5 = .ok (.aload_n 0, 1) := by decide +kernel
theorem nd_H_begin_6 : decode nc_H_begin 6 = .ok (.iload_n 2, 1) := by decide +kernel
theorem nd_H_begin_7 : decode nc_H_begin 7 = .ok (.putfield 13, 3) := by decide +kernel
theorem nd_H_begin_10 : decode nc_H_begin 10 = .ok (.aload_n 1, 1) := by decide +kernel
theorem nd_H_begin_11 : decode nc_H_begin 11 = .ok (.dup, 1) := by decide +kernel
theorem nd_H_begin_12 : decode nc_H_begin 12 = .ok (.getfield 17, 3) := by decide +kernel
theorem nd_H_begin_15 : decode nc_H_begin 15 = .ok (.iload_n 2, 1) := by decide +kernel
theorem nd_H_begin_16 : decode nc_H_begin 16 = .ok (.i2l, 1) := by decide +kernel
theorem nd_H_begin_17 : decode nc_H_begin 17 = .ok (.ladd, 1) := by decide +kernel
theorem nd_H_begin_18 : decode nc_H_begin 18 = .ok (.putfield 17, 3) := by decide +kernel
theorem nd_H_begin_21 : decode nc_H_begin 21 = .ok (.return_, 1) := by decide +kernel
theorem nd_B_release_0 : decode nc_B_release 0 = .ok (.aload_n 0, 1) := by decide +kernel
theorem nd_B_release_1 : decode nc_B_release 1 = .ok (.invokevirtual 53, 3) := by decide +kernel
theorem nd_B_release_4 : decode nc_B_release 4 = .ok (.istore_n 2, 1) := by decide +kernel
theorem nd_B_release_5 : decode nc_B_release 5 = .ok (.iload_n 2, 1) := by decide +kernel
theorem nd_B_release_6 : decode nc_B_release 6 = .ok (.ifCond .eq 5, 3) := by decide +kernel
theorem nd_B_release_9 : decode nc_B_release 9 = .ok (.iload_n 2, 1) := by decide +kernel
theorem nd_B_release_10 : decode nc_B_release 10 = .ok (.ireturn, 1) := by decide +kernel
theorem nd_B_release_11 : decode nc_B_release 11 = .ok (.aload_n 0, 1) := by decide +kernel
theorem nd_B_release_12 : decode nc_B_release 12 = .ok (.iload_n 1, 1) := by decide +kernel
theorem nd_B_release_13 : decode nc_B_release 13 = .ok (.invokevirtual 129, 3) := by decide +kernel
theorem nd_B_release_16 : decode nc_B_release 16 = .ok (.astore_n 3, 1) := by decide +kernel
theorem nd_B_release_17 : decode nc_B_release 17 = .ok (.aload_n 3, 1) := by decide +kernel
theorem nd_B_release_18 : decode nc_B_release 18 = .ok (.ifnonnull 6, 3) := by decide +kernel
theorem nd_B_release_21 : decode nc_B_release 21 = .ok (.bipush (-3), 2) := by decide +kernel
theorem nd_B_release_23 : decode nc_B_release 23 = .ok (.ireturn, 1) := by decide +kernel
theorem nd_B_release_24 : decode nc_B_release 24 = .ok (.aload_n 0, 1) := by decide +kernel
theorem nd_B_release_25 : decode nc_B_release 25 = .ok (.getfield 37, 3) := by decide +kernel
theorem nd_B_release_28 : decode nc_B_release 28 = .ok (.aload_n 3, 1) := by decide +kernel
theorem nd_B_release_29 : decode nc_B_release 29 = .ok (.getfield 133, 3) := by decide +kernel
theorem nd_B_release_32 : decode nc_B_release 32 = .ok (.invokestatic 75, 3) := by decide +kernel
theorem nd_B_release_35 : decode nc_B_release 35 = .ok (.invokevirtual 79, 3) := by decide +kernel
theorem nd_B_release_38 : decode nc_B_release 38 = .ok (.ifCond .ne 5, 3) := by decide +kernel
theorem nd_B_release_41 : decode nc_B_release 41 = .ok (.iconst (-1), 1) := by decide +kernel
theorem nd_B_release_42 : decode nc_B_release 42 = .ok (.ireturn, 1) := by decide +kernel
theorem nd_B_release_43 : decode nc_B_release 43 = .ok (.aload_n 3, 1) := by decide +kernel
theorem nd_B_release_44 : decode nc_B_release 44 = .ok (.invokevirtual 137, 3) := by decide +kernel
theorem nd_B_release_47 : decode nc_B_release 47 = .ok (.iconst 0, 1) := by decide +kernel
theorem nd_B_release_48 : decode nc_B_release 48 = .ok (.ireturn, 1) := by decide +kernel
theorem nd_B_standingHold_0 : decode nc_B_standingHold 0 = .ok (.iload_n 1, 1) := by decide +kernel
theorem nd_B_standingHold_1 : decode nc_B_standingHold 1 = .ok (.iconst 0, 1) := by decide +kernel
theorem nd_B_standingHold_2 : decode nc_B_standingHold 2 = .ok (.bipush 7, 2) := by decide +kernel
theorem nd_B_standingHold_4 : decode nc_B_standingHold 4 = .ok (.invokestatic 67, 3) := by decide +kernel
theorem nd_B_standingHold_7 : decode nc_B_standingHold 7 = .ok (.ifCond .ne 5, 3) := by decide +kernel
theorem nd_B_standingHold_10 : decode nc_B_standingHold 10 = .ok (.aconst_null, 1) := by decide +kernel
theorem nd_B_standingHold_11 : decode nc_B_standingHold 11 = .ok (.areturn, 1) := by decide +kernel
theorem nd_B_standingHold_12 : decode nc_B_standingHold 12 = .ok (.aload_n 0, 1) := by decide +kernel
theorem nd_B_standingHold_13 : decode nc_B_standingHold 13 = .ok (.getfield 17, 3) := by decide +kernel
theorem nd_B_standingHold_16 : decode nc_B_standingHold 16 = .ok (.iload_n 1, 1) := by decide +kernel
theorem nd_B_standingHold_17 : decode nc_B_standingHold 17 = .ok (.aaload, 1) := by decide +kernel
theorem nd_B_standingHold_18 : decode nc_B_standingHold 18 = .ok (.getfield 133, 3) := by decide +kernel
theorem nd_B_standingHold_21 : decode nc_B_standingHold 21 = .ok (.ifnonnull 7, 3) := by decide +kernel
theorem nd_B_standingHold_24 : decode nc_B_standingHold 24 = .ok (.aconst_null, 1) := by decide +kernel
theorem nd_B_standingHold_25 : decode nc_B_standingHold 25 = .ok (.goto 9, 3) := by decide +kernel
theorem nd_B_standingHold_28 : decode nc_B_standingHold 28 = .ok (.aload_n 0, 1) := by decide +kernel
theorem nd_B_standingHold_29 : decode nc_B_standingHold 29 = .ok (.getfield 17, 3) := by decide +kernel
theorem nd_B_standingHold_32 : decode nc_B_standingHold 32 = .ok (.iload_n 1, 1) := by decide +kernel
theorem nd_B_standingHold_33 : decode nc_B_standingHold 33 = .ok (.aaload, 1) := by decide +kernel
theorem nd_B_standingHold_34 : decode nc_B_standingHold 34 = .ok (.areturn, 1) := by decide +kernel
theorem nd_H_end_0 : decode nc_H_end 0 = .ok (.aload_n 0, 1) := by decide +kernel
theorem nd_H_end_1 : decode nc_H_end 1 = .ok (.getfield 7, 3) := by decide +kernel
theorem nd_H_end_4 : decode nc_H_end 4 = .ok (.ifnull 20, 3) := by decide +kernel
theorem nd_H_end_7 : decode nc_H_end 7 = .ok (.aload_n 0, 1) := by decide +kernel
theorem nd_H_end_8 : decode nc_H_end 8 = .ok (.getfield 7, 3) := by decide +kernel
theorem nd_H_end_11 : decode nc_H_end 11 = .ok (.dup, 1) := by decide +kernel
theorem nd_H_end_12 : decode nc_H_end 12 = .ok (.getfield 17, 3) := by decide +kernel
theorem nd_H_end_15 : decode nc_H_end 15 = .ok (.aload_n 0, 1) := by decide +kernel
theorem nd_H_end_16 : decode nc_H_end 16 = .ok (.getfield 13, 3) := by decide +kernel
theorem nd_H_end_19 : decode nc_H_end 19 = .ok (.i2l, 1) := by decide +kernel
theorem nd_H_end_20 : decode nc_H_end 20 = .ok (.lsub, 1) := by decide +kernel
theorem nd_H_end_21 : decode nc_H_end 21 = .ok (.putfield 17, 3) := by decide +kernel
theorem nd_H_end_24 : decode nc_H_end 24 = .ok (.aload_n 0, 1) := by decide +kernel
theorem nd_H_end_25 : decode nc_H_end 25 = .ok (.aconst_null, 1) := by decide +kernel
theorem nd_H_end_26 : decode nc_H_end 26 = .ok (.putfield 7, 3) := by decide +kernel
theorem nd_H_end_29 : decode nc_H_end 29 = .ok (.aload_n 0, 1) := by decide +kernel
theorem nd_H_end_30 : decode nc_H_end 30 = .ok (.iconst 0, 1) := by decide +kernel
theorem nd_H_end_31 : decode nc_H_end 31 = .ok (.putfield 13, 3) := by decide +kernel
theorem nd_H_end_34 : decode nc_H_end 34 = .ok (.return_, 1) := by decide +kernel
theorem nd_B_settle_0 : decode nc_B_settle 0 = .ok (.aload_n 0, 1) := by decide +kernel
theorem nd_B_settle_1 : decode nc_B_settle 1 = .ok (.invokevirtual 53, 3) := by decide +kernel
theorem nd_B_settle_4 : decode nc_B_settle 4 = .ok (.istore 4, 2) := by decide +kernel
theorem nd_B_settle_6 : decode nc_B_settle 6 = .ok (.iload 4, 2) := by decide +kernel
theorem nd_B_settle_8 : decode nc_B_settle 8 = .ok (.ifCond .eq 6, 3) := by decide +kernel
theorem nd_B_settle_11 : decode nc_B_settle 11 = .ok (.iload 4, 2) := by decide +kernel
theorem nd_B_settle_13 : decode nc_B_settle 13 = .ok (.ireturn, 1) := by decide +kernel
theorem nd_B_settle_14 : decode nc_B_settle 14 = .ok (.aload_n 0, 1) := by decide +kernel
theorem nd_B_settle_15 : decode nc_B_settle 15 = .ok (.iload_n 1, 1) := by decide +kernel
theorem nd_B_settle_16 : decode nc_B_settle 16 = .ok (.invokevirtual 129, 3) := by decide +kernel
theorem nd_B_settle_19 : decode nc_B_settle 19 = .ok (.astore 5, 2) := by decide +kernel
theorem nd_B_settle_21 : decode nc_B_settle 21 = .ok (.aload 5, 2) := by decide +kernel
theorem nd_B_settle_23 : decode nc_B_settle 23 = .ok (.ifnull 16, 3) := by decide +kernel
theorem nd_B_settle_26 : decode nc_B_settle 26 = .ok (.iload_n 3, 1) := by decide +kernel
theorem nd_B_settle_27 : decode nc_B_settle 27 = .ok (.iconst 1, 1) := by decide +kernel
theorem nd_B_settle_28 : decode nc_B_settle 28 = .ok (.aload 5, 2) := by decide +kernel
theorem nd_B_settle_30 : decode nc_B_settle 30 = .ok (.getfield 140, 3) := by decide +kernel
theorem nd_B_settle_33 : decode nc_B_settle 33 = .ok (.invokestatic 67, 3) := by decide +kernel
theorem nd_B_settle_36 : decode nc_B_settle 36 = .ok (.ifCond .ne 6, 3) := by decide +kernel
theorem nd_B_settle_39 : decode nc_B_settle 39 = .ok (.bipush (-3), 2) := by decide +kernel
theorem nd_B_settle_41 : decode nc_B_settle 41 = .ok (.ireturn, 1) := by decide +kernel
theorem nd_B_settle_42 : decode nc_B_settle 42 = .ok (.aload 5, 2) := by decide +kernel
theorem nd_B_settle_44 : decode nc_B_settle 44 = .ok (.getfield 133, 3) := by decide +kernel
theorem nd_B_settle_47 : decode nc_B_settle 47 = .ok (.astore 6, 2) := by decide +kernel
theorem nd_B_settle_49 : decode nc_B_settle 49 = .ok (.aload 6, 2) := by decide +kernel
theorem nd_B_settle_51 : decode nc_B_settle 51 = .ok (.ifnull 16, 3) := by decide +kernel
theorem nd_B_settle_54 : decode nc_B_settle 54 = .ok (.aload_n 0, 1) := by decide +kernel
theorem nd_B_settle_55 : decode nc_B_settle 55 = .ok (.aload 6, 2) := by decide +kernel
theorem nd_B_settle_57 : decode nc_B_settle 57 = .ok (.getfield 100, 3) := by decide +kernel
theorem nd_B_settle_60 : decode nc_B_settle 60 = .ok (.iload_n 2, 1) := by decide +kernel
theorem nd_B_settle_61 : decode nc_B_settle 61 = .ok (.invokevirtual 103, 3) := by decide +kernel
theorem nd_B_settle_64 : decode nc_B_settle 64 = .ok (.ifCond .ne 6, 3) := by decide +kernel
theorem nd_B_settle_67 : decode nc_B_settle 67 = .ok (.bipush (-3), 2) := by decide +kernel
theorem nd_B_settle_69 : decode nc_B_settle 69 = .ok (.ireturn, 1) := by decide +kernel
theorem nd_B_settle_70 : decode nc_B_settle 70 = .ok (.aload_n 0, 1) := by decide +kernel
theorem nd_B_settle_71 : decode nc_B_settle 71 = .ok (.iload_n 2, 1) := by decide +kernel
theorem nd_B_settle_72 : decode nc_B_settle 72 = .ok (.invokevirtual 110, 3) := by decide +kernel
theorem nd_B_settle_75 : decode nc_B_settle 75 = .ok (.astore 7, 2) := by decide +kernel
theorem nd_B_settle_77 : decode nc_B_settle 77 = .ok (.aload_n 0, 1) := by decide +kernel
theorem nd_B_settle_78 : decode nc_B_settle 78 = .ok (.getfield 37, 3) := by decide +kernel
theorem nd_B_settle_81 : decode nc_B_settle 81 = .ok (.aload 6, 2) := by decide +kernel
theorem nd_B_settle_83 : decode nc_B_settle 83 = .ok (.invokestatic 75, 3) := by decide +kernel
theorem nd_B_settle_86 : decode nc_B_settle 86 = .ok (.aload 7, 2) := by decide +kernel
theorem nd_B_settle_88 : decode nc_B_settle 88 = .ok (.invokestatic 75, 3) := by decide +kernel
theorem nd_B_settle_91 : decode nc_B_settle 91 = .ok (.ior, 1) := by decide +kernel
theorem nd_B_settle_92 : decode nc_B_settle 92 = .ok (.invokevirtual 79, 3) := by decide +kernel
theorem nd_B_settle_95 : decode nc_B_settle 95 = .ok (.ifCond .ne 5, 3) := by decide +kernel
theorem nd_B_settle_98 : decode nc_B_settle 98 = .ok (.iconst (-1), 1) := by decide +kernel
theorem nd_B_settle_99 : decode nc_B_settle 99 = .ok (.ireturn, 1) := by decide +kernel
theorem nd_B_settle_100 : decode nc_B_settle 100 = .ok (.aload 5, 2) := by decide +kernel
theorem nd_B_settle_102 : decode nc_B_settle 102 = .ok (.invokevirtual 137, 3) := by decide +kernel
theorem nd_B_settle_105 : decode nc_B_settle 105 = .ok (.aload_n 0, 1) := by decide +kernel
theorem nd_B_settle_106 : decode nc_B_settle 106 = .ok (.aload 6, 2) := by decide +kernel
theorem nd_B_settle_108 : decode nc_B_settle 108 = .ok (.aload 7, 2) := by decide +kernel
theorem nd_B_settle_110 : decode nc_B_settle 110 = .ok (.iload_n 3, 1) := by decide +kernel
theorem nd_B_settle_111 : decode nc_B_settle 111 = .ok (.invokevirtual 118, 3) := by decide +kernel
theorem nd_B_settle_114 : decode nc_B_settle 114 = .ok (.iconst 0, 1) := by decide +kernel
theorem nd_B_settle_115 : decode nc_B_settle 115 = .ok (.ireturn, 1) := by decide +kernel
theorem nd_B_order_0 : decode nc_B_order 0 = .ok (.aload_n 0, 1) := by decide +kernel
theorem nd_B_order_1 : decode nc_B_order 1 = .ok (.invokevirtual 53, 3) := by decide +kernel
theorem nd_B_order_4 : decode nc_B_order 4 = .ok (.istore 5, 2) := by decide +kernel
theorem nd_B_order_6 : decode nc_B_order 6 = .ok (.iload 5, 2) := by decide +kernel
theorem nd_B_order_8 : decode nc_B_order 8 = .ok (.ifCond .eq 6, 3) := by decide +kernel
theorem nd_B_order_11 : decode nc_B_order 11 = .ok (.iload 5, 2) := by decide +kernel
theorem nd_B_order_13 : decode nc_B_order 13 = .ok (.ireturn, 1) := by decide +kernel
theorem nd_B_order_14 : decode nc_B_order 14 = .ok (.aload_n 0, 1) := by decide +kernel
theorem nd_B_order_15 : decode nc_B_order 15 = .ok (.iload_n 1, 1) := by decide +kernel
theorem nd_B_order_16 : decode nc_B_order 16 = .ok (.invokevirtual 110, 3) := by decide +kernel
theorem nd_B_order_19 : decode nc_B_order 19 = .ok (.astore 6, 2) := by decide +kernel
theorem nd_B_order_21 : decode nc_B_order 21 = .ok (.aload_n 0, 1) := by decide +kernel
theorem nd_B_order_22 : decode nc_B_order 22 = .ok (.iload_n 2, 1) := by decide +kernel
theorem nd_B_order_23 : decode nc_B_order 23 = .ok (.invokevirtual 110, 3) := by decide +kernel
theorem nd_B_order_26 : decode nc_B_order 26 = .ok (.astore 7, 2) := by decide +kernel
theorem nd_B_order_28 : decode nc_B_order 28 = .ok (.aload 6, 2) := by decide +kernel
theorem nd_B_order_30 : decode nc_B_order 30 = .ok (.ifnull 17, 3) := by decide +kernel
theorem nd_B_order_33 : decode nc_B_order 33 = .ok (.aload 7, 2) := by decide +kernel
theorem nd_B_order_35 : decode nc_B_order 35 = .ok (.ifnull 12, 3) := by decide +kernel
theorem nd_B_order_38 : decode nc_B_order 38 = .ok (.aload_n 0, 1) := by decide +kernel
theorem nd_B_order_39 : decode nc_B_order 39 = .ok (.iload_n 1, 1) := by decide +kernel
theorem nd_B_order_40 : decode nc_B_order 40 = .ok (.iload_n 2, 1) := by decide +kernel
theorem nd_B_order_41 : decode nc_B_order 41 = .ok (.invokevirtual 103, 3) := by decide +kernel
theorem nd_B_order_44 : decode nc_B_order 44 = .ok (.ifCond .ne 6, 3) := by decide +kernel
theorem nd_B_order_47 : decode nc_B_order 47 = .ok (.bipush (-3), 2) := by decide +kernel
theorem nd_B_order_49 : decode nc_B_order 49 = .ok (.ireturn, 1) := by decide +kernel
theorem nd_B_order_50 : decode nc_B_order 50 = .ok (.iload_n 3, 1) := by decide +kernel
theorem nd_B_order_51 : decode nc_B_order 51 = .ok (.invokestatic 107, 3) := by decide +kernel
theorem nd_B_order_54 : decode nc_B_order 54 = .ok (.ifCond .eq 14, 3) := by decide +kernel
theorem nd_B_order_57 : decode nc_B_order 57 = .ok (.iload 4, 2) := by decide +kernel
theorem nd_B_order_59 : decode nc_B_order 59 = .ok (.iconst 1, 1) := by decide +kernel
theorem nd_B_order_60 : decode nc_B_order 60 = .ok (.bipush 31, 2) := by decide +kernel
theorem nd_B_order_62 : decode nc_B_order 62 = .ok (.invokestatic 67, 3) := by decide +kernel
theorem nd_B_order_65 : decode nc_B_order 65 = .ok (.ifCond .ne 6, 3) := by decide +kernel
theorem nd_B_order_68 : decode nc_B_order 68 = .ok (.bipush (-3), 2) := by decide +kernel
theorem nd_B_order_70 : decode nc_B_order 70 = .ok (.ireturn, 1) := by decide +kernel
theorem nd_B_order_71 : decode nc_B_order 71 = .ok (.aload_n 0, 1) := by decide +kernel
theorem nd_B_order_72 : decode nc_B_order 72 = .ok (.getfield 143, 3) := by decide +kernel
theorem nd_B_order_75 : decode nc_B_order 75 = .ok (.bipush 6, 2) := by decide +kernel
theorem nd_B_order_77 : decode nc_B_order 77 = .ok (.if_icmp .lt 6, 3) := by decide +kernel
theorem nd_B_order_80 : decode nc_B_order 80 = .ok (.bipush (-4), 2) := by decide +kernel
theorem nd_B_order_82 : decode nc_B_order 82 = .ok (.ireturn, 1) := by decide +kernel
theorem nd_B_order_83 : decode nc_B_order 83 = .ok (.aload_n 0, 1) := by decide +kernel
theorem nd_B_order_84 : decode nc_B_order 84 = .ok (.getfield 37, 3) := by decide +kernel
theorem nd_B_order_87 : decode nc_B_order 87 = .ok (.aload 6, 2) := by decide +kernel
theorem nd_B_order_89 : decode nc_B_order 89 = .ok (.invokestatic 75, 3) := by decide +kernel
theorem nd_B_order_92 : decode nc_B_order 92 = .ok (.invokevirtual 79, 3) := by decide +kernel
theorem nd_B_order_95 : decode nc_B_order 95 = .ok (.ifCond .ne 5, 3) := by decide +kernel
theorem nd_B_order_98 : decode nc_B_order 98 = .ok (.iconst (-1), 1) := by decide +kernel
theorem nd_B_order_99 : decode nc_B_order 99 = .ok (.ireturn, 1) := by decide +kernel
theorem nd_B_order_100 : decode nc_B_order 100 = .ok (.aload_n 0, 1) := by decide +kernel
theorem nd_B_order_101 : decode nc_B_order 101 = .ok (.getfield 23, 3) := by decide +kernel
theorem nd_B_order_104 : decode nc_B_order 104 = .ok (.aload_n 0, 1) := by decide +kernel
theorem nd_B_order_105 : decode nc_B_order 105 = .ok (.getfield 143, 3) := by decide +kernel
theorem nd_B_order_108 : decode nc_B_order 108 = .ok (.aaload, 1) := by decide +kernel
theorem nd_B_order_109 : decode nc_B_order 109 = .ok (.aload 6, 2) := by decide +kernel
theorem nd_B_order_111 : decode nc_B_order 111 = .ok (.aload 7, 2) := by decide +kernel
theorem nd_B_order_113 : decode nc_B_order 113 = .ok (.iload_n 3, 1) := by decide +kernel
theorem nd_B_order_114 : decode nc_B_order 114 = .ok (.iload 4, 2) := by decide +kernel
theorem nd_B_order_116 : decode nc_B_order 116 = .ok (.invokevirtual 146, 3) := by decide +kernel
theorem nd_B_order_119 : decode nc_B_order 119 = .ok (.aload_n 0, 1) := by decide +kernel
theorem nd_B_order_120 : decode nc_B_order 120 = .ok (.dup, 1) := by decide +kernel
theorem nd_B_order_121 : decode nc_B_order 121 = .ok (.getfield 143, 3) := by decide +kernel
theorem nd_B_order_124 : decode nc_B_order 124 = .ok (.iconst 1, 1) := by decide +kernel
theorem nd_B_order_125 : decode nc_B_order 125 = .ok (.iadd, 1) := by decide +kernel
theorem nd_B_order_126 : decode nc_B_order 126 = .ok (.putfield 143, 3) := by decide +kernel
theorem nd_B_order_129 : decode nc_B_order 129 = .ok (.aload_n 0, 1) := by decide +kernel
theorem nd_B_order_130 : decode nc_B_order 130 = .ok (.getfield 143, 3) := by decide +kernel
theorem nd_B_order_133 : decode nc_B_order 133 = .ok (.iconst 1, 1) := by decide +kernel
theorem nd_B_order_134 : decode nc_B_order 134 = .ok (.isub, 1) := by decide +kernel
theorem nd_B_order_135 : decode nc_B_order 135 = .ok (.ireturn, 1) := by decide +kernel
theorem nd_O_make_0 : decode nc_O_make 0 = .ok (.aload_n 0, 1) := by decide +kernel
theorem nd_O_make_1 : decode nc_O_make 1 = .ok (.aload_n 1, 1) := by decide +kernel
theorem nd_O_make_2 : decode nc_O_make 2 = .ok (.putfield 7, 3) := by decide +kernel
theorem nd_O_make_5 : decode nc_O_make 5 = .ok (.aload_n 0, 1) := by decide +kernel
theorem nd_O_make_6 : decode nc_O_make 6 = .ok (.aload_n 2, 1) := by decide +kernel
theorem nd_O_make_7 : decode nc_O_make 7 = .ok (.putfield 13, 3) := by decide +kernel
theorem nd_O_make_10 : decode nc_O_make 10 = .ok (.aload_n 0, 1) := by decide +kernel
theorem nd_O_make_11 : decode nc_O_make 11 = .ok (.iload_n 3, 1) := by decide +kernel
theorem nd_O_make_12 : decode nc_O_make 12 = .ok (.putfield 16, 3) := by decide +kernel
theorem nd_O_make_15 : decode nc_O_make 15 = .ok (.aload_n 0, 1) := by decide +kernel
theorem nd_O_make_16 : decode nc_O_make 16 = .ok (.iload 4, 2) := by decide +kernel
theorem nd_O_make_18 : decode nc_O_make 18 = .ok (.putfield 20, 3) := by decide +kernel
theorem nd_O_make_21 : decode nc_O_make 21 = .ok (.return_, 1) := by decide +kernel
theorem nd_B_rest_0 : decode nc_B_rest 0 = .ok (.aload_n 0, 1) := by decide +kernel
theorem nd_B_rest_1 : decode nc_B_rest 1 = .ok (.invokevirtual 53, 3) := by decide +kernel
theorem nd_B_rest_4 : decode nc_B_rest 4 = .ok (.istore_n 2, 1) := by decide +kernel
theorem nd_B_rest_5 : decode nc_B_rest 5 = .ok (.iload_n 2, 1) := by decide +kernel
theorem nd_B_rest_6 : decode nc_B_rest 6 = .ok (.ifCond .eq 5, 3) := by decide +kernel
theorem nd_B_rest_9 : decode nc_B_rest 9 = .ok (.iload_n 2, 1) := by decide +kernel
theorem nd_B_rest_10 : decode nc_B_rest 10 = .ok (.ireturn, 1) := by decide +kernel
theorem nd_B_rest_11 : decode nc_B_rest 11 = .ok (.iload_n 1, 1) := by decide +kernel
theorem nd_B_rest_12 : decode nc_B_rest 12 = .ok (.iconst 0, 1) := by decide +kernel
theorem nd_B_rest_13 : decode nc_B_rest 13 = .ok (.sipush 20000, 3) := by decide +kernel
theorem nd_B_rest_16 : decode nc_B_rest 16 = .ok (.invokestatic 67, 3) := by decide +kernel
theorem nd_B_rest_19 : decode nc_B_rest 19 = .ok (.ifCond .eq 14, 3) := by decide +kernel
theorem nd_B_rest_22 : decode nc_B_rest 22 = .ok (.aload_n 0, 1) := by decide +kernel
theorem nd_B_rest_23 : decode nc_B_rest 23 = .ok (.getfield 30, 3) := by decide +kernel
theorem nd_B_rest_26 : decode nc_B_rest 26 = .ok (.iload_n 1, 1) := by decide +kernel
theorem nd_B_rest_27 : decode nc_B_rest 27 = .ok (.invokevirtual 150, 3) := by decide +kernel
theorem nd_B_rest_30 : decode nc_B_rest 30 = .ok (.ifCond .eq 6, 3) := by decide +kernel
theorem nd_B_rest_33 : decode nc_B_rest 33 = .ok (.bipush (-3), 2) := by decide +kernel
theorem nd_B_rest_35 : decode nc_B_rest 35 = .ok (.ireturn, 1) := by decide +kernel
theorem nd_B_rest_36 : decode nc_B_rest 36 = .ok (.aload_n 0, 1) := by decide +kernel
theorem nd_B_rest_37 : decode nc_B_rest 37 = .ok (.iload_n 1, 1) := by decide +kernel
theorem nd_B_rest_38 : decode nc_B_rest 38 = .ok (.invokevirtual 153, 3) := by decide +kernel
theorem nd_B_rest_41 : decode nc_B_rest 41 = .ok (.ifCond .ne 6, 3) := by decide +kernel
theorem nd_B_rest_44 : decode nc_B_rest 44 = .ok (.bipush (-3), 2) := by decide +kernel
theorem nd_B_rest_46 : decode nc_B_rest 46 = .ok (.ireturn, 1) := by decide +kernel
theorem nd_B_rest_47 : decode nc_B_rest 47 = .ok (.aload_n 0, 1) := by decide +kernel
theorem nd_B_rest_48 : decode nc_B_rest 48 = .ok (.getfield 30, 3) := by decide +kernel
theorem nd_B_rest_51 : decode nc_B_rest 51 = .ok (.invokevirtual 156, 3) := by decide +kernel
theorem nd_B_rest_54 : decode nc_B_rest 54 = .ok (.ifCond .eq 6, 3) := by decide +kernel
theorem nd_B_rest_57 : decode nc_B_rest 57 = .ok (.bipush (-4), 2) := by decide +kernel
theorem nd_B_rest_59 : decode nc_B_rest 59 = .ok (.ireturn, 1) := by decide +kernel
theorem nd_B_rest_60 : decode nc_B_rest 60 = .ok (.aload_n 0, 1) := by decide +kernel
theorem nd_B_rest_61 : decode nc_B_rest 61 = .ok (.getfield 37, 3) := by decide +kernel
theorem nd_B_rest_64 : decode nc_B_rest 64 = .ok (.iconst 0, 1) := by decide +kernel
theorem nd_B_rest_65 : decode nc_B_rest 65 = .ok (.invokevirtual 79, 3) := by decide +kernel
theorem nd_B_rest_68 : decode nc_B_rest 68 = .ok (.ifCond .ne 5, 3) := by decide +kernel
theorem nd_B_rest_71 : decode nc_B_rest 71 = .ok (.iconst (-1), 1) := by decide +kernel
theorem nd_B_rest_72 : decode nc_B_rest 72 = .ok (.ireturn, 1) := by decide +kernel
theorem nd_B_rest_73 : decode nc_B_rest 73 = .ok (.aload_n 0, 1) := by decide +kernel
theorem nd_B_rest_74 : decode nc_B_rest 74 = .ok (.getfield 30, 3) := by decide +kernel
theorem nd_B_rest_77 : decode nc_B_rest 77 = .ok (.iload_n 1, 1) := by decide +kernel
theorem nd_B_rest_78 : decode nc_B_rest 78 = .ok (.invokevirtual 160, 3) := by decide +kernel
theorem nd_B_rest_81 : decode nc_B_rest 81 = .ok (.iconst 0, 1) := by decide +kernel
theorem nd_B_rest_82 : decode nc_B_rest 82 = .ok (.ireturn, 1) := by decide +kernel
theorem nd_R_isRest_0 : decode nc_R_isRest 0 = .ok (.iload_n 1, 1) := by decide +kernel
theorem nd_R_isRest_1 : decode nc_R_isRest 1 = .ok (.bipush 7, 2) := by decide +kernel
theorem nd_R_isRest_3 : decode nc_R_isRest 3 = .ok (.irem, 1) := by decide +kernel
theorem nd_R_isRest_4 : decode nc_R_isRest 4 = .ok (.istore_n 2, 1) := by decide +kernel
theorem nd_R_isRest_5 : decode nc_R_isRest 5 = .ok (.iload_n 2, 1) := by decide +kernel
theorem nd_R_isRest_6 : decode nc_R_isRest 6 = .ok (.ifCond .eq 16, 3) := by decide +kernel
theorem nd_R_isRest_9 : decode nc_R_isRest 9 = .ok (.iload_n 2, 1) := by decide +kernel
theorem nd_R_isRest_10 : decode nc_R_isRest 10 = .ok (.iconst 1, 1) := by decide +kernel
theorem nd_R_isRest_11 : decode nc_R_isRest 11 = .ok (.if_icmp .eq 11, 3) := by decide +kernel
theorem nd_R_isRest_14 : decode nc_R_isRest 14 = .ok (.aload_n 0, 1) := by decide +kernel
theorem nd_R_isRest_15 : decode nc_R_isRest 15 = .ok (.iload_n 1, 1) := by decide +kernel
theorem nd_R_isRest_16 : decode nc_R_isRest 16 = .ok (.invokevirtual 21, 3) := by decide +kernel
theorem nd_R_isRest_19 : decode nc_R_isRest 19 = .ok (.ifCond .eq 7, 3) := by decide +kernel
theorem nd_R_isRest_22 : decode nc_R_isRest 22 = .ok (.iconst 1, 1) := by decide +kernel
theorem nd_R_isRest_23 : decode nc_R_isRest 23 = .ok (.goto 4, 3) := by decide +kernel
theorem nd_R_isRest_26 : decode nc_R_isRest 26 = .ok (.iconst 0, 1) := by decide +kernel
theorem nd_R_isRest_27 : decode nc_R_isRest 27 = .ok (.ireturn, 1) := by decide +kernel
theorem nd_R_wasMade_0 : decode nc_R_wasMade 0 = .ok (.iconst 0, 1) := by decide +kernel
theorem nd_R_wasMade_1 : decode nc_R_wasMade 1 = .ok (.istore_n 2, 1) := by decide +kernel
theorem nd_R_wasMade_2 : decode nc_R_wasMade 2 = .ok (.iload_n 2, 1) := by decide +kernel
theorem nd_R_wasMade_3 : decode nc_R_wasMade 3 = .ok (.aload_n 0, 1) := by decide +kernel
theorem nd_R_wasMade_4 : decode nc_R_wasMade 4 = .ok (.getfield 13, 3) := by decide +kernel
theorem nd_R_wasMade_7 : decode nc_R_wasMade 7 = .ok (.if_icmp .ge 21, 3) := by decide +kernel
theorem nd_R_wasMade_10 : decode nc_R_wasMade 10 = .ok (.aload_n 0, 1) := by decide +kernel
theorem nd_R_wasMade_11 : decode nc_R_wasMade 11 = .ok (.getfield 9, 3) := by decide +kernel
theorem nd_R_wasMade_14 : decode nc_R_wasMade 14 = .ok (.iload_n 2, 1) := by decide +kernel
theorem nd_R_wasMade_15 : decode nc_R_wasMade 15 = .ok (.iaload, 1) := by decide +kernel
theorem nd_R_wasMade_16 : decode nc_R_wasMade 16 = .ok (.iload_n 1, 1) := by decide +kernel
theorem nd_R_wasMade_17 : decode nc_R_wasMade 17 = .ok (.if_icmp .ne 5, 3) := by decide +kernel
theorem nd_R_wasMade_20 : decode nc_R_wasMade 20 = .ok (.iconst 1, 1) := by decide +kernel
theorem nd_R_wasMade_21 : decode nc_R_wasMade 21 = .ok (.ireturn, 1) := by decide +kernel
theorem nd_R_wasMade_22 : decode nc_R_wasMade 22 = .ok (.iinc 2 1, 3) := by decide +kernel
theorem nd_R_wasMade_25 : decode nc_R_wasMade 25 = .ok (.goto (-23), 3) := by decide +kernel
theorem nd_R_wasMade_28 : decode nc_R_wasMade 28 = .ok (.iconst 0, 1) := by decide +kernel
theorem nd_R_wasMade_29 : decode nc_R_wasMade 29 = .ok (.ireturn, 1) := by decide +kernel
theorem nd_B_isInLaterMonth_0 : decode nc_B_isInLaterMonth 0 = .ok (.iload_n 1, 1) := by decide +kernel
theorem nd_B_isInLaterMonth_1 : decode nc_B_isInLaterMonth 1 = .ok (.invokestatic 210, 3) := by decide +kernel
theorem nd_B_isInLaterMonth_4 : decode nc_B_isInLaterMonth 4 = .ok (.invokestatic 214, 3) := by decide +kernel
theorem nd_B_isInLaterMonth_7 : decode nc_B_isInLaterMonth 7 = .ok (.istore_n 2, 1) := by decide +kernel
theorem nd_B_isInLaterMonth_8 : decode nc_B_isInLaterMonth 8 = .ok (.iload_n 2, 1) := by decide +kernel
theorem nd_B_isInLaterMonth_9 : decode nc_B_isInLaterMonth 9 = .ok (.aload_n 0, 1) := by decide +kernel
theorem nd_B_isInLaterMonth_10 : decode nc_B_isInLaterMonth 10 = .ok (.getfield 94, 3) := by decide +kernel
theorem nd_B_isInLaterMonth_13 : decode nc_B_isInLaterMonth 13 = .ok (.invokestatic 210, 3) := by decide +kernel
theorem nd_B_isInLaterMonth_16 : decode nc_B_isInLaterMonth 16 = .ok (.invokestatic 214, 3) := by decide +kernel
theorem nd_B_isInLaterMonth_19 : decode nc_B_isInLaterMonth 19 = .ok (.if_icmp .le 7, 3) := by decide +kernel
theorem nd_B_isInLaterMonth_22 : decode nc_B_isInLaterMonth 22 = .ok (.iconst 1, 1) := by decide +kernel
theorem nd_B_isInLaterMonth_23 : decode nc_B_isInLaterMonth 23 = .ok (.goto 4, 3) := by decide +kernel
theorem nd_B_isInLaterMonth_26 : decode nc_B_isInLaterMonth 26 = .ok (.iconst 0, 1) := by decide +kernel
theorem nd_B_isInLaterMonth_27 : decode nc_B_isInLaterMonth 27 = .ok (.ireturn, 1) := by decide +kernel
theorem nd_C_monthAndDay_0 : decode nc_C_monthAndDay 0 = .ok (.iload_n 0, 1) := by decide +kernel
theorem nd_C_monthAndDay_1 : decode nc_C_monthAndDay 1 = .ok (.bipush 60, 2) := by decide +kernel
theorem nd_C_monthAndDay_3 : decode nc_C_monthAndDay 3 = .ok (.isub, 1) := by decide +kernel
theorem nd_C_monthAndDay_4 : decode nc_C_monthAndDay 4 = .ok (.istore_n 1, 1) := by decide +kernel
theorem nd_C_monthAndDay_5 : decode nc_C_monthAndDay 5 = .ok (.iload_n 1, 1) := by decide +kernel
theorem nd_C_monthAndDay_6 : decode nc_C_monthAndDay 6 = .ok (.ldc 28, 2) := by decide +kernel
theorem nd_C_monthAndDay_8 : decode nc_C_monthAndDay 8 = .ok (.invokestatic 29, 3) := by decide +kernel
theorem nd_C_monthAndDay_11 : decode nc_C_monthAndDay 11 = .ok (.istore_n 2, 1) := by decide +kernel
theorem nd_C_monthAndDay_12 : decode nc_C_monthAndDay 12 = .ok (.iload_n 1, 1) := by decide +kernel
theorem nd_C_monthAndDay_13 : decode nc_C_monthAndDay 13 = .ok (.ldc 28, 2) := by decide +kernel
theorem nd_C_monthAndDay_15 : decode nc_C_monthAndDay 15 = .ok (.invokestatic 32, 3) := by decide +kernel
theorem nd_C_monthAndDay_18 : decode nc_C_monthAndDay 18 = .ok (.istore_n 3, 1) := by decide +kernel
theorem nd_C_monthAndDay_19 : decode nc_C_monthAndDay 19 = .ok (.iload_n 3, 1) := by decide +kernel
theorem nd_C_monthAndDay_20 : decode nc_C_monthAndDay 20 = .ok (.sipush 1460, 3) := by decide +kernel
theorem nd_C_monthAndDay_23 : decode nc_C_monthAndDay 23 = .ok (.idiv, 1) := by decide +kernel
theorem nd_C_monthAndDay_24 : decode nc_C_monthAndDay 24 = .ok (.iload_n 3, 1) := by decide +kernel
theorem nd_C_monthAndDay_25 : decode nc_C_monthAndDay 25 = .ok (.ldc 35, 2) := by decide +kernel
theorem nd_C_monthAndDay_27 : decode nc_C_monthAndDay 27 = .ok (.idiv, 1) := by decide +kernel
theorem nd_C_monthAndDay_28 : decode nc_C_monthAndDay 28 = .ok (.isub, 1) := by decide +kernel
theorem nd_C_monthAndDay_29 : decode nc_C_monthAndDay 29 = .ok (.iload_n 3, 1) := by decide +kernel
theorem nd_C_monthAndDay_30 : decode nc_C_monthAndDay 30 = .ok (.ldc 36, 2) := by decide +kernel
theorem nd_C_monthAndDay_32 : decode nc_C_monthAndDay 32 = .ok (.idiv, 1) := by decide +kernel
theorem nd_C_monthAndDay_33 : decode nc_C_monthAndDay 33 = .ok (.iadd, 1) := by decide +kernel
theorem nd_C_monthAndDay_34 : decode nc_C_monthAndDay 34 = .ok (.istore 4, 2) := by decide +kernel
theorem nd_C_monthAndDay_36 : decode nc_C_monthAndDay 36 = .ok (.iload_n 3, 1) := by decide +kernel
theorem nd_C_monthAndDay_37 : decode nc_C_monthAndDay 37 = .ok (.iload 4, 2) := by decide +kernel
theorem nd_C_monthAndDay_39 : decode nc_C_monthAndDay 39 = .ok (.isub, 1) := by decide +kernel
theorem nd_C_monthAndDay_40 : decode nc_C_monthAndDay 40 = .ok (.sipush 365, 3) := by decide +kernel
theorem nd_C_monthAndDay_43 : decode nc_C_monthAndDay 43 = .ok (.idiv, 1) := by decide +kernel
theorem nd_C_monthAndDay_44 : decode nc_C_monthAndDay 44 = .ok (.istore 5, 2) := by decide +kernel
theorem nd_C_monthAndDay_46 : decode nc_C_monthAndDay 46 = .ok (.iload_n 3, 1) := by decide +kernel
theorem nd_C_monthAndDay_47 : decode nc_C_monthAndDay 47 = .ok (.sipush 365, 3) := by decide +kernel
theorem nd_C_monthAndDay_50 : decode nc_C_monthAndDay 50 = .ok (.iload 5, 2) := by decide +kernel
theorem nd_C_monthAndDay_52 : decode nc_C_monthAndDay 52 = .ok (.imul, 1) := by decide +kernel
theorem nd_C_monthAndDay_53 : decode nc_C_monthAndDay 53 = .ok (.iload 5, 2) := by decide +kernel
theorem nd_C_monthAndDay_55 : decode nc_C_monthAndDay 55 = .ok (.iconst 4, 1) := by decide +kernel
theorem nd_C_monthAndDay_56 : decode nc_C_monthAndDay 56 = .ok (.idiv, 1) := by decide +kernel
theorem nd_C_monthAndDay_57 : decode nc_C_monthAndDay 57 = .ok (.iadd, 1) := by decide +kernel
theorem nd_C_monthAndDay_58 : decode nc_C_monthAndDay 58 = .ok (.iload 5, 2) := by decide +kernel
theorem nd_C_monthAndDay_60 : decode nc_C_monthAndDay 60 = .ok (.bipush 100, 2) := by decide +kernel
theorem nd_C_monthAndDay_62 : decode nc_C_monthAndDay 62 = .ok (.idiv, 1) := by decide +kernel
theorem nd_C_monthAndDay_63 : decode nc_C_monthAndDay 63 = .ok (.isub, 1) := by decide +kernel
theorem nd_C_monthAndDay_64 : decode nc_C_monthAndDay 64 = .ok (.isub, 1) := by decide +kernel
theorem nd_C_monthAndDay_65 : decode nc_C_monthAndDay 65 = .ok (.istore 6, 2) := by decide +kernel
theorem nd_C_monthAndDay_67 : decode nc_C_monthAndDay 67 = .ok (.iconst 5, 1) := by decide +kernel
theorem nd_C_monthAndDay_68 : decode nc_C_monthAndDay 68 = .ok (.iload 6, 2) := by decide +kernel
theorem nd_C_monthAndDay_70 : decode nc_C_monthAndDay 70 = .ok (.imul, 1) := by decide +kernel
theorem nd_C_monthAndDay_71 : decode nc_C_monthAndDay 71 = .ok (.iconst 2, 1) := by decide +kernel
theorem nd_C_monthAndDay_72 : decode nc_C_monthAndDay 72 = .ok (.iadd, 1) := by decide +kernel
theorem nd_C_monthAndDay_73 : decode nc_C_monthAndDay 73 = .ok (.sipush 153, 3) := by decide +kernel
theorem nd_C_monthAndDay_76 : decode nc_C_monthAndDay 76 = .ok (.idiv, 1) := by decide +kernel
theorem nd_C_monthAndDay_77 : decode nc_C_monthAndDay 77 = .ok (.istore 7, 2) := by decide +kernel
theorem nd_C_monthAndDay_79 : decode nc_C_monthAndDay 79 = .ok (.iload 6, 2) := by decide +kernel
theorem nd_C_monthAndDay_81 : decode nc_C_monthAndDay 81 = .ok (.sipush 153, 3) := by decide +kernel
theorem nd_C_monthAndDay_84 : decode nc_C_monthAndDay 84 = .ok (.iload 7, 2) := by decide +kernel
theorem nd_C_monthAndDay_86 : decode nc_C_monthAndDay 86 = .ok (.imul, 1) := by decide +kernel
theorem nd_C_monthAndDay_87 : decode nc_C_monthAndDay 87 = .ok (.iconst 2, 1) := by decide +kernel
theorem nd_C_monthAndDay_88 : decode nc_C_monthAndDay 88 = .ok (.iadd, 1) := by decide +kernel
theorem nd_C_monthAndDay_89 : decode nc_C_monthAndDay 89 = .ok (.iconst 5, 1) := by decide +kernel
theorem nd_C_monthAndDay_90 : decode nc_C_monthAndDay 90 = .ok (.idiv, 1) := by decide +kernel
theorem nd_C_monthAndDay_91 : decode nc_C_monthAndDay 91 = .ok (.isub, 1) := by decide +kernel
theorem nd_C_monthAndDay_92 : decode nc_C_monthAndDay 92 = .ok (.iconst 1, 1) := by decide +kernel
theorem nd_C_monthAndDay_93 : decode nc_C_monthAndDay 93 = .ok (.iadd, 1) := by decide +kernel
theorem nd_C_monthAndDay_94 : decode nc_C_monthAndDay 94 = .ok (.istore 8, 2) := by decide +kernel
theorem nd_C_monthAndDay_96 : decode nc_C_monthAndDay 96 = .ok (.sipush 4800, 3) := by decide +kernel
theorem nd_C_monthAndDay_99 : decode nc_C_monthAndDay 99 = .ok (.iload_n 2, 1) := by decide +kernel
theorem nd_C_monthAndDay_100 : decode nc_C_monthAndDay 100 = .ok (.imul, 1) := by decide +kernel
theorem nd_C_monthAndDay_101 : decode nc_C_monthAndDay 101 = .ok (.bipush 12, 2) := by decide +kernel
theorem nd_C_monthAndDay_103 : decode nc_C_monthAndDay 103 = .ok (.iload 5, 2) := by decide +kernel
theorem nd_C_monthAndDay_105 : decode nc_C_monthAndDay 105 = .ok (.imul, 1) := by decide +kernel
theorem nd_C_monthAndDay_106 : decode nc_C_monthAndDay 106 = .ok (.iadd, 1) := by decide +kernel
theorem nd_C_monthAndDay_107 : decode nc_C_monthAndDay 107 = .ok (.iload 7, 2) := by decide +kernel
theorem nd_C_monthAndDay_109 : decode nc_C_monthAndDay 109 = .ok (.iadd, 1) := by decide +kernel
theorem nd_C_monthAndDay_110 : decode nc_C_monthAndDay 110 = .ok (.istore 9, 2) := by decide +kernel
theorem nd_C_monthAndDay_112 : decode nc_C_monthAndDay 112 = .ok (.iload 9, 2) := by decide +kernel
theorem nd_C_monthAndDay_114 : decode nc_C_monthAndDay 114 = .ok (.iconst 5, 1) := by decide +kernel
theorem nd_C_monthAndDay_115 : decode nc_C_monthAndDay 115 = .ok (.ishl, 1) := by decide +kernel
theorem nd_C_monthAndDay_116 : decode nc_C_monthAndDay 116 = .ok (.iload 8, 2) := by decide +kernel
theorem nd_C_monthAndDay_118 : decode nc_C_monthAndDay 118 = .ok (.iadd, 1) := by decide +kernel
theorem nd_C_monthAndDay_119 : decode nc_C_monthAndDay 119 = .ok (.ireturn, 1) := by decide +kernel
theorem nd_T_floorDiv_0 : decode nc_T_floorDiv 0 = .ok (.iload_n 0, 1) := by decide +kernel
theorem nd_T_floorDiv_1 : decode nc_T_floorDiv 1 = .ok (.iload_n 1, 1) := by decide +kernel
theorem nd_T_floorDiv_2 : decode nc_T_floorDiv 2 = .ok (.idiv, 1) := by decide +kernel
theorem nd_T_floorDiv_3 : decode nc_T_floorDiv 3 = .ok (.istore_n 2, 1) := by decide +kernel
theorem nd_T_floorDiv_4 : decode nc_T_floorDiv 4 = .ok (.iload_n 0, 1) := by decide +kernel
theorem nd_T_floorDiv_5 : decode nc_T_floorDiv 5 = .ok (.iload_n 1, 1) := by decide +kernel
theorem nd_T_floorDiv_6 : decode nc_T_floorDiv 6 = .ok (.ixor, 1) := by decide +kernel
theorem nd_T_floorDiv_7 : decode nc_T_floorDiv 7 = .ok (.ifCond .ge 14, 3) := by decide +kernel
theorem nd_T_floorDiv_10 : decode nc_T_floorDiv 10 = .ok (.iload_n 2, 1) := by decide +kernel
theorem nd_T_floorDiv_11 : decode nc_T_floorDiv 11 = .ok (.iload_n 1, 1) := by decide +kernel
theorem nd_T_floorDiv_12 : decode nc_T_floorDiv 12 = .ok (.imul, 1) := by decide +kernel
theorem nd_T_floorDiv_13 : decode nc_T_floorDiv 13 = .ok (.iload_n 0, 1) := by decide +kernel
theorem nd_T_floorDiv_14 : decode nc_T_floorDiv 14 = .ok (.if_icmp .eq 7, 3) := by decide +kernel
theorem nd_T_floorDiv_17 : decode nc_T_floorDiv 17 = .ok (.iload_n 2, 1) := by decide +kernel
theorem nd_T_floorDiv_18 : decode nc_T_floorDiv 18 = .ok (.iconst 1, 1) := by decide +kernel
theorem nd_T_floorDiv_19 : decode nc_T_floorDiv 19 = .ok (.isub, 1) := by decide +kernel
theorem nd_T_floorDiv_20 : decode nc_T_floorDiv 20 = .ok (.ireturn, 1) := by decide +kernel
theorem nd_T_floorDiv_21 : decode nc_T_floorDiv 21 = .ok (.iload_n 2, 1) := by decide +kernel
theorem nd_T_floorDiv_22 : decode nc_T_floorDiv 22 = .ok (.ireturn, 1) := by decide +kernel
theorem nd_T_floorMod_0 : decode nc_T_floorMod 0 = .ok (.iload_n 0, 1) := by decide +kernel
theorem nd_T_floorMod_1 : decode nc_T_floorMod 1 = .ok (.iload_n 1, 1) := by decide +kernel
theorem nd_T_floorMod_2 : decode nc_T_floorMod 2 = .ok (.irem, 1) := by decide +kernel
theorem nd_T_floorMod_3 : decode nc_T_floorMod 3 = .ok (.istore_n 2, 1) := by decide +kernel
theorem nd_T_floorMod_4 : decode nc_T_floorMod 4 = .ok (.iload_n 0, 1) := by decide +kernel
theorem nd_T_floorMod_5 : decode nc_T_floorMod 5 = .ok (.iload_n 1, 1) := by decide +kernel
theorem nd_T_floorMod_6 : decode nc_T_floorMod 6 = .ok (.ixor, 1) := by decide +kernel
theorem nd_T_floorMod_7 : decode nc_T_floorMod 7 = .ok (.ifCond .ge 11, 3) := by decide +kernel
theorem nd_T_floorMod_10 : decode nc_T_floorMod 10 = .ok (.iload_n 2, 1) := by decide +kernel
theorem nd_T_floorMod_11 : decode nc_T_floorMod 11 = .ok (.ifCond .eq 7, 3) := by decide +kernel
theorem nd_T_floorMod_14 : decode nc_T_floorMod 14 = .ok (.iload_n 2, 1) := by decide +kernel
theorem nd_T_floorMod_15 : decode nc_T_floorMod 15 = .ok (.iload_n 1, 1) := by decide +kernel
theorem nd_T_floorMod_16 : decode nc_T_floorMod 16 = .ok (.iadd, 1) := by decide +kernel
theorem nd_T_floorMod_17 : decode nc_T_floorMod 17 = .ok (.ireturn, 1) := by decide +kernel
theorem nd_T_floorMod_18 : decode nc_T_floorMod 18 = .ok (.iload_n 2, 1) := by decide +kernel
theorem nd_T_floorMod_19 : decode nc_T_floorMod 19 = .ok (.ireturn, 1) := by decide +kernel
theorem nd_C_monthIn_0 : decode nc_C_monthIn 0 = .ok (.iload_n 0, 1) := by decide +kernel
theorem nd_C_monthIn_1 : decode nc_C_monthIn 1 = .ok (.iconst 5, 1) := by decide +kernel
theorem nd_C_monthIn_2 : decode nc_C_monthIn 2 = .ok (.ishr, 1) := by decide +kernel
theorem nd_C_monthIn_3 : decode nc_C_monthIn 3 = .ok (.ireturn, 1) := by decide +kernel
theorem nd_R_isFull_0 : decode nc_R_isFull 0 = .ok (.aload_n 0, 1) := by decide +kernel
theorem nd_R_isFull_1 : decode nc_R_isFull 1 = .ok (.getfield 13, 3) := by decide +kernel
theorem nd_R_isFull_4 : decode nc_R_isFull 4 = .ok (.bipush 8, 2) := by decide +kernel
theorem nd_R_isFull_6 : decode nc_R_isFull 6 = .ok (.if_icmp .lt 7, 3) := by decide +kernel
theorem nd_R_isFull_9 : decode nc_R_isFull 9 = .ok (.iconst 1, 1) := by decide +kernel
theorem nd_R_isFull_10 : decode nc_R_isFull 10 = .ok (.goto 4, 3) := by decide +kernel
theorem nd_R_isFull_13 : decode nc_R_isFull 13 = .ok (.iconst 0, 1) := by decide +kernel
theorem nd_R_isFull_14 : decode nc_R_isFull 14 = .ok (.ireturn, 1) := by decide +kernel
theorem nd_R_add_0 : decode nc_R_add 0 = .ok (.aload_n 0, 1) := by decide +kernel
theorem nd_R_add_1 : decode nc_R_add 1 = .ok (.invokevirtual 17, 3) := by decide +kernel
theorem nd_R_add_4 : decode nc_R_add 4 = .ok (.ifCond .ne 23, 3) := by decide +kernel
theorem nd_R_add_7 : decode nc_R_add 7 = .ok (.aload_n 0, 1) := by decide +kernel
theorem nd_R_add_8 : decode nc_R_add 8 = .ok (.getfield 9, 3) := by decide +kernel
theorem nd_R_add_11 : decode nc_R_add 11 = .ok (.aload_n 0, 1) := by decide +kernel
theorem nd_R_add_12 : decode nc_R_add 12 = .ok (.getfield 13, 3) := by decide +kernel
theorem nd_R_add_15 : decode nc_R_add 15 = .ok (.iload_n 1, 1) := by decide +kernel
theorem nd_R_add_16 : decode nc_R_add 16 = .ok (.iastore, 1) := by decide +kernel
theorem nd_R_add_17 : decode nc_R_add 17 = .ok (.aload_n 0, 1) := by decide +kernel
theorem nd_R_add_18 : decode nc_R_add 18 = .ok (.dup, 1) := by decide +kernel
theorem nd_R_add_19 : decode nc_R_add 19 = .ok (.getfield 13, 3) := by decide +kernel
theorem nd_R_add_22 : decode nc_R_add 22 = .ok (.iconst 1, 1) := by decide +kernel
theorem nd_R_add_23 : decode nc_R_add 23 = .ok (.iadd, 1) := by decide +kernel
theorem nd_R_add_24 : decode nc_R_add 24 = .ok (.putfield 13, 3) := by decide +kernel
theorem nd_R_add_27 : decode nc_R_add 27 = .ok (.return_, 1) := by decide +kernel
theorem nd_B_run_0 : decode nc_B_run 0 = .ok (.aload_n 0, 1) := by decide +kernel
theorem nd_B_run_1 : decode nc_B_run 1 = .ok (.getfield 37, 3) := by decide +kernel
theorem nd_B_run_4 : decode nc_B_run 4 = .ok (.getfield 163, 3) := by decide +kernel
theorem nd_B_run_7 : decode nc_B_run 7 = .ok (.ifCond .eq 5, 3) := by decide +kernel
theorem nd_B_run_10 : decode nc_B_run 10 = .ok (.iconst (-1), 1) := by decide +kernel
theorem nd_B_run_11 : decode nc_B_run 11 = .ok (.ireturn, 1) := by decide +kernel
theorem nd_B_run_12 : decode nc_B_run 12 = .ok (.iload_n 1, 1) := by decide +kernel
theorem nd_B_run_13 : decode nc_B_run 13 = .ok (.iconst 1, 1) := by decide +kernel
theorem nd_B_run_14 : decode nc_B_run 14 = .ok (.bipush 31, 2) := by decide +kernel
theorem nd_B_run_16 : decode nc_B_run 16 = .ok (.invokestatic 67, 3) := by decide +kernel
theorem nd_B_run_19 : decode nc_B_run 19 = .ok (.ifCond .ne 6, 3) := by decide +kernel
theorem nd_B_run_22 : decode nc_B_run 22 = .ok (.bipush (-3), 2) := by decide +kernel
theorem nd_B_run_24 : decode nc_B_run 24 = .ok (.ireturn, 1) := by decide +kernel
theorem nd_B_run_25 : decode nc_B_run 25 = .ok (.iconst 0, 1) := by decide +kernel
theorem nd_B_run_26 : decode nc_B_run 26 = .ok (.istore_n 2, 1) := by decide +kernel
theorem nd_B_run_27 : decode nc_B_run 27 = .ok (.iload_n 2, 1) := by decide +kernel
theorem nd_B_run_28 : decode nc_B_run 28 = .ok (.iload_n 1, 1) := by decide +kernel
theorem nd_B_run_29 : decode nc_B_run 29 = .ok (.if_icmp .ge 18, 3) := by decide +kernel
theorem nd_B_run_32 : decode nc_B_run 32 = .ok (.aload_n 0, 1) := by decide +kernel
theorem nd_B_run_33 : decode nc_B_run 33 = .ok (.invokevirtual 167, 3) := by decide +kernel
theorem nd_B_run_36 : decode nc_B_run 36 = .ok (.ifCond .ne 5, 3) := by decide +kernel
theorem nd_B_run_39 : decode nc_B_run 39 = .ok (.iconst (-1), 1) := by decide +kernel
theorem nd_B_run_40 : decode nc_B_run 40 = .ok (.ireturn, 1) := by decide +kernel
theorem nd_B_run_41 : decode nc_B_run 41 = .ok (.iinc 2 1, 3) := by decide +kernel
theorem nd_B_run_44 : decode nc_B_run 44 = .ok (.goto (-17), 3) := by decide +kernel
theorem nd_B_run_47 : decode nc_B_run 47 = .ok (.iload_n 1, 1) := by decide +kernel
theorem nd_B_run_48 : decode nc_B_run 48 = .ok (.ireturn, 1) := by decide +kernel
theorem nd_B_makeDayEnd_0 : decode nc_B_makeDayEnd 0 = .ok (.aload_n 0, 1) := by decide +kernel
theorem nd_B_makeDayEnd_1 : decode nc_B_makeDayEnd 1 = .ok (.getfield 204, 3) := by decide +kernel
theorem nd_B_makeDayEnd_4 : decode nc_B_makeDayEnd 4 = .ok (.ifCond .ne 16, 3) := by decide +kernel
theorem nd_B_makeDayEnd_7 : decode nc_B_makeDayEnd 7 = .ok (.aload_n 0, 1) := by decide +kernel
theorem nd_B_makeDayEnd_8 : decode nc_B_makeDayEnd 8 = .ok (.getfield 37, 3) := by decide +kernel
theorem nd_B_makeDayEnd_11 : decode nc_B_makeDayEnd 11 = .ok (.iconst 0, 1) := by decide +kernel
theorem nd_B_makeDayEnd_12 : decode nc_B_makeDayEnd 12 = .ok (.invokevirtual 79, 3) := by decide +kernel
theorem nd_B_makeDayEnd_15 : decode nc_B_makeDayEnd 15 = .ok (.ifCond .ne 5, 3) := by decide +kernel
theorem nd_B_makeDayEnd_18 : decode nc_B_makeDayEnd 18 = .ok (.iconst 0, 1) := by decide +kernel
theorem nd_B_makeDayEnd_19 : decode nc_B_makeDayEnd 19 = .ok (.ireturn, 1) := by decide +kernel
theorem nd_B_makeDayEnd_20 : decode nc_B_makeDayEnd 20 = .ok (.aload_n 0, 1) := by decide +kernel
theorem nd_B_makeDayEnd_21 : decode nc_B_makeDayEnd 21 = .ok (.iconst 1, 1) := by decide +kernel
theorem nd_B_makeDayEnd_22 : decode nc_B_makeDayEnd 22 = .ok (.putfield 204, 3) := by decide +kernel
theorem nd_B_makeDayEnd_25 : decode nc_B_makeDayEnd 25 = .ok (.iconst 0, 1) := by decide +kernel
theorem nd_B_makeDayEnd_26 : decode nc_B_makeDayEnd 26 = .ok (.istore_n 1, 1) := by decide +kernel
theorem nd_B_makeDayEnd_27 : decode nc_B_makeDayEnd 27 = .ok (.iload_n 1, 1) := by decide +kernel
theorem nd_B_makeDayEnd_28 : decode nc_B_makeDayEnd 28 = .ok (.aload_n 0, 1) := by decide +kernel
theorem nd_B_makeDayEnd_29 : decode nc_B_makeDayEnd 29 = .ok (.getfield 71, 3) := by decide +kernel
theorem nd_B_makeDayEnd_32 : decode nc_B_makeDayEnd 32 = .ok (.if_icmp .ge 40, 3) := by decide +kernel
theorem nd_B_makeDayEnd_35 : decode nc_B_makeDayEnd 35 = .ok (.aload_n 0, 1) := by decide +kernel
theorem nd_B_makeDayEnd_36 : decode nc_B_makeDayEnd 36 = .ok (.getfield 11, 3) := by decide +kernel
theorem nd_B_makeDayEnd_39 : decode nc_B_makeDayEnd 39 = .ok (.iload_n 1, 1) := by decide +kernel
theorem nd_B_makeDayEnd_40 : decode nc_B_makeDayEnd 40 = .ok (.aaload, 1) := by decide +kernel
theorem nd_B_makeDayEnd_41 : decode nc_B_makeDayEnd 41 = .ok (.getfield 97, 3) := by decide +kernel
theorem nd_B_makeDayEnd_44 : decode nc_B_makeDayEnd 44 = .ok (.aload_n 0, 1) := by decide +kernel
theorem nd_B_makeDayEnd_45 : decode nc_B_makeDayEnd 45 = .ok (.getfield 94, 3) := by decide +kernel
theorem nd_B_makeDayEnd_48 : decode nc_B_makeDayEnd 48 = .ok (.if_icmp .ge 18, 3) := by decide +kernel
theorem nd_B_makeDayEnd_51 : decode nc_B_makeDayEnd 51 = .ok (.aload_n 0, 1) := by decide +kernel
theorem nd_B_makeDayEnd_52 : decode nc_B_makeDayEnd 52 = .ok (.aload_n 0, 1) := by decide +kernel
theorem nd_B_makeDayEnd_53 : decode nc_B_makeDayEnd 53 = .ok (.getfield 11, 3) := by decide +kernel
theorem nd_B_makeDayEnd_56 : decode nc_B_makeDayEnd 56 = .ok (.iload_n 1, 1) := by decide +kernel
theorem nd_B_makeDayEnd_57 : decode nc_B_makeDayEnd 57 = .ok (.aaload, 1) := by decide +kernel
theorem nd_B_makeDayEnd_58 : decode nc_B_makeDayEnd 58 = .ok (.invokevirtual 217, 3) := by decide +kernel
theorem nd_B_makeDayEnd_61 : decode nc_B_makeDayEnd 61 = .ok (.ifCond .ne 5, 3) := by decide +kernel
theorem nd_B_makeDayEnd_64 : decode nc_B_makeDayEnd 64 = .ok (.iconst 0, 1) := by decide +kernel
theorem nd_B_makeDayEnd_65 : decode nc_B_makeDayEnd 65 = .ok (.ireturn, 1) := by decide +kernel
theorem nd_B_makeDayEnd_66 : decode nc_B_makeDayEnd 66 = .ok (.iinc 1 1, 3) := by decide +kernel
theorem nd_B_makeDayEnd_69 : decode nc_B_makeDayEnd 69 = .ok (.goto (-42), 3) := by decide +kernel
theorem nd_B_makeDayEnd_72 : decode nc_B_makeDayEnd 72 = .ok (.aload_n 0, 1) := by decide +kernel
theorem nd_B_makeDayEnd_73 : decode nc_B_makeDayEnd 73 = .ok (.getfield 37, 3) := by decide +kernel
theorem nd_B_makeDayEnd_76 : decode nc_B_makeDayEnd 76 = .ok (.iconst 0, 1) := by decide +kernel
theorem nd_B_makeDayEnd_77 : decode nc_B_makeDayEnd 77 = .ok (.invokevirtual 79, 3) := by decide +kernel
theorem nd_B_makeDayEnd_80 : decode nc_B_makeDayEnd 80 = .ok (.ifCond .ne 5, 3) := by decide +kernel
theorem nd_B_makeDayEnd_83 : decode nc_B_makeDayEnd 83 = .ok (.iconst 0, 1) := by decide +kernel
theorem nd_B_makeDayEnd_84 : decode nc_B_makeDayEnd 84 = .ok (.ireturn, 1) := by decide +kernel
theorem nd_B_makeDayEnd_85 : decode nc_B_makeDayEnd 85 = .ok (.aload_n 0, 1) := by decide +kernel
theorem nd_B_makeDayEnd_86 : decode nc_B_makeDayEnd 86 = .ok (.dup, 1) := by decide +kernel
theorem nd_B_makeDayEnd_87 : decode nc_B_makeDayEnd 87 = .ok (.getfield 94, 3) := by decide +kernel
theorem nd_B_makeDayEnd_90 : decode nc_B_makeDayEnd 90 = .ok (.iconst 1, 1) := by decide +kernel
theorem nd_B_makeDayEnd_91 : decode nc_B_makeDayEnd 91 = .ok (.iadd, 1) := by decide +kernel
theorem nd_B_makeDayEnd_92 : decode nc_B_makeDayEnd 92 = .ok (.putfield 94, 3) := by decide +kernel
theorem nd_B_makeDayEnd_95 : decode nc_B_makeDayEnd 95 = .ok (.aload_n 0, 1) := by decide +kernel
theorem nd_B_makeDayEnd_96 : decode nc_B_makeDayEnd 96 = .ok (.iconst 0, 1) := by decide +kernel
theorem nd_B_makeDayEnd_97 : decode nc_B_makeDayEnd 97 = .ok (.putfield 204, 3) := by decide +kernel
theorem nd_B_makeDayEnd_100 : decode nc_B_makeDayEnd 100 = .ok (.iconst 1, 1) := by decide +kernel
theorem nd_B_makeDayEnd_101 : decode nc_B_makeDayEnd 101 = .ok (.ireturn, 1) := by decide +kernel
theorem nd_B_makeStep_0 : decode nc_B_makeStep 0 = .ok (.aload_n 0, 1) := by decide +kernel
theorem nd_B_makeStep_1 : decode nc_B_makeStep 1 = .ok (.aload_n 1, 1) := by decide +kernel
theorem nd_B_makeStep_2 : decode nc_B_makeStep 2 = .ok (.invokevirtual 221, 3) := by decide +kernel
theorem nd_B_makeStep_5 : decode nc_B_makeStep 5 = .ok (.aload_n 0, 1) := by decide +kernel
theorem nd_B_makeStep_6 : decode nc_B_makeStep 6 = .ok (.aload_n 1, 1) := by decide +kernel
theorem nd_B_makeStep_7 : decode nc_B_makeStep 7 = .ok (.invokevirtual 225, 3) := by decide +kernel
theorem nd_B_makeStep_10 : decode nc_B_makeStep 10 = .ok (.ifCond .ne 5, 3) := by decide +kernel
theorem nd_B_makeStep_13 : decode nc_B_makeStep 13 = .ok (.iconst 0, 1) := by decide +kernel
theorem nd_B_makeStep_14 : decode nc_B_makeStep 14 = .ok (.ireturn, 1) := by decide +kernel
theorem nd_B_makeStep_15 : decode nc_B_makeStep 15 = .ok (.aload_n 0, 1) := by decide +kernel
theorem nd_B_makeStep_16 : decode nc_B_makeStep 16 = .ok (.invokevirtual 228, 3) := by decide +kernel
theorem nd_B_makeStep_19 : decode nc_B_makeStep 19 = .ok (.aload_n 1, 1) := by decide +kernel
theorem nd_B_makeStep_20 : decode nc_B_makeStep 20 = .ok (.aload_n 1, 1) := by decide +kernel
theorem nd_B_makeStep_21 : decode nc_B_makeStep 21 = .ok (.getfield 85, 3) := by decide +kernel
theorem nd_B_makeStep_24 : decode nc_B_makeStep 24 = .ok (.aload_n 0, 1) := by decide +kernel
theorem nd_B_makeStep_25 : decode nc_B_makeStep 25 = .ok (.getfield 94, 3) := by decide +kernel
theorem nd_B_makeStep_28 : decode nc_B_makeStep 28 = .ok (.aload_n 0, 1) := by decide +kernel
theorem nd_B_makeStep_29 : decode nc_B_makeStep 29 = .ok (.getfield 94, 3) := by decide +kernel
theorem nd_B_makeStep_32 : decode nc_B_makeStep 32 = .ok (.iconst 1, 1) := by decide +kernel
theorem nd_B_makeStep_33 : decode nc_B_makeStep 33 = .ok (.iadd, 1) := by decide +kernel
theorem nd_B_makeStep_34 : decode nc_B_makeStep 34 = .ok (.invokestatic 194, 3) := by decide +kernel
theorem nd_B_makeStep_37 : decode nc_B_makeStep 37 = .ok (.invokevirtual 231, 3) := by decide +kernel
theorem nd_B_makeStep_40 : decode nc_B_makeStep 40 = .ok (.aload_n 0, 1) := by decide +kernel
theorem nd_B_makeStep_41 : decode nc_B_makeStep 41 = .ok (.getfield 94, 3) := by decide +kernel
theorem nd_B_makeStep_44 : decode nc_B_makeStep 44 = .ok (.invokestatic 234, 3) := by decide +kernel
theorem nd_B_makeStep_47 : decode nc_B_makeStep 47 = .ok (.ifCond .eq 19, 3) := by decide +kernel
theorem nd_B_makeStep_50 : decode nc_B_makeStep 50 = .ok (.aload_n 0, 1) := by decide +kernel
theorem nd_B_makeStep_51 : decode nc_B_makeStep 51 = .ok (.getfield 45, 3) := by decide +kernel
theorem nd_B_makeStep_54 : decode nc_B_makeStep 54 = .ok (.aload_n 1, 1) := by decide +kernel
theorem nd_B_makeStep_55 : decode nc_B_makeStep 55 = .ok (.getfield 82, 3) := by decide +kernel
theorem nd_B_makeStep_58 : decode nc_B_makeStep 58 = .ok (.dup2, 1) := by decide +kernel
theorem nd_B_makeStep_59 : decode nc_B_makeStep 59 = .ok (.laload, 1) := by decide +kernel
theorem nd_B_makeStep_60 : decode nc_B_makeStep 60 = .ok (.aload_n 1, 1) := by decide +kernel
theorem nd_B_makeStep_61 : decode nc_B_makeStep 61 = .ok (.invokevirtual 237, 3) := by decide +kernel
theorem nd_B_makeStep_64 : decode nc_B_makeStep 64 = .ok (.ladd, 1) := by decide +kernel
theorem nd_B_makeStep_65 : decode nc_B_makeStep 65 = .ok (.lastore, 1) := by decide +kernel
theorem nd_B_makeStep_66 : decode nc_B_makeStep 66 = .ok (.aload_n 1, 1) := by decide +kernel
theorem nd_B_makeStep_67 : decode nc_B_makeStep 67 = .ok (.aload_n 0, 1) := by decide +kernel
theorem nd_B_makeStep_68 : decode nc_B_makeStep 68 = .ok (.getfield 94, 3) := by decide +kernel
theorem nd_B_makeStep_71 : decode nc_B_makeStep 71 = .ok (.putfield 97, 3) := by decide +kernel
theorem nd_B_makeStep_74 : decode nc_B_makeStep 74 = .ok (.iconst 1, 1) := by decide +kernel
theorem nd_B_makeStep_75 : decode nc_B_makeStep 75 = .ok (.ireturn, 1) := by decide +kernel
theorem nd_B_planOrders_0 : decode nc_B_planOrders 0 = .ok (.aload_n 1, 1) := by decide +kernel
theorem nd_B_planOrders_1 : decode nc_B_planOrders 1 = .ok (.invokevirtual 114, 3) := by decide +kernel
theorem nd_B_planOrders_4 : decode nc_B_planOrders 4 = .ok (.lstore_n 2, 1) := by decide +kernel
theorem nd_B_planOrders_5 : decode nc_B_planOrders 5 = .ok (.iconst 0, 1) := by decide +kernel
theorem nd_B_planOrders_6 : decode nc_B_planOrders 6 = .ok (.istore 4, 2) := by decide +kernel
theorem nd_B_planOrders_8 : decode nc_B_planOrders 8 = .ok (.iload 4, 2) := by decide +kernel
theorem nd_B_planOrders_10 : decode nc_B_planOrders 10 = .ok (.aload_n 0, 1) := by decide +kernel
theorem nd_B_planOrders_11 : decode nc_B_planOrders 11 = .ok (.getfield 143, 3) := by decide +kernel
theorem nd_B_planOrders_14 : decode nc_B_planOrders 14 = .ok (.if_icmp .ge 106, 3) := by decide +kernel
theorem nd_B_planOrders_17 : decode nc_B_planOrders 17 = .ok (.aload_n 0, 1) := by decide +kernel
theorem nd_B_planOrders_18 : decode nc_B_planOrders 18 = .ok (.getfield 23, 3) := by decide +kernel
theorem nd_B_planOrders_21 : decode nc_B_planOrders 21 = .ok (.iload 4, 2) := by decide +kernel
theorem nd_B_planOrders_23 : decode nc_B_planOrders 23 = .ok (.aaload, 1) := by decide +kernel
theorem nd_B_planOrders_24 : decode nc_B_planOrders 24 = .ok (.astore 5, 2) := by decide +kernel
theorem nd_B_planOrders_26 : decode nc_B_planOrders 26 = .ok (.aload 5, 2) := by decide +kernel
theorem nd_B_planOrders_28 : decode nc_B_planOrders 28 = .ok (.aload 5, 2) := by decide +kernel
theorem nd_B_planOrders_30 : decode nc_B_planOrders 30 = .ok (.getfield 240, 3) := by decide +kernel
theorem nd_B_planOrders_33 : decode nc_B_planOrders 33 = .ok (.aload_n 1, 1) := by decide +kernel
theorem nd_B_planOrders_34 : decode nc_B_planOrders 34 = .ok (.if_acmp .ne 30, 3) := by decide +kernel
theorem nd_B_planOrders_37 : decode nc_B_planOrders 37 = .ok (.aload_n 0, 1) := by decide +kernel
theorem nd_B_planOrders_38 : decode nc_B_planOrders 38 = .ok (.getfield 30, 3) := by decide +kernel
theorem nd_B_planOrders_41 : decode nc_B_planOrders 41 = .ok (.aload 5, 2) := by decide +kernel
theorem nd_B_planOrders_43 : decode nc_B_planOrders 43 = .ok (.getfield 243, 3) := by decide +kernel
theorem nd_B_planOrders_46 : decode nc_B_planOrders 46 = .ok (.aload_n 0, 1) := by decide +kernel
theorem nd_B_planOrders_47 : decode nc_B_planOrders 47 = .ok (.getfield 94, 3) := by decide +kernel
theorem nd_B_planOrders_50 : decode nc_B_planOrders 50 = .ok (.invokevirtual 246, 3) := by decide +kernel
theorem nd_B_planOrders_53 : decode nc_B_planOrders 53 = .ok (.aload_n 0, 1) := by decide +kernel
theorem nd_B_planOrders_54 : decode nc_B_planOrders 54 = .ok (.getfield 94, 3) := by decide +kernel
theorem nd_B_planOrders_57 : decode nc_B_planOrders 57 = .ok (.if_icmp .ne 7, 3) := by decide +kernel
theorem nd_B_planOrders_60 : decode nc_B_planOrders 60 = .ok (.iconst 1, 1) := by decide +kernel
theorem nd_B_planOrders_61 : decode nc_B_planOrders 61 = .ok (.goto 4, 3) := by decide +kernel
theorem nd_B_planOrders_64 : decode nc_B_planOrders 64 = .ok (.iconst 0, 1) := by decide +kernel
theorem nd_B_planOrders_65 : decode nc_B_planOrders 65 = .ok (.putfield 250, 3) := by decide +kernel
theorem nd_B_planOrders_68 : decode nc_B_planOrders 68 = .ok (.aload 5, 2) := by decide +kernel
theorem nd_B_planOrders_70 : decode nc_B_planOrders 70 = .ok (.aload 5, 2) := by decide +kernel
theorem nd_B_planOrders_72 : decode nc_B_planOrders 72 = .ok (.getfield 250, 3) := by decide +kernel
theorem nd_B_planOrders_75 : decode nc_B_planOrders 75 = .ok (.ifCond .eq 18, 3) := by decide +kernel
theorem nd_B_planOrders_78 : decode nc_B_planOrders 78 = .ok (.aload 5, 2) := by decide +kernel
theorem nd_B_planOrders_80 : decode nc_B_planOrders 80 = .ok (.getfield 253, 3) := by decide +kernel
theorem nd_B_planOrders_83 : decode nc_B_planOrders 83 = .ok (.i2l, 1) := by decide +kernel
theorem nd_B_planOrders_84 : decode nc_B_planOrders 84 = .ok (.lload_n 2, 1) := by decide +kernel
theorem nd_B_planOrders_85 : decode nc_B_planOrders 85 = .ok (.lcmp, 1) := by decide +kernel
theorem nd_B_planOrders_86 : decode nc_B_planOrders 86 = .ok (.ifCond .gt 7, 3) := by decide +kernel
theorem nd_B_planOrders_89 : decode nc_B_planOrders 89 = .ok (.iconst 1, 1) := by decide +kernel
theorem nd_B_planOrders_90 : decode nc_B_planOrders 90 = .ok (.goto 4, 3) := by decide +kernel
theorem nd_B_planOrders_93 : decode nc_B_planOrders 93 = .ok (.iconst 0, 1) := by decide +kernel
theorem nd_B_planOrders_94 : decode nc_B_planOrders 94 = .ok (.putfield 254, 3) := by decide +kernel
theorem nd_B_planOrders_97 : decode nc_B_planOrders 97 = .ok (.aload 5, 2) := by decide +kernel
theorem nd_B_planOrders_99 : decode nc_B_planOrders 99 = .ok (.getfield 254, 3) := by decide +kernel
theorem nd_B_planOrders_102 : decode nc_B_planOrders 102 = .ok (.ifCond .eq 12, 3) := by decide +kernel
theorem nd_B_planOrders_105 : decode nc_B_planOrders 105 = .ok (.lload_n 2, 1) := by decide +kernel
theorem nd_B_planOrders_106 : decode nc_B_planOrders 106 = .ok (.aload 5, 2) := by decide +kernel
theorem nd_B_planOrders_108 : decode nc_B_planOrders 108 = .ok (.getfield 253, 3) := by decide +kernel
theorem nd_B_planOrders_111 : decode nc_B_planOrders 111 = .ok (.i2l, 1) := by decide +kernel
theorem nd_B_planOrders_112 : decode nc_B_planOrders 112 = .ok (.lsub, 1) := by decide +kernel
theorem nd_B_planOrders_113 : decode nc_B_planOrders 113 = .ok (.lstore_n 2, 1) := by decide +kernel
theorem nd_B_planOrders_114 : decode nc_B_planOrders 114 = .ok (.iinc 4 1, 3) := by decide +kernel
theorem nd_B_planOrders_117 : decode nc_B_planOrders 117 = .ok (.goto (-109), 3) := by decide +kernel
theorem nd_B_planOrders_120 : decode nc_B_planOrders 120 = .ok (.return_, 1) := by decide +kernel
theorem nd_R_dueDate_0 : decode nc_R_dueDate 0 = .ok (.iload_n 2, 1) := by decide +kernel
theorem nd_R_dueDate_1 : decode nc_R_dueDate 1 = .ok (.iload_n 2, 1) := by decide +kernel
theorem nd_R_dueDate_2 : decode nc_R_dueDate 2 = .ok (.invokestatic 25, 3) := by decide +kernel
theorem nd_R_dueDate_5 : decode nc_R_dueDate 5 = .ok (.invokestatic 31, 3) := by decide +kernel
theorem nd_R_dueDate_8 : decode nc_R_dueDate 8 = .ok (.isub, 1) := by decide +kernel
theorem nd_R_dueDate_9 : decode nc_R_dueDate 9 = .ok (.istore_n 3, 1) := by decide +kernel
theorem nd_R_dueDate_10 : decode nc_R_dueDate 10 = .ok (.bipush 32, 2) := by decide +kernel
theorem nd_R_dueDate_12 : decode nc_R_dueDate 12 = .ok (.iload_n 3, 1) := by decide +kernel
theorem nd_R_dueDate_13 : decode nc_R_dueDate 13 = .ok (.bipush 32, 2) := by decide +kernel
theorem nd_R_dueDate_15 : decode nc_R_dueDate 15 = .ok (.iadd, 1) := by decide +kernel
theorem nd_R_dueDate_16 : decode nc_R_dueDate 16 = .ok (.invokestatic 25, 3) := by decide +kernel
theorem nd_R_dueDate_19 : decode nc_R_dueDate 19 = .ok (.invokestatic 31, 3) := by decide +kernel
theorem nd_R_dueDate_22 : decode nc_R_dueDate 22 = .ok (.isub, 1) := by decide +kernel
theorem nd_R_dueDate_23 : decode nc_R_dueDate 23 = .ok (.istore 4, 2) := by decide +kernel
theorem nd_R_dueDate_25 : decode nc_R_dueDate 25 = .ok (.iload_n 1, 1) := by decide +kernel
theorem nd_R_dueDate_26 : decode nc_R_dueDate 26 = .ok (.iload 4, 2) := by decide +kernel
theorem nd_R_dueDate_28 : decode nc_R_dueDate 28 = .ok (.invokestatic 34, 3) := by decide +kernel
theorem nd_R_dueDate_31 : decode nc_R_dueDate 31 = .ok (.istore 5, 2) := by decide +kernel
theorem nd_R_dueDate_33 : decode nc_R_dueDate 33 = .ok (.iload 5, 2) := by decide +kernel
theorem nd_R_dueDate_35 : decode nc_R_dueDate 35 = .ok (.istore 6, 2) := by decide +kernel
theorem nd_R_dueDate_37 : decode nc_R_dueDate 37 = .ok (.iload 6, 2) := by decide +kernel
theorem nd_R_dueDate_39 : decode nc_R_dueDate 39 = .ok (.iload 4, 2) := by decide +kernel
theorem nd_R_dueDate_41 : decode nc_R_dueDate 41 = .ok (.if_icmp .gt 25, 3) := by decide +kernel
theorem nd_R_dueDate_44 : decode nc_R_dueDate 44 = .ok (.aload_n 0, 1) := by decide +kernel
theorem nd_R_dueDate_45 : decode nc_R_dueDate 45 = .ok (.iload_n 3, 1) := by decide +kernel
theorem nd_R_dueDate_46 : decode nc_R_dueDate 46 = .ok (.iload 6, 2) := by decide +kernel
theorem nd_R_dueDate_48 : decode nc_R_dueDate 48 = .ok (.iadd, 1) := by decide +kernel
theorem nd_R_dueDate_49 : decode nc_R_dueDate 49 = .ok (.invokevirtual 40, 3) := by decide +kernel
theorem nd_R_dueDate_52 : decode nc_R_dueDate 52 = .ok (.ifCond .ne 8, 3) := by decide +kernel
theorem nd_R_dueDate_55 : decode nc_R_dueDate 55 = .ok (.iload_n 3, 1) := by decide +kernel
theorem nd_R_dueDate_56 : decode nc_R_dueDate 56 = .ok (.iload 6, 2) := by decide +kernel
theorem nd_R_dueDate_58 : decode nc_R_dueDate 58 = .ok (.iadd, 1) := by decide +kernel
theorem nd_R_dueDate_59 : decode nc_R_dueDate 59 = .ok (.ireturn, 1) := by decide +kernel
theorem nd_R_dueDate_60 : decode nc_R_dueDate 60 = .ok (.iinc 6 1, 3) := by decide +kernel
theorem nd_R_dueDate_63 : decode nc_R_dueDate 63 = .ok (.goto (-26), 3) := by decide +kernel
theorem nd_R_dueDate_66 : decode nc_R_dueDate 66 = .ok (.iload 5, 2) := by decide +kernel
theorem nd_R_dueDate_68 : decode nc_R_dueDate 68 = .ok (.iconst 1, 1) := by decide +kernel
theorem nd_R_dueDate_69 : decode nc_R_dueDate 69 = .ok (.isub, 1) := by decide +kernel
theorem nd_R_dueDate_70 : decode nc_R_dueDate 70 = .ok (.istore 6, 2) := by decide +kernel
theorem nd_R_dueDate_72 : decode nc_R_dueDate 72 = .ok (.iload 6, 2) := by decide +kernel
theorem nd_R_dueDate_74 : decode nc_R_dueDate 74 = .ok (.iconst 1, 1) := by decide +kernel
theorem nd_R_dueDate_75 : decode nc_R_dueDate 75 = .ok (.if_icmp .lt 25, 3) := by decide +kernel
theorem nd_R_dueDate_78 : decode nc_R_dueDate 78 = .ok (.aload_n 0, 1) := by decide +kernel
theorem nd_R_dueDate_79 : decode nc_R_dueDate 79 = .ok (.iload_n 3, 1) := by decide +kernel
theorem nd_R_dueDate_80 : decode nc_R_dueDate 80 = .ok (.iload 6, 2) := by decide +kernel
theorem nd_R_dueDate_82 : decode nc_R_dueDate 82 = .ok (.iadd, 1) := by decide +kernel
theorem nd_R_dueDate_83 : decode nc_R_dueDate 83 = .ok (.invokevirtual 40, 3) := by decide +kernel
theorem nd_R_dueDate_86 : decode nc_R_dueDate 86 = .ok (.ifCond .ne 8, 3) := by decide +kernel
theorem nd_R_dueDate_89 : decode nc_R_dueDate 89 = .ok (.iload_n 3, 1) := by decide +kernel
theorem nd_R_dueDate_90 : decode nc_R_dueDate 90 = .ok (.iload 6, 2) := by decide +kernel
theorem nd_R_dueDate_92 : decode nc_R_dueDate 92 = .ok (.iadd, 1) := by decide +kernel
theorem nd_R_dueDate_93 : decode nc_R_dueDate 93 = .ok (.ireturn, 1) := by decide +kernel
theorem nd_R_dueDate_94 : decode nc_R_dueDate 94 = .ok (.iinc 6 (-1), 3) := by decide +kernel
theorem nd_R_dueDate_97 : decode nc_R_dueDate 97 = .ok (.goto (-25), 3) := by decide +kernel
theorem nd_R_dueDate_100 : decode nc_R_dueDate 100 = .ok (.iload_n 3, 1) := by decide +kernel
theorem nd_R_dueDate_101 : decode nc_R_dueDate 101 = .ok (.iload 5, 2) := by decide +kernel
theorem nd_R_dueDate_103 : decode nc_R_dueDate 103 = .ok (.iadd, 1) := by decide +kernel
theorem nd_R_dueDate_104 : decode nc_R_dueDate 104 = .ok (.ireturn, 1) := by decide +kernel
theorem nd_C_dayIn_0 : decode nc_C_dayIn 0 = .ok (.iload_n 0, 1) := by decide +kernel
theorem nd_C_dayIn_1 : decode nc_C_dayIn 1 = .ok (.bipush 31, 2) := by decide +kernel
theorem nd_C_dayIn_3 : decode nc_C_dayIn 3 = .ok (.iand, 1) := by decide +kernel
theorem nd_C_dayIn_4 : decode nc_C_dayIn 4 = .ok (.ireturn, 1) := by decide +kernel
theorem nd_T_min_0 : decode nc_T_min 0 = .ok (.iload_n 0, 1) := by decide +kernel
theorem nd_T_min_1 : decode nc_T_min 1 = .ok (.iload_n 1, 1) := by decide +kernel
theorem nd_T_min_2 : decode nc_T_min 2 = .ok (.if_icmp .gt 7, 3) := by decide +kernel
theorem nd_T_min_5 : decode nc_T_min 5 = .ok (.iload_n 0, 1) := by decide +kernel
theorem nd_T_min_6 : decode nc_T_min 6 = .ok (.goto 4, 3) := by decide +kernel
theorem nd_T_min_9 : decode nc_T_min 9 = .ok (.iload_n 1, 1) := by decide +kernel
theorem nd_T_min_10 : decode nc_T_min 10 = .ok (.ireturn, 1) := by decide +kernel
theorem nd_B_writeStep_0 : decode nc_B_writeStep 0 = .ok (.aload_n 1, 1) := by decide +kernel
theorem nd_B_writeStep_1 : decode nc_B_writeStep 1 = .ok (.invokestatic 75, 3) := by decide +kernel
theorem nd_B_writeStep_4 : decode nc_B_writeStep 4 = .ok (.istore_n 2, 1) := by decide +kernel
theorem nd_B_writeStep_5 : decode nc_B_writeStep 5 = .ok (.iconst 2, 1) := by decide +kernel
theorem nd_B_writeStep_6 : decode nc_B_writeStep 6 = .ok (.istore_n 3, 1) := by decide +kernel
theorem nd_B_writeStep_7 : decode nc_B_writeStep 7 = .ok (.iconst 0, 1) := by decide +kernel
theorem nd_B_writeStep_8 : decode nc_B_writeStep 8 = .ok (.istore 4, 2) := by decide +kernel
theorem nd_B_writeStep_10 : decode nc_B_writeStep 10 = .ok (.iload 4, 2) := by decide +kernel
theorem nd_B_writeStep_12 : decode nc_B_writeStep 12 = .ok (.aload_n 0, 1) := by decide +kernel
theorem nd_B_writeStep_13 : decode nc_B_writeStep 13 = .ok (.getfield 143, 3) := by decide +kernel
theorem nd_B_writeStep_16 : decode nc_B_writeStep 16 = .ok (.if_icmp .ge 41, 3) := by decide +kernel
theorem nd_B_writeStep_19 : decode nc_B_writeStep 19 = .ok (.aload_n 0, 1) := by decide +kernel
theorem nd_B_writeStep_20 : decode nc_B_writeStep 20 = .ok (.getfield 23, 3) := by decide +kernel
theorem nd_B_writeStep_23 : decode nc_B_writeStep 23 = .ok (.iload 4, 2) := by decide +kernel
theorem nd_B_writeStep_25 : decode nc_B_writeStep 25 = .ok (.aaload, 1) := by decide +kernel
theorem nd_B_writeStep_26 : decode nc_B_writeStep 26 = .ok (.getfield 254, 3) := by decide +kernel
theorem nd_B_writeStep_29 : decode nc_B_writeStep 29 = .ok (.ifCond .eq 22, 3) := by decide +kernel
theorem nd_B_writeStep_32 : decode nc_B_writeStep 32 = .ok (.iload_n 2, 1) := by decide +kernel
theorem nd_B_writeStep_33 : decode nc_B_writeStep 33 = .ok (.aload_n 0, 1) := by decide +kernel
theorem nd_B_writeStep_34 : decode nc_B_writeStep 34 = .ok (.getfield 23, 3) := by decide +kernel
theorem nd_B_writeStep_37 : decode nc_B_writeStep 37 = .ok (.iload 4, 2) := by decide +kernel
theorem nd_B_writeStep_39 : decode nc_B_writeStep 39 = .ok (.aaload, 1) := by decide +kernel
theorem nd_B_writeStep_40 : decode nc_B_writeStep 40 = .ok (.getfield 257, 3) := by decide +kernel
theorem nd_B_writeStep_43 : decode nc_B_writeStep 43 = .ok (.invokestatic 75, 3) := by decide +kernel
theorem nd_B_writeStep_46 : decode nc_B_writeStep 46 = .ok (.ior, 1) := by decide +kernel
theorem nd_B_writeStep_47 : decode nc_B_writeStep 47 = .ok (.istore_n 2, 1) := by decide +kernel
theorem nd_B_writeStep_48 : decode nc_B_writeStep 48 = .ok (.iinc 3 1, 3) := by decide +kernel
theorem nd_B_writeStep_51 : decode nc_B_writeStep 51 = .ok (.iinc 4 1, 3) := by decide +kernel
theorem nd_B_writeStep_54 : decode nc_B_writeStep 54 = .ok (.goto (-44), 3) := by decide +kernel
theorem nd_B_writeStep_57 : decode nc_B_writeStep 57 = .ok (.aload_n 0, 1) := by decide +kernel
theorem nd_B_writeStep_58 : decode nc_B_writeStep 58 = .ok (.getfield 37, 3) := by decide +kernel
theorem nd_B_writeStep_61 : decode nc_B_writeStep 61 = .ok (.iload_n 2, 1) := by decide +kernel
theorem nd_B_writeStep_62 : decode nc_B_writeStep 62 = .ok (.iload_n 3, 1) := by decide +kernel
theorem nd_B_writeStep_63 : decode nc_B_writeStep 63 = .ok (.invokevirtual 260, 3) := by decide +kernel
theorem nd_B_writeStep_66 : decode nc_B_writeStep 66 = .ok (.ireturn, 1) := by decide +kernel
theorem nd_B_carryOutOrders_0 : decode nc_B_carryOutOrders 0 = .ok (.iconst 0, 1) := by decide +kernel
theorem nd_B_carryOutOrders_1 : decode nc_B_carryOutOrders 1 = .ok (.istore_n 1, 1) := by decide +kernel
theorem nd_B_carryOutOrders_2 : decode nc_B_carryOutOrders 2 = .ok (.iload_n 1, 1) := by decide +kernel
theorem nd_B_carryOutOrders_3 : decode nc_B_carryOutOrders 3 = .ok (.aload_n 0, 1) := by decide +kernel
theorem nd_B_carryOutOrders_4 : decode nc_B_carryOutOrders 4 = .ok (.getfield 143, 3) := by decide +kernel
theorem nd_B_carryOutOrders_7 : decode nc_B_carryOutOrders 7 = .ok (.if_icmp .ge 59, 3) := by decide +kernel
theorem nd_B_carryOutOrders_10 : decode nc_B_carryOutOrders 10 = .ok (.aload_n 0, 1) := by decide +kernel
theorem nd_B_carryOutOrders_11 : decode nc_B_carryOutOrders 11 = .ok (.getfield 23, 3) := by decide +kernel
theorem nd_B_carryOutOrders_14 : decode nc_B_carryOutOrders 14 = .ok (.iload_n 1, 1) := by decide +kernel
theorem nd_B_carryOutOrders_15 : decode nc_B_carryOutOrders 15 = .ok (.aaload, 1) := by decide +kernel
theorem nd_B_carryOutOrders_16 : decode nc_B_carryOutOrders 16 = .ok (.astore_n 2, 1) := by decide +kernel
theorem nd_B_carryOutOrders_17 : decode nc_B_carryOutOrders 17 = .ok (.aload_n 2, 1) := by decide +kernel
theorem nd_B_carryOutOrders_18 : decode nc_B_carryOutOrders 18 = .ok (.getfield 254, 3) := by decide +kernel
theorem nd_B_carryOutOrders_21 : decode nc_B_carryOutOrders 21 = .ok (.ifCond .eq 22, 3) := by decide +kernel
theorem nd_B_carryOutOrders_24 : decode nc_B_carryOutOrders 24 = .ok (.aload_n 0, 1) := by decide +kernel
theorem nd_B_carryOutOrders_25 : decode nc_B_carryOutOrders 25 = .ok (.aload_n 2, 1) := by decide +kernel
theorem nd_B_carryOutOrders_26 : decode nc_B_carryOutOrders 26 = .ok (.getfield 240, 3) := by decide +kernel
theorem nd_B_carryOutOrders_29 : decode nc_B_carryOutOrders 29 = .ok (.aload_n 2, 1) := by decide +kernel
theorem nd_B_carryOutOrders_30 : decode nc_B_carryOutOrders 30 = .ok (.getfield 257, 3) := by decide +kernel
theorem nd_B_carryOutOrders_33 : decode nc_B_carryOutOrders 33 = .ok (.aload_n 2, 1) := by decide +kernel
theorem nd_B_carryOutOrders_34 : decode nc_B_carryOutOrders 34 = .ok (.getfield 253, 3) := by decide +kernel
theorem nd_B_carryOutOrders_37 : decode nc_B_carryOutOrders 37 = .ok (.invokevirtual 118, 3) := by decide +kernel
theorem nd_B_carryOutOrders_40 : decode nc_B_carryOutOrders 40 = .ok (.goto 20, 3) := by decide +kernel
theorem nd_B_carryOutOrders_43 : decode nc_B_carryOutOrders 43 = .ok (.aload_n 2, 1) := by decide +kernel
theorem nd_B_carryOutOrders_44 : decode nc_B_carryOutOrders 44 = .ok (.getfield 250, 3) := by decide +kernel
theorem nd_B_carryOutOrders_47 : decode nc_B_carryOutOrders 47 = .ok (.ifCond .eq 13, 3) := by decide +kernel
theorem nd_B_carryOutOrders_50 : decode nc_B_carryOutOrders 50 = .ok (.aload_n 2, 1) := by decide +kernel
theorem nd_B_carryOutOrders_51 : decode nc_B_carryOutOrders 51 = .ok (.dup, 1) := by decide +kernel
theorem nd_B_carryOutOrders_52 : decode nc_B_carryOutOrders 52 = .ok (.getfield 190, 3) := by decide +kernel
theorem nd_B_carryOutOrders_55 : decode nc_B_carryOutOrders 55 = .ok (.iconst 1, 1) := by decide +kernel
theorem nd_B_carryOutOrders_56 : decode nc_B_carryOutOrders 56 = .ok (.iadd, 1) := by decide +kernel
theorem nd_B_carryOutOrders_57 : decode nc_B_carryOutOrders 57 = .ok (.putfield 190, 3) := by decide +kernel
theorem nd_B_carryOutOrders_60 : decode nc_B_carryOutOrders 60 = .ok (.iinc 1 1, 3) := by decide +kernel
theorem nd_B_carryOutOrders_63 : decode nc_B_carryOutOrders 63 = .ok (.goto (-61), 3) := by decide +kernel
theorem nd_B_carryOutOrders_66 : decode nc_B_carryOutOrders 66 = .ok (.return_, 1) := by decide +kernel
theorem nd_C_dayCount_0 : decode nc_C_dayCount 0 = .ok (.iload_n 0, 1) := by decide +kernel
theorem nd_C_dayCount_1 : decode nc_C_dayCount 1 = .ok (.iconst 2, 1) := by decide +kernel
theorem nd_C_dayCount_2 : decode nc_C_dayCount 2 = .ok (.if_icmp .ne 11, 3) := by decide +kernel
theorem nd_C_dayCount_5 : decode nc_C_dayCount 5 = .ok (.iload_n 1, 1) := by decide +kernel
theorem nd_C_dayCount_6 : decode nc_C_dayCount 6 = .ok (.iload_n 2, 1) := by decide +kernel
theorem nd_C_dayCount_7 : decode nc_C_dayCount 7 = .ok (.invokestatic 9, 3) := by decide +kernel
theorem nd_C_dayCount_10 : decode nc_C_dayCount 10 = .ok (.goto 6, 3) := by decide +kernel
theorem nd_C_dayCount_13 : decode nc_C_dayCount 13 = .ok (.iload_n 2, 1) := by decide +kernel
theorem nd_C_dayCount_14 : decode nc_C_dayCount 14 = .ok (.iload_n 1, 1) := by decide +kernel
theorem nd_C_dayCount_15 : decode nc_C_dayCount 15 = .ok (.isub, 1) := by decide +kernel
theorem nd_C_dayCount_16 : decode nc_C_dayCount 16 = .ok (.ireturn, 1) := by decide +kernel
theorem nd_C_countByMonths_0 : decode nc_C_countByMonths 0 = .ok (.iload_n 0, 1) := by decide +kernel
theorem nd_C_countByMonths_1 : decode nc_C_countByMonths 1 = .ok (.invokestatic 13, 3) := by decide +kernel
theorem nd_C_countByMonths_4 : decode nc_C_countByMonths 4 = .ok (.istore_n 2, 1) := by decide +kernel
theorem nd_C_countByMonths_5 : decode nc_C_countByMonths 5 = .ok (.iload_n 1, 1) := by decide +kernel
theorem nd_C_countByMonths_6 : decode nc_C_countByMonths 6 = .ok (.invokestatic 13, 3) := by decide +kernel
theorem nd_C_countByMonths_9 : decode nc_C_countByMonths 9 = .ok (.istore_n 3, 1) := by decide +kernel
theorem nd_C_countByMonths_10 : decode nc_C_countByMonths 10 = .ok (.iload_n 2, 1) := by decide +kernel
theorem nd_C_countByMonths_11 : decode nc_C_countByMonths 11 = .ok (.invokestatic 17, 3) := by decide +kernel
theorem nd_C_countByMonths_14 : decode nc_C_countByMonths 14 = .ok (.bipush 30, 2) := by decide +kernel
theorem nd_C_countByMonths_16 : decode nc_C_countByMonths 16 = .ok (.invokestatic 20, 3) := by decide +kernel
theorem nd_C_countByMonths_19 : decode nc_C_countByMonths 19 = .ok (.istore 4, 2) := by decide +kernel
theorem nd_C_countByMonths_21 : decode nc_C_countByMonths 21 = .ok (.iload_n 3, 1) := by decide +kernel
theorem nd_C_countByMonths_22 : decode nc_C_countByMonths 22 = .ok (.invokestatic 17, 3) := by decide +kernel
theorem nd_C_countByMonths_25 : decode nc_C_countByMonths 25 = .ok (.istore 5, 2) := by decide +kernel
theorem nd_C_countByMonths_27 : decode nc_C_countByMonths 27 = .ok (.iload 4, 2) := by decide +kernel
theorem nd_C_countByMonths_29 : decode nc_C_countByMonths 29 = .ok (.bipush 30, 2) := by decide +kernel
theorem nd_C_countByMonths_31 : decode nc_C_countByMonths 31 = .ok (.if_icmp .ne 14, 3) := by decide +kernel
theorem nd_C_countByMonths_34 : decode nc_C_countByMonths 34 = .ok (.iload 5, 2) := by decide +kernel
theorem nd_C_countByMonths_36 : decode nc_C_countByMonths 36 = .ok (.bipush 31, 2) := by decide +kernel
theorem nd_C_countByMonths_38 : decode nc_C_countByMonths 38 = .ok (.if_icmp .ne 7, 3) := by decide +kernel
theorem nd_C_countByMonths_41 : decode nc_C_countByMonths 41 = .ok (.bipush 30, 2) := by decide +kernel
theorem nd_C_countByMonths_43 : decode nc_C_countByMonths 43 = .ok (.istore 5, 2) := by decide +kernel
theorem nd_C_countByMonths_45 : decode nc_C_countByMonths 45 = .ok (.bipush 30, 2) := by decide +kernel
theorem nd_C_countByMonths_47 : decode nc_C_countByMonths 47 = .ok (.iload_n 3, 1) := by decide +kernel
theorem nd_C_countByMonths_48 : decode nc_C_countByMonths 48 = .ok (.invokestatic 25, 3) := by decide +kernel
theorem nd_C_countByMonths_51 : decode nc_C_countByMonths 51 = .ok (.iload_n 2, 1) := by decide +kernel
theorem nd_C_countByMonths_52 : decode nc_C_countByMonths 52 = .ok (.invokestatic 25, 3) := by decide +kernel
theorem nd_C_countByMonths_55 : decode nc_C_countByMonths 55 = .ok (.isub, 1) := by decide +kernel
theorem nd_C_countByMonths_56 : decode nc_C_countByMonths 56 = .ok (.imul, 1) := by decide +kernel
theorem nd_C_countByMonths_57 : decode nc_C_countByMonths 57 = .ok (.iload 5, 2) := by decide +kernel
theorem nd_C_countByMonths_59 : decode nc_C_countByMonths 59 = .ok (.iadd, 1) := by decide +kernel
theorem nd_C_countByMonths_60 : decode nc_C_countByMonths 60 = .ok (.iload 4, 2) := by decide +kernel
theorem nd_C_countByMonths_62 : decode nc_C_countByMonths 62 = .ok (.isub, 1) := by decide +kernel
theorem nd_C_countByMonths_63 : decode nc_C_countByMonths 63 = .ok (.ireturn, 1) := by decide +kernel
theorem nd_A_accrue_0 : decode nc_A_accrue 0 = .ok (.aload_n 0, 1) := by decide +kernel
theorem nd_A_accrue_1 : decode nc_A_accrue 1 = .ok (.dup, 1) := by decide +kernel
theorem nd_A_accrue_2 : decode nc_A_accrue 2 = .ok (.getfield 23, 3) := by decide +kernel
theorem nd_A_accrue_5 : decode nc_A_accrue 5 = .ok (.aload_n 0, 1) := by decide +kernel
theorem nd_A_accrue_6 : decode nc_A_accrue 6 = .ok (.getfield 13, 3) := by decide +kernel
theorem nd_A_accrue_9 : decode nc_A_accrue 9 = .ok (.aload_n 0, 1) := by decide +kernel
theorem nd_A_accrue_10 : decode nc_A_accrue 10 = .ok (.getfield 26, 3) := by decide +kernel
theorem nd_A_accrue_13 : decode nc_A_accrue 13 = .ok (.i2l, 1) := by decide +kernel
theorem nd_A_accrue_14 : decode nc_A_accrue 14 = .ok (.lmul, 1) := by decide +kernel
theorem nd_A_accrue_15 : decode nc_A_accrue 15 = .ok (.iload_n 1, 1) := by decide +kernel
theorem nd_A_accrue_16 : decode nc_A_accrue 16 = .ok (.i2l, 1) := by decide +kernel
theorem nd_A_accrue_17 : decode nc_A_accrue 17 = .ok (.lmul, 1) := by decide +kernel
theorem nd_A_accrue_18 : decode nc_A_accrue 18 = .ok (.ladd, 1) := by decide +kernel
theorem nd_A_accrue_19 : decode nc_A_accrue 19 = .ok (.putfield 23, 3) := by decide +kernel
theorem nd_A_accrue_22 : decode nc_A_accrue 22 = .ok (.return_, 1) := by decide +kernel
theorem nd_C_isLastOfMonth_0 : decode nc_C_isLastOfMonth 0 = .ok (.iload_n 0, 1) := by decide +kernel
theorem nd_C_isLastOfMonth_1 : decode nc_C_isLastOfMonth 1 = .ok (.iconst 1, 1) := by decide +kernel
theorem nd_C_isLastOfMonth_2 : decode nc_C_isLastOfMonth 2 = .ok (.iadd, 1) := by decide +kernel
theorem nd_C_isLastOfMonth_3 : decode nc_C_isLastOfMonth 3 = .ok (.invokestatic 13, 3) := by decide +kernel
theorem nd_C_isLastOfMonth_6 : decode nc_C_isLastOfMonth 6 = .ok (.invokestatic 17, 3) := by decide +kernel
theorem nd_C_isLastOfMonth_9 : decode nc_C_isLastOfMonth 9 = .ok (.iconst 1, 1) := by decide +kernel
theorem nd_C_isLastOfMonth_10 : decode nc_C_isLastOfMonth 10 = .ok (.if_icmp .ne 7, 3) := by decide +kernel
theorem nd_C_isLastOfMonth_13 : decode nc_C_isLastOfMonth 13 = .ok (.iconst 1, 1) := by decide +kernel
theorem nd_C_isLastOfMonth_14 : decode nc_C_isLastOfMonth 14 = .ok (.goto 4, 3) := by decide +kernel
theorem nd_C_isLastOfMonth_17 : decode nc_C_isLastOfMonth 17 = .ok (.iconst 0, 1) := by decide +kernel
theorem nd_C_isLastOfMonth_18 : decode nc_C_isLastOfMonth 18 = .ok (.ireturn, 1) := by decide +kernel
theorem nd_A_takeInterest_0 : decode nc_A_takeInterest 0 = .ok (.ldc2_w 29, 3) := by decide +kernel
theorem nd_A_takeInterest_3 : decode nc_A_takeInterest 3 = .ok (.aload_n 0, 1) := by decide +kernel
theorem nd_A_takeInterest_4 : decode nc_A_takeInterest 4 = .ok (.getfield 31, 3) := by decide +kernel
theorem nd_A_takeInterest_7 : decode nc_A_takeInterest 7 = .ok (.invokestatic 34, 3) := by decide +kernel
theorem nd_A_takeInterest_10 : decode nc_A_takeInterest 10 = .ok (.i2l, 1) := by decide +kernel
theorem nd_A_takeInterest_11 : decode nc_A_takeInterest 11 = .ok (.lmul, 1) := by decide +kernel
theorem nd_A_takeInterest_12 : decode nc_A_takeInterest 12 = .ok (.lstore_n 1, 1) := by decide +kernel
theorem nd_A_takeInterest_13 : decode nc_A_takeInterest 13 = .ok (.aload_n 0, 1) := by decide +kernel
theorem nd_A_takeInterest_14 : decode nc_A_takeInterest 14 = .ok (.getfield 23, 3) := by decide +kernel
theorem nd_A_takeInterest_17 : decode nc_A_takeInterest 17 = .ok (.lload_n 1, 1) := by decide +kernel
theorem nd_A_takeInterest_18 : decode nc_A_takeInterest 18 = .ok (.invokestatic 40, 3) := by decide +kernel
theorem nd_A_takeInterest_21 : decode nc_A_takeInterest 21 = .ok (.lstore_n 3, 1) := by decide +kernel
theorem nd_A_takeInterest_22 : decode nc_A_takeInterest 22 = .ok (.aload_n 0, 1) := by decide +kernel
theorem nd_A_takeInterest_23 : decode nc_A_takeInterest 23 = .ok (.dup, 1) := by decide +kernel
theorem nd_A_takeInterest_24 : decode nc_A_takeInterest 24 = .ok (.getfield 13, 3) := by decide +kernel
theorem nd_A_takeInterest_27 : decode nc_A_takeInterest 27 = .ok (.lload_n 3, 1) := by decide +kernel
theorem nd_A_takeInterest_28 : decode nc_A_takeInterest 28 = .ok (.ladd, 1) := by decide +kernel
theorem nd_A_takeInterest_29 : decode nc_A_takeInterest 29 = .ok (.putfield 13, 3) := by decide +kernel
theorem nd_A_takeInterest_32 : decode nc_A_takeInterest 32 = .ok (.aload_n 0, 1) := by decide +kernel
theorem nd_A_takeInterest_33 : decode nc_A_takeInterest 33 = .ok (.dup, 1) := by decide +kernel
theorem nd_A_takeInterest_34 : decode nc_A_takeInterest 34 = .ok (.getfield 23, 3) := by decide +kernel
theorem nd_A_takeInterest_37 : decode nc_A_takeInterest 37 = .ok (.lload_n 3, 1) := by decide +kernel
theorem nd_A_takeInterest_38 : decode nc_A_takeInterest 38 = .ok (.lload_n 1, 1) := by decide +kernel
theorem nd_A_takeInterest_39 : decode nc_A_takeInterest 39 = .ok (.lmul, 1) := by decide +kernel
theorem nd_A_takeInterest_40 : decode nc_A_takeInterest 40 = .ok (.lsub, 1) := by decide +kernel
theorem nd_A_takeInterest_41 : decode nc_A_takeInterest 41 = .ok (.putfield 23, 3) := by decide +kernel
theorem nd_A_takeInterest_44 : decode nc_A_takeInterest 44 = .ok (.lload_n 3, 1) := by decide +kernel
theorem nd_A_takeInterest_45 : decode nc_A_takeInterest 45 = .ok (.lreturn, 1) := by decide +kernel
theorem nd_C_yearOf_0 : decode nc_C_yearOf 0 = .ok (.iload_n 0, 1) := by decide +kernel
theorem nd_C_yearOf_1 : decode nc_C_yearOf 1 = .ok (.ifCond .ne 9, 3) := by decide +kernel
theorem nd_C_yearOf_4 : decode nc_C_yearOf 4 = .ok (.sipush 365, 3) := by decide +kernel
theorem nd_C_yearOf_7 : decode nc_C_yearOf 7 = .ok (.goto 6, 3) := by decide +kernel
theorem nd_C_yearOf_10 : decode nc_C_yearOf 10 = .ok (.sipush 360, 3) := by decide +kernel
theorem nd_C_yearOf_13 : decode nc_C_yearOf 13 = .ok (.ireturn, 1) := by decide +kernel
theorem nd_A_nearest_0 : decode nc_A_nearest 0 = .ok (.lload_n 0, 1) := by decide +kernel
theorem nd_A_nearest_1 : decode nc_A_nearest 1 = .ok (.lload_n 2, 1) := by decide +kernel
theorem nd_A_nearest_2 : decode nc_A_nearest 2 = .ok (.invokestatic 44, 3) := by decide +kernel
theorem nd_A_nearest_5 : decode nc_A_nearest 5 = .ok (.lstore 4, 2) := by decide +kernel
theorem nd_A_nearest_7 : decode nc_A_nearest 7 = .ok (.ldc2_w 49, 3) := by decide +kernel
theorem nd_A_nearest_10 : decode nc_A_nearest 10 = .ok (.lload_n 0, 1) := by decide +kernel
theorem nd_A_nearest_11 : decode nc_A_nearest 11 = .ok (.lload 4, 2) := by decide +kernel
theorem nd_A_nearest_13 : decode nc_A_nearest 13 = .ok (.lload_n 2, 1) := by decide +kernel
theorem nd_A_nearest_14 : decode nc_A_nearest 14 = .ok (.lmul, 1) := by decide +kernel
theorem nd_A_nearest_15 : decode nc_A_nearest 15 = .ok (.lsub, 1) := by decide +kernel
theorem nd_A_nearest_16 : decode nc_A_nearest 16 = .ok (.lmul, 1) := by decide +kernel
theorem nd_A_nearest_17 : decode nc_A_nearest 17 = .ok (.lstore 6, 2) := by decide +kernel
theorem nd_A_nearest_19 : decode nc_A_nearest 19 = .ok (.lload 4, 2) := by decide +kernel
theorem nd_A_nearest_21 : decode nc_A_nearest 21 = .ok (.lconst 1, 1) := by decide +kernel
theorem nd_A_nearest_22 : decode nc_A_nearest 22 = .ok (.land, 1) := by decide +kernel
theorem nd_A_nearest_23 : decode nc_A_nearest 23 = .ok (.lconst 1, 1) := by decide +kernel
theorem nd_A_nearest_24 : decode nc_A_nearest 24 = .ok (.lcmp, 1) := by decide +kernel
theorem nd_A_nearest_25 : decode nc_A_nearest 25 = .ok (.ifCond .ne 7, 3) := by decide +kernel
theorem nd_A_nearest_28 : decode nc_A_nearest 28 = .ok (.iconst 1, 1) := by decide +kernel
theorem nd_A_nearest_29 : decode nc_A_nearest 29 = .ok (.goto 4, 3) := by decide +kernel
theorem nd_A_nearest_32 : decode nc_A_nearest 32 = .ok (.iconst 0, 1) := by decide +kernel
theorem nd_A_nearest_33 : decode nc_A_nearest 33 = .ok (.istore 8, 2) := by decide +kernel
theorem nd_A_nearest_35 : decode nc_A_nearest 35 = .ok (.lload 6, 2) := by decide +kernel
theorem nd_A_nearest_37 : decode nc_A_nearest 37 = .ok (.lload_n 2, 1) := by decide +kernel
theorem nd_A_nearest_38 : decode nc_A_nearest 38 = .ok (.lcmp, 1) := by decide +kernel
theorem nd_A_nearest_39 : decode nc_A_nearest 39 = .ok (.ifCond .gt 15, 3) := by decide +kernel
theorem nd_A_nearest_42 : decode nc_A_nearest 42 = .ok (.lload 6, 2) := by decide +kernel
theorem nd_A_nearest_44 : decode nc_A_nearest 44 = .ok (.lload_n 2, 1) := by decide +kernel
theorem nd_A_nearest_45 : decode nc_A_nearest 45 = .ok (.lcmp, 1) := by decide +kernel
theorem nd_A_nearest_46 : decode nc_A_nearest 46 = .ok (.ifCond .ne 12, 3) := by decide +kernel
theorem nd_A_nearest_49 : decode nc_A_nearest 49 = .ok (.iload 8, 2) := by decide +kernel
theorem nd_A_nearest_51 : decode nc_A_nearest 51 = .ok (.ifCond .eq 7, 3) := by decide +kernel
theorem nd_A_nearest_54 : decode nc_A_nearest 54 = .ok (.iconst 1, 1) := by decide +kernel
theorem nd_A_nearest_55 : decode nc_A_nearest 55 = .ok (.goto 4, 3) := by decide +kernel
theorem nd_A_nearest_58 : decode nc_A_nearest 58 = .ok (.iconst 0, 1) := by decide +kernel
theorem nd_A_nearest_59 : decode nc_A_nearest 59 = .ok (.istore 9, 2) := by decide +kernel
theorem nd_A_nearest_61 : decode nc_A_nearest 61 = .ok (.iload 9, 2) := by decide +kernel
theorem nd_A_nearest_63 : decode nc_A_nearest 63 = .ok (.ifCond .eq 10, 3) := by decide +kernel
theorem nd_A_nearest_66 : decode nc_A_nearest 66 = .ok (.lload 4, 2) := by decide +kernel
theorem nd_A_nearest_68 : decode nc_A_nearest 68 = .ok (.lconst 1, 1) := by decide +kernel
theorem nd_A_nearest_69 : decode nc_A_nearest 69 = .ok (.ladd, 1) := by decide +kernel
theorem nd_A_nearest_70 : decode nc_A_nearest 70 = .ok (.goto 5, 3) := by decide +kernel
theorem nd_A_nearest_73 : decode nc_A_nearest 73 = .ok (.lload 4, 2) := by decide +kernel
theorem nd_A_nearest_75 : decode nc_A_nearest 75 = .ok (.lreturn, 1) := by decide +kernel
theorem nd_T_floorDivL_0 : decode nc_T_floorDivL 0 = .ok (.lload_n 0, 1) := by decide +kernel
theorem nd_T_floorDivL_1 : decode nc_T_floorDivL 1 = .ok (.lload_n 2, 1) := by decide +kernel
theorem nd_T_floorDivL_2 : decode nc_T_floorDivL 2 = .ok (.ldiv, 1) := by decide +kernel
theorem nd_T_floorDivL_3 : decode nc_T_floorDivL 3 = .ok (.lstore 4, 2) := by decide +kernel
theorem nd_T_floorDivL_5 : decode nc_T_floorDivL 5 = .ok (.lload_n 0, 1) := by decide +kernel
theorem nd_T_floorDivL_6 : decode nc_T_floorDivL 6 = .ok (.lload_n 2, 1) := by decide +kernel
theorem nd_T_floorDivL_7 : decode nc_T_floorDivL 7 = .ok (.lxor, 1) := by decide +kernel
theorem nd_T_floorDivL_8 : decode nc_T_floorDivL 8 = .ok (.lconst 0, 1) := by decide +kernel
theorem nd_T_floorDivL_9 : decode nc_T_floorDivL 9 = .ok (.lcmp, 1) := by decide +kernel
theorem nd_T_floorDivL_10 : decode nc_T_floorDivL 10 = .ok (.ifCond .ge 17, 3) := by decide +kernel
theorem nd_T_floorDivL_13 : decode nc_T_floorDivL 13 = .ok (.lload 4, 2) := by decide +kernel
theorem nd_T_floorDivL_15 : decode nc_T_floorDivL 15 = .ok (.lload_n 2, 1) := by decide +kernel
theorem nd_T_floorDivL_16 : decode nc_T_floorDivL 16 = .ok (.lmul, 1) := by decide +kernel
theorem nd_T_floorDivL_17 : decode nc_T_floorDivL 17 = .ok (.lload_n 0, 1) := by decide +kernel
theorem nd_T_floorDivL_18 : decode nc_T_floorDivL 18 = .ok (.lcmp, 1) := by decide +kernel
theorem nd_T_floorDivL_19 : decode nc_T_floorDivL 19 = .ok (.ifCond .eq 8, 3) := by decide +kernel
theorem nd_T_floorDivL_22 : decode nc_T_floorDivL 22 = .ok (.lload 4, 2) := by decide +kernel
theorem nd_T_floorDivL_24 : decode nc_T_floorDivL 24 = .ok (.lconst 1, 1) := by decide +kernel
theorem nd_T_floorDivL_25 : decode nc_T_floorDivL 25 = .ok (.lsub, 1) := by decide +kernel
theorem nd_T_floorDivL_26 : decode nc_T_floorDivL 26 = .ok (.lreturn, 1) := by decide +kernel
theorem nd_T_floorDivL_27 : decode nc_T_floorDivL 27 = .ok (.lload 4, 2) := by decide +kernel
theorem nd_T_floorDivL_29 : decode nc_T_floorDivL 29 = .ok (.lreturn, 1) := by decide +kernel
theorem nd_B_fuse_0 : decode nc_B_fuse 0 = .ok (.aload_n 0, 1) := by decide +kernel
theorem nd_B_fuse_1 : decode nc_B_fuse 1 = .ok (.getfield 37, 3) := by decide +kernel
theorem nd_B_fuse_4 : decode nc_B_fuse 4 = .ok (.getfield 163, 3) := by decide +kernel
theorem nd_B_fuse_7 : decode nc_B_fuse 7 = .ok (.ifCond .ne 14, 3) := by decide +kernel
theorem nd_B_fuse_10 : decode nc_B_fuse 10 = .ok (.iload_n 1, 1) := by decide +kernel
theorem nd_B_fuse_11 : decode nc_B_fuse 11 = .ok (.iconst (-1), 1) := by decide +kernel
theorem nd_B_fuse_12 : decode nc_B_fuse 12 = .ok (.sipush 500, 3) := by decide +kernel
theorem nd_B_fuse_15 : decode nc_B_fuse 15 = .ok (.invokestatic 67, 3) := by decide +kernel
theorem nd_B_fuse_18 : decode nc_B_fuse 18 = .ok (.ifCond .ne 5, 3) := by decide +kernel
theorem nd_B_fuse_21 : decode nc_B_fuse 21 = .ok (.iconst 0, 1) := by decide +kernel
theorem nd_B_fuse_22 : decode nc_B_fuse 22 = .ok (.ireturn, 1) := by decide +kernel
theorem nd_B_fuse_23 : decode nc_B_fuse 23 = .ok (.aload_n 0, 1) := by decide +kernel
theorem nd_B_fuse_24 : decode nc_B_fuse 24 = .ok (.getfield 37, 3) := by decide +kernel
theorem nd_B_fuse_27 : decode nc_B_fuse 27 = .ok (.iload_n 1, 1) := by decide +kernel
theorem nd_B_fuse_28 : decode nc_B_fuse 28 = .ok (.putfield 170, 3) := by decide +kernel
theorem nd_B_fuse_31 : decode nc_B_fuse 31 = .ok (.iconst 1, 1) := by decide +kernel
theorem nd_B_fuse_32 : decode nc_B_fuse 32 = .ok (.ireturn, 1) := by decide +kernel
theorem nd_B_restart_0 : decode nc_B_restart 0 = .ok (.aload_n 0, 1) := by decide +kernel
theorem nd_B_restart_1 : decode nc_B_restart 1 = .ok (.getfield 37, 3) := by decide +kernel
theorem nd_B_restart_4 : decode nc_B_restart 4 = .ok (.getfield 163, 3) := by decide +kernel
theorem nd_B_restart_7 : decode nc_B_restart 7 = .ok (.ifCond .ne 6, 3) := by decide +kernel
theorem nd_B_restart_10 : decode nc_B_restart 10 = .ok (.bipush (-3), 2) := by decide +kernel
theorem nd_B_restart_12 : decode nc_B_restart 12 = .ok (.ireturn, 1) := by decide +kernel
theorem nd_B_restart_13 : decode nc_B_restart 13 = .ok (.aload_n 0, 1) := by decide +kernel
theorem nd_B_restart_14 : decode nc_B_restart 14 = .ok (.getfield 37, 3) := by decide +kernel
theorem nd_B_restart_17 : decode nc_B_restart 17 = .ok (.iconst 0, 1) := by decide +kernel
theorem nd_B_restart_18 : decode nc_B_restart 18 = .ok (.putfield 163, 3) := by decide +kernel
theorem nd_B_restart_21 : decode nc_B_restart 21 = .ok (.aload_n 0, 1) := by decide +kernel
theorem nd_B_restart_22 : decode nc_B_restart 22 = .ok (.getfield 37, 3) := by decide +kernel
theorem nd_B_restart_25 : decode nc_B_restart 25 = .ok (.iconst (-1), 1) := by decide +kernel
theorem nd_B_restart_26 : decode nc_B_restart 26 = .ok (.putfield 170, 3) := by decide +kernel
theorem nd_B_restart_29 : decode nc_B_restart 29 = .ok (.aload_n 0, 1) := by decide +kernel
theorem nd_B_restart_30 : decode nc_B_restart 30 = .ok (.getfield 37, 3) := by decide +kernel
theorem nd_B_restart_33 : decode nc_B_restart 33 = .ok (.getfield 173, 3) := by decide +kernel
theorem nd_B_restart_36 : decode nc_B_restart 36 = .ok (.ireturn, 1) := by decide +kernel
theorem nd_B_balance_0 : decode nc_B_balance 0 = .ok (.aload_n 0, 1) := by decide +kernel
theorem nd_B_balance_1 : decode nc_B_balance 1 = .ok (.iload_n 1, 1) := by decide +kernel
theorem nd_B_balance_2 : decode nc_B_balance 2 = .ok (.invokevirtual 176, 3) := by decide +kernel
theorem nd_B_balance_5 : decode nc_B_balance 5 = .ok (.astore_n 2, 1) := by decide +kernel
theorem nd_B_balance_6 : decode nc_B_balance 6 = .ok (.aload_n 2, 1) := by decide +kernel
theorem nd_B_balance_7 : decode nc_B_balance 7 = .ok (.ifnonnull 7, 3) := by decide +kernel
theorem nd_B_balance_10 : decode nc_B_balance 10 = .ok (.lconst 0, 1) := by decide +kernel
theorem nd_B_balance_11 : decode nc_B_balance 11 = .ok (.goto 7, 3) := by decide +kernel
theorem nd_B_balance_14 : decode nc_B_balance 14 = .ok (.aload_n 2, 1) := by decide +kernel
theorem nd_B_balance_15 : decode nc_B_balance 15 = .ok (.getfield 179, 3) := by decide +kernel
theorem nd_B_balance_18 : decode nc_B_balance 18 = .ok (.lreturn, 1) := by decide +kernel
theorem nd_B_shownAccount_0 : decode nc_B_shownAccount 0 = .ok (.aload_n 0, 1) := by decide +kernel
theorem nd_B_shownAccount_1 : decode nc_B_shownAccount 1 = .ok (.getfield 37, 3) := by decide +kernel
theorem nd_B_shownAccount_4 : decode nc_B_shownAccount 4 = .ok (.getfield 163, 3) := by decide +kernel
theorem nd_B_shownAccount_7 : decode nc_B_shownAccount 7 = .ok (.ifCond .eq 7, 3) := by decide +kernel
theorem nd_B_shownAccount_10 : decode nc_B_shownAccount 10 = .ok (.aconst_null, 1) := by decide +kernel
theorem nd_B_shownAccount_11 : decode nc_B_shownAccount 11 = .ok (.goto 8, 3) := by decide +kernel
theorem nd_B_shownAccount_14 : decode nc_B_shownAccount 14 = .ok (.aload_n 0, 1) := by decide +kernel
theorem nd_B_shownAccount_15 : decode nc_B_shownAccount 15 = .ok (.iload_n 1, 1) := by decide +kernel
theorem nd_B_shownAccount_16 : decode nc_B_shownAccount 16 = .ok (.invokevirtual 110, 3) := by decide +kernel
theorem nd_B_shownAccount_19 : decode nc_B_shownAccount 19 = .ok (.areturn, 1) := by decide +kernel
theorem nd_B_available_0 : decode nc_B_available 0 = .ok (.aload_n 0, 1) := by decide +kernel
theorem nd_B_available_1 : decode nc_B_available 1 = .ok (.iload_n 1, 1) := by decide +kernel
theorem nd_B_available_2 : decode nc_B_available 2 = .ok (.invokevirtual 176, 3) := by decide +kernel
theorem nd_B_available_5 : decode nc_B_available 5 = .ok (.astore_n 2, 1) := by decide +kernel
theorem nd_B_available_6 : decode nc_B_available 6 = .ok (.aload_n 2, 1) := by decide +kernel
theorem nd_B_available_7 : decode nc_B_available 7 = .ok (.ifnonnull 7, 3) := by decide +kernel
theorem nd_B_available_10 : decode nc_B_available 10 = .ok (.lconst 0, 1) := by decide +kernel
theorem nd_B_available_11 : decode nc_B_available 11 = .ok (.goto 7, 3) := by decide +kernel
theorem nd_B_available_14 : decode nc_B_available 14 = .ok (.aload_n 2, 1) := by decide +kernel
theorem nd_B_available_15 : decode nc_B_available 15 = .ok (.invokevirtual 114, 3) := by decide +kernel
theorem nd_B_available_18 : decode nc_B_available 18 = .ok (.lreturn, 1) := by decide +kernel
theorem nd_B_accrued_0 : decode nc_B_accrued 0 = .ok (.aload_n 0, 1) := by decide +kernel
theorem nd_B_accrued_1 : decode nc_B_accrued 1 = .ok (.iload_n 1, 1) := by decide +kernel
theorem nd_B_accrued_2 : decode nc_B_accrued 2 = .ok (.invokevirtual 176, 3) := by decide +kernel
theorem nd_B_accrued_5 : decode nc_B_accrued 5 = .ok (.astore_n 2, 1) := by decide +kernel
theorem nd_B_accrued_6 : decode nc_B_accrued 6 = .ok (.aload_n 2, 1) := by decide +kernel
theorem nd_B_accrued_7 : decode nc_B_accrued 7 = .ok (.ifnonnull 7, 3) := by decide +kernel
theorem nd_B_accrued_10 : decode nc_B_accrued 10 = .ok (.lconst 0, 1) := by decide +kernel
theorem nd_B_accrued_11 : decode nc_B_accrued 11 = .ok (.goto 7, 3) := by decide +kernel
theorem nd_B_accrued_14 : decode nc_B_accrued 14 = .ok (.aload_n 2, 1) := by decide +kernel
theorem nd_B_accrued_15 : decode nc_B_accrued 15 = .ok (.getfield 183, 3) := by decide +kernel
theorem nd_B_accrued_18 : decode nc_B_accrued 18 = .ok (.lreturn, 1) := by decide +kernel
theorem nd_B_mark_0 : decode nc_B_mark 0 = .ok (.aload_n 0, 1) := by decide +kernel
theorem nd_B_mark_1 : decode nc_B_mark 1 = .ok (.iload_n 1, 1) := by decide +kernel
theorem nd_B_mark_2 : decode nc_B_mark 2 = .ok (.invokevirtual 176, 3) := by decide +kernel
theorem nd_B_mark_5 : decode nc_B_mark 5 = .ok (.astore_n 2, 1) := by decide +kernel
theorem nd_B_mark_6 : decode nc_B_mark 6 = .ok (.aload_n 2, 1) := by decide +kernel
theorem nd_B_mark_7 : decode nc_B_mark 7 = .ok (.ifnonnull 7, 3) := by decide +kernel
theorem nd_B_mark_10 : decode nc_B_mark 10 = .ok (.iconst 0, 1) := by decide +kernel
theorem nd_B_mark_11 : decode nc_B_mark 11 = .ok (.goto 7, 3) := by decide +kernel
theorem nd_B_mark_14 : decode nc_B_mark 14 = .ok (.aload_n 2, 1) := by decide +kernel
theorem nd_B_mark_15 : decode nc_B_mark 15 = .ok (.getfield 97, 3) := by decide +kernel
theorem nd_B_mark_18 : decode nc_B_mark 18 = .ok (.ireturn, 1) := by decide +kernel
theorem nd_B_ledger_0 : decode nc_B_ledger 0 = .ok (.aload_n 0, 1) := by decide +kernel
theorem nd_B_ledger_1 : decode nc_B_ledger 1 = .ok (.getfield 37, 3) := by decide +kernel
theorem nd_B_ledger_4 : decode nc_B_ledger 4 = .ok (.getfield 163, 3) := by decide +kernel
theorem nd_B_ledger_7 : decode nc_B_ledger 7 = .ok (.ifCond .ne 10, 3) := by decide +kernel
theorem nd_B_ledger_10 : decode nc_B_ledger 10 = .ok (.iload_n 1, 1) := by decide +kernel
theorem nd_B_ledger_11 : decode nc_B_ledger 11 = .ok (.invokestatic 57, 3) := by decide +kernel
theorem nd_B_ledger_14 : decode nc_B_ledger 14 = .ok (.ifCond .ne 5, 3) := by decide +kernel
theorem nd_B_ledger_17 : decode nc_B_ledger 17 = .ok (.lconst 0, 1) := by decide +kernel
theorem nd_B_ledger_18 : decode nc_B_ledger 18 = .ok (.lreturn, 1) := by decide +kernel
theorem nd_B_ledger_19 : decode nc_B_ledger 19 = .ok (.iload_n 2, 1) := by decide +kernel
theorem nd_B_ledger_20 : decode nc_B_ledger 20 = .ok (.tableswitch 48 0 2 #[28, 35, 42], 28) := by decide +kernel
theorem nd_B_ledger_48 : decode nc_B_ledger 48 = .ok (.aload_n 0, 1) := by decide +kernel
theorem nd_B_ledger_49 : decode nc_B_ledger 49 = .ok (.getfield 41, 3) := by decide +kernel
theorem nd_B_ledger_52 : decode nc_B_ledger 52 = .ok (.iload_n 1, 1) := by decide +kernel
theorem nd_B_ledger_53 : decode nc_B_ledger 53 = .ok (.laload, 1) := by decide +kernel
theorem nd_B_ledger_54 : decode nc_B_ledger 54 = .ok (.lreturn, 1) := by decide +kernel
theorem nd_B_ledger_55 : decode nc_B_ledger 55 = .ok (.aload_n 0, 1) := by decide +kernel
theorem nd_B_ledger_56 : decode nc_B_ledger 56 = .ok (.getfield 45, 3) := by decide +kernel
theorem nd_B_ledger_59 : decode nc_B_ledger 59 = .ok (.iload_n 1, 1) := by decide +kernel
theorem nd_B_ledger_60 : decode nc_B_ledger 60 = .ok (.laload, 1) := by decide +kernel
theorem nd_B_ledger_61 : decode nc_B_ledger 61 = .ok (.lreturn, 1) := by decide +kernel
theorem nd_B_ledger_62 : decode nc_B_ledger 62 = .ok (.aload_n 0, 1) := by decide +kernel
theorem nd_B_ledger_63 : decode nc_B_ledger 63 = .ok (.iload_n 1, 1) := by decide +kernel
theorem nd_B_ledger_64 : decode nc_B_ledger 64 = .ok (.invokevirtual 186, 3) := by decide +kernel
theorem nd_B_ledger_67 : decode nc_B_ledger 67 = .ok (.lreturn, 1) := by decide +kernel
theorem nd_B_ledger_68 : decode nc_B_ledger 68 = .ok (.lconst 0, 1) := by decide +kernel
theorem nd_B_ledger_69 : decode nc_B_ledger 69 = .ok (.lreturn, 1) := by decide +kernel
theorem nd_B_sumOfBalances_0 : decode nc_B_sumOfBalances 0 = .ok (.lconst 0, 1) := by decide +kernel
theorem nd_B_sumOfBalances_1 : decode nc_B_sumOfBalances 1 = .ok (.lstore_n 2, 1) := by decide +kernel
theorem nd_B_sumOfBalances_2 : decode nc_B_sumOfBalances 2 = .ok (.iconst 0, 1) := by decide +kernel
theorem nd_B_sumOfBalances_3 : decode nc_B_sumOfBalances 3 = .ok (.istore 4, 2) := by decide +kernel
theorem nd_B_sumOfBalances_5 : decode nc_B_sumOfBalances 5 = .ok (.iload 4, 2) := by decide +kernel
theorem nd_B_sumOfBalances_7 : decode nc_B_sumOfBalances 7 = .ok (.aload_n 0, 1) := by decide +kernel
theorem nd_B_sumOfBalances_8 : decode nc_B_sumOfBalances 8 = .ok (.getfield 71, 3) := by decide +kernel
theorem nd_B_sumOfBalances_11 : decode nc_B_sumOfBalances 11 = .ok (.if_icmp .ge 36, 3) := by decide +kernel
theorem nd_B_sumOfBalances_14 : decode nc_B_sumOfBalances 14 = .ok (.aload_n 0, 1) := by decide +kernel
theorem nd_B_sumOfBalances_15 : decode nc_B_sumOfBalances 15 = .ok (.getfield 11, 3) := by decide +kernel
theorem nd_B_sumOfBalances_18 : decode nc_B_sumOfBalances 18 = .ok (.iload 4, 2) := by decide +kernel
theorem nd_B_sumOfBalances_20 : decode nc_B_sumOfBalances 20 = .ok (.aaload, 1) := by decide +kernel
theorem nd_B_sumOfBalances_21 : decode nc_B_sumOfBalances 21 = .ok (.getfield 82, 3) := by decide +kernel
theorem nd_B_sumOfBalances_24 : decode nc_B_sumOfBalances 24 = .ok (.iload_n 1, 1) := by decide +kernel
theorem nd_B_sumOfBalances_25 : decode nc_B_sumOfBalances 25 = .ok (.if_icmp .ne 16, 3) := by decide +kernel
theorem nd_B_sumOfBalances_28 : decode nc_B_sumOfBalances 28 = .ok (.lload_n 2, 1) := by decide +kernel
theorem nd_B_sumOfBalances_29 : decode nc_B_sumOfBalances 29 = .ok (.aload_n 0, 1) := by decide +kernel
theorem nd_B_sumOfBalances_30 : decode nc_B_sumOfBalances 30 = .ok (.getfield 11, 3) := by decide +kernel
theorem nd_B_sumOfBalances_33 : decode nc_B_sumOfBalances 33 = .ok (.iload 4, 2) := by decide +kernel
theorem nd_B_sumOfBalances_35 : decode nc_B_sumOfBalances 35 = .ok (.aaload, 1) := by decide +kernel
theorem nd_B_sumOfBalances_36 : decode nc_B_sumOfBalances 36 = .ok (.getfield 179, 3) := by decide +kernel
theorem nd_B_sumOfBalances_39 : decode nc_B_sumOfBalances 39 = .ok (.ladd, 1) := by decide +kernel
theorem nd_B_sumOfBalances_40 : decode nc_B_sumOfBalances 40 = .ok (.lstore_n 2, 1) := by decide +kernel
theorem nd_B_sumOfBalances_41 : decode nc_B_sumOfBalances 41 = .ok (.iinc 4 1, 3) := by decide +kernel
theorem nd_B_sumOfBalances_44 : decode nc_B_sumOfBalances 44 = .ok (.goto (-39), 3) := by decide +kernel
theorem nd_B_sumOfBalances_47 : decode nc_B_sumOfBalances 47 = .ok (.lload_n 2, 1) := by decide +kernel
theorem nd_B_sumOfBalances_48 : decode nc_B_sumOfBalances 48 = .ok (.lreturn, 1) := by decide +kernel
theorem nd_B_missed_0 : decode nc_B_missed 0 = .ok (.aload_n 0, 1) := by decide +kernel
theorem nd_B_missed_1 : decode nc_B_missed 1 = .ok (.getfield 37, 3) := by decide +kernel
theorem nd_B_missed_4 : decode nc_B_missed 4 = .ok (.getfield 163, 3) := by decide +kernel
theorem nd_B_missed_7 : decode nc_B_missed 7 = .ok (.ifCond .ne 17, 3) := by decide +kernel
theorem nd_B_missed_10 : decode nc_B_missed 10 = .ok (.iload_n 1, 1) := by decide +kernel
theorem nd_B_missed_11 : decode nc_B_missed 11 = .ok (.iconst 0, 1) := by decide +kernel
theorem nd_B_missed_12 : decode nc_B_missed 12 = .ok (.aload_n 0, 1) := by decide +kernel
theorem nd_B_missed_13 : decode nc_B_missed 13 = .ok (.getfield 143, 3) := by decide +kernel
theorem nd_B_missed_16 : decode nc_B_missed 16 = .ok (.iconst 1, 1) := by decide +kernel
theorem nd_B_missed_17 : decode nc_B_missed 17 = .ok (.isub, 1) := by decide +kernel
theorem nd_B_missed_18 : decode nc_B_missed 18 = .ok (.invokestatic 67, 3) := by decide +kernel
theorem nd_B_missed_21 : decode nc_B_missed 21 = .ok (.ifCond .ne 5, 3) := by decide +kernel
theorem nd_B_missed_24 : decode nc_B_missed 24 = .ok (.iconst 0, 1) := by decide +kernel
theorem nd_B_missed_25 : decode nc_B_missed 25 = .ok (.ireturn, 1) := by decide +kernel
theorem nd_B_missed_26 : decode nc_B_missed 26 = .ok (.aload_n 0, 1) := by decide +kernel
theorem nd_B_missed_27 : decode nc_B_missed 27 = .ok (.getfield 23, 3) := by decide +kernel
theorem nd_B_missed_30 : decode nc_B_missed 30 = .ok (.iload_n 1, 1) := by decide +kernel
theorem nd_B_missed_31 : decode nc_B_missed 31 = .ok (.aaload, 1) := by decide +kernel
theorem nd_B_missed_32 : decode nc_B_missed 32 = .ok (.getfield 190, 3) := by decide +kernel
theorem nd_B_missed_35 : decode nc_B_missed 35 = .ok (.ireturn, 1) := by decide +kernel
theorem nd_B_today_0 : decode nc_B_today 0 = .ok (.aload_n 0, 1) := by decide +kernel
theorem nd_B_today_1 : decode nc_B_today 1 = .ok (.getfield 37, 3) := by decide +kernel
theorem nd_B_today_4 : decode nc_B_today 4 = .ok (.getfield 163, 3) := by decide +kernel
theorem nd_B_today_7 : decode nc_B_today 7 = .ok (.ifCond .eq 7, 3) := by decide +kernel
theorem nd_B_today_10 : decode nc_B_today 10 = .ok (.iconst 0, 1) := by decide +kernel
theorem nd_B_today_11 : decode nc_B_today 11 = .ok (.goto 7, 3) := by decide +kernel
theorem nd_B_today_14 : decode nc_B_today 14 = .ok (.aload_n 0, 1) := by decide +kernel
theorem nd_B_today_15 : decode nc_B_today 15 = .ok (.getfield 94, 3) := by decide +kernel
theorem nd_B_today_18 : decode nc_B_today 18 = .ok (.ireturn, 1) := by decide +kernel
theorem nd_B_count_0 : decode nc_B_count 0 = .ok (.iload_n 1, 1) := by decide +kernel
theorem nd_B_count_1 : decode nc_B_count 1 = .ok (.invokestatic 61, 3) := by decide +kernel
theorem nd_B_count_4 : decode nc_B_count 4 = .ok (.ifCond .eq 18, 3) := by decide +kernel
theorem nd_B_count_7 : decode nc_B_count 7 = .ok (.iload_n 2, 1) := by decide +kernel
theorem nd_B_count_8 : decode nc_B_count 8 = .ok (.ifCond .lt 14, 3) := by decide +kernel
theorem nd_B_count_11 : decode nc_B_count 11 = .ok (.iload_n 2, 1) := by decide +kernel
theorem nd_B_count_12 : decode nc_B_count 12 = .ok (.iload_n 3, 1) := by decide +kernel
theorem nd_B_count_13 : decode nc_B_count 13 = .ok (.if_icmp .gt 9, 3) := by decide +kernel
theorem nd_B_count_16 : decode nc_B_count 16 = .ok (.iload_n 3, 1) := by decide +kernel
theorem nd_B_count_17 : decode nc_B_count 17 = .ok (.ldc 193, 2) := by decide +kernel
theorem nd_B_count_19 : decode nc_B_count 19 = .ok (.if_icmp .le 5, 3) := by decide +kernel
theorem nd_B_count_22 : decode nc_B_count 22 = .ok (.iconst (-1), 1) := by decide +kernel
theorem nd_B_count_23 : decode nc_B_count 23 = .ok (.ireturn, 1) := by decide +kernel
theorem nd_B_count_24 : decode nc_B_count 24 = .ok (.iload_n 1, 1) := by decide +kernel
theorem nd_B_count_25 : decode nc_B_count 25 = .ok (.iload_n 2, 1) := by decide +kernel
theorem nd_B_count_26 : decode nc_B_count 26 = .ok (.iload_n 3, 1) := by decide +kernel
theorem nd_B_count_27 : decode nc_B_count 27 = .ok (.invokestatic 194, 3) := by decide +kernel
theorem nd_B_count_30 : decode nc_B_count 30 = .ok (.ireturn, 1) := by decide +kernel
theorem nd_B_writes_0 : decode nc_B_writes 0 = .ok (.aload_n 0, 1) := by decide +kernel
theorem nd_B_writes_1 : decode nc_B_writes 1 = .ok (.getfield 37, 3) := by decide +kernel
theorem nd_B_writes_4 : decode nc_B_writes 4 = .ok (.getfield 198, 3) := by decide +kernel
theorem nd_B_writes_7 : decode nc_B_writes 7 = .ok (.ireturn, 1) := by decide +kernel
theorem nd_B_lines_0 : decode nc_B_lines 0 = .ok (.aload_n 0, 1) := by decide +kernel
theorem nd_B_lines_1 : decode nc_B_lines 1 = .ok (.getfield 37, 3) := by decide +kernel
theorem nd_B_lines_4 : decode nc_B_lines 4 = .ok (.getfield 163, 3) := by decide +kernel
theorem nd_B_lines_7 : decode nc_B_lines 7 = .ok (.ifCond .eq 7, 3) := by decide +kernel
theorem nd_B_lines_10 : decode nc_B_lines 10 = .ok (.iconst 0, 1) := by decide +kernel
theorem nd_B_lines_11 : decode nc_B_lines 11 = .ok (.goto 10, 3) := by decide +kernel
theorem nd_B_lines_14 : decode nc_B_lines 14 = .ok (.aload_n 0, 1) := by decide +kernel
theorem nd_B_lines_15 : decode nc_B_lines 15 = .ok (.getfield 37, 3) := by decide +kernel
theorem nd_B_lines_18 : decode nc_B_lines 18 = .ok (.getfield 201, 3) := by decide +kernel
theorem nd_B_lines_21 : decode nc_B_lines 21 = .ok (.ireturn, 1) := by decide +kernel
