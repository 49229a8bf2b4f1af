/-! decode rows -/
theorem nd_M_init_0 : decode nc_M_init 0 = .ok (.aload_n 0, 1) := by decide +kernel
theorem nd_M_init_1 : decode nc_M_init 1 = .ok (.invokespecial 1, 3) := by decide +kernel
theorem nd_M_init_4 : decode nc_M_init 4 = .ok (.aload_n 0, 1) := by decide +kernel
theorem nd_M_init_5 : decode nc_M_init 5 = .ok (.bipush 6, 2) := by decide +kernel
theorem nd_M_init_7 : decode nc_M_init 7 = .ok (.newarray .int, 2) := by decide +kernel
theorem nd_M_init_9 : decode nc_M_init 9 = .ok (.putfield 7, 3) := by decide +kernel
theorem nd_M_init_12 : decode nc_M_init 12 = .ok (.aload_n 0, 1) := by decide +kernel
theorem nd_M_init_13 : decode nc_M_init 13 = .ok (.bipush 6, 2) := by decide +kernel
theorem nd_M_init_15 : decode nc_M_init 15 = .ok (.newarray .int, 2) := by decide +kernel
theorem nd_M_init_17 : decode nc_M_init 17 = .ok (.putfield 13, 3) := by decide +kernel
theorem nd_M_init_20 : decode nc_M_init 20 = .ok (.aload_n 0, 1) := by decide +kernel
theorem nd_M_init_21 : decode nc_M_init 21 = .ok (.bipush 6, 2) := by decide +kernel
theorem nd_M_init_23 : decode nc_M_init 23 = .ok (.newarray .int, 2) := by decide +kernel
theorem nd_M_init_25 : decode nc_M_init 25 = .ok (.putfield 16, 3) := by decide +kernel
theorem nd_M_init_28 : decode nc_M_init 28 = .ok (.aload_n 0, 1) := by decide +kernel
theorem nd_M_init_29 : decode nc_M_init 29 = .ok (.bipush 6, 2) := by decide +kernel
theorem nd_M_init_31 : decode nc_M_init 31 = .ok (.newarray .int, 2) := by decide +kernel
theorem nd_M_init_33 : decode nc_M_init 33 = .ok (.putfield 19, 3) := by decide +kernel
theorem nd_M_init_36 : decode nc_M_init 36 = .ok (.aload_n 0, 1) := by decide +kernel
theorem nd_M_init_37 : decode nc_M_init 37 = .ok (.bipush 6, 2) := by decide +kernel
theorem nd_M_init_39 : decode nc_M_init 39 = .ok (.newarray .int, 2) := by decide +kernel
theorem nd_M_init_41 : decode nc_M_init 41 = .ok (.putfield 22, 3) := by decide +kernel
theorem nd_M_init_44 : decode nc_M_init 44 = .ok (.aload_n 0, 1) := by decide +kernel
theorem nd_M_init_45 : decode nc_M_init 45 = .ok (.bipush 6, 2) := by decide +kernel
theorem nd_M_init_47 : decode nc_M_init 47 = .ok (.newarray .long, 2) := by decide +kernel
theorem nd_M_init_49 : decode nc_M_init 49 = .ok (.putfield 25, 3) := by decide +kernel
theorem nd_M_init_52 : decode nc_M_init 52 = .ok (.aload_n 0, 1) := by decide +kernel
theorem nd_M_init_53 : decode nc_M_init 53 = .ok (.bipush 6, 2) := by decide +kernel
theorem nd_M_init_55 : decode nc_M_init 55 = .ok (.newarray .long, 2) := by decide +kernel
theorem nd_M_init_57 : decode nc_M_init 57 = .ok (.putfield 29, 3) := by decide +kernel
theorem nd_M_init_60 : decode nc_M_init 60 = .ok (.aload_n 0, 1) := by decide +kernel
theorem nd_M_init_61 : decode nc_M_init 61 = .ok (.bipush 8, 2) := by decide +kernel
theorem nd_M_init_63 : decode nc_M_init 63 = .ok (.newarray .int, 2) := by decide +kernel
theorem nd_M_init_65 : decode nc_M_init 65 = .ok (.putfield 32, 3) := by decide +kernel
theorem nd_M_init_68 : decode nc_M_init 68 = .ok (.aload_n 0, 1) := by decide +kernel
theorem nd_M_init_69 : decode nc_M_init 69 = .ok (.bipush 8, 2) := by decide +kernel
theorem nd_M_init_71 : decode nc_M_init 71 = .ok (.newarray .int, 2) := by decide +kernel
theorem nd_M_init_73 : decode nc_M_init 73 = .ok (.putfield 35, 3) := by decide +kernel
theorem nd_M_init_76 : decode nc_M_init 76 = .ok (.aload_n 0, 1) := by decide +kernel
theorem nd_M_init_77 : decode nc_M_init 77 = .ok (.bipush 6, 2) := by decide +kernel
theorem nd_M_init_79 : decode nc_M_init 79 = .ok (.newarray .int, 2) := by decide +kernel
theorem nd_M_init_81 : decode nc_M_init 81 = .ok (.putfield 38, 3) := by decide +kernel
theorem nd_M_init_84 : decode nc_M_init 84 = .ok (.aload_n 0, 1) := by decide +kernel
theorem nd_M_init_85 : decode nc_M_init 85 = .ok (.bipush 6, 2) := by decide +kernel
theorem nd_M_init_87 : decode nc_M_init 87 = .ok (.newarray .int, 2) := by decide +kernel
theorem nd_M_init_89 : decode nc_M_init 89 = .ok (.putfield 41, 3) := by decide +kernel
theorem nd_M_init_92 : decode nc_M_init 92 = .ok (.aload_n 0, 1) := by decide +kernel
theorem nd_M_init_93 : decode nc_M_init 93 = .ok (.bipush 6, 2) := by decide +kernel
theorem nd_M_init_95 : decode nc_M_init 95 = .ok (.newarray .int, 2) := by decide +kernel
theorem nd_M_init_97 : decode nc_M_init 97 = .ok (.putfield 44, 3) := by decide +kernel
theorem nd_M_init_100 : decode nc_M_init 100 = .ok (.aload_n 0, 1) := by decide +kernel
theorem nd_M_init_101 : decode nc_M_init 101 = .ok (.bipush 6, 2) := by decide +kernel
theorem nd_M_init_103 : decode nc_M_init 103 = .ok (.newarray .int, 2) := by decide +kernel
theorem nd_M_init_105 : decode nc_M_init 105 = .ok (.putfield 47, 3) := by decide +kernel
theorem nd_M_init_108 : decode nc_M_init 108 = .ok (.aload_n 0, 1) := by decide +kernel
theorem nd_M_init_109 : decode nc_M_init 109 = .ok (.bipush 6, 2) := by decide +kernel
theorem nd_M_init_111 : decode nc_M_init 111 = .ok (.newarray .int, 2) := by decide +kernel
theorem nd_M_init_113 : decode nc_M_init 113 = .ok (.putfield 50, 3) := by decide +kernel
theorem nd_M_init_116 : decode nc_M_init 116 = .ok (.aload_n 0, 1) := by decide +kernel
theorem nd_M_init_117 : decode nc_M_init 117 = .ok (.bipush 8, 2) := by decide +kernel
theorem nd_M_init_119 : decode nc_M_init 119 = .ok (.newarray .int, 2) := by decide +kernel
theorem nd_M_init_121 : decode nc_M_init 121 = .ok (.putfield 53, 3) := by decide +kernel
theorem nd_M_init_124 : decode nc_M_init 124 = .ok (.aload_n 0, 1) := by decide +kernel
theorem nd_M_init_125 : decode nc_M_init 125 = .ok (.iconst 3, 1) := by decide +kernel
theorem nd_M_init_126 : decode nc_M_init 126 = .ok (.newarray .long, 2) := by decide +kernel
theorem nd_M_init_128 : decode nc_M_init 128 = .ok (.putfield 56, 3) := by decide +kernel
theorem nd_M_init_131 : decode nc_M_init 131 = .ok (.aload_n 0, 1) := by decide +kernel
theorem nd_M_init_132 : decode nc_M_init 132 = .ok (.iconst 3, 1) := by decide +kernel
theorem nd_M_init_133 : decode nc_M_init 133 = .ok (.newarray .long, 2) := by decide +kernel
theorem nd_M_init_135 : decode nc_M_init 135 = .ok (.putfield 59, 3) := by decide +kernel
theorem nd_M_init_138 : decode nc_M_init 138 = .ok (.aload_n 0, 1) := by decide +kernel
theorem nd_M_init_139 : decode nc_M_init 139 = .ok (.iconst (-1), 1) := by decide +kernel
theorem nd_M_init_140 : decode nc_M_init 140 = .ok (.putfield 62, 3) := by decide +kernel
theorem nd_M_init_143 : decode nc_M_init 143 = .ok (.return_, 1) := by decide +kernel
theorem nd_M_open_0 : decode nc_M_open 0 = .ok (.aload_n 0, 1) := by decide +kernel
theorem nd_M_open_1 : decode nc_M_open 1 = .ok (.invokevirtual 125, 3) := by decide +kernel
theorem nd_M_open_4 : decode nc_M_open 4 = .ok (.ifCond .eq 8, 3) := by decide +kernel
theorem nd_M_open_7 : decode nc_M_open 7 = .ok (.aload_n 0, 1) := by decide +kernel
theorem nd_M_open_8 : decode nc_M_open 8 = .ok (.invokevirtual 125, 3) := by decide +kernel
theorem nd_M_open_11 : decode nc_M_open 11 = .ok (.ireturn, 1) := by decide +kernel
theorem nd_M_open_12 : decode nc_M_open 12 = .ok (.iload_n 1, 1) := by decide +kernel
theorem nd_M_open_13 : decode nc_M_open 13 = .ok (.ifCond .lt 40, 3) := by decide +kernel
theorem nd_M_open_16 : decode nc_M_open 16 = .ok (.iload_n 1, 1) := by decide +kernel
theorem nd_M_open_17 : decode nc_M_open 17 = .ok (.iconst 2, 1) := by decide +kernel
theorem nd_M_open_18 : decode nc_M_open 18 = .ok (.if_icmp .gt 35, 3) := by decide +kernel
theorem nd_M_open_21 : decode nc_M_open 21 = .ok (.iload_n 2, 1) := by decide +kernel
theorem nd_M_open_22 : decode nc_M_open 22 = .ok (.ifCond .lt 31, 3) := by decide +kernel
theorem nd_M_open_25 : decode nc_M_open 25 = .ok (.iload_n 2, 1) := by decide +kernel
theorem nd_M_open_26 : decode nc_M_open 26 = .ok (.iconst 2, 1) := by decide +kernel
theorem nd_M_open_27 : decode nc_M_open 27 = .ok (.if_icmp .gt 26, 3) := by decide +kernel
theorem nd_M_open_30 : decode nc_M_open 30 = .ok (.iload_n 3, 1) := by decide +kernel
theorem nd_M_open_31 : decode nc_M_open 31 = .ok (.ifCond .lt 22, 3) := by decide +kernel
theorem nd_M_open_34 : decode nc_M_open 34 = .ok (.iload_n 3, 1) := by decide +kernel
theorem nd_M_open_35 : decode nc_M_open 35 = .ok (.ldc 124, 2) := by decide +kernel
theorem nd_M_open_37 : decode nc_M_open 37 = .ok (.if_icmp .gt 16, 3) := by decide +kernel
theorem nd_M_open_40 : decode nc_M_open 40 = .ok (.iload 4, 2) := by decide +kernel
theorem nd_M_open_42 : decode nc_M_open 42 = .ok (.ifCond .lt 11, 3) := by decide +kernel
theorem nd_M_open_45 : decode nc_M_open 45 = .ok (.iload 4, 2) := by decide +kernel
theorem nd_M_open_47 : decode nc_M_open 47 = .ok (.sipush 1000, 3) := by decide +kernel
theorem nd_M_open_50 : decode nc_M_open 50 = .ok (.if_icmp .le 6, 3) := by decide +kernel
theorem nd_M_open_53 : decode nc_M_open 53 = .ok (.bipush (-3), 2) := by decide +kernel
theorem nd_M_open_55 : decode nc_M_open 55 = .ok (.ireturn, 1) := by decide +kernel
theorem nd_M_open_56 : decode nc_M_open 56 = .ok (.aload_n 0, 1) := by decide +kernel
theorem nd_M_open_57 : decode nc_M_open 57 = .ok (.getfield 121, 3) := by decide +kernel
theorem nd_M_open_60 : decode nc_M_open 60 = .ok (.bipush 6, 2) := by decide +kernel
theorem nd_M_open_62 : decode nc_M_open 62 = .ok (.if_icmp .ne 6, 3) := by decide +kernel
theorem nd_M_open_65 : decode nc_M_open 65 = .ok (.bipush (-4), 2) := by decide +kernel
theorem nd_M_open_67 : decode nc_M_open 67 = .ok (.ireturn, 1) := by decide +kernel
theorem nd_M_open_68 : decode nc_M_open 68 = .ok (.aload_n 0, 1) := by decide +kernel
theorem nd_M_open_69 : decode nc_M_open 69 = .ok (.iconst 1, 1) := by decide +kernel
theorem nd_M_open_70 : decode nc_M_open 70 = .ok (.iconst 1, 1) := by decide +kernel
theorem nd_M_open_71 : decode nc_M_open 71 = .ok (.aload_n 0, 1) := by decide +kernel
theorem nd_M_open_72 : decode nc_M_open 72 = .ok (.getfield 121, 3) := by decide +kernel
theorem nd_M_open_75 : decode nc_M_open 75 = .ok (.ishl, 1) := by decide +kernel
theorem nd_M_open_76 : decode nc_M_open 76 = .ok (.invokevirtual 129, 3) := by decide +kernel
theorem nd_M_open_79 : decode nc_M_open 79 = .ok (.ifCond .ne 5, 3) := by decide +kernel
theorem nd_M_open_82 : decode nc_M_open 82 = .ok (.iconst (-1), 1) := by decide +kernel
theorem nd_M_open_83 : decode nc_M_open 83 = .ok (.ireturn, 1) := by decide +kernel
theorem nd_M_open_84 : decode nc_M_open 84 = .ok (.aload_n 0, 1) := by decide +kernel
theorem nd_M_open_85 : decode nc_M_open 85 = .ok (.getfield 7, 3) := by decide +kernel
theorem nd_M_open_88 : decode nc_M_open 88 = .ok (.aload_n 0, 1) := by decide +kernel
theorem nd_M_open_89 : decode nc_M_open 89 = .ok (.getfield 121, 3) := by decide +kernel
theorem nd_M_open_92 : decode nc_M_open 92 = .ok (.iload_n 1, 1) := by decide +kernel
theorem nd_M_open_93 : decode nc_M_open 93 = .ok (.iastore, 1) := by decide +kernel
theorem nd_M_open_94 : decode nc_M_open 94 = .ok (.aload_n 0, 1) := by decide +kernel
theorem nd_M_open_95 : decode nc_M_open 95 = .ok (.getfield 13, 3) := by decide +kernel
theorem nd_M_open_98 : decode nc_M_open 98 = .ok (.aload_n 0, 1) := by decide +kernel
theorem nd_M_open_99 : decode nc_M_open 99 = .ok (.getfield 121, 3) := by decide +kernel
theorem nd_M_open_102 : decode nc_M_open 102 = .ok (.iload_n 2, 1) := by decide +kernel
theorem nd_M_open_103 : decode nc_M_open 103 = .ok (.iastore, 1) := by decide +kernel
theorem nd_M_open_104 : decode nc_M_open 104 = .ok (.aload_n 0, 1) := by decide +kernel
theorem nd_M_open_105 : decode nc_M_open 105 = .ok (.getfield 16, 3) := by decide +kernel
theorem nd_M_open_108 : decode nc_M_open 108 = .ok (.aload_n 0, 1) := by decide +kernel
theorem nd_M_open_109 : decode nc_M_open 109 = .ok (.getfield 121, 3) := by decide +kernel
theorem nd_M_open_112 : decode nc_M_open 112 = .ok (.iload_n 3, 1) := by decide +kernel
theorem nd_M_open_113 : decode nc_M_open 113 = .ok (.iastore, 1) := by decide +kernel
theorem nd_M_open_114 : decode nc_M_open 114 = .ok (.aload_n 0, 1) := by decide +kernel
theorem nd_M_open_115 : decode nc_M_open 115 = .ok (.getfield 19, 3) := by decide +kernel
theorem nd_M_open_118 : decode nc_M_open 118 = .ok (.aload_n 0, 1) := by decide +kernel
theorem nd_M_open_119 : decode nc_M_open 119 = .ok (.getfield 121, 3) := by decide +kernel
theorem nd_M_open_122 : decode nc_M_open 122 = .ok (.iload 4, 2) := by decide +kernel
theorem nd_M_open_124 : decode nc_M_open 124 = .ok (.iastore, 1) := by decide +kernel
theorem nd_M_open_125 : decode nc_M_open 125 = .ok (.aload_n 0, 1) := by decide +kernel
theorem nd_M_open_126 : decode nc_M_open 126 = .ok (.getfield 22, 3) := by decide +kernel
theorem nd_M_open_129 : decode nc_M_open 129 = .ok (.aload_n 0, 1) := by decide +kernel
theorem nd_M_open_130 : decode nc_M_open 130 = .ok (.getfield 121, 3) := by decide +kernel
theorem nd_M_open_133 : decode nc_M_open 133 = .ok (.aload_n 0, 1) := by decide +kernel
theorem nd_M_open_134 : decode nc_M_open 134 = .ok (.getfield 90, 3) := by decide +kernel
theorem nd_M_open_137 : decode nc_M_open 137 = .ok (.iconst 1, 1) := by decide +kernel
theorem nd_M_open_138 : decode nc_M_open 138 = .ok (.isub, 1) := by decide +kernel
theorem nd_M_open_139 : decode nc_M_open 139 = .ok (.iastore, 1) := by decide +kernel
theorem nd_M_open_140 : decode nc_M_open 140 = .ok (.aload_n 0, 1) := by decide +kernel
theorem nd_M_open_141 : decode nc_M_open 141 = .ok (.dup, 1) := by decide +kernel
theorem nd_M_open_142 : decode nc_M_open 142 = .ok (.getfield 121, 3) := by decide +kernel
theorem nd_M_open_145 : decode nc_M_open 145 = .ok (.iconst 1, 1) := by decide +kernel
theorem nd_M_open_146 : decode nc_M_open 146 = .ok (.iadd, 1) := by decide +kernel
theorem nd_M_open_147 : decode nc_M_open 147 = .ok (.putfield 121, 3) := by decide +kernel
theorem nd_M_open_150 : decode nc_M_open 150 = .ok (.aload_n 0, 1) := by decide +kernel
theorem nd_M_open_151 : decode nc_M_open 151 = .ok (.getfield 121, 3) := by decide +kernel
theorem nd_M_open_154 : decode nc_M_open 154 = .ok (.iconst 1, 1) := by decide +kernel
theorem nd_M_open_155 : decode nc_M_open 155 = .ok (.isub, 1) := by decide +kernel
theorem nd_M_open_156 : decode nc_M_open 156 = .ok (.ireturn, 1) := by decide +kernel
theorem nd_M_shut_0 : decode nc_M_shut 0 = .ok (.aload_n 0, 1) := by decide +kernel
theorem nd_M_shut_1 : decode nc_M_shut 1 = .ok (.getfield 102, 3) := by decide +kernel
theorem nd_M_shut_4 : decode nc_M_shut 4 = .ok (.ifCond .eq 7, 3) := by decide +kernel
theorem nd_M_shut_7 : decode nc_M_shut 7 = .ok (.iconst (-1), 1) := by decide +kernel
theorem nd_M_shut_8 : decode nc_M_shut 8 = .ok (.goto 16, 3) := by decide +kernel
theorem nd_M_shut_11 : decode nc_M_shut 11 = .ok (.aload_n 0, 1) := by decide +kernel
theorem nd_M_shut_12 : decode nc_M_shut 12 = .ok (.getfield 118, 3) := by decide +kernel
theorem nd_M_shut_15 : decode nc_M_shut 15 = .ok (.ifCond .eq 8, 3) := by decide +kernel
theorem nd_M_shut_18 : decode nc_M_shut 18 = .ok (.bipush (-2), 2) := by decide +kernel
theorem nd_M_shut_20 : decode nc_M_shut 20 = .ok (.goto 4, 3) := by decide +kernel
theorem nd_M_shut_23 : decode nc_M_shut 23 = .ok (.iconst 0, 1) := by decide +kernel
theorem nd_M_shut_24 : decode nc_M_shut 24 = .ok (.ireturn, 1) := by decide +kernel
theorem nd_M_comes_0 : decode nc_M_comes 0 = .ok (.aload_n 0, 1) := by decide +kernel
theorem nd_M_comes_1 : decode nc_M_comes 1 = .ok (.getfield 106, 3) := by decide +kernel
theorem nd_M_comes_4 : decode nc_M_comes 4 = .ok (.iload_n 1, 1) := by decide +kernel
theorem nd_M_comes_5 : decode nc_M_comes 5 = .ok (.iadd, 1) := by decide +kernel
theorem nd_M_comes_6 : decode nc_M_comes 6 = .ok (.iconst 1, 1) := by decide +kernel
theorem nd_M_comes_7 : decode nc_M_comes 7 = .ok (.iadd, 1) := by decide +kernel
theorem nd_M_comes_8 : decode nc_M_comes 8 = .ok (.bipush 24, 2) := by decide +kernel
theorem nd_M_comes_10 : decode nc_M_comes 10 = .ok (.if_icmp .le 58, 3) := by decide +kernel
theorem nd_M_comes_13 : decode nc_M_comes 13 = .ok (.iconst 1, 1) := by decide +kernel
theorem nd_M_comes_14 : decode nc_M_comes 14 = .ok (.istore_n 3, 1) := by decide +kernel
theorem nd_M_comes_15 : decode nc_M_comes 15 = .ok (.iconst 0, 1) := by decide +kernel
theorem nd_M_comes_16 : decode nc_M_comes 16 = .ok (.istore 4, 2) := by decide +kernel
theorem nd_M_comes_18 : decode nc_M_comes 18 = .ok (.iload 4, 2) := by decide +kernel
theorem nd_M_comes_20 : decode nc_M_comes 20 = .ok (.bipush 6, 2) := by decide +kernel
theorem nd_M_comes_22 : decode nc_M_comes 22 = .ok (.if_icmp .ge 21, 3) := by decide +kernel
theorem nd_M_comes_25 : decode nc_M_comes 25 = .ok (.iload_n 3, 1) := by decide +kernel
theorem nd_M_comes_26 : decode nc_M_comes 26 = .ok (.aload_n 0, 1) := by decide +kernel
theorem nd_M_comes_27 : decode nc_M_comes 27 = .ok (.getfield 109, 3) := by decide +kernel
theorem nd_M_comes_30 : decode nc_M_comes 30 = .ok (.iload 4, 2) := by decide +kernel
theorem nd_M_comes_32 : decode nc_M_comes 32 = .ok (.ishr, 1) := by decide +kernel
theorem nd_M_comes_33 : decode nc_M_comes 33 = .ok (.iconst 1, 1) := by decide +kernel
theorem nd_M_comes_34 : decode nc_M_comes 34 = .ok (.iand, 1) := by decide +kernel
theorem nd_M_comes_35 : decode nc_M_comes 35 = .ok (.iadd, 1) := by decide +kernel
theorem nd_M_comes_36 : decode nc_M_comes 36 = .ok (.istore_n 3, 1) := by decide +kernel
theorem nd_M_comes_37 : decode nc_M_comes 37 = .ok (.iinc 4 1, 3) := by decide +kernel
theorem nd_M_comes_40 : decode nc_M_comes 40 = .ok (.goto (-22), 3) := by decide +kernel
theorem nd_M_comes_43 : decode nc_M_comes 43 = .ok (.aload_n 0, 1) := by decide +kernel
theorem nd_M_comes_44 : decode nc_M_comes 44 = .ok (.iload_n 3, 1) := by decide +kernel
theorem nd_M_comes_45 : decode nc_M_comes 45 = .ok (.invokevirtual 112, 3) := by decide +kernel
theorem nd_M_comes_48 : decode nc_M_comes 48 = .ok (.ifCond .ne 5, 3) := by decide +kernel
theorem nd_M_comes_51 : decode nc_M_comes 51 = .ok (.iconst 0, 1) := by decide +kernel
theorem nd_M_comes_52 : decode nc_M_comes 52 = .ok (.ireturn, 1) := by decide +kernel
theorem nd_M_comes_53 : decode nc_M_comes 53 = .ok (.aload_n 0, 1) := by decide +kernel
theorem nd_M_comes_54 : decode nc_M_comes 54 = .ok (.iconst 0, 1) := by decide +kernel
theorem nd_M_comes_55 : decode nc_M_comes 55 = .ok (.putfield 106, 3) := by decide +kernel
theorem nd_M_comes_58 : decode nc_M_comes 58 = .ok (.aload_n 0, 1) := by decide +kernel
theorem nd_M_comes_59 : decode nc_M_comes 59 = .ok (.iconst 0, 1) := by decide +kernel
theorem nd_M_comes_60 : decode nc_M_comes 60 = .ok (.putfield 115, 3) := by decide +kernel
theorem nd_M_comes_63 : decode nc_M_comes 63 = .ok (.aload_n 0, 1) := by decide +kernel
theorem nd_M_comes_64 : decode nc_M_comes 64 = .ok (.iconst 0, 1) := by decide +kernel
theorem nd_M_comes_65 : decode nc_M_comes 65 = .ok (.putfield 109, 3) := by decide +kernel
theorem nd_M_comes_68 : decode nc_M_comes 68 = .ok (.aload_n 0, 1) := by decide +kernel
theorem nd_M_comes_69 : decode nc_M_comes 69 = .ok (.iload_n 1, 1) := by decide +kernel
theorem nd_M_comes_70 : decode nc_M_comes 70 = .ok (.iconst 1, 1) := by decide +kernel
theorem nd_M_comes_71 : decode nc_M_comes 71 = .ok (.iadd, 1) := by decide +kernel
theorem nd_M_comes_72 : decode nc_M_comes 72 = .ok (.invokevirtual 112, 3) := by decide +kernel
theorem nd_M_comes_75 : decode nc_M_comes 75 = .ok (.ifCond .ne 5, 3) := by decide +kernel
theorem nd_M_comes_78 : decode nc_M_comes 78 = .ok (.iconst 0, 1) := by decide +kernel
theorem nd_M_comes_79 : decode nc_M_comes 79 = .ok (.ireturn, 1) := by decide +kernel
theorem nd_M_comes_80 : decode nc_M_comes 80 = .ok (.aload_n 0, 1) := by decide +kernel
theorem nd_M_comes_81 : decode nc_M_comes 81 = .ok (.dup, 1) := by decide +kernel
theorem nd_M_comes_82 : decode nc_M_comes 82 = .ok (.getfield 106, 3) := by decide +kernel
theorem nd_M_comes_85 : decode nc_M_comes 85 = .ok (.iload_n 1, 1) := by decide +kernel
theorem nd_M_comes_86 : decode nc_M_comes 86 = .ok (.iconst 1, 1) := by decide +kernel
theorem nd_M_comes_87 : decode nc_M_comes 87 = .ok (.iadd, 1) := by decide +kernel
theorem nd_M_comes_88 : decode nc_M_comes 88 = .ok (.iadd, 1) := by decide +kernel
theorem nd_M_comes_89 : decode nc_M_comes 89 = .ok (.putfield 106, 3) := by decide +kernel
theorem nd_M_comes_92 : decode nc_M_comes 92 = .ok (.aload_n 0, 1) := by decide +kernel
theorem nd_M_comes_93 : decode nc_M_comes 93 = .ok (.dup, 1) := by decide +kernel
theorem nd_M_comes_94 : decode nc_M_comes 94 = .ok (.getfield 115, 3) := by decide +kernel
theorem nd_M_comes_97 : decode nc_M_comes 97 = .ok (.iconst 1, 1) := by decide +kernel
theorem nd_M_comes_98 : decode nc_M_comes 98 = .ok (.iadd, 1) := by decide +kernel
theorem nd_M_comes_99 : decode nc_M_comes 99 = .ok (.putfield 115, 3) := by decide +kernel
theorem nd_M_comes_102 : decode nc_M_comes 102 = .ok (.aload_n 0, 1) := by decide +kernel
theorem nd_M_comes_103 : decode nc_M_comes 103 = .ok (.dup, 1) := by decide +kernel
theorem nd_M_comes_104 : decode nc_M_comes 104 = .ok (.getfield 109, 3) := by decide +kernel
theorem nd_M_comes_107 : decode nc_M_comes 107 = .ok (.iload_n 2, 1) := by decide +kernel
theorem nd_M_comes_108 : decode nc_M_comes 108 = .ok (.ior, 1) := by decide +kernel
theorem nd_M_comes_109 : decode nc_M_comes 109 = .ok (.putfield 109, 3) := by decide +kernel
theorem nd_M_comes_112 : decode nc_M_comes 112 = .ok (.iconst 1, 1) := by decide +kernel
theorem nd_M_comes_113 : decode nc_M_comes 113 = .ok (.ireturn, 1) := by decide +kernel
theorem nd_M_afford_0 : decode nc_M_afford 0 = .ok (.aload_n 0, 1) := by decide +kernel
theorem nd_M_afford_1 : decode nc_M_afford 1 = .ok (.getfield 62, 3) := by decide +kernel
theorem nd_M_afford_4 : decode nc_M_afford 4 = .ok (.ifCond .lt 11, 3) := by decide +kernel
theorem nd_M_afford_7 : decode nc_M_afford 7 = .ok (.aload_n 0, 1) := by decide +kernel
theorem nd_M_afford_8 : decode nc_M_afford 8 = .ok (.getfield 62, 3) := by decide +kernel
theorem nd_M_afford_11 : decode nc_M_afford 11 = .ok (.iload_n 1, 1) := by decide +kernel
theorem nd_M_afford_12 : decode nc_M_afford 12 = .ok (.if_icmp .lt 10, 3) := by decide +kernel
theorem nd_M_afford_15 : decode nc_M_afford 15 = .ok (.aload_n 0, 1) := by decide +kernel
theorem nd_M_afford_16 : decode nc_M_afford 16 = .ok (.iload_n 1, 1) := by decide +kernel
theorem nd_M_afford_17 : decode nc_M_afford 17 = .ok (.invokevirtual 99, 3) := by decide +kernel
theorem nd_M_afford_20 : decode nc_M_afford 20 = .ok (.iconst 1, 1) := by decide +kernel
theorem nd_M_afford_21 : decode nc_M_afford 21 = .ok (.ireturn, 1) := by decide +kernel
theorem nd_M_afford_22 : decode nc_M_afford 22 = .ok (.aload_n 0, 1) := by decide +kernel
theorem nd_M_afford_23 : decode nc_M_afford 23 = .ok (.aload_n 0, 1) := by decide +kernel
theorem nd_M_afford_24 : decode nc_M_afford 24 = .ok (.getfield 62, 3) := by decide +kernel
theorem nd_M_afford_27 : decode nc_M_afford 27 = .ok (.invokevirtual 99, 3) := by decide +kernel
theorem nd_M_afford_30 : decode nc_M_afford 30 = .ok (.aload_n 0, 1) := by decide +kernel
theorem nd_M_afford_31 : decode nc_M_afford 31 = .ok (.iconst 1, 1) := by decide +kernel
theorem nd_M_afford_32 : decode nc_M_afford 32 = .ok (.putfield 102, 3) := by decide +kernel
theorem nd_M_afford_35 : decode nc_M_afford 35 = .ok (.iconst 0, 1) := by decide +kernel
theorem nd_M_afford_36 : decode nc_M_afford 36 = .ok (.ireturn, 1) := by decide +kernel
theorem nd_M_spend_0 : decode nc_M_spend 0 = .ok (.aload_n 0, 1) := by decide +kernel
theorem nd_M_spend_1 : decode nc_M_spend 1 = .ok (.dup, 1) := by decide +kernel
theorem nd_M_spend_2 : decode nc_M_spend 2 = .ok (.getfield 96, 3) := by decide +kernel
theorem nd_M_spend_5 : decode nc_M_spend 5 = .ok (.iload_n 1, 1) := by decide +kernel
theorem nd_M_spend_6 : decode nc_M_spend 6 = .ok (.iadd, 1) := by decide +kernel
theorem nd_M_spend_7 : decode nc_M_spend 7 = .ok (.putfield 96, 3) := by decide +kernel
theorem nd_M_spend_10 : decode nc_M_spend 10 = .ok (.aload_n 0, 1) := by decide +kernel
theorem nd_M_spend_11 : decode nc_M_spend 11 = .ok (.aload_n 0, 1) := by decide +kernel
theorem nd_M_spend_12 : decode nc_M_spend 12 = .ok (.getfield 62, 3) := by decide +kernel
theorem nd_M_spend_15 : decode nc_M_spend 15 = .ok (.ifCond .ge 10, 3) := by decide +kernel
theorem nd_M_spend_18 : decode nc_M_spend 18 = .ok (.aload_n 0, 1) := by decide +kernel
theorem nd_M_spend_19 : decode nc_M_spend 19 = .ok (.getfield 62, 3) := by decide +kernel
theorem nd_M_spend_22 : decode nc_M_spend 22 = .ok (.goto 9, 3) := by decide +kernel
theorem nd_M_spend_25 : decode nc_M_spend 25 = .ok (.aload_n 0, 1) := by decide +kernel
theorem nd_M_spend_26 : decode nc_M_spend 26 = .ok (.getfield 62, 3) := by decide +kernel
theorem nd_M_spend_29 : decode nc_M_spend 29 = .ok (.iload_n 1, 1) := by decide +kernel
theorem nd_M_spend_30 : decode nc_M_spend 30 = .ok (.isub, 1) := by decide +kernel
theorem nd_M_spend_31 : decode nc_M_spend 31 = .ok (.putfield 62, 3) := by decide +kernel
theorem nd_M_spend_34 : decode nc_M_spend 34 = .ok (.return_, 1) := by decide +kernel
theorem nd_M_pay_0 : decode nc_M_pay 0 = .ok (.aload_n 0, 1) := by decide +kernel
theorem nd_M_pay_1 : decode nc_M_pay 1 = .ok (.invokevirtual 125, 3) := by decide +kernel
theorem nd_M_pay_4 : decode nc_M_pay 4 = .ok (.ifCond .eq 8, 3) := by decide +kernel
theorem nd_M_pay_7 : decode nc_M_pay 7 = .ok (.aload_n 0, 1) := by decide +kernel
theorem nd_M_pay_8 : decode nc_M_pay 8 = .ok (.invokevirtual 125, 3) := by decide +kernel
theorem nd_M_pay_11 : decode nc_M_pay 11 = .ok (.ireturn, 1) := by decide +kernel
theorem nd_M_pay_12 : decode nc_M_pay 12 = .ok (.aload_n 0, 1) := by decide +kernel
theorem nd_M_pay_13 : decode nc_M_pay 13 = .ok (.iload_n 1, 1) := by decide +kernel
theorem nd_M_pay_14 : decode nc_M_pay 14 = .ok (.iload_n 2, 1) := by decide +kernel
theorem nd_M_pay_15 : decode nc_M_pay 15 = .ok (.invokevirtual 136, 3) := by decide +kernel
theorem nd_M_pay_18 : decode nc_M_pay 18 = .ok (.ifCond .eq 11, 3) := by decide +kernel
theorem nd_M_pay_21 : decode nc_M_pay 21 = .ok (.aload_n 0, 1) := by decide +kernel
theorem nd_M_pay_22 : decode nc_M_pay 22 = .ok (.iload_n 3, 1) := by decide +kernel
theorem nd_M_pay_23 : decode nc_M_pay 23 = .ok (.invokevirtual 139, 3) := by decide +kernel
theorem nd_M_pay_26 : decode nc_M_pay 26 = .ok (.ifCond .ne 6, 3) := by decide +kernel
theorem nd_M_pay_29 : decode nc_M_pay 29 = .ok (.bipush (-3), 2) := by decide +kernel
theorem nd_M_pay_31 : decode nc_M_pay 31 = .ok (.ireturn, 1) := by decide +kernel
theorem nd_M_pay_32 : decode nc_M_pay 32 = .ok (.iload_n 1, 1) := by decide +kernel
theorem nd_M_pay_33 : decode nc_M_pay 33 = .ok (.ifCond .lt 17, 3) := by decide +kernel
theorem nd_M_pay_36 : decode nc_M_pay 36 = .ok (.aload_n 0, 1) := by decide +kernel
theorem nd_M_pay_37 : decode nc_M_pay 37 = .ok (.iload_n 1, 1) := by decide +kernel
theorem nd_M_pay_38 : decode nc_M_pay 38 = .ok (.invokevirtual 142, 3) := by decide +kernel
theorem nd_M_pay_41 : decode nc_M_pay 41 = .ok (.iload_n 3, 1) := by decide +kernel
theorem nd_M_pay_42 : decode nc_M_pay 42 = .ok (.i2l, 1) := by decide +kernel
theorem nd_M_pay_43 : decode nc_M_pay 43 = .ok (.lcmp, 1) := by decide +kernel
theorem nd_M_pay_44 : decode nc_M_pay 44 = .ok (.ifCond .ge 6, 3) := by decide +kernel
theorem nd_M_pay_47 : decode nc_M_pay 47 = .ok (.bipush (-5), 2) := by decide +kernel
theorem nd_M_pay_49 : decode nc_M_pay 49 = .ok (.ireturn, 1) := by decide +kernel
theorem nd_M_pay_50 : decode nc_M_pay 50 = .ok (.aload_n 0, 1) := by decide +kernel
theorem nd_M_pay_51 : decode nc_M_pay 51 = .ok (.aload_n 0, 1) := by decide +kernel
theorem nd_M_pay_52 : decode nc_M_pay 52 = .ok (.iload_n 1, 1) := by decide +kernel
theorem nd_M_pay_53 : decode nc_M_pay 53 = .ok (.iload_n 2, 1) := by decide +kernel
theorem nd_M_pay_54 : decode nc_M_pay 54 = .ok (.invokevirtual 146, 3) := by decide +kernel
theorem nd_M_pay_57 : decode nc_M_pay 57 = .ok (.aload_n 0, 1) := by decide +kernel
theorem nd_M_pay_58 : decode nc_M_pay 58 = .ok (.iload_n 1, 1) := by decide +kernel
theorem nd_M_pay_59 : decode nc_M_pay 59 = .ok (.iload_n 2, 1) := by decide +kernel
theorem nd_M_pay_60 : decode nc_M_pay 60 = .ok (.invokevirtual 149, 3) := by decide +kernel
theorem nd_M_pay_63 : decode nc_M_pay 63 = .ok (.invokevirtual 129, 3) := by decide +kernel
theorem nd_M_pay_66 : decode nc_M_pay 66 = .ok (.ifCond .ne 5, 3) := by decide +kernel
theorem nd_M_pay_69 : decode nc_M_pay 69 = .ok (.iconst (-1), 1) := by decide +kernel
theorem nd_M_pay_70 : decode nc_M_pay 70 = .ok (.ireturn, 1) := by decide +kernel
theorem nd_M_pay_71 : decode nc_M_pay 71 = .ok (.aload_n 0, 1) := by decide +kernel
theorem nd_M_pay_72 : decode nc_M_pay 72 = .ok (.iload_n 1, 1) := by decide +kernel
theorem nd_M_pay_73 : decode nc_M_pay 73 = .ok (.iload_n 2, 1) := by decide +kernel
theorem nd_M_pay_74 : decode nc_M_pay 74 = .ok (.iload_n 3, 1) := by decide +kernel
theorem nd_M_pay_75 : decode nc_M_pay 75 = .ok (.invokevirtual 152, 3) := by decide +kernel
theorem nd_M_pay_78 : decode nc_M_pay 78 = .ok (.iconst 0, 1) := by decide +kernel
theorem nd_M_pay_79 : decode nc_M_pay 79 = .ok (.ireturn, 1) := by decide +kernel
theorem nd_M_pair_0 : decode nc_M_pair 0 = .ok (.iload_n 1, 1) := by decide +kernel
theorem nd_M_pair_1 : decode nc_M_pair 1 = .ok (.iconst (-1), 1) := by decide +kernel
theorem nd_M_pair_2 : decode nc_M_pair 2 = .ok (.if_icmp .eq 11, 3) := by decide +kernel
theorem nd_M_pair_5 : decode nc_M_pair 5 = .ok (.aload_n 0, 1) := by decide +kernel
theorem nd_M_pair_6 : decode nc_M_pair 6 = .ok (.iload_n 1, 1) := by decide +kernel
theorem nd_M_pair_7 : decode nc_M_pair 7 = .ok (.invokevirtual 133, 3) := by decide +kernel
theorem nd_M_pair_10 : decode nc_M_pair 10 = .ok (.ifCond .eq 25, 3) := by decide +kernel
theorem nd_M_pair_13 : decode nc_M_pair 13 = .ok (.iload_n 2, 1) := by decide +kernel
theorem nd_M_pair_14 : decode nc_M_pair 14 = .ok (.iconst (-1), 1) := by decide +kernel
theorem nd_M_pair_15 : decode nc_M_pair 15 = .ok (.if_icmp .eq 11, 3) := by decide +kernel
theorem nd_M_pair_18 : decode nc_M_pair 18 = .ok (.aload_n 0, 1) := by decide +kernel
theorem nd_M_pair_19 : decode nc_M_pair 19 = .ok (.iload_n 2, 1) := by decide +kernel
theorem nd_M_pair_20 : decode nc_M_pair 20 = .ok (.invokevirtual 133, 3) := by decide +kernel
theorem nd_M_pair_23 : decode nc_M_pair 23 = .ok (.ifCond .eq 12, 3) := by decide +kernel
theorem nd_M_pair_26 : decode nc_M_pair 26 = .ok (.iload_n 1, 1) := by decide +kernel
theorem nd_M_pair_27 : decode nc_M_pair 27 = .ok (.iload_n 2, 1) := by decide +kernel
theorem nd_M_pair_28 : decode nc_M_pair 28 = .ok (.if_icmp .eq 7, 3) := by decide +kernel
theorem nd_M_pair_31 : decode nc_M_pair 31 = .ok (.iconst 1, 1) := by decide +kernel
theorem nd_M_pair_32 : decode nc_M_pair 32 = .ok (.goto 4, 3) := by decide +kernel
theorem nd_M_pair_35 : decode nc_M_pair 35 = .ok (.iconst 0, 1) := by decide +kernel
theorem nd_M_pair_36 : decode nc_M_pair 36 = .ok (.istore_n 3, 1) := by decide +kernel
theorem nd_M_pair_37 : decode nc_M_pair 37 = .ok (.iload_n 3, 1) := by decide +kernel
theorem nd_M_pair_38 : decode nc_M_pair 38 = .ok (.ifCond .eq 32, 3) := by decide +kernel
theorem nd_M_pair_41 : decode nc_M_pair 41 = .ok (.iload_n 1, 1) := by decide +kernel
theorem nd_M_pair_42 : decode nc_M_pair 42 = .ok (.iconst (-1), 1) := by decide +kernel
theorem nd_M_pair_43 : decode nc_M_pair 43 = .ok (.if_icmp .eq 23, 3) := by decide +kernel
theorem nd_M_pair_46 : decode nc_M_pair 46 = .ok (.iload_n 2, 1) := by decide +kernel
theorem nd_M_pair_47 : decode nc_M_pair 47 = .ok (.iconst (-1), 1) := by decide +kernel
theorem nd_M_pair_48 : decode nc_M_pair 48 = .ok (.if_icmp .eq 18, 3) := by decide +kernel
theorem nd_M_pair_51 : decode nc_M_pair 51 = .ok (.aload_n 0, 1) := by decide +kernel
theorem nd_M_pair_52 : decode nc_M_pair 52 = .ok (.getfield 7, 3) := by decide +kernel
theorem nd_M_pair_55 : decode nc_M_pair 55 = .ok (.iload_n 1, 1) := by decide +kernel
theorem nd_M_pair_56 : decode nc_M_pair 56 = .ok (.iaload, 1) := by decide +kernel
theorem nd_M_pair_57 : decode nc_M_pair 57 = .ok (.aload_n 0, 1) := by decide +kernel
theorem nd_M_pair_58 : decode nc_M_pair 58 = .ok (.getfield 7, 3) := by decide +kernel
theorem nd_M_pair_61 : decode nc_M_pair 61 = .ok (.iload_n 2, 1) := by decide +kernel
theorem nd_M_pair_62 : decode nc_M_pair 62 = .ok (.iaload, 1) := by decide +kernel
theorem nd_M_pair_63 : decode nc_M_pair 63 = .ok (.if_icmp .ne 7, 3) := by decide +kernel
theorem nd_M_pair_66 : decode nc_M_pair 66 = .ok (.iconst 1, 1) := by decide +kernel
theorem nd_M_pair_67 : decode nc_M_pair 67 = .ok (.goto 4, 3) := by decide +kernel
theorem nd_M_pair_70 : decode nc_M_pair 70 = .ok (.iconst 0, 1) := by decide +kernel
theorem nd_M_pair_71 : decode nc_M_pair 71 = .ok (.ireturn, 1) := by decide +kernel
theorem nd_M_is_0 : decode nc_M_is 0 = .ok (.iload_n 1, 1) := by decide +kernel
theorem nd_M_is_1 : decode nc_M_is 1 = .ok (.ifCond .lt 15, 3) := by decide +kernel
theorem nd_M_is_4 : decode nc_M_is 4 = .ok (.iload_n 1, 1) := by decide +kernel
theorem nd_M_is_5 : decode nc_M_is 5 = .ok (.aload_n 0, 1) := by decide +kernel
theorem nd_M_is_6 : decode nc_M_is 6 = .ok (.getfield 121, 3) := by decide +kernel
theorem nd_M_is_9 : decode nc_M_is 9 = .ok (.if_icmp .ge 7, 3) := by decide +kernel
theorem nd_M_is_12 : decode nc_M_is 12 = .ok (.iconst 1, 1) := by decide +kernel
theorem nd_M_is_13 : decode nc_M_is 13 = .ok (.goto 4, 3) := by decide +kernel
theorem nd_M_is_16 : decode nc_M_is 16 = .ok (.iconst 0, 1) := by decide +kernel
theorem nd_M_is_17 : decode nc_M_is 17 = .ok (.ireturn, 1) := by decide +kernel
theorem nd_M_amountOk_0 : decode nc_M_amountOk 0 = .ok (.iload_n 1, 1) := by decide +kernel
theorem nd_M_amountOk_1 : decode nc_M_amountOk 1 = .ok (.iconst 1, 1) := by decide +kernel
theorem nd_M_amountOk_2 : decode nc_M_amountOk 2 = .ok (.if_icmp .lt 13, 3) := by decide +kernel
theorem nd_M_amountOk_5 : decode nc_M_amountOk 5 = .ok (.iload_n 1, 1) := by decide +kernel
theorem nd_M_amountOk_6 : decode nc_M_amountOk 6 = .ok (.ldc 124, 2) := by decide +kernel
theorem nd_M_amountOk_8 : decode nc_M_amountOk 8 = .ok (.if_icmp .gt 7, 3) := by decide +kernel
theorem nd_M_amountOk_11 : decode nc_M_amountOk 11 = .ok (.iconst 1, 1) := by decide +kernel
theorem nd_M_amountOk_12 : decode nc_M_amountOk 12 = .ok (.goto 4, 3) := by decide +kernel
theorem nd_M_amountOk_15 : decode nc_M_amountOk 15 = .ok (.iconst 0, 1) := by decide +kernel
theorem nd_M_amountOk_16 : decode nc_M_amountOk 16 = .ok (.ireturn, 1) := by decide +kernel
theorem nd_M_free_0 : decode nc_M_free 0 = .ok (.aload_n 0, 1) := by decide +kernel
theorem nd_M_free_1 : decode nc_M_free 1 = .ok (.getfield 25, 3) := by decide +kernel
theorem nd_M_free_4 : decode nc_M_free 4 = .ok (.iload_n 1, 1) := by decide +kernel
theorem nd_M_free_5 : decode nc_M_free 5 = .ok (.laload, 1) := by decide +kernel
theorem nd_M_free_6 : decode nc_M_free 6 = .ok (.aload_n 0, 1) := by decide +kernel
theorem nd_M_free_7 : decode nc_M_free 7 = .ok (.getfield 16, 3) := by decide +kernel
theorem nd_M_free_10 : decode nc_M_free 10 = .ok (.iload_n 1, 1) := by decide +kernel
theorem nd_M_free_11 : decode nc_M_free 11 = .ok (.iaload, 1) := by decide +kernel
theorem nd_M_free_12 : decode nc_M_free 12 = .ok (.i2l, 1) := by decide +kernel
theorem nd_M_free_13 : decode nc_M_free 13 = .ok (.ladd, 1) := by decide +kernel
theorem nd_M_free_14 : decode nc_M_free 14 = .ok (.lstore_n 2, 1) := by decide +kernel
theorem nd_M_free_15 : decode nc_M_free 15 = .ok (.iconst 0, 1) := by decide +kernel
theorem nd_M_free_16 : decode nc_M_free 16 = .ok (.istore 4, 2) := by decide +kernel
theorem nd_M_free_18 : decode nc_M_free 18 = .ok (.iload 4, 2) := by decide +kernel
theorem nd_M_free_20 : decode nc_M_free 20 = .ok (.bipush 8, 2) := by decide +kernel
theorem nd_M_free_22 : decode nc_M_free 22 = .ok (.if_icmp .ge 45, 3) := by decide +kernel
theorem nd_M_free_25 : decode nc_M_free 25 = .ok (.lload_n 2, 1) := by decide +kernel
theorem nd_M_free_26 : decode nc_M_free 26 = .ok (.aload_n 0, 1) := by decide +kernel
theorem nd_M_free_27 : decode nc_M_free 27 = .ok (.getfield 35, 3) := by decide +kernel
theorem nd_M_free_30 : decode nc_M_free 30 = .ok (.iload 4, 2) := by decide +kernel
theorem nd_M_free_32 : decode nc_M_free 32 = .ok (.iaload, 1) := by decide +kernel
theorem nd_M_free_33 : decode nc_M_free 33 = .ok (.ifCond .le 25, 3) := by decide +kernel
theorem nd_M_free_36 : decode nc_M_free 36 = .ok (.aload_n 0, 1) := by decide +kernel
theorem nd_M_free_37 : decode nc_M_free 37 = .ok (.getfield 32, 3) := by decide +kernel
theorem nd_M_free_40 : decode nc_M_free 40 = .ok (.iload 4, 2) := by decide +kernel
theorem nd_M_free_42 : decode nc_M_free 42 = .ok (.iaload, 1) := by decide +kernel
theorem nd_M_free_43 : decode nc_M_free 43 = .ok (.iload_n 1, 1) := by decide +kernel
theorem nd_M_free_44 : decode nc_M_free 44 = .ok (.if_icmp .ne 14, 3) := by decide +kernel
theorem nd_M_free_47 : decode nc_M_free 47 = .ok (.aload_n 0, 1) := by decide +kernel
theorem nd_M_free_48 : decode nc_M_free 48 = .ok (.getfield 35, 3) := by decide +kernel
theorem nd_M_free_51 : decode nc_M_free 51 = .ok (.iload 4, 2) := by decide +kernel
theorem nd_M_free_53 : decode nc_M_free 53 = .ok (.iaload, 1) := by decide +kernel
theorem nd_M_free_54 : decode nc_M_free 54 = .ok (.i2l, 1) := by decide +kernel
theorem nd_M_free_55 : decode nc_M_free 55 = .ok (.goto 4, 3) := by decide +kernel
theorem nd_M_free_58 : decode nc_M_free 58 = .ok (.lconst 0, 1) := by decide +kernel
theorem nd_M_free_59 : decode nc_M_free 59 = .ok (.lsub, 1) := by decide +kernel
theorem nd_M_free_60 : decode nc_M_free 60 = .ok (.lstore_n 2, 1) := by decide +kernel
theorem nd_M_free_61 : decode nc_M_free 61 = .ok (.iinc 4 1, 3) := by decide +kernel
theorem nd_M_free_64 : decode nc_M_free 64 = .ok (.goto (-46), 3) := by decide +kernel
theorem nd_M_free_67 : decode nc_M_free 67 = .ok (.lload_n 2, 1) := by decide +kernel
theorem nd_M_free_68 : decode nc_M_free 68 = .ok (.lreturn, 1) := by decide +kernel
theorem nd_M_linesOf_0 : decode nc_M_linesOf 0 = .ok (.iload_n 1, 1) := by decide +kernel
theorem nd_M_linesOf_1 : decode nc_M_linesOf 1 = .ok (.ifCond .lt 7, 3) := by decide +kernel
theorem nd_M_linesOf_4 : decode nc_M_linesOf 4 = .ok (.iconst 1, 1) := by decide +kernel
theorem nd_M_linesOf_5 : decode nc_M_linesOf 5 = .ok (.goto 4, 3) := by decide +kernel
theorem nd_M_linesOf_8 : decode nc_M_linesOf 8 = .ok (.iconst 0, 1) := by decide +kernel
theorem nd_M_linesOf_9 : decode nc_M_linesOf 9 = .ok (.iload_n 2, 1) := by decide +kernel
theorem nd_M_linesOf_10 : decode nc_M_linesOf 10 = .ok (.ifCond .lt 7, 3) := by decide +kernel
theorem nd_M_linesOf_13 : decode nc_M_linesOf 13 = .ok (.iconst 1, 1) := by decide +kernel
theorem nd_M_linesOf_14 : decode nc_M_linesOf 14 = .ok (.goto 4, 3) := by decide +kernel
theorem nd_M_linesOf_17 : decode nc_M_linesOf 17 = .ok (.iconst 0, 1) := by decide +kernel
theorem nd_M_linesOf_18 : decode nc_M_linesOf 18 = .ok (.iadd, 1) := by decide +kernel
theorem nd_M_linesOf_19 : decode nc_M_linesOf 19 = .ok (.ireturn, 1) := by decide +kernel
theorem nd_M_setOf_0 : decode nc_M_setOf 0 = .ok (.iload_n 1, 1) := by decide +kernel
theorem nd_M_setOf_1 : decode nc_M_setOf 1 = .ok (.ifCond .lt 9, 3) := by decide +kernel
theorem nd_M_setOf_4 : decode nc_M_setOf 4 = .ok (.iconst 1, 1) := by decide +kernel
theorem nd_M_setOf_5 : decode nc_M_setOf 5 = .ok (.iload_n 1, 1) := by decide +kernel
theorem nd_M_setOf_6 : decode nc_M_setOf 6 = .ok (.ishl, 1) := by decide +kernel
theorem nd_M_setOf_7 : decode nc_M_setOf 7 = .ok (.goto 4, 3) := by decide +kernel
theorem nd_M_setOf_10 : decode nc_M_setOf 10 = .ok (.iconst 0, 1) := by decide +kernel
theorem nd_M_setOf_11 : decode nc_M_setOf 11 = .ok (.iload_n 2, 1) := by decide +kernel
theorem nd_M_setOf_12 : decode nc_M_setOf 12 = .ok (.ifCond .lt 9, 3) := by decide +kernel
theorem nd_M_setOf_15 : decode nc_M_setOf 15 = .ok (.iconst 1, 1) := by decide +kernel
theorem nd_M_setOf_16 : decode nc_M_setOf 16 = .ok (.iload_n 2, 1) := by decide +kernel
theorem nd_M_setOf_17 : decode nc_M_setOf 17 = .ok (.ishl, 1) := by decide +kernel
theorem nd_M_setOf_18 : decode nc_M_setOf 18 = .ok (.goto 4, 3) := by decide +kernel
theorem nd_M_setOf_21 : decode nc_M_setOf 21 = .ok (.iconst 0, 1) := by decide +kernel
theorem nd_M_setOf_22 : decode nc_M_setOf 22 = .ok (.ior, 1) := by decide +kernel
theorem nd_M_setOf_23 : decode nc_M_setOf 23 = .ok (.ireturn, 1) := by decide +kernel
theorem nd_M_transfer_0 : decode nc_M_transfer 0 = .ok (.iload_n 1, 1) := by decide +kernel
theorem nd_M_transfer_1 : decode nc_M_transfer 1 = .ok (.ifCond .lt 17, 3) := by decide +kernel
theorem nd_M_transfer_4 : decode nc_M_transfer 4 = .ok (.aload_n 0, 1) := by decide +kernel
theorem nd_M_transfer_5 : decode nc_M_transfer 5 = .ok (.getfield 25, 3) := by decide +kernel
theorem nd_M_transfer_8 : decode nc_M_transfer 8 = .ok (.iload_n 1, 1) := by decide +kernel
theorem nd_M_transfer_9 : decode nc_M_transfer 9 = .ok (.dup2, 1) := by decide +kernel
theorem nd_M_transfer_10 : decode nc_M_transfer 10 = .ok (.laload, 1) := by decide +kernel
theorem nd_M_transfer_11 : decode nc_M_transfer 11 = .ok (.iload_n 3, 1) := by decide +kernel
theorem nd_M_transfer_12 : decode nc_M_transfer 12 = .ok (.i2l, 1) := by decide +kernel
theorem nd_M_transfer_13 : decode nc_M_transfer 13 = .ok (.lsub, 1) := by decide +kernel
theorem nd_M_transfer_14 : decode nc_M_transfer 14 = .ok (.lastore, 1) := by decide +kernel
theorem nd_M_transfer_15 : decode nc_M_transfer 15 = .ok (.goto 19, 3) := by decide +kernel
theorem nd_M_transfer_18 : decode nc_M_transfer 18 = .ok (.aload_n 0, 1) := by decide +kernel
theorem nd_M_transfer_19 : decode nc_M_transfer 19 = .ok (.getfield 56, 3) := by decide +kernel
theorem nd_M_transfer_22 : decode nc_M_transfer 22 = .ok (.aload_n 0, 1) := by decide +kernel
theorem nd_M_transfer_23 : decode nc_M_transfer 23 = .ok (.getfield 7, 3) := by decide +kernel
theorem nd_M_transfer_26 : decode nc_M_transfer 26 = .ok (.iload_n 2, 1) := by decide +kernel
theorem nd_M_transfer_27 : decode nc_M_transfer 27 = .ok (.iaload, 1) := by decide +kernel
theorem nd_M_transfer_28 : decode nc_M_transfer 28 = .ok (.dup2, 1) := by decide +kernel
theorem nd_M_transfer_29 : decode nc_M_transfer 29 = .ok (.laload, 1) := by decide +kernel
theorem nd_M_transfer_30 : decode nc_M_transfer 30 = .ok (.iload_n 3, 1) := by decide +kernel
theorem nd_M_transfer_31 : decode nc_M_transfer 31 = .ok (.i2l, 1) := by decide +kernel
theorem nd_M_transfer_32 : decode nc_M_transfer 32 = .ok (.ladd, 1) := by decide +kernel
theorem nd_M_transfer_33 : decode nc_M_transfer 33 = .ok (.lastore, 1) := by decide +kernel
theorem nd_M_transfer_34 : decode nc_M_transfer 34 = .ok (.iload_n 2, 1) := by decide +kernel
theorem nd_M_transfer_35 : decode nc_M_transfer 35 = .ok (.ifCond .lt 17, 3) := by decide +kernel
theorem nd_M_transfer_38 : decode nc_M_transfer 38 = .ok (.aload_n 0, 1) := by decide +kernel
theorem nd_M_transfer_39 : decode nc_M_transfer 39 = .ok (.getfield 25, 3) := by decide +kernel
theorem nd_M_transfer_42 : decode nc_M_transfer 42 = .ok (.iload_n 2, 1) := by decide +kernel
theorem nd_M_transfer_43 : decode nc_M_transfer 43 = .ok (.dup2, 1) := by decide +kernel
theorem nd_M_transfer_44 : decode nc_M_transfer 44 = .ok (.laload, 1) := by decide +kernel
theorem nd_M_transfer_45 : decode nc_M_transfer 45 = .ok (.iload_n 3, 1) := by decide +kernel
theorem nd_M_transfer_46 : decode nc_M_transfer 46 = .ok (.i2l, 1) := by decide +kernel
theorem nd_M_transfer_47 : decode nc_M_transfer 47 = .ok (.ladd, 1) := by decide +kernel
theorem nd_M_transfer_48 : decode nc_M_transfer 48 = .ok (.lastore, 1) := by decide +kernel
theorem nd_M_transfer_49 : decode nc_M_transfer 49 = .ok (.goto 19, 3) := by decide +kernel
theorem nd_M_transfer_52 : decode nc_M_transfer 52 = .ok (.aload_n 0, 1) := by decide +kernel
theorem nd_M_transfer_53 : decode nc_M_transfer 53 = .ok (.getfield 56, 3) := by decide +kernel
theorem nd_M_transfer_56 : decode nc_M_transfer 56 = .ok (.aload_n 0, 1) := by decide +kernel
theorem nd_M_transfer_57 : decode nc_M_transfer 57 = .ok (.getfield 7, 3) := by decide +kernel
theorem nd_M_transfer_60 : decode nc_M_transfer 60 = .ok (.iload_n 1, 1) := by decide +kernel
theorem nd_M_transfer_61 : decode nc_M_transfer 61 = .ok (.iaload, 1) := by decide +kernel
theorem nd_M_transfer_62 : decode nc_M_transfer 62 = .ok (.dup2, 1) := by decide +kernel
theorem nd_M_transfer_63 : decode nc_M_transfer 63 = .ok (.laload, 1) := by decide +kernel
theorem nd_M_transfer_64 : decode nc_M_transfer 64 = .ok (.iload_n 3, 1) := by decide +kernel
theorem nd_M_transfer_65 : decode nc_M_transfer 65 = .ok (.i2l, 1) := by decide +kernel
theorem nd_M_transfer_66 : decode nc_M_transfer 66 = .ok (.lsub, 1) := by decide +kernel
theorem nd_M_transfer_67 : decode nc_M_transfer 67 = .ok (.lastore, 1) := by decide +kernel
theorem nd_M_transfer_68 : decode nc_M_transfer 68 = .ok (.return_, 1) := by decide +kernel
theorem nd_M_hold_0 : decode nc_M_hold 0 = .ok (.aload_n 0, 1) := by decide +kernel
theorem nd_M_hold_1 : decode nc_M_hold 1 = .ok (.invokevirtual 125, 3) := by decide +kernel
theorem nd_M_hold_4 : decode nc_M_hold 4 = .ok (.ifCond .eq 8, 3) := by decide +kernel
theorem nd_M_hold_7 : decode nc_M_hold 7 = .ok (.aload_n 0, 1) := by decide +kernel
theorem nd_M_hold_8 : decode nc_M_hold 8 = .ok (.invokevirtual 125, 3) := by decide +kernel
theorem nd_M_hold_11 : decode nc_M_hold 11 = .ok (.ireturn, 1) := by decide +kernel
theorem nd_M_hold_12 : decode nc_M_hold 12 = .ok (.aload_n 0, 1) := by decide +kernel
theorem nd_M_hold_13 : decode nc_M_hold 13 = .ok (.iload_n 1, 1) := by decide +kernel
theorem nd_M_hold_14 : decode nc_M_hold 14 = .ok (.invokevirtual 133, 3) := by decide +kernel
theorem nd_M_hold_17 : decode nc_M_hold 17 = .ok (.ifCond .eq 11, 3) := by decide +kernel
theorem nd_M_hold_20 : decode nc_M_hold 20 = .ok (.aload_n 0, 1) := by decide +kernel
theorem nd_M_hold_21 : decode nc_M_hold 21 = .ok (.iload_n 2, 1) := by decide +kernel
theorem nd_M_hold_22 : decode nc_M_hold 22 = .ok (.invokevirtual 139, 3) := by decide +kernel
theorem nd_M_hold_25 : decode nc_M_hold 25 = .ok (.ifCond .ne 6, 3) := by decide +kernel
theorem nd_M_hold_28 : decode nc_M_hold 28 = .ok (.bipush (-3), 2) := by decide +kernel
theorem nd_M_hold_30 : decode nc_M_hold 30 = .ok (.ireturn, 1) := by decide +kernel
theorem nd_M_hold_31 : decode nc_M_hold 31 = .ok (.iconst 0, 1) := by decide +kernel
theorem nd_M_hold_32 : decode nc_M_hold 32 = .ok (.istore_n 3, 1) := by decide +kernel
theorem nd_M_hold_33 : decode nc_M_hold 33 = .ok (.iload_n 3, 1) := by decide +kernel
theorem nd_M_hold_34 : decode nc_M_hold 34 = .ok (.bipush 8, 2) := by decide +kernel
theorem nd_M_hold_36 : decode nc_M_hold 36 = .ok (.if_icmp .ge 18, 3) := by decide +kernel
theorem nd_M_hold_39 : decode nc_M_hold 39 = .ok (.aload_n 0, 1) := by decide +kernel
theorem nd_M_hold_40 : decode nc_M_hold 40 = .ok (.getfield 35, 3) := by decide +kernel
theorem nd_M_hold_43 : decode nc_M_hold 43 = .ok (.iload_n 3, 1) := by decide +kernel
theorem nd_M_hold_44 : decode nc_M_hold 44 = .ok (.iaload, 1) := by decide +kernel
theorem nd_M_hold_45 : decode nc_M_hold 45 = .ok (.ifCond .le 9, 3) := by decide +kernel
theorem nd_M_hold_48 : decode nc_M_hold 48 = .ok (.iinc 3 1, 3) := by decide +kernel
theorem nd_M_hold_51 : decode nc_M_hold 51 = .ok (.goto (-18), 3) := by decide +kernel
theorem nd_M_hold_54 : decode nc_M_hold 54 = .ok (.iload_n 3, 1) := by decide +kernel
theorem nd_M_hold_55 : decode nc_M_hold 55 = .ok (.bipush 8, 2) := by decide +kernel
theorem nd_M_hold_57 : decode nc_M_hold 57 = .ok (.if_icmp .ne 6, 3) := by decide +kernel
theorem nd_M_hold_60 : decode nc_M_hold 60 = .ok (.bipush (-4), 2) := by decide +kernel
theorem nd_M_hold_62 : decode nc_M_hold 62 = .ok (.ireturn, 1) := by decide +kernel
theorem nd_M_hold_63 : decode nc_M_hold 63 = .ok (.aload_n 0, 1) := by decide +kernel
theorem nd_M_hold_64 : decode nc_M_hold 64 = .ok (.iload_n 1, 1) := by decide +kernel
theorem nd_M_hold_65 : decode nc_M_hold 65 = .ok (.invokevirtual 142, 3) := by decide +kernel
theorem nd_M_hold_68 : decode nc_M_hold 68 = .ok (.iload_n 2, 1) := by decide +kernel
theorem nd_M_hold_69 : decode nc_M_hold 69 = .ok (.i2l, 1) := by decide +kernel
theorem nd_M_hold_70 : decode nc_M_hold 70 = .ok (.lcmp, 1) := by decide +kernel
theorem nd_M_hold_71 : decode nc_M_hold 71 = .ok (.ifCond .ge 6, 3) := by decide +kernel
theorem nd_M_hold_74 : decode nc_M_hold 74 = .ok (.bipush (-5), 2) := by decide +kernel
theorem nd_M_hold_76 : decode nc_M_hold 76 = .ok (.ireturn, 1) := by decide +kernel
theorem nd_M_hold_77 : decode nc_M_hold 77 = .ok (.aload_n 0, 1) := by decide +kernel
theorem nd_M_hold_78 : decode nc_M_hold 78 = .ok (.iconst 1, 1) := by decide +kernel
theorem nd_M_hold_79 : decode nc_M_hold 79 = .ok (.iconst 1, 1) := by decide +kernel
theorem nd_M_hold_80 : decode nc_M_hold 80 = .ok (.iload_n 1, 1) := by decide +kernel
theorem nd_M_hold_81 : decode nc_M_hold 81 = .ok (.ishl, 1) := by decide +kernel
theorem nd_M_hold_82 : decode nc_M_hold 82 = .ok (.invokevirtual 129, 3) := by decide +kernel
theorem nd_M_hold_85 : decode nc_M_hold 85 = .ok (.ifCond .ne 5, 3) := by decide +kernel
theorem nd_M_hold_88 : decode nc_M_hold 88 = .ok (.iconst (-1), 1) := by decide +kernel
theorem nd_M_hold_89 : decode nc_M_hold 89 = .ok (.ireturn, 1) := by decide +kernel
theorem nd_M_hold_90 : decode nc_M_hold 90 = .ok (.aload_n 0, 1) := by decide +kernel
theorem nd_M_hold_91 : decode nc_M_hold 91 = .ok (.getfield 32, 3) := by decide +kernel
theorem nd_M_hold_94 : decode nc_M_hold 94 = .ok (.iload_n 3, 1) := by decide +kernel
theorem nd_M_hold_95 : decode nc_M_hold 95 = .ok (.iload_n 1, 1) := by decide +kernel
theorem nd_M_hold_96 : decode nc_M_hold 96 = .ok (.iastore, 1) := by decide +kernel
theorem nd_M_hold_97 : decode nc_M_hold 97 = .ok (.aload_n 0, 1) := by decide +kernel
theorem nd_M_hold_98 : decode nc_M_hold 98 = .ok (.getfield 35, 3) := by decide +kernel
theorem nd_M_hold_101 : decode nc_M_hold 101 = .ok (.iload_n 3, 1) := by decide +kernel
theorem nd_M_hold_102 : decode nc_M_hold 102 = .ok (.iload_n 2, 1) := by decide +kernel
theorem nd_M_hold_103 : decode nc_M_hold 103 = .ok (.iastore, 1) := by decide +kernel
theorem nd_M_hold_104 : decode nc_M_hold 104 = .ok (.iload_n 3, 1) := by decide +kernel
theorem nd_M_hold_105 : decode nc_M_hold 105 = .ok (.ireturn, 1) := by decide +kernel
theorem nd_M_release_0 : decode nc_M_release 0 = .ok (.aload_n 0, 1) := by decide +kernel
theorem nd_M_release_1 : decode nc_M_release 1 = .ok (.invokevirtual 125, 3) := by decide +kernel
theorem nd_M_release_4 : decode nc_M_release 4 = .ok (.ifCond .eq 8, 3) := by decide +kernel
theorem nd_M_release_7 : decode nc_M_release 7 = .ok (.aload_n 0, 1) := by decide +kernel
theorem nd_M_release_8 : decode nc_M_release 8 = .ok (.invokevirtual 125, 3) := by decide +kernel
theorem nd_M_release_11 : decode nc_M_release 11 = .ok (.ireturn, 1) := by decide +kernel
theorem nd_M_release_12 : decode nc_M_release 12 = .ok (.aload_n 0, 1) := by decide +kernel
theorem nd_M_release_13 : decode nc_M_release 13 = .ok (.iload_n 1, 1) := by decide +kernel
theorem nd_M_release_14 : decode nc_M_release 14 = .ok (.invokevirtual 156, 3) := by decide +kernel
theorem nd_M_release_17 : decode nc_M_release 17 = .ok (.ifCond .ne 6, 3) := by decide +kernel
theorem nd_M_release_20 : decode nc_M_release 20 = .ok (.bipush (-3), 2) := by decide +kernel
theorem nd_M_release_22 : decode nc_M_release 22 = .ok (.ireturn, 1) := by decide +kernel
theorem nd_M_release_23 : decode nc_M_release 23 = .ok (.aload_n 0, 1) := by decide +kernel
theorem nd_M_release_24 : decode nc_M_release 24 = .ok (.iconst 1, 1) := by decide +kernel
theorem nd_M_release_25 : decode nc_M_release 25 = .ok (.iconst 1, 1) := by decide +kernel
theorem nd_M_release_26 : decode nc_M_release 26 = .ok (.aload_n 0, 1) := by decide +kernel
theorem nd_M_release_27 : decode nc_M_release 27 = .ok (.getfield 32, 3) := by decide +kernel
theorem nd_M_release_30 : decode nc_M_release 30 = .ok (.iload_n 1, 1) := by decide +kernel
theorem nd_M_release_31 : decode nc_M_release 31 = .ok (.iaload, 1) := by decide +kernel
theorem nd_M_release_32 : decode nc_M_release 32 = .ok (.ishl, 1) := by decide +kernel
theorem nd_M_release_33 : decode nc_M_release 33 = .ok (.invokevirtual 129, 3) := by decide +kernel
theorem nd_M_release_36 : decode nc_M_release 36 = .ok (.ifCond .ne 5, 3) := by decide +kernel
theorem nd_M_release_39 : decode nc_M_release 39 = .ok (.iconst (-1), 1) := by decide +kernel
theorem nd_M_release_40 : decode nc_M_release 40 = .ok (.ireturn, 1) := by decide +kernel
theorem nd_M_release_41 : decode nc_M_release 41 = .ok (.aload_n 0, 1) := by decide +kernel
theorem nd_M_release_42 : decode nc_M_release 42 = .ok (.getfield 35, 3) := by decide +kernel
theorem nd_M_release_45 : decode nc_M_release 45 = .ok (.iload_n 1, 1) := by decide +kernel
theorem nd_M_release_46 : decode nc_M_release 46 = .ok (.iconst 0, 1) := by decide +kernel
theorem nd_M_release_47 : decode nc_M_release 47 = .ok (.iastore, 1) := by decide +kernel
theorem nd_M_release_48 : decode nc_M_release 48 = .ok (.iconst 0, 1) := by decide +kernel
theorem nd_M_release_49 : decode nc_M_release 49 = .ok (.ireturn, 1) := by decide +kernel
theorem nd_M_stands_0 : decode nc_M_stands 0 = .ok (.iload_n 1, 1) := by decide +kernel
theorem nd_M_stands_1 : decode nc_M_stands 1 = .ok (.ifCond .lt 22, 3) := by decide +kernel
theorem nd_M_stands_4 : decode nc_M_stands 4 = .ok (.iload_n 1, 1) := by decide +kernel
theorem nd_M_stands_5 : decode nc_M_stands 5 = .ok (.bipush 8, 2) := by decide +kernel
theorem nd_M_stands_7 : decode nc_M_stands 7 = .ok (.if_icmp .ge 16, 3) := by decide +kernel
theorem nd_M_stands_10 : decode nc_M_stands 10 = .ok (.aload_n 0, 1) := by decide +kernel
theorem nd_M_stands_11 : decode nc_M_stands 11 = .ok (.getfield 35, 3) := by decide +kernel
theorem nd_M_stands_14 : decode nc_M_stands 14 = .ok (.iload_n 1, 1) := by decide +kernel
theorem nd_M_stands_15 : decode nc_M_stands 15 = .ok (.iaload, 1) := by decide +kernel
theorem nd_M_stands_16 : decode nc_M_stands 16 = .ok (.ifCond .le 7, 3) := by decide +kernel
theorem nd_M_stands_19 : decode nc_M_stands 19 = .ok (.iconst 1, 1) := by decide +kernel
theorem nd_M_stands_20 : decode nc_M_stands 20 = .ok (.goto 4, 3) := by decide +kernel
theorem nd_M_stands_23 : decode nc_M_stands 23 = .ok (.iconst 0, 1) := by decide +kernel
theorem nd_M_stands_24 : decode nc_M_stands 24 = .ok (.ireturn, 1) := by decide +kernel
theorem nd_M_settle_0 : decode nc_M_settle 0 = .ok (.aload_n 0, 1) := by decide +kernel
theorem nd_M_settle_1 : decode nc_M_settle 1 = .ok (.invokevirtual 125, 3) := by decide +kernel
theorem nd_M_settle_4 : decode nc_M_settle 4 = .ok (.ifCond .eq 8, 3) := by decide +kernel
theorem nd_M_settle_7 : decode nc_M_settle 7 = .ok (.aload_n 0, 1) := by decide +kernel
theorem nd_M_settle_8 : decode nc_M_settle 8 = .ok (.invokevirtual 125, 3) := by decide +kernel
theorem nd_M_settle_11 : decode nc_M_settle 11 = .ok (.ireturn, 1) := by decide +kernel
theorem nd_M_settle_12 : decode nc_M_settle 12 = .ok (.aload_n 0, 1) := by decide +kernel
theorem nd_M_settle_13 : decode nc_M_settle 13 = .ok (.iload_n 1, 1) := by decide +kernel
theorem nd_M_settle_14 : decode nc_M_settle 14 = .ok (.invokevirtual 156, 3) := by decide +kernel
theorem nd_M_settle_17 : decode nc_M_settle 17 = .ok (.ifCond .eq 32, 3) := by decide +kernel
theorem nd_M_settle_20 : decode nc_M_settle 20 = .ok (.aload_n 0, 1) := by decide +kernel
theorem nd_M_settle_21 : decode nc_M_settle 21 = .ok (.aload_n 0, 1) := by decide +kernel
theorem nd_M_settle_22 : decode nc_M_settle 22 = .ok (.getfield 32, 3) := by decide +kernel
theorem nd_M_settle_25 : decode nc_M_settle 25 = .ok (.iload_n 1, 1) := by decide +kernel
theorem nd_M_settle_26 : decode nc_M_settle 26 = .ok (.iaload, 1) := by decide +kernel
theorem nd_M_settle_27 : decode nc_M_settle 27 = .ok (.iload_n 2, 1) := by decide +kernel
theorem nd_M_settle_28 : decode nc_M_settle 28 = .ok (.invokevirtual 136, 3) := by decide +kernel
theorem nd_M_settle_31 : decode nc_M_settle 31 = .ok (.ifCond .eq 18, 3) := by decide +kernel
theorem nd_M_settle_34 : decode nc_M_settle 34 = .ok (.iload_n 3, 1) := by decide +kernel
theorem nd_M_settle_35 : decode nc_M_settle 35 = .ok (.iconst 1, 1) := by decide +kernel
theorem nd_M_settle_36 : decode nc_M_settle 36 = .ok (.if_icmp .lt 13, 3) := by decide +kernel
theorem nd_M_settle_39 : decode nc_M_settle 39 = .ok (.iload_n 3, 1) := by decide +kernel
theorem nd_M_settle_40 : decode nc_M_settle 40 = .ok (.aload_n 0, 1) := by decide +kernel
theorem nd_M_settle_41 : decode nc_M_settle 41 = .ok (.getfield 35, 3) := by decide +kernel
theorem nd_M_settle_44 : decode nc_M_settle 44 = .ok (.iload_n 1, 1) := by decide +kernel
theorem nd_M_settle_45 : decode nc_M_settle 45 = .ok (.iaload, 1) := by decide +kernel
theorem nd_M_settle_46 : decode nc_M_settle 46 = .ok (.if_icmp .le 6, 3) := by decide +kernel
theorem nd_M_settle_49 : decode nc_M_settle 49 = .ok (.bipush (-3), 2) := by decide +kernel
theorem nd_M_settle_51 : decode nc_M_settle 51 = .ok (.ireturn, 1) := by decide +kernel
theorem nd_M_settle_52 : decode nc_M_settle 52 = .ok (.aload_n 0, 1) := by decide +kernel
theorem nd_M_settle_53 : decode nc_M_settle 53 = .ok (.getfield 32, 3) := by decide +kernel
theorem nd_M_settle_56 : decode nc_M_settle 56 = .ok (.iload_n 1, 1) := by decide +kernel
theorem nd_M_settle_57 : decode nc_M_settle 57 = .ok (.iaload, 1) := by decide +kernel
theorem nd_M_settle_58 : decode nc_M_settle 58 = .ok (.istore 4, 2) := by decide +kernel
theorem nd_M_settle_60 : decode nc_M_settle 60 = .ok (.aload_n 0, 1) := by decide +kernel
theorem nd_M_settle_61 : decode nc_M_settle 61 = .ok (.aload_n 0, 1) := by decide +kernel
theorem nd_M_settle_62 : decode nc_M_settle 62 = .ok (.iload 4, 2) := by decide +kernel
theorem nd_M_settle_64 : decode nc_M_settle 64 = .ok (.iload_n 2, 1) := by decide +kernel
theorem nd_M_settle_65 : decode nc_M_settle 65 = .ok (.invokevirtual 146, 3) := by decide +kernel
theorem nd_M_settle_68 : decode nc_M_settle 68 = .ok (.aload_n 0, 1) := by decide +kernel
theorem nd_M_settle_69 : decode nc_M_settle 69 = .ok (.iload 4, 2) := by decide +kernel
theorem nd_M_settle_71 : decode nc_M_settle 71 = .ok (.iload_n 2, 1) := by decide +kernel
theorem nd_M_settle_72 : decode nc_M_settle 72 = .ok (.invokevirtual 149, 3) := by decide +kernel
theorem nd_M_settle_75 : decode nc_M_settle 75 = .ok (.invokevirtual 129, 3) := by decide +kernel
theorem nd_M_settle_78 : decode nc_M_settle 78 = .ok (.ifCond .ne 5, 3) := by decide +kernel
theorem nd_M_settle_81 : decode nc_M_settle 81 = .ok (.iconst (-1), 1) := by decide +kernel
theorem nd_M_settle_82 : decode nc_M_settle 82 = .ok (.ireturn, 1) := by decide +kernel
theorem nd_M_settle_83 : decode nc_M_settle 83 = .ok (.aload_n 0, 1) := by decide +kernel
theorem nd_M_settle_84 : decode nc_M_settle 84 = .ok (.getfield 35, 3) := by decide +kernel
theorem nd_M_settle_87 : decode nc_M_settle 87 = .ok (.iload_n 1, 1) := by decide +kernel
theorem nd_M_settle_88 : decode nc_M_settle 88 = .ok (.iconst 0, 1) := by decide +kernel
theorem nd_M_settle_89 : decode nc_M_settle 89 = .ok (.iastore, 1) := by decide +kernel
theorem nd_M_settle_90 : decode nc_M_settle 90 = .ok (.aload_n 0, 1) := by decide +kernel
theorem nd_M_settle_91 : decode nc_M_settle 91 = .ok (.iload 4, 2) := by decide +kernel
theorem nd_M_settle_93 : decode nc_M_settle 93 = .ok (.iload_n 2, 1) := by decide +kernel
theorem nd_M_settle_94 : decode nc_M_settle 94 = .ok (.iload_n 3, 1) := by decide +kernel
theorem nd_M_settle_95 : decode nc_M_settle 95 = .ok (.invokevirtual 152, 3) := by decide +kernel
theorem nd_M_settle_98 : decode nc_M_settle 98 = .ok (.iconst 0, 1) := by decide +kernel
theorem nd_M_settle_99 : decode nc_M_settle 99 = .ok (.ireturn, 1) := by decide +kernel
theorem nd_M_order_0 : decode nc_M_order 0 = .ok (.aload_n 0, 1) := by decide +kernel
theorem nd_M_order_1 : decode nc_M_order 1 = .ok (.invokevirtual 125, 3) := by decide +kernel
theorem nd_M_order_4 : decode nc_M_order 4 = .ok (.ifCond .eq 8, 3) := by decide +kernel
theorem nd_M_order_7 : decode nc_M_order 7 = .ok (.aload_n 0, 1) := by decide +kernel
theorem nd_M_order_8 : decode nc_M_order 8 = .ok (.invokevirtual 125, 3) := by decide +kernel
theorem nd_M_order_11 : decode nc_M_order 11 = .ok (.ireturn, 1) := by decide +kernel
theorem nd_M_order_12 : decode nc_M_order 12 = .ok (.aload_n 0, 1) := by decide +kernel
theorem nd_M_order_13 : decode nc_M_order 13 = .ok (.iload_n 1, 1) := by decide +kernel
theorem nd_M_order_14 : decode nc_M_order 14 = .ok (.invokevirtual 133, 3) := by decide +kernel
theorem nd_M_order_17 : decode nc_M_order 17 = .ok (.ifCond .eq 41, 3) := by decide +kernel
theorem nd_M_order_20 : decode nc_M_order 20 = .ok (.aload_n 0, 1) := by decide +kernel
theorem nd_M_order_21 : decode nc_M_order 21 = .ok (.iload_n 2, 1) := by decide +kernel
theorem nd_M_order_22 : decode nc_M_order 22 = .ok (.invokevirtual 133, 3) := by decide +kernel
theorem nd_M_order_25 : decode nc_M_order 25 = .ok (.ifCond .eq 33, 3) := by decide +kernel
theorem nd_M_order_28 : decode nc_M_order 28 = .ok (.aload_n 0, 1) := by decide +kernel
theorem nd_M_order_29 : decode nc_M_order 29 = .ok (.iload_n 1, 1) := by decide +kernel
theorem nd_M_order_30 : decode nc_M_order 30 = .ok (.iload_n 2, 1) := by decide +kernel
theorem nd_M_order_31 : decode nc_M_order 31 = .ok (.invokevirtual 136, 3) := by decide +kernel
theorem nd_M_order_34 : decode nc_M_order 34 = .ok (.ifCond .eq 24, 3) := by decide +kernel
theorem nd_M_order_37 : decode nc_M_order 37 = .ok (.aload_n 0, 1) := by decide +kernel
theorem nd_M_order_38 : decode nc_M_order 38 = .ok (.iload_n 3, 1) := by decide +kernel
theorem nd_M_order_39 : decode nc_M_order 39 = .ok (.invokevirtual 139, 3) := by decide +kernel
theorem nd_M_order_42 : decode nc_M_order 42 = .ok (.ifCond .eq 16, 3) := by decide +kernel
theorem nd_M_order_45 : decode nc_M_order 45 = .ok (.iload 4, 2) := by decide +kernel
theorem nd_M_order_47 : decode nc_M_order 47 = .ok (.iconst 1, 1) := by decide +kernel
theorem nd_M_order_48 : decode nc_M_order 48 = .ok (.if_icmp .lt 10, 3) := by decide +kernel
theorem nd_M_order_51 : decode nc_M_order 51 = .ok (.iload 4, 2) := by decide +kernel
theorem nd_M_order_53 : decode nc_M_order 53 = .ok (.bipush 31, 2) := by decide +kernel
theorem nd_M_order_55 : decode nc_M_order 55 = .ok (.if_icmp .le 6, 3) := by decide +kernel
theorem nd_M_order_58 : decode nc_M_order 58 = .ok (.bipush (-3), 2) := by decide +kernel
theorem nd_M_order_60 : decode nc_M_order 60 = .ok (.ireturn, 1) := by decide +kernel
theorem nd_M_order_61 : decode nc_M_order 61 = .ok (.aload_n 0, 1) := by decide +kernel
theorem nd_M_order_62 : decode nc_M_order 62 = .ok (.getfield 159, 3) := by decide +kernel
theorem nd_M_order_65 : decode nc_M_order 65 = .ok (.bipush 6, 2) := by decide +kernel
theorem nd_M_order_67 : decode nc_M_order 67 = .ok (.if_icmp .ne 6, 3) := by decide +kernel
theorem nd_M_order_70 : decode nc_M_order 70 = .ok (.bipush (-4), 2) := by decide +kernel
theorem nd_M_order_72 : decode nc_M_order 72 = .ok (.ireturn, 1) := by decide +kernel
theorem nd_M_order_73 : decode nc_M_order 73 = .ok (.aload_n 0, 1) := by decide +kernel
theorem nd_M_order_74 : decode nc_M_order 74 = .ok (.iconst 1, 1) := by decide +kernel
theorem nd_M_order_75 : decode nc_M_order 75 = .ok (.iconst 1, 1) := by decide +kernel
theorem nd_M_order_76 : decode nc_M_order 76 = .ok (.iload_n 1, 1) := by decide +kernel
theorem nd_M_order_77 : decode nc_M_order 77 = .ok (.ishl, 1) := by decide +kernel
theorem nd_M_order_78 : decode nc_M_order 78 = .ok (.invokevirtual 129, 3) := by decide +kernel
theorem nd_M_order_81 : decode nc_M_order 81 = .ok (.ifCond .ne 5, 3) := by decide +kernel
theorem nd_M_order_84 : decode nc_M_order 84 = .ok (.iconst (-1), 1) := by decide +kernel
theorem nd_M_order_85 : decode nc_M_order 85 = .ok (.ireturn, 1) := by decide +kernel
theorem nd_M_order_86 : decode nc_M_order 86 = .ok (.aload_n 0, 1) := by decide +kernel
theorem nd_M_order_87 : decode nc_M_order 87 = .ok (.getfield 38, 3) := by decide +kernel
theorem nd_M_order_90 : decode nc_M_order 90 = .ok (.aload_n 0, 1) := by decide +kernel
theorem nd_M_order_91 : decode nc_M_order 91 = .ok (.getfield 159, 3) := by decide +kernel
theorem nd_M_order_94 : decode nc_M_order 94 = .ok (.iload_n 1, 1) := by decide +kernel
theorem nd_M_order_95 : decode nc_M_order 95 = .ok (.iastore, 1) := by decide +kernel
theorem nd_M_order_96 : decode nc_M_order 96 = .ok (.aload_n 0, 1) := by decide +kernel
theorem nd_M_order_97 : decode nc_M_order 97 = .ok (.getfield 41, 3) := by decide +kernel
theorem nd_M_order_100 : decode nc_M_order 100 = .ok (.aload_n 0, 1) := by decide +kernel
theorem nd_M_order_101 : decode nc_M_order 101 = .ok (.getfield 159, 3) := by decide +kernel
theorem nd_M_order_104 : decode nc_M_order 104 = .ok (.iload_n 2, 1) := by decide +kernel
theorem nd_M_order_105 : decode nc_M_order 105 = .ok (.iastore, 1) := by decide +kernel
theorem nd_M_order_106 : decode nc_M_order 106 = .ok (.aload_n 0, 1) := by decide +kernel
theorem nd_M_order_107 : decode nc_M_order 107 = .ok (.getfield 44, 3) := by decide +kernel
theorem nd_M_order_110 : decode nc_M_order 110 = .ok (.aload_n 0, 1) := by decide +kernel
theorem nd_M_order_111 : decode nc_M_order 111 = .ok (.getfield 159, 3) := by decide +kernel
theorem nd_M_order_114 : decode nc_M_order 114 = .ok (.iload_n 3, 1) := by decide +kernel
theorem nd_M_order_115 : decode nc_M_order 115 = .ok (.iastore, 1) := by decide +kernel
theorem nd_M_order_116 : decode nc_M_order 116 = .ok (.aload_n 0, 1) := by decide +kernel
theorem nd_M_order_117 : decode nc_M_order 117 = .ok (.getfield 47, 3) := by decide +kernel
theorem nd_M_order_120 : decode nc_M_order 120 = .ok (.aload_n 0, 1) := by decide +kernel
theorem nd_M_order_121 : decode nc_M_order 121 = .ok (.getfield 159, 3) := by decide +kernel
theorem nd_M_order_124 : decode nc_M_order 124 = .ok (.iload 4, 2) := by decide +kernel
theorem nd_M_order_126 : decode nc_M_order 126 = .ok (.iastore, 1) := by decide +kernel
theorem nd_M_order_127 : decode nc_M_order 127 = .ok (.aload_n 0, 1) := by decide +kernel
theorem nd_M_order_128 : decode nc_M_order 128 = .ok (.dup, 1) := by decide +kernel
theorem nd_M_order_129 : decode nc_M_order 129 = .ok (.getfield 159, 3) := by decide +kernel
theorem nd_M_order_132 : decode nc_M_order 132 = .ok (.iconst 1, 1) := by decide +kernel
theorem nd_M_order_133 : decode nc_M_order 133 = .ok (.iadd, 1) := by decide +kernel
theorem nd_M_order_134 : decode nc_M_order 134 = .ok (.putfield 159, 3) := by decide +kernel
theorem nd_M_order_137 : decode nc_M_order 137 = .ok (.aload_n 0, 1) := by decide +kernel
theorem nd_M_order_138 : decode nc_M_order 138 = .ok (.getfield 159, 3) := by decide +kernel
theorem nd_M_order_141 : decode nc_M_order 141 = .ok (.iconst 1, 1) := by decide +kernel
theorem nd_M_order_142 : decode nc_M_order 142 = .ok (.isub, 1) := by decide +kernel
theorem nd_M_order_143 : decode nc_M_order 143 = .ok (.ireturn, 1) := by decide +kernel
theorem nd_M_rest_0 : decode nc_M_rest 0 = .ok (.aload_n 0, 1) := by decide +kernel
theorem nd_M_rest_1 : decode nc_M_rest 1 = .ok (.invokevirtual 125, 3) := by decide +kernel
theorem nd_M_rest_4 : decode nc_M_rest 4 = .ok (.ifCond .eq 8, 3) := by decide +kernel
theorem nd_M_rest_7 : decode nc_M_rest 7 = .ok (.aload_n 0, 1) := by decide +kernel
theorem nd_M_rest_8 : decode nc_M_rest 8 = .ok (.invokevirtual 125, 3) := by decide +kernel
theorem nd_M_rest_11 : decode nc_M_rest 11 = .ok (.ireturn, 1) := by decide +kernel
theorem nd_M_rest_12 : decode nc_M_rest 12 = .ok (.iload_n 1, 1) := by decide +kernel
theorem nd_M_rest_13 : decode nc_M_rest 13 = .ok (.ifCond .lt 26, 3) := by decide +kernel
theorem nd_M_rest_16 : decode nc_M_rest 16 = .ok (.iload_n 1, 1) := by decide +kernel
theorem nd_M_rest_17 : decode nc_M_rest 17 = .ok (.sipush 20000, 3) := by decide +kernel
theorem nd_M_rest_20 : decode nc_M_rest 20 = .ok (.if_icmp .gt 19, 3) := by decide +kernel
theorem nd_M_rest_23 : decode nc_M_rest 23 = .ok (.aload_n 0, 1) := by decide +kernel
theorem nd_M_rest_24 : decode nc_M_rest 24 = .ok (.iload_n 1, 1) := by decide +kernel
theorem nd_M_rest_25 : decode nc_M_rest 25 = .ok (.invokevirtual 93, 3) := by decide +kernel
theorem nd_M_rest_28 : decode nc_M_rest 28 = .ok (.ifCond .ne 11, 3) := by decide +kernel
theorem nd_M_rest_31 : decode nc_M_rest 31 = .ok (.aload_n 0, 1) := by decide +kernel
theorem nd_M_rest_32 : decode nc_M_rest 32 = .ok (.iload_n 1, 1) := by decide +kernel
theorem nd_M_rest_33 : decode nc_M_rest 33 = .ok (.invokevirtual 162, 3) := by decide +kernel
theorem nd_M_rest_36 : decode nc_M_rest 36 = .ok (.ifCond .ne 6, 3) := by decide +kernel
theorem nd_M_rest_39 : decode nc_M_rest 39 = .ok (.bipush (-3), 2) := by decide +kernel
theorem nd_M_rest_41 : decode nc_M_rest 41 = .ok (.ireturn, 1) := by decide +kernel
theorem nd_M_rest_42 : decode nc_M_rest 42 = .ok (.aload_n 0, 1) := by decide +kernel
theorem nd_M_rest_43 : decode nc_M_rest 43 = .ok (.getfield 87, 3) := by decide +kernel
theorem nd_M_rest_46 : decode nc_M_rest 46 = .ok (.bipush 8, 2) := by decide +kernel
theorem nd_M_rest_48 : decode nc_M_rest 48 = .ok (.if_icmp .ne 6, 3) := by decide +kernel
theorem nd_M_rest_51 : decode nc_M_rest 51 = .ok (.bipush (-4), 2) := by decide +kernel
theorem nd_M_rest_53 : decode nc_M_rest 53 = .ok (.ireturn, 1) := by decide +kernel
theorem nd_M_rest_54 : decode nc_M_rest 54 = .ok (.aload_n 0, 1) := by decide +kernel
theorem nd_M_rest_55 : decode nc_M_rest 55 = .ok (.iconst 0, 1) := by decide +kernel
theorem nd_M_rest_56 : decode nc_M_rest 56 = .ok (.iconst 0, 1) := by decide +kernel
theorem nd_M_rest_57 : decode nc_M_rest 57 = .ok (.invokevirtual 129, 3) := by decide +kernel
theorem nd_M_rest_60 : decode nc_M_rest 60 = .ok (.ifCond .ne 5, 3) := by decide +kernel
theorem nd_M_rest_63 : decode nc_M_rest 63 = .ok (.iconst (-1), 1) := by decide +kernel
theorem nd_M_rest_64 : decode nc_M_rest 64 = .ok (.ireturn, 1) := by decide +kernel
theorem nd_M_rest_65 : decode nc_M_rest 65 = .ok (.aload_n 0, 1) := by decide +kernel
theorem nd_M_rest_66 : decode nc_M_rest 66 = .ok (.getfield 53, 3) := by decide +kernel
theorem nd_M_rest_69 : decode nc_M_rest 69 = .ok (.aload_n 0, 1) := by decide +kernel
theorem nd_M_rest_70 : decode nc_M_rest 70 = .ok (.getfield 87, 3) := by decide +kernel
theorem nd_M_rest_73 : decode nc_M_rest 73 = .ok (.iload_n 1, 1) := by decide +kernel
theorem nd_M_rest_74 : decode nc_M_rest 74 = .ok (.iastore, 1) := by decide +kernel
theorem nd_M_rest_75 : decode nc_M_rest 75 = .ok (.aload_n 0, 1) := by decide +kernel
theorem nd_M_rest_76 : decode nc_M_rest 76 = .ok (.dup, 1) := by decide +kernel
theorem nd_M_rest_77 : decode nc_M_rest 77 = .ok (.getfield 87, 3) := by decide +kernel
theorem nd_M_rest_80 : decode nc_M_rest 80 = .ok (.iconst 1, 1) := by decide +kernel
theorem nd_M_rest_81 : decode nc_M_rest 81 = .ok (.iadd, 1) := by decide +kernel
theorem nd_M_rest_82 : decode nc_M_rest 82 = .ok (.putfield 87, 3) := by decide +kernel
theorem nd_M_rest_85 : decode nc_M_rest 85 = .ok (.iconst 0, 1) := by decide +kernel
theorem nd_M_rest_86 : decode nc_M_rest 86 = .ok (.ireturn, 1) := by decide +kernel
theorem nd_M_resting_0 : decode nc_M_resting 0 = .ok (.iload_n 1, 1) := by decide +kernel
theorem nd_M_resting_1 : decode nc_M_resting 1 = .ok (.bipush 7, 2) := by decide +kernel
theorem nd_M_resting_3 : decode nc_M_resting 3 = .ok (.irem, 1) := by decide +kernel
theorem nd_M_resting_4 : decode nc_M_resting 4 = .ok (.ifCond .eq 11, 3) := by decide +kernel
theorem nd_M_resting_7 : decode nc_M_resting 7 = .ok (.iload_n 1, 1) := by decide +kernel
theorem nd_M_resting_8 : decode nc_M_resting 8 = .ok (.bipush 7, 2) := by decide +kernel
theorem nd_M_resting_10 : decode nc_M_resting 10 = .ok (.irem, 1) := by decide +kernel
theorem nd_M_resting_11 : decode nc_M_resting 11 = .ok (.iconst 1, 1) := by decide +kernel
theorem nd_M_resting_12 : decode nc_M_resting 12 = .ok (.if_icmp .ne 7, 3) := by decide +kernel
theorem nd_M_resting_15 : decode nc_M_resting 15 = .ok (.iconst 1, 1) := by decide +kernel
theorem nd_M_resting_16 : decode nc_M_resting 16 = .ok (.goto 4, 3) := by decide +kernel
theorem nd_M_resting_19 : decode nc_M_resting 19 = .ok (.iconst 0, 1) := by decide +kernel
theorem nd_M_resting_20 : decode nc_M_resting 20 = .ok (.istore_n 2, 1) := by decide +kernel
theorem nd_M_resting_21 : decode nc_M_resting 21 = .ok (.iconst 0, 1) := by decide +kernel
theorem nd_M_resting_22 : decode nc_M_resting 22 = .ok (.istore_n 3, 1) := by decide +kernel
theorem nd_M_resting_23 : decode nc_M_resting 23 = .ok (.iload_n 3, 1) := by decide +kernel
theorem nd_M_resting_24 : decode nc_M_resting 24 = .ok (.aload_n 0, 1) := by decide +kernel
theorem nd_M_resting_25 : decode nc_M_resting 25 = .ok (.getfield 87, 3) := by decide +kernel
theorem nd_M_resting_28 : decode nc_M_resting 28 = .ok (.if_icmp .ge 29, 3) := by decide +kernel
theorem nd_M_resting_31 : decode nc_M_resting 31 = .ok (.iload_n 2, 1) := by decide +kernel
theorem nd_M_resting_32 : decode nc_M_resting 32 = .ok (.ifCond .ne 13, 3) := by decide +kernel
theorem nd_M_resting_35 : decode nc_M_resting 35 = .ok (.aload_n 0, 1) := by decide +kernel
theorem nd_M_resting_36 : decode nc_M_resting 36 = .ok (.getfield 53, 3) := by decide +kernel
theorem nd_M_resting_39 : decode nc_M_resting 39 = .ok (.iload_n 3, 1) := by decide +kernel
theorem nd_M_resting_40 : decode nc_M_resting 40 = .ok (.iaload, 1) := by decide +kernel
theorem nd_M_resting_41 : decode nc_M_resting 41 = .ok (.iload_n 1, 1) := by decide +kernel
theorem nd_M_resting_42 : decode nc_M_resting 42 = .ok (.if_icmp .ne 7, 3) := by decide +kernel
theorem nd_M_resting_45 : decode nc_M_resting 45 = .ok (.iconst 1, 1) := by decide +kernel
theorem nd_M_resting_46 : decode nc_M_resting 46 = .ok (.goto 4, 3) := by decide +kernel
theorem nd_M_resting_49 : decode nc_M_resting 49 = .ok (.iconst 0, 1) := by decide +kernel
theorem nd_M_resting_50 : decode nc_M_resting 50 = .ok (.istore_n 2, 1) := by decide +kernel
theorem nd_M_resting_51 : decode nc_M_resting 51 = .ok (.iinc 3 1, 3) := by decide +kernel
theorem nd_M_resting_54 : decode nc_M_resting 54 = .ok (.goto (-31), 3) := by decide +kernel
theorem nd_M_resting_57 : decode nc_M_resting 57 = .ok (.iload_n 2, 1) := by decide +kernel
theorem nd_M_resting_58 : decode nc_M_resting 58 = .ok (.ireturn, 1) := by decide +kernel
theorem nd_M_later_0 : decode nc_M_later 0 = .ok (.aload_n 0, 1) := by decide +kernel
theorem nd_M_later_1 : decode nc_M_later 1 = .ok (.aload_n 0, 1) := by decide +kernel
theorem nd_M_later_2 : decode nc_M_later 2 = .ok (.getfield 90, 3) := by decide +kernel
theorem nd_M_later_5 : decode nc_M_later 5 = .ok (.invokevirtual 83, 3) := by decide +kernel
theorem nd_M_later_8 : decode nc_M_later 8 = .ok (.bipush 12, 2) := by decide +kernel
theorem nd_M_later_10 : decode nc_M_later 10 = .ok (.aload_n 0, 1) := by decide +kernel
theorem nd_M_later_11 : decode nc_M_later 11 = .ok (.getfield 70, 3) := by decide +kernel
theorem nd_M_later_14 : decode nc_M_later 14 = .ok (.imul, 1) := by decide +kernel
theorem nd_M_later_15 : decode nc_M_later 15 = .ok (.aload_n 0, 1) := by decide +kernel
theorem nd_M_later_16 : decode nc_M_later 16 = .ok (.getfield 73, 3) := by decide +kernel
theorem nd_M_later_19 : decode nc_M_later 19 = .ok (.iadd, 1) := by decide +kernel
theorem nd_M_later_20 : decode nc_M_later 20 = .ok (.istore_n 2, 1) := by decide +kernel
theorem nd_M_later_21 : decode nc_M_later 21 = .ok (.aload_n 0, 1) := by decide +kernel
theorem nd_M_later_22 : decode nc_M_later 22 = .ok (.iload_n 1, 1) := by decide +kernel
theorem nd_M_later_23 : decode nc_M_later 23 = .ok (.invokevirtual 83, 3) := by decide +kernel
theorem nd_M_later_26 : decode nc_M_later 26 = .ok (.bipush 12, 2) := by decide +kernel
theorem nd_M_later_28 : decode nc_M_later 28 = .ok (.aload_n 0, 1) := by decide +kernel
theorem nd_M_later_29 : decode nc_M_later 29 = .ok (.getfield 70, 3) := by decide +kernel
theorem nd_M_later_32 : decode nc_M_later 32 = .ok (.imul, 1) := by decide +kernel
theorem nd_M_later_33 : decode nc_M_later 33 = .ok (.aload_n 0, 1) := by decide +kernel
theorem nd_M_later_34 : decode nc_M_later 34 = .ok (.getfield 73, 3) := by decide +kernel
theorem nd_M_later_37 : decode nc_M_later 37 = .ok (.iadd, 1) := by decide +kernel
theorem nd_M_later_38 : decode nc_M_later 38 = .ok (.iload_n 2, 1) := by decide +kernel
theorem nd_M_later_39 : decode nc_M_later 39 = .ok (.if_icmp .le 7, 3) := by decide +kernel
theorem nd_M_later_42 : decode nc_M_later 42 = .ok (.iconst 1, 1) := by decide +kernel
theorem nd_M_later_43 : decode nc_M_later 43 = .ok (.goto 4, 3) := by decide +kernel
theorem nd_M_later_46 : decode nc_M_later 46 = .ok (.iconst 0, 1) := by decide +kernel
theorem nd_M_later_47 : decode nc_M_later 47 = .ok (.ireturn, 1) := by decide +kernel
