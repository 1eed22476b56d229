theorem dX12_init_0 : decode cX12_init 0 = .ok (.aload_n 0, 1) := by decide +kernel
theorem dX12_init_1 : decode cX12_init 1 = .ok (.invokespecial 1, 3) := by decide +kernel
theorem dX12_init_4 : decode cX12_init 4 = .ok (.aload_n 0, 1) := by decide +kernel
theorem dX12_init_5 : decode cX12_init 5 = .ok (.sipush 3250, 3) := by decide +kernel
theorem dX12_init_8 : decode cX12_init 8 = .ok (.newarray .int, 2) := by decide +kernel
theorem dX12_init_10 : decode cX12_init 10 = .ok (.putfield 7, 3) := by decide +kernel
theorem dX12_init_13 : decode cX12_init 13 = .ok (.aload_n 0, 1) := by decide +kernel
theorem dX12_init_14 : decode cX12_init 14 = .ok (.sipush 3250, 3) := by decide +kernel
theorem dX12_init_17 : decode cX12_init 17 = .ok (.newarray .int, 2) := by decide +kernel
theorem dX12_init_19 : decode cX12_init 19 = .ok (.putfield 13, 3) := by decide +kernel
theorem dX12_init_22 : decode cX12_init 22 = .ok (.aload_n 0, 1) := by decide +kernel
theorem dX12_init_23 : decode cX12_init 23 = .ok (.bipush 9, 2) := by decide +kernel
theorem dX12_init_25 : decode cX12_init 25 = .ok (.newarray .int, 2) := by decide +kernel
theorem dX12_init_27 : decode cX12_init 27 = .ok (.putfield 16, 3) := by decide +kernel
theorem dX12_init_30 : decode cX12_init 30 = .ok (.aload_n 0, 1) := by decide +kernel
theorem dX12_init_31 : decode cX12_init 31 = .ok (.bipush 8, 2) := by decide +kernel
theorem dX12_init_33 : decode cX12_init 33 = .ok (.newarray .int, 2) := by decide +kernel
theorem dX12_init_35 : decode cX12_init 35 = .ok (.putfield 19, 3) := by decide +kernel
theorem dX12_init_38 : decode cX12_init 38 = .ok (.aload_n 0, 1) := by decide +kernel
theorem dX12_init_39 : decode cX12_init 39 = .ok (.bipush 80, 2) := by decide +kernel
theorem dX12_init_41 : decode cX12_init 41 = .ok (.newarray .int, 2) := by decide +kernel
theorem dX12_init_43 : decode cX12_init 43 = .ok (.putfield 22, 3) := by decide +kernel
theorem dX12_init_46 : decode cX12_init 46 = .ok (.aload_n 0, 1) := by decide +kernel
theorem dX12_init_47 : decode cX12_init 47 = .ok (.bipush 80, 2) := by decide +kernel
theorem dX12_init_49 : decode cX12_init 49 = .ok (.newarray .int, 2) := by decide +kernel
theorem dX12_init_51 : decode cX12_init 51 = .ok (.putfield 25, 3) := by decide +kernel
theorem dX12_init_54 : decode cX12_init 54 = .ok (.aload_n 0, 1) := by decide +kernel
theorem dX12_init_55 : decode cX12_init 55 = .ok (.bipush 80, 2) := by decide +kernel
theorem dX12_init_57 : decode cX12_init 57 = .ok (.newarray .int, 2) := by decide +kernel
theorem dX12_init_59 : decode cX12_init 59 = .ok (.putfield 28, 3) := by decide +kernel
theorem dX12_init_62 : decode cX12_init 62 = .ok (.aload_n 0, 1) := by decide +kernel
theorem dX12_init_63 : decode cX12_init 63 = .ok (.bipush 30, 2) := by decide +kernel
theorem dX12_init_65 : decode cX12_init 65 = .ok (.newarray .boolean, 2) := by decide +kernel
theorem dX12_init_67 : decode cX12_init 67 = .ok (.putfield 31, 3) := by decide +kernel
theorem dX12_init_70 : decode cX12_init 70 = .ok (.aload_n 0, 1) := by decide +kernel
theorem dX12_init_71 : decode cX12_init 71 = .ok (.sipush 5002, 3) := by decide +kernel
theorem dX12_init_74 : decode cX12_init 74 = .ok (.newarray .int, 2) := by decide +kernel
theorem dX12_init_76 : decode cX12_init 76 = .ok (.putfield 35, 3) := by decide +kernel
theorem dX12_init_79 : decode cX12_init 79 = .ok (.aload_n 0, 1) := by decide +kernel
theorem dX12_init_80 : decode cX12_init 80 = .ok (.bipush 61, 2) := by decide +kernel
theorem dX12_init_82 : decode cX12_init 82 = .ok (.newarray .int, 2) := by decide +kernel
theorem dX12_init_84 : decode cX12_init 84 = .ok (.putfield 38, 3) := by decide +kernel
theorem dX12_init_87 : decode cX12_init 87 = .ok (.aload_n 0, 1) := by decide +kernel
theorem dX12_init_88 : decode cX12_init 88 = .ok (.bipush 61, 2) := by decide +kernel
theorem dX12_init_90 : decode cX12_init 90 = .ok (.newarray .int, 2) := by decide +kernel
theorem dX12_init_92 : decode cX12_init 92 = .ok (.putfield 41, 3) := by decide +kernel
theorem dX12_init_95 : decode cX12_init 95 = .ok (.aload_n 0, 1) := by decide +kernel
theorem dX12_init_96 : decode cX12_init 96 = .ok (.bipush 27, 2) := by decide +kernel
theorem dX12_init_98 : decode cX12_init 98 = .ok (.newarray .int, 2) := by decide +kernel
theorem dX12_init_100 : decode cX12_init 100 = .ok (.putfield 44, 3) := by decide +kernel
theorem dX12_init_103 : decode cX12_init 103 = .ok (.aload_n 0, 1) := by decide +kernel
theorem dX12_init_104 : decode cX12_init 104 = .ok (.bipush 10, 2) := by decide +kernel
theorem dX12_init_106 : decode cX12_init 106 = .ok (.newarray .int, 2) := by decide +kernel
theorem dX12_init_108 : decode cX12_init 108 = .ok (.putfield 47, 3) := by decide +kernel
theorem dX12_init_111 : decode cX12_init 111 = .ok (.aload_n 0, 1) := by decide +kernel
theorem dX12_init_112 : decode cX12_init 112 = .ok (.bipush 10, 2) := by decide +kernel
theorem dX12_init_114 : decode cX12_init 114 = .ok (.newarray .int, 2) := by decide +kernel
theorem dX12_init_116 : decode cX12_init 116 = .ok (.putfield 50, 3) := by decide +kernel
theorem dX12_init_119 : decode cX12_init 119 = .ok (.aload_n 0, 1) := by decide +kernel
theorem dX12_init_120 : decode cX12_init 120 = .ok (.bipush 10, 2) := by decide +kernel
theorem dX12_init_122 : decode cX12_init 122 = .ok (.newarray .int, 2) := by decide +kernel
theorem dX12_init_124 : decode cX12_init 124 = .ok (.putfield 53, 3) := by decide +kernel
theorem dX12_init_127 : decode cX12_init 127 = .ok (.aload_n 0, 1) := by decide +kernel
theorem dX12_init_128 : decode cX12_init 128 = .ok (.bipush 10, 2) := by decide +kernel
theorem dX12_init_130 : decode cX12_init 130 = .ok (.newarray .int, 2) := by decide +kernel
theorem dX12_init_132 : decode cX12_init 132 = .ok (.putfield 56, 3) := by decide +kernel
theorem dX12_init_135 : decode cX12_init 135 = .ok (.aload_n 0, 1) := by decide +kernel
theorem dX12_init_136 : decode cX12_init 136 = .ok (.sipush 1024, 3) := by decide +kernel
theorem dX12_init_139 : decode cX12_init 139 = .ok (.newarray .int, 2) := by decide +kernel
theorem dX12_init_141 : decode cX12_init 141 = .ok (.putfield 59, 3) := by decide +kernel
theorem dX12_init_144 : decode cX12_init 144 = .ok (.iconst 0, 1) := by decide +kernel
theorem dX12_init_145 : decode cX12_init 145 = .ok (.istore_n 1, 1) := by decide +kernel
theorem dX12_init_146 : decode cX12_init 146 = .ok (.iload_n 1, 1) := by decide +kernel
theorem dX12_init_147 : decode cX12_init 147 = .ok (.bipush 27, 2) := by decide +kernel
theorem dX12_init_149 : decode cX12_init 149 = .ok (.if_icmp .ge 29, 3) := by decide +kernel
theorem dX12_init_152 : decode cX12_init 152 = .ok (.aload_n 0, 1) := by decide +kernel
theorem dX12_init_153 : decode cX12_init 153 = .ok (.getfield 7, 3) := by decide +kernel
theorem dX12_init_156 : decode cX12_init 156 = .ok (.bipush 20, 2) := by decide +kernel
theorem dX12_init_158 : decode cX12_init 158 = .ok (.iload_n 1, 1) := by decide +kernel
theorem dX12_init_159 : decode cX12_init 159 = .ok (.iadd, 1) := by decide +kernel
theorem dX12_init_160 : decode cX12_init 160 = .ok (.iload_n 1, 1) := by decide +kernel
theorem dX12_init_161 : decode cX12_init 161 = .ok (.bipush 26, 2) := by decide +kernel
theorem dX12_init_163 : decode cX12_init 163 = .ok (.if_icmp .ne 7, 3) := by decide +kernel
theorem dX12_init_166 : decode cX12_init 166 = .ok (.iconst 1, 1) := by decide +kernel
theorem dX12_init_167 : decode cX12_init 167 = .ok (.goto 4, 3) := by decide +kernel
theorem dX12_init_170 : decode cX12_init 170 = .ok (.iconst 2, 1) := by decide +kernel
theorem dX12_init_171 : decode cX12_init 171 = .ok (.iastore, 1) := by decide +kernel
theorem dX12_init_172 : decode cX12_init 172 = .ok (.iinc 1 1, 3) := by decide +kernel
theorem dX12_init_175 : decode cX12_init 175 = .ok (.goto (-29), 3) := by decide +kernel
theorem dX12_init_178 : decode cX12_init 178 = .ok (.return_, 1) := by decide +kernel
theorem dX12_in_0 : decode cX12_in 0 = .ok (.iload_n 0, 1) := by decide +kernel
theorem dX12_in_1 : decode cX12_in 1 = .ok (.iload_n 1, 1) := by decide +kernel
theorem dX12_in_2 : decode cX12_in 2 = .ok (.if_icmp .lt 12, 3) := by decide +kernel
theorem dX12_in_5 : decode cX12_in 5 = .ok (.iload_n 0, 1) := by decide +kernel
theorem dX12_in_6 : decode cX12_in 6 = .ok (.iload_n 2, 1) := by decide +kernel
theorem dX12_in_7 : decode cX12_in 7 = .ok (.if_icmp .gt 7, 3) := by decide +kernel
theorem dX12_in_10 : decode cX12_in 10 = .ok (.iconst 1, 1) := by decide +kernel
theorem dX12_in_11 : decode cX12_in 11 = .ok (.goto 4, 3) := by decide +kernel
theorem dX12_in_14 : decode cX12_in 14 = .ok (.iconst 0, 1) := by decide +kernel
theorem dX12_in_15 : decode cX12_in 15 = .ok (.ireturn, 1) := by decide +kernel
theorem dX12_isSort_0 : decode cX12_isSort 0 = .ok (.iload_n 0, 1) := by decide +kernel
theorem dX12_isSort_1 : decode cX12_isSort 1 = .ok (.iconst 0, 1) := by decide +kernel
theorem dX12_isSort_2 : decode cX12_isSort 2 = .ok (.bipush 26, 2) := by decide +kernel
theorem dX12_isSort_4 : decode cX12_isSort 4 = .ok (.invokestatic 66, 3) := by decide +kernel
theorem dX12_isSort_7 : decode cX12_isSort 7 = .ok (.ireturn, 1) := by decide +kernel
theorem dX12_isDay_0 : decode cX12_isDay 0 = .ok (.iload_n 0, 1) := by decide +kernel
theorem dX12_isDay_1 : decode cX12_isDay 1 = .ok (.iconst 0, 1) := by decide +kernel
theorem dX12_isDay_2 : decode cX12_isDay 2 = .ok (.sipush 999, 3) := by decide +kernel
theorem dX12_isDay_5 : decode cX12_isDay 5 = .ok (.invokestatic 66, 3) := by decide +kernel
theorem dX12_isDay_8 : decode cX12_isDay 8 = .ok (.ireturn, 1) := by decide +kernel
theorem dX12_standing_0 : decode cX12_standing 0 = .ok (.iconst 0, 1) := by decide +kernel
theorem dX12_standing_1 : decode cX12_standing 1 = .ok (.istore_n 1, 1) := by decide +kernel
theorem dX12_standing_2 : decode cX12_standing 2 = .ok (.iconst 0, 1) := by decide +kernel
theorem dX12_standing_3 : decode cX12_standing 3 = .ok (.istore_n 2, 1) := by decide +kernel
theorem dX12_standing_4 : decode cX12_standing 4 = .ok (.iload_n 2, 1) := by decide +kernel
theorem dX12_standing_5 : decode cX12_standing 5 = .ok (.aload_n 0, 1) := by decide +kernel
theorem dX12_standing_6 : decode cX12_standing 6 = .ok (.getfield 7, 3) := by decide +kernel
theorem dX12_standing_9 : decode cX12_standing 9 = .ok (.iconst 3, 1) := by decide +kernel
theorem dX12_standing_10 : decode cX12_standing 10 = .ok (.iaload, 1) := by decide +kernel
theorem dX12_standing_11 : decode cX12_standing 11 = .ok (.if_icmp .ge 22, 3) := by decide +kernel
theorem dX12_standing_14 : decode cX12_standing 14 = .ok (.iload_n 1, 1) := by decide +kernel
theorem dX12_standing_15 : decode cX12_standing 15 = .ok (.aload_n 0, 1) := by decide +kernel
theorem dX12_standing_16 : decode cX12_standing 16 = .ok (.getfield 7, 3) := by decide +kernel
theorem dX12_standing_19 : decode cX12_standing 19 = .ok (.sipush 2290, 3) := by decide +kernel
theorem dX12_standing_22 : decode cX12_standing 22 = .ok (.iload_n 2, 1) := by decide +kernel
theorem dX12_standing_23 : decode cX12_standing 23 = .ok (.iadd, 1) := by decide +kernel
theorem dX12_standing_24 : decode cX12_standing 24 = .ok (.iaload, 1) := by decide +kernel
theorem dX12_standing_25 : decode cX12_standing 25 = .ok (.iadd, 1) := by decide +kernel
theorem dX12_standing_26 : decode cX12_standing 26 = .ok (.istore_n 1, 1) := by decide +kernel
theorem dX12_standing_27 : decode cX12_standing 27 = .ok (.iinc 2 1, 3) := by decide +kernel
theorem dX12_standing_30 : decode cX12_standing 30 = .ok (.goto (-26), 3) := by decide +kernel
theorem dX12_standing_33 : decode cX12_standing 33 = .ok (.iload_n 1, 1) := by decide +kernel
theorem dX12_standing_34 : decode cX12_standing 34 = .ok (.ireturn, 1) := by decide +kernel
theorem dX12_sort_0 : decode cX12_sort 0 = .ok (.iload_n 1, 1) := by decide +kernel
theorem dX12_sort_1 : decode cX12_sort 1 = .ok (.invokestatic 70, 3) := by decide +kernel
theorem dX12_sort_4 : decode cX12_sort 4 = .ok (.ifCond .ne 5, 3) := by decide +kernel
theorem dX12_sort_7 : decode cX12_sort 7 = .ok (.iconst (-1), 1) := by decide +kernel
theorem dX12_sort_8 : decode cX12_sort 8 = .ok (.ireturn, 1) := by decide +kernel
theorem dX12_sort_9 : decode cX12_sort 9 = .ok (.iload_n 2, 1) := by decide +kernel
theorem dX12_sort_10 : decode cX12_sort 10 = .ok (.iconst 1, 1) := by decide +kernel
theorem dX12_sort_11 : decode cX12_sort 11 = .ok (.bipush 9, 2) := by decide +kernel
theorem dX12_sort_13 : decode cX12_sort 13 = .ok (.invokestatic 66, 3) := by decide +kernel
theorem dX12_sort_16 : decode cX12_sort 16 = .ok (.ifCond .ne 6, 3) := by decide +kernel
theorem dX12_sort_19 : decode cX12_sort 19 = .ok (.bipush (-2), 2) := by decide +kernel
theorem dX12_sort_21 : decode cX12_sort 21 = .ok (.ireturn, 1) := by decide +kernel
theorem dX12_sort_22 : decode cX12_sort 22 = .ok (.aload_n 0, 1) := by decide +kernel
theorem dX12_sort_23 : decode cX12_sort 23 = .ok (.invokevirtual 74, 3) := by decide +kernel
theorem dX12_sort_26 : decode cX12_sort 26 = .ok (.ifCond .le 6, 3) := by decide +kernel
theorem dX12_sort_29 : decode cX12_sort 29 = .ok (.bipush (-3), 2) := by decide +kernel
theorem dX12_sort_31 : decode cX12_sort 31 = .ok (.ireturn, 1) := by decide +kernel
theorem dX12_sort_32 : decode cX12_sort 32 = .ok (.aload_n 0, 1) := by decide +kernel
theorem dX12_sort_33 : decode cX12_sort 33 = .ok (.getfield 7, 3) := by decide +kernel
theorem dX12_sort_36 : decode cX12_sort 36 = .ok (.bipush 20, 2) := by decide +kernel
theorem dX12_sort_38 : decode cX12_sort 38 = .ok (.iload_n 1, 1) := by decide +kernel
theorem dX12_sort_39 : decode cX12_sort 39 = .ok (.iadd, 1) := by decide +kernel
theorem dX12_sort_40 : decode cX12_sort 40 = .ok (.iaload, 1) := by decide +kernel
theorem dX12_sort_41 : decode cX12_sort 41 = .ok (.istore_n 3, 1) := by decide +kernel
theorem dX12_sort_42 : decode cX12_sort 42 = .ok (.aload_n 0, 1) := by decide +kernel
theorem dX12_sort_43 : decode cX12_sort 43 = .ok (.getfield 7, 3) := by decide +kernel
theorem dX12_sort_46 : decode cX12_sort 46 = .ok (.bipush 20, 2) := by decide +kernel
theorem dX12_sort_48 : decode cX12_sort 48 = .ok (.iload_n 1, 1) := by decide +kernel
theorem dX12_sort_49 : decode cX12_sort 49 = .ok (.iadd, 1) := by decide +kernel
theorem dX12_sort_50 : decode cX12_sort 50 = .ok (.iload_n 2, 1) := by decide +kernel
theorem dX12_sort_51 : decode cX12_sort 51 = .ok (.iastore, 1) := by decide +kernel
theorem dX12_sort_52 : decode cX12_sort 52 = .ok (.iload_n 3, 1) := by decide +kernel
theorem dX12_sort_53 : decode cX12_sort 53 = .ok (.ireturn, 1) := by decide +kernel
theorem dX12_cast_0 : decode cX12_cast 0 = .ok (.iload_n 1, 1) := by decide +kernel
theorem dX12_cast_1 : decode cX12_cast 1 = .ok (.invokestatic 70, 3) := by decide +kernel
theorem dX12_cast_4 : decode cX12_cast 4 = .ok (.ifCond .ne 5, 3) := by decide +kernel
theorem dX12_cast_7 : decode cX12_cast 7 = .ok (.iconst (-1), 1) := by decide +kernel
theorem dX12_cast_8 : decode cX12_cast 8 = .ok (.ireturn, 1) := by decide +kernel
theorem dX12_cast_9 : decode cX12_cast 9 = .ok (.iload_n 2, 1) := by decide +kernel
theorem dX12_cast_10 : decode cX12_cast 10 = .ok (.iconst 1, 1) := by decide +kernel
theorem dX12_cast_11 : decode cX12_cast 11 = .ok (.sipush 999, 3) := by decide +kernel
theorem dX12_cast_14 : decode cX12_cast 14 = .ok (.invokestatic 66, 3) := by decide +kernel
theorem dX12_cast_17 : decode cX12_cast 17 = .ok (.ifCond .ne 6, 3) := by decide +kernel
theorem dX12_cast_20 : decode cX12_cast 20 = .ok (.bipush (-2), 2) := by decide +kernel
theorem dX12_cast_22 : decode cX12_cast 22 = .ok (.ireturn, 1) := by decide +kernel
theorem dX12_cast_23 : decode cX12_cast 23 = .ok (.aload_n 0, 1) := by decide +kernel
theorem dX12_cast_24 : decode cX12_cast 24 = .ok (.getfield 7, 3) := by decide +kernel
theorem dX12_cast_27 : decode cX12_cast 27 = .ok (.bipush 50, 2) := by decide +kernel
theorem dX12_cast_29 : decode cX12_cast 29 = .ok (.iload_n 1, 1) := by decide +kernel
theorem dX12_cast_30 : decode cX12_cast 30 = .ok (.iadd, 1) := by decide +kernel
theorem dX12_cast_31 : decode cX12_cast 31 = .ok (.iaload, 1) := by decide +kernel
theorem dX12_cast_32 : decode cX12_cast 32 = .ok (.iload_n 2, 1) := by decide +kernel
theorem dX12_cast_33 : decode cX12_cast 33 = .ok (.iadd, 1) := by decide +kernel
theorem dX12_cast_34 : decode cX12_cast 34 = .ok (.sipush 9999, 3) := by decide +kernel
theorem dX12_cast_37 : decode cX12_cast 37 = .ok (.if_icmp .le 6, 3) := by decide +kernel
theorem dX12_cast_40 : decode cX12_cast 40 = .ok (.bipush (-4), 2) := by decide +kernel
theorem dX12_cast_42 : decode cX12_cast 42 = .ok (.ireturn, 1) := by decide +kernel
theorem dX12_cast_43 : decode cX12_cast 43 = .ok (.aload_n 0, 1) := by decide +kernel
theorem dX12_cast_44 : decode cX12_cast 44 = .ok (.getfield 7, 3) := by decide +kernel
theorem dX12_cast_47 : decode cX12_cast 47 = .ok (.bipush 80, 2) := by decide +kernel
theorem dX12_cast_49 : decode cX12_cast 49 = .ok (.iload_n 1, 1) := by decide +kernel
theorem dX12_cast_50 : decode cX12_cast 50 = .ok (.iadd, 1) := by decide +kernel
theorem dX12_cast_51 : decode cX12_cast 51 = .ok (.dup2, 1) := by decide +kernel
theorem dX12_cast_52 : decode cX12_cast 52 = .ok (.iaload, 1) := by decide +kernel
theorem dX12_cast_53 : decode cX12_cast 53 = .ok (.aload_n 0, 1) := by decide +kernel
theorem dX12_cast_54 : decode cX12_cast 54 = .ok (.getfield 7, 3) := by decide +kernel
theorem dX12_cast_57 : decode cX12_cast 57 = .ok (.bipush 80, 2) := by decide +kernel
theorem dX12_cast_59 : decode cX12_cast 59 = .ok (.iload_n 1, 1) := by decide +kernel
theorem dX12_cast_60 : decode cX12_cast 60 = .ok (.iadd, 1) := by decide +kernel
theorem dX12_cast_61 : decode cX12_cast 61 = .ok (.iaload, 1) := by decide +kernel
theorem dX12_cast_62 : decode cX12_cast 62 = .ok (.iload_n 2, 1) := by decide +kernel
theorem dX12_cast_63 : decode cX12_cast 63 = .ok (.if_icmp .ge 15, 3) := by decide +kernel
theorem dX12_cast_66 : decode cX12_cast 66 = .ok (.aload_n 0, 1) := by decide +kernel
theorem dX12_cast_67 : decode cX12_cast 67 = .ok (.getfield 7, 3) := by decide +kernel
theorem dX12_cast_70 : decode cX12_cast 70 = .ok (.bipush 80, 2) := by decide +kernel
theorem dX12_cast_72 : decode cX12_cast 72 = .ok (.iload_n 1, 1) := by decide +kernel
theorem dX12_cast_73 : decode cX12_cast 73 = .ok (.iadd, 1) := by decide +kernel
theorem dX12_cast_74 : decode cX12_cast 74 = .ok (.iaload, 1) := by decide +kernel
theorem dX12_cast_75 : decode cX12_cast 75 = .ok (.goto 4, 3) := by decide +kernel
theorem dX12_cast_78 : decode cX12_cast 78 = .ok (.iload_n 2, 1) := by decide +kernel
theorem dX12_cast_79 : decode cX12_cast 79 = .ok (.isub, 1) := by decide +kernel
theorem dX12_cast_80 : decode cX12_cast 80 = .ok (.iastore, 1) := by decide +kernel
theorem dX12_cast_81 : decode cX12_cast 81 = .ok (.aload_n 0, 1) := by decide +kernel
theorem dX12_cast_82 : decode cX12_cast 82 = .ok (.getfield 7, 3) := by decide +kernel
theorem dX12_cast_85 : decode cX12_cast 85 = .ok (.bipush 50, 2) := by decide +kernel
theorem dX12_cast_87 : decode cX12_cast 87 = .ok (.iload_n 1, 1) := by decide +kernel
theorem dX12_cast_88 : decode cX12_cast 88 = .ok (.iadd, 1) := by decide +kernel
theorem dX12_cast_89 : decode cX12_cast 89 = .ok (.dup2, 1) := by decide +kernel
theorem dX12_cast_90 : decode cX12_cast 90 = .ok (.iaload, 1) := by decide +kernel
theorem dX12_cast_91 : decode cX12_cast 91 = .ok (.iload_n 2, 1) := by decide +kernel
theorem dX12_cast_92 : decode cX12_cast 92 = .ok (.iadd, 1) := by decide +kernel
theorem dX12_cast_93 : decode cX12_cast 93 = .ok (.iastore, 1) := by decide +kernel
theorem dX12_cast_94 : decode cX12_cast 94 = .ok (.aload_n 0, 1) := by decide +kernel
theorem dX12_cast_95 : decode cX12_cast 95 = .ok (.getfield 7, 3) := by decide +kernel
theorem dX12_cast_98 : decode cX12_cast 98 = .ok (.bipush 50, 2) := by decide +kernel
theorem dX12_cast_100 : decode cX12_cast 100 = .ok (.iload_n 1, 1) := by decide +kernel
theorem dX12_cast_101 : decode cX12_cast 101 = .ok (.iadd, 1) := by decide +kernel
theorem dX12_cast_102 : decode cX12_cast 102 = .ok (.iaload, 1) := by decide +kernel
theorem dX12_cast_103 : decode cX12_cast 103 = .ok (.ireturn, 1) := by decide +kernel
theorem dX12_many_0 : decode cX12_many 0 = .ok (.iload_n 1, 1) := by decide +kernel
theorem dX12_many_1 : decode cX12_many 1 = .ok (.invokestatic 70, 3) := by decide +kernel
theorem dX12_many_4 : decode cX12_many 4 = .ok (.ifCond .eq 12, 3) := by decide +kernel
theorem dX12_many_7 : decode cX12_many 7 = .ok (.iload_n 2, 1) := by decide +kernel
theorem dX12_many_8 : decode cX12_many 8 = .ok (.iconst 0, 1) := by decide +kernel
theorem dX12_many_9 : decode cX12_many 9 = .ok (.iconst 2, 1) := by decide +kernel
theorem dX12_many_10 : decode cX12_many 10 = .ok (.invokestatic 66, 3) := by decide +kernel
theorem dX12_many_13 : decode cX12_many 13 = .ok (.ifCond .ne 5, 3) := by decide +kernel
theorem dX12_many_16 : decode cX12_many 16 = .ok (.iconst (-1), 1) := by decide +kernel
theorem dX12_many_17 : decode cX12_many 17 = .ok (.ireturn, 1) := by decide +kernel
theorem dX12_many_18 : decode cX12_many 18 = .ok (.iload_n 2, 1) := by decide +kernel
theorem dX12_many_19 : decode cX12_many 19 = .ok (.iconst 1, 1) := by decide +kernel
theorem dX12_many_20 : decode cX12_many 20 = .ok (.if_icmp .eq 22, 3) := by decide +kernel
theorem dX12_many_23 : decode cX12_many 23 = .ok (.aload_n 0, 1) := by decide +kernel
theorem dX12_many_24 : decode cX12_many 24 = .ok (.getfield 7, 3) := by decide +kernel
theorem dX12_many_27 : decode cX12_many 27 = .ok (.iload_n 2, 1) := by decide +kernel
theorem dX12_many_28 : decode cX12_many 28 = .ok (.ifCond .ne 8, 3) := by decide +kernel
theorem dX12_many_31 : decode cX12_many 31 = .ok (.bipush 50, 2) := by decide +kernel
theorem dX12_many_33 : decode cX12_many 33 = .ok (.goto 5, 3) := by decide +kernel
theorem dX12_many_36 : decode cX12_many 36 = .ok (.bipush 80, 2) := by decide +kernel
theorem dX12_many_38 : decode cX12_many 38 = .ok (.iload_n 1, 1) := by decide +kernel
theorem dX12_many_39 : decode cX12_many 39 = .ok (.iadd, 1) := by decide +kernel
theorem dX12_many_40 : decode cX12_many 40 = .ok (.iaload, 1) := by decide +kernel
theorem dX12_many_41 : decode cX12_many 41 = .ok (.ireturn, 1) := by decide +kernel
theorem dX12_many_42 : decode cX12_many 42 = .ok (.iconst 0, 1) := by decide +kernel
theorem dX12_many_43 : decode cX12_many 43 = .ok (.istore_n 3, 1) := by decide +kernel
theorem dX12_many_44 : decode cX12_many 44 = .ok (.iconst 0, 1) := by decide +kernel
theorem dX12_many_45 : decode cX12_many 45 = .ok (.istore 4, 2) := by decide +kernel
theorem dX12_many_47 : decode cX12_many 47 = .ok (.iload 4, 2) := by decide +kernel
theorem dX12_many_49 : decode cX12_many 49 = .ok (.aload_n 0, 1) := by decide +kernel
theorem dX12_many_50 : decode cX12_many 50 = .ok (.getfield 7, 3) := by decide +kernel
theorem dX12_many_53 : decode cX12_many 53 = .ok (.iconst 3, 1) := by decide +kernel
theorem dX12_many_54 : decode cX12_many 54 = .ok (.iaload, 1) := by decide +kernel
theorem dX12_many_55 : decode cX12_many 55 = .ok (.if_icmp .ge 47, 3) := by decide +kernel
theorem dX12_many_58 : decode cX12_many 58 = .ok (.iload_n 3, 1) := by decide +kernel
theorem dX12_many_59 : decode cX12_many 59 = .ok (.aload_n 0, 1) := by decide +kernel
theorem dX12_many_60 : decode cX12_many 60 = .ok (.getfield 7, 3) := by decide +kernel
theorem dX12_many_63 : decode cX12_many 63 = .ok (.sipush 2290, 3) := by decide +kernel
theorem dX12_many_66 : decode cX12_many 66 = .ok (.iload 4, 2) := by decide +kernel
theorem dX12_many_68 : decode cX12_many 68 = .ok (.iadd, 1) := by decide +kernel
theorem dX12_many_69 : decode cX12_many 69 = .ok (.iaload, 1) := by decide +kernel
theorem dX12_many_70 : decode cX12_many 70 = .ok (.iconst 1, 1) := by decide +kernel
theorem dX12_many_71 : decode cX12_many 71 = .ok (.if_icmp .ne 22, 3) := by decide +kernel
theorem dX12_many_74 : decode cX12_many 74 = .ok (.aload_n 0, 1) := by decide +kernel
theorem dX12_many_75 : decode cX12_many 75 = .ok (.getfield 7, 3) := by decide +kernel
theorem dX12_many_78 : decode cX12_many 78 = .ok (.sipush 2330, 3) := by decide +kernel
theorem dX12_many_81 : decode cX12_many 81 = .ok (.bipush 27, 2) := by decide +kernel
theorem dX12_many_83 : decode cX12_many 83 = .ok (.iload 4, 2) := by decide +kernel
theorem dX12_many_85 : decode cX12_many 85 = .ok (.imul, 1) := by decide +kernel
theorem dX12_many_86 : decode cX12_many 86 = .ok (.iadd, 1) := by decide +kernel
theorem dX12_many_87 : decode cX12_many 87 = .ok (.iload_n 1, 1) := by decide +kernel
theorem dX12_many_88 : decode cX12_many 88 = .ok (.iadd, 1) := by decide +kernel
theorem dX12_many_89 : decode cX12_many 89 = .ok (.iaload, 1) := by decide +kernel
theorem dX12_many_90 : decode cX12_many 90 = .ok (.goto 4, 3) := by decide +kernel
theorem dX12_many_93 : decode cX12_many 93 = .ok (.iconst 0, 1) := by decide +kernel
theorem dX12_many_94 : decode cX12_many 94 = .ok (.iadd, 1) := by decide +kernel
theorem dX12_many_95 : decode cX12_many 95 = .ok (.istore_n 3, 1) := by decide +kernel
theorem dX12_many_96 : decode cX12_many 96 = .ok (.iinc 4 1, 3) := by decide +kernel
theorem dX12_many_99 : decode cX12_many 99 = .ok (.goto (-52), 3) := by decide +kernel
theorem dX12_many_102 : decode cX12_many 102 = .ok (.iload_n 3, 1) := by decide +kernel
theorem dX12_many_103 : decode cX12_many 103 = .ok (.ireturn, 1) := by decide +kernel
theorem dX12_day_0 : decode cX12_day 0 = .ok (.iload_n 1, 1) := by decide +kernel
theorem dX12_day_1 : decode cX12_day 1 = .ok (.iconst 1, 1) := by decide +kernel
theorem dX12_day_2 : decode cX12_day 2 = .ok (.bipush 99, 2) := by decide +kernel
theorem dX12_day_4 : decode cX12_day 4 = .ok (.invokestatic 66, 3) := by decide +kernel
theorem dX12_day_7 : decode cX12_day 7 = .ok (.ifCond .eq 17, 3) := by decide +kernel
theorem dX12_day_10 : decode cX12_day 10 = .ok (.aload_n 0, 1) := by decide +kernel
theorem dX12_day_11 : decode cX12_day 11 = .ok (.getfield 7, 3) := by decide +kernel
theorem dX12_day_14 : decode cX12_day 14 = .ok (.iconst 0, 1) := by decide +kernel
theorem dX12_day_15 : decode cX12_day 15 = .ok (.iaload, 1) := by decide +kernel
theorem dX12_day_16 : decode cX12_day 16 = .ok (.iload_n 1, 1) := by decide +kernel
theorem dX12_day_17 : decode cX12_day 17 = .ok (.iadd, 1) := by decide +kernel
theorem dX12_day_18 : decode cX12_day 18 = .ok (.sipush 999, 3) := by decide +kernel
theorem dX12_day_21 : decode cX12_day 21 = .ok (.if_icmp .le 6, 3) := by decide +kernel
theorem dX12_day_24 : decode cX12_day 24 = .ok (.bipush (-2), 2) := by decide +kernel
theorem dX12_day_26 : decode cX12_day 26 = .ok (.ireturn, 1) := by decide +kernel
theorem dX12_day_27 : decode cX12_day 27 = .ok (.aload_n 0, 1) := by decide +kernel
theorem dX12_day_28 : decode cX12_day 28 = .ok (.getfield 7, 3) := by decide +kernel
theorem dX12_day_31 : decode cX12_day 31 = .ok (.iconst 0, 1) := by decide +kernel
theorem dX12_day_32 : decode cX12_day 32 = .ok (.dup2, 1) := by decide +kernel
theorem dX12_day_33 : decode cX12_day 33 = .ok (.iaload, 1) := by decide +kernel
theorem dX12_day_34 : decode cX12_day 34 = .ok (.iload_n 1, 1) := by decide +kernel
theorem dX12_day_35 : decode cX12_day 35 = .ok (.iadd, 1) := by decide +kernel
theorem dX12_day_36 : decode cX12_day 36 = .ok (.iastore, 1) := by decide +kernel
theorem dX12_day_37 : decode cX12_day 37 = .ok (.aload_n 0, 1) := by decide +kernel
theorem dX12_day_38 : decode cX12_day 38 = .ok (.getfield 7, 3) := by decide +kernel
theorem dX12_day_41 : decode cX12_day 41 = .ok (.iconst 0, 1) := by decide +kernel
theorem dX12_day_42 : decode cX12_day 42 = .ok (.iaload, 1) := by decide +kernel
theorem dX12_day_43 : decode cX12_day 43 = .ok (.ireturn, 1) := by decide +kernel
theorem dX12_feed_0 : decode cX12_feed 0 = .ok (.iload_n 3, 1) := by decide +kernel
theorem dX12_feed_1 : decode cX12_feed 1 = .ok (.iconst 1, 1) := by decide +kernel
theorem dX12_feed_2 : decode cX12_feed 2 = .ok (.bipush 8, 2) := by decide +kernel
theorem dX12_feed_4 : decode cX12_feed 4 = .ok (.invokestatic 66, 3) := by decide +kernel
theorem dX12_feed_7 : decode cX12_feed 7 = .ok (.ifCond .ne 6, 3) := by decide +kernel
theorem dX12_feed_10 : decode cX12_feed 10 = .ok (.bipush (-2), 2) := by decide +kernel
theorem dX12_feed_12 : decode cX12_feed 12 = .ok (.ireturn, 1) := by decide +kernel
theorem dX12_feed_13 : decode cX12_feed 13 = .ok (.aload_n 0, 1) := by decide +kernel
theorem dX12_feed_14 : decode cX12_feed 14 = .ok (.getfield 7, 3) := by decide +kernel
theorem dX12_feed_17 : decode cX12_feed 17 = .ok (.bipush 9, 2) := by decide +kernel
theorem dX12_feed_19 : decode cX12_feed 19 = .ok (.iaload, 1) := by decide +kernel
theorem dX12_feed_20 : decode cX12_feed 20 = .ok (.iload_n 3, 1) := by decide +kernel
theorem dX12_feed_21 : decode cX12_feed 21 = .ok (.iadd, 1) := by decide +kernel
theorem dX12_feed_22 : decode cX12_feed 22 = .ok (.bipush 120, 2) := by decide +kernel
theorem dX12_feed_24 : decode cX12_feed 24 = .ok (.if_icmp .le 6, 3) := by decide +kernel
theorem dX12_feed_27 : decode cX12_feed 27 = .ok (.bipush (-4), 2) := by decide +kernel
theorem dX12_feed_29 : decode cX12_feed 29 = .ok (.ireturn, 1) := by decide +kernel
theorem dX12_feed_30 : decode cX12_feed 30 = .ok (.iload_n 3, 1) := by decide +kernel
theorem dX12_feed_31 : decode cX12_feed 31 = .ok (.iconst 1, 1) := by decide +kernel
theorem dX12_feed_32 : decode cX12_feed 32 = .ok (.isub, 1) := by decide +kernel
theorem dX12_feed_33 : decode cX12_feed 33 = .ok (.istore 4, 2) := by decide +kernel
theorem dX12_feed_35 : decode cX12_feed 35 = .ok (.iload 4, 2) := by decide +kernel
theorem dX12_feed_37 : decode cX12_feed 37 = .ok (.ifCond .lt 47, 3) := by decide +kernel
theorem dX12_feed_40 : decode cX12_feed 40 = .ok (.aload_n 0, 1) := by decide +kernel
theorem dX12_feed_41 : decode cX12_feed 41 = .ok (.getfield 7, 3) := by decide +kernel
theorem dX12_feed_44 : decode cX12_feed 44 = .ok (.bipush 110, 2) := by decide +kernel
theorem dX12_feed_46 : decode cX12_feed 46 = .ok (.aload_n 0, 1) := by decide +kernel
theorem dX12_feed_47 : decode cX12_feed 47 = .ok (.getfield 7, 3) := by decide +kernel
theorem dX12_feed_50 : decode cX12_feed 50 = .ok (.bipush 9, 2) := by decide +kernel
theorem dX12_feed_52 : decode cX12_feed 52 = .ok (.iaload, 1) := by decide +kernel
theorem dX12_feed_53 : decode cX12_feed 53 = .ok (.iadd, 1) := by decide +kernel
theorem dX12_feed_54 : decode cX12_feed 54 = .ok (.lload_n 1, 1) := by decide +kernel
theorem dX12_feed_55 : decode cX12_feed 55 = .ok (.bipush 8, 2) := by decide +kernel
theorem dX12_feed_57 : decode cX12_feed 57 = .ok (.iload 4, 2) := by decide +kernel
theorem dX12_feed_59 : decode cX12_feed 59 = .ok (.imul, 1) := by decide +kernel
theorem dX12_feed_60 : decode cX12_feed 60 = .ok (.lshr, 1) := by decide +kernel
theorem dX12_feed_61 : decode cX12_feed 61 = .ok (.ldc2_w 78, 3) := by decide +kernel
theorem dX12_feed_64 : decode cX12_feed 64 = .ok (.land, 1) := by decide +kernel
theorem dX12_feed_65 : decode cX12_feed 65 = .ok (.l2i, 1) := by decide +kernel
theorem dX12_feed_66 : decode cX12_feed 66 = .ok (.iastore, 1) := by decide +kernel
theorem dX12_feed_67 : decode cX12_feed 67 = .ok (.aload_n 0, 1) := by decide +kernel
theorem dX12_feed_68 : decode cX12_feed 68 = .ok (.getfield 7, 3) := by decide +kernel
theorem dX12_feed_71 : decode cX12_feed 71 = .ok (.bipush 9, 2) := by decide +kernel
theorem dX12_feed_73 : decode cX12_feed 73 = .ok (.dup2, 1) := by decide +kernel
theorem dX12_feed_74 : decode cX12_feed 74 = .ok (.iaload, 1) := by decide +kernel
theorem dX12_feed_75 : decode cX12_feed 75 = .ok (.iconst 1, 1) := by decide +kernel
theorem dX12_feed_76 : decode cX12_feed 76 = .ok (.iadd, 1) := by decide +kernel
theorem dX12_feed_77 : decode cX12_feed 77 = .ok (.iastore, 1) := by decide +kernel
theorem dX12_feed_78 : decode cX12_feed 78 = .ok (.iinc 4 (-1), 3) := by decide +kernel
theorem dX12_feed_81 : decode cX12_feed 81 = .ok (.goto (-46), 3) := by decide +kernel
theorem dX12_feed_84 : decode cX12_feed 84 = .ok (.aload_n 0, 1) := by decide +kernel
theorem dX12_feed_85 : decode cX12_feed 85 = .ok (.getfield 7, 3) := by decide +kernel
theorem dX12_feed_88 : decode cX12_feed 88 = .ok (.bipush 9, 2) := by decide +kernel
theorem dX12_feed_90 : decode cX12_feed 90 = .ok (.iaload, 1) := by decide +kernel
theorem dX12_feed_91 : decode cX12_feed 91 = .ok (.ireturn, 1) := by decide +kernel
theorem dX12_here_0 : decode cX12_here 0 = .ok (.aload_n 0, 1) := by decide +kernel
theorem dX12_here_1 : decode cX12_here 1 = .ok (.getfield 80, 3) := by decide +kernel
theorem dX12_here_4 : decode cX12_here 4 = .ok (.aload_n 0, 1) := by decide +kernel
theorem dX12_here_5 : decode cX12_here 5 = .ok (.getfield 7, 3) := by decide +kernel
theorem dX12_here_8 : decode cX12_here 8 = .ok (.sipush 240, 3) := by decide +kernel
theorem dX12_here_11 : decode cX12_here 11 = .ok (.aload_n 0, 1) := by decide +kernel
theorem dX12_here_12 : decode cX12_here 12 = .ok (.getfield 83, 3) := by decide +kernel
theorem dX12_here_15 : decode cX12_here 15 = .ok (.iadd, 1) := by decide +kernel
theorem dX12_here_16 : decode cX12_here 16 = .ok (.iaload, 1) := by decide +kernel
theorem dX12_here_17 : decode cX12_here 17 = .ok (.if_icmp .ge 27, 3) := by decide +kernel
theorem dX12_here_20 : decode cX12_here 20 = .ok (.aload_n 0, 1) := by decide +kernel
theorem dX12_here_21 : decode cX12_here 21 = .ok (.getfield 7, 3) := by decide +kernel
theorem dX12_here_24 : decode cX12_here 24 = .ok (.sipush 250, 3) := by decide +kernel
theorem dX12_here_27 : decode cX12_here 27 = .ok (.bipush 120, 2) := by decide +kernel
theorem dX12_here_29 : decode cX12_here 29 = .ok (.aload_n 0, 1) := by decide +kernel
theorem dX12_here_30 : decode cX12_here 30 = .ok (.getfield 83, 3) := by decide +kernel
theorem dX12_here_33 : decode cX12_here 33 = .ok (.imul, 1) := by decide +kernel
theorem dX12_here_34 : decode cX12_here 34 = .ok (.iadd, 1) := by decide +kernel
theorem dX12_here_35 : decode cX12_here 35 = .ok (.aload_n 0, 1) := by decide +kernel
theorem dX12_here_36 : decode cX12_here 36 = .ok (.getfield 80, 3) := by decide +kernel
theorem dX12_here_39 : decode cX12_here 39 = .ok (.iadd, 1) := by decide +kernel
theorem dX12_here_40 : decode cX12_here 40 = .ok (.iaload, 1) := by decide +kernel
theorem dX12_here_41 : decode cX12_here 41 = .ok (.goto 4, 3) := by decide +kernel
theorem dX12_here_44 : decode cX12_here 44 = .ok (.iconst (-1), 1) := by decide +kernel
theorem dX12_here_45 : decode cX12_here 45 = .ok (.ireturn, 1) := by decide +kernel
theorem dX12_must_0 : decode cX12_must 0 = .ok (.aload_n 0, 1) := by decide +kernel
theorem dX12_must_1 : decode cX12_must 1 = .ok (.aload_n 0, 1) := by decide +kernel
theorem dX12_must_2 : decode cX12_must 2 = .ok (.getfield 86, 3) := by decide +kernel
theorem dX12_must_5 : decode cX12_must 5 = .ok (.ifCond .ne 11, 3) := by decide +kernel
theorem dX12_must_8 : decode cX12_must 8 = .ok (.aload_n 0, 1) := by decide +kernel
theorem dX12_must_9 : decode cX12_must 9 = .ok (.invokevirtual 90, 3) := by decide +kernel
theorem dX12_must_12 : decode cX12_must 12 = .ok (.iload_n 1, 1) := by decide +kernel
theorem dX12_must_13 : decode cX12_must 13 = .ok (.if_icmp .eq 7, 3) := by decide +kernel
theorem dX12_must_16 : decode cX12_must 16 = .ok (.iconst 1, 1) := by decide +kernel
theorem dX12_must_17 : decode cX12_must 17 = .ok (.goto 4, 3) := by decide +kernel
theorem dX12_must_20 : decode cX12_must 20 = .ok (.iconst 0, 1) := by decide +kernel
theorem dX12_must_21 : decode cX12_must 21 = .ok (.putfield 86, 3) := by decide +kernel
theorem dX12_must_24 : decode cX12_must 24 = .ok (.aload_n 0, 1) := by decide +kernel
theorem dX12_must_25 : decode cX12_must 25 = .ok (.dup, 1) := by decide +kernel
theorem dX12_must_26 : decode cX12_must 26 = .ok (.getfield 80, 3) := by decide +kernel
theorem dX12_must_29 : decode cX12_must 29 = .ok (.aload_n 0, 1) := by decide +kernel
theorem dX12_must_30 : decode cX12_must 30 = .ok (.getfield 86, 3) := by decide +kernel
theorem dX12_must_33 : decode cX12_must 33 = .ok (.ifCond .eq 7, 3) := by decide +kernel
theorem dX12_must_36 : decode cX12_must 36 = .ok (.iconst 0, 1) := by decide +kernel
theorem dX12_must_37 : decode cX12_must 37 = .ok (.goto 4, 3) := by decide +kernel
theorem dX12_must_40 : decode cX12_must 40 = .ok (.iconst 1, 1) := by decide +kernel
theorem dX12_must_41 : decode cX12_must 41 = .ok (.iadd, 1) := by decide +kernel
theorem dX12_must_42 : decode cX12_must 42 = .ok (.putfield 80, 3) := by decide +kernel
theorem dX12_must_45 : decode cX12_must 45 = .ok (.return_, 1) := by decide +kernel
theorem dX12_spells_0 : decode cX12_spells 0 = .ok (.iconst 0, 1) := by decide +kernel
theorem dX12_spells_1 : decode cX12_spells 1 = .ok (.istore_n 2, 1) := by decide +kernel
theorem dX12_spells_2 : decode cX12_spells 2 = .ok (.iload_n 2, 1) := by decide +kernel
theorem dX12_spells_3 : decode cX12_spells 3 = .ok (.aload_n 1, 1) := by decide +kernel
theorem dX12_spells_4 : decode cX12_spells 4 = .ok (.invokevirtual 93, 3) := by decide +kernel
theorem dX12_spells_7 : decode cX12_spells 7 = .ok (.if_icmp .ge 18, 3) := by decide +kernel
theorem dX12_spells_10 : decode cX12_spells 10 = .ok (.aload_n 0, 1) := by decide +kernel
theorem dX12_spells_11 : decode cX12_spells 11 = .ok (.aload_n 1, 1) := by decide +kernel
theorem dX12_spells_12 : decode cX12_spells 12 = .ok (.iload_n 2, 1) := by decide +kernel
theorem dX12_spells_13 : decode cX12_spells 13 = .ok (.invokevirtual 98, 3) := by decide +kernel
theorem dX12_spells_16 : decode cX12_spells 16 = .ok (.invokevirtual 102, 3) := by decide +kernel
theorem dX12_spells_19 : decode cX12_spells 19 = .ok (.iinc 2 1, 3) := by decide +kernel
theorem dX12_spells_22 : decode cX12_spells 22 = .ok (.goto (-20), 3) := by decide +kernel
theorem dX12_spells_25 : decode cX12_spells 25 = .ok (.return_, 1) := by decide +kernel
theorem dX12_number_0 : decode cX12_number 0 = .ok (.aload_n 0, 1) := by decide +kernel
theorem dX12_number_1 : decode cX12_number 1 = .ok (.aload_n 0, 1) := by decide +kernel
theorem dX12_number_2 : decode cX12_number 2 = .ok (.getfield 86, 3) := by decide +kernel
theorem dX12_number_5 : decode cX12_number 5 = .ok (.ifCond .ne 17, 3) := by decide +kernel
theorem dX12_number_8 : decode cX12_number 8 = .ok (.aload_n 0, 1) := by decide +kernel
theorem dX12_number_9 : decode cX12_number 9 = .ok (.invokevirtual 90, 3) := by decide +kernel
theorem dX12_number_12 : decode cX12_number 12 = .ok (.bipush 48, 2) := by decide +kernel
theorem dX12_number_14 : decode cX12_number 14 = .ok (.bipush 57, 2) := by decide +kernel
theorem dX12_number_16 : decode cX12_number 16 = .ok (.invokestatic 66, 3) := by decide +kernel
theorem dX12_number_19 : decode cX12_number 19 = .ok (.ifCond .ne 7, 3) := by decide +kernel
theorem dX12_number_22 : decode cX12_number 22 = .ok (.iconst 1, 1) := by decide +kernel
theorem dX12_number_23 : decode cX12_number 23 = .ok (.goto 4, 3) := by decide +kernel
theorem dX12_number_26 : decode cX12_number 26 = .ok (.iconst 0, 1) := by decide +kernel
theorem dX12_number_27 : decode cX12_number 27 = .ok (.putfield 86, 3) := by decide +kernel
theorem dX12_number_30 : decode cX12_number 30 = .ok (.iconst 0, 1) := by decide +kernel
theorem dX12_number_31 : decode cX12_number 31 = .ok (.istore_n 1, 1) := by decide +kernel
theorem dX12_number_32 : decode cX12_number 32 = .ok (.iconst 0, 1) := by decide +kernel
theorem dX12_number_33 : decode cX12_number 33 = .ok (.istore_n 2, 1) := by decide +kernel
theorem dX12_number_34 : decode cX12_number 34 = .ok (.iload_n 2, 1) := by decide +kernel
theorem dX12_number_35 : decode cX12_number 35 = .ok (.iconst 2, 1) := by decide +kernel
theorem dX12_number_36 : decode cX12_number 36 = .ok (.if_icmp .ge 61, 3) := by decide +kernel
theorem dX12_number_39 : decode cX12_number 39 = .ok (.aload_n 0, 1) := by decide +kernel
theorem dX12_number_40 : decode cX12_number 40 = .ok (.getfield 86, 3) := by decide +kernel
theorem dX12_number_43 : decode cX12_number 43 = .ok (.ifCond .ne 54, 3) := by decide +kernel
theorem dX12_number_46 : decode cX12_number 46 = .ok (.aload_n 0, 1) := by decide +kernel
theorem dX12_number_47 : decode cX12_number 47 = .ok (.invokevirtual 90, 3) := by decide +kernel
theorem dX12_number_50 : decode cX12_number 50 = .ok (.bipush 48, 2) := by decide +kernel
theorem dX12_number_52 : decode cX12_number 52 = .ok (.bipush 57, 2) := by decide +kernel
theorem dX12_number_54 : decode cX12_number 54 = .ok (.invokestatic 66, 3) := by decide +kernel
theorem dX12_number_57 : decode cX12_number 57 = .ok (.ifCond .eq 40, 3) := by decide +kernel
theorem dX12_number_60 : decode cX12_number 60 = .ok (.iload_n 2, 1) := by decide +kernel
theorem dX12_number_61 : decode cX12_number 61 = .ok (.ifCond .eq 7, 3) := by decide +kernel
theorem dX12_number_64 : decode cX12_number 64 = .ok (.iload_n 1, 1) := by decide +kernel
theorem dX12_number_65 : decode cX12_number 65 = .ok (.ifCond .le 32, 3) := by decide +kernel
theorem dX12_number_68 : decode cX12_number 68 = .ok (.bipush 10, 2) := by decide +kernel
theorem dX12_number_70 : decode cX12_number 70 = .ok (.iload_n 1, 1) := by decide +kernel
theorem dX12_number_71 : decode cX12_number 71 = .ok (.imul, 1) := by decide +kernel
theorem dX12_number_72 : decode cX12_number 72 = .ok (.aload_n 0, 1) := by decide +kernel
theorem dX12_number_73 : decode cX12_number 73 = .ok (.invokevirtual 90, 3) := by decide +kernel
theorem dX12_number_76 : decode cX12_number 76 = .ok (.iadd, 1) := by decide +kernel
theorem dX12_number_77 : decode cX12_number 77 = .ok (.bipush 48, 2) := by decide +kernel
theorem dX12_number_79 : decode cX12_number 79 = .ok (.isub, 1) := by decide +kernel
theorem dX12_number_80 : decode cX12_number 80 = .ok (.istore_n 1, 1) := by decide +kernel
theorem dX12_number_81 : decode cX12_number 81 = .ok (.aload_n 0, 1) := by decide +kernel
theorem dX12_number_82 : decode cX12_number 82 = .ok (.dup, 1) := by decide +kernel
theorem dX12_number_83 : decode cX12_number 83 = .ok (.getfield 80, 3) := by decide +kernel
theorem dX12_number_86 : decode cX12_number 86 = .ok (.iconst 1, 1) := by decide +kernel
theorem dX12_number_87 : decode cX12_number 87 = .ok (.iadd, 1) := by decide +kernel
theorem dX12_number_88 : decode cX12_number 88 = .ok (.putfield 80, 3) := by decide +kernel
theorem dX12_number_91 : decode cX12_number 91 = .ok (.iinc 2 1, 3) := by decide +kernel
theorem dX12_number_94 : decode cX12_number 94 = .ok (.goto (-60), 3) := by decide +kernel
theorem dX12_number_97 : decode cX12_number 97 = .ok (.iload_n 1, 1) := by decide +kernel
theorem dX12_number_98 : decode cX12_number 98 = .ok (.ireturn, 1) := by decide +kernel
theorem dX12_figure_0 : decode cX12_figure 0 = .ok (.aload_n 0, 1) := by decide +kernel
theorem dX12_figure_1 : decode cX12_figure 1 = .ok (.aload_n 0, 1) := by decide +kernel
theorem dX12_figure_2 : decode cX12_figure 2 = .ok (.getfield 86, 3) := by decide +kernel
theorem dX12_figure_5 : decode cX12_figure 5 = .ok (.ifCond .ne 19, 3) := by decide +kernel
theorem dX12_figure_8 : decode cX12_figure 8 = .ok (.aload_n 0, 1) := by decide +kernel
theorem dX12_figure_9 : decode cX12_figure 9 = .ok (.invokevirtual 90, 3) := by decide +kernel
theorem dX12_figure_12 : decode cX12_figure 12 = .ok (.bipush 48, 2) := by decide +kernel
theorem dX12_figure_14 : decode cX12_figure 14 = .ok (.iload_n 1, 1) := by decide +kernel
theorem dX12_figure_15 : decode cX12_figure 15 = .ok (.iadd, 1) := by decide +kernel
theorem dX12_figure_16 : decode cX12_figure 16 = .ok (.bipush 57, 2) := by decide +kernel
theorem dX12_figure_18 : decode cX12_figure 18 = .ok (.invokestatic 66, 3) := by decide +kernel
theorem dX12_figure_21 : decode cX12_figure 21 = .ok (.ifCond .ne 7, 3) := by decide +kernel
theorem dX12_figure_24 : decode cX12_figure 24 = .ok (.iconst 1, 1) := by decide +kernel
theorem dX12_figure_25 : decode cX12_figure 25 = .ok (.goto 4, 3) := by decide +kernel
theorem dX12_figure_28 : decode cX12_figure 28 = .ok (.iconst 0, 1) := by decide +kernel
theorem dX12_figure_29 : decode cX12_figure 29 = .ok (.putfield 86, 3) := by decide +kernel
theorem dX12_figure_32 : decode cX12_figure 32 = .ok (.aload_n 0, 1) := by decide +kernel
theorem dX12_figure_33 : decode cX12_figure 33 = .ok (.invokevirtual 90, 3) := by decide +kernel
theorem dX12_figure_36 : decode cX12_figure 36 = .ok (.bipush 48, 2) := by decide +kernel
theorem dX12_figure_38 : decode cX12_figure 38 = .ok (.isub, 1) := by decide +kernel
theorem dX12_figure_39 : decode cX12_figure 39 = .ok (.istore_n 2, 1) := by decide +kernel
theorem dX12_figure_40 : decode cX12_figure 40 = .ok (.aload_n 0, 1) := by decide +kernel
theorem dX12_figure_41 : decode cX12_figure 41 = .ok (.dup, 1) := by decide +kernel
theorem dX12_figure_42 : decode cX12_figure 42 = .ok (.getfield 80, 3) := by decide +kernel
theorem dX12_figure_45 : decode cX12_figure 45 = .ok (.aload_n 0, 1) := by decide +kernel
theorem dX12_figure_46 : decode cX12_figure 46 = .ok (.getfield 86, 3) := by decide +kernel
theorem dX12_figure_49 : decode cX12_figure 49 = .ok (.ifCond .eq 7, 3) := by decide +kernel
theorem dX12_figure_52 : decode cX12_figure 52 = .ok (.iconst 0, 1) := by decide +kernel
theorem dX12_figure_53 : decode cX12_figure 53 = .ok (.goto 4, 3) := by decide +kernel
theorem dX12_figure_56 : decode cX12_figure 56 = .ok (.iconst 1, 1) := by decide +kernel
theorem dX12_figure_57 : decode cX12_figure 57 = .ok (.iadd, 1) := by decide +kernel
theorem dX12_figure_58 : decode cX12_figure 58 = .ok (.putfield 80, 3) := by decide +kernel
theorem dX12_figure_61 : decode cX12_figure 61 = .ok (.iload_n 2, 1) := by decide +kernel
theorem dX12_figure_62 : decode cX12_figure 62 = .ok (.ireturn, 1) := by decide +kernel
theorem dX12_letter_0 : decode cX12_letter 0 = .ok (.aload_n 0, 1) := by decide +kernel
theorem dX12_letter_1 : decode cX12_letter 1 = .ok (.aload_n 0, 1) := by decide +kernel
theorem dX12_letter_2 : decode cX12_letter 2 = .ok (.getfield 86, 3) := by decide +kernel
theorem dX12_letter_5 : decode cX12_letter 5 = .ok (.ifCond .ne 17, 3) := by decide +kernel
theorem dX12_letter_8 : decode cX12_letter 8 = .ok (.aload_n 0, 1) := by decide +kernel
theorem dX12_letter_9 : decode cX12_letter 9 = .ok (.invokevirtual 90, 3) := by decide +kernel
theorem dX12_letter_12 : decode cX12_letter 12 = .ok (.bipush 97, 2) := by decide +kernel
theorem dX12_letter_14 : decode cX12_letter 14 = .ok (.bipush 122, 2) := by decide +kernel
theorem dX12_letter_16 : decode cX12_letter 16 = .ok (.invokestatic 66, 3) := by decide +kernel
theorem dX12_letter_19 : decode cX12_letter 19 = .ok (.ifCond .ne 7, 3) := by decide +kernel
theorem dX12_letter_22 : decode cX12_letter 22 = .ok (.iconst 1, 1) := by decide +kernel
theorem dX12_letter_23 : decode cX12_letter 23 = .ok (.goto 4, 3) := by decide +kernel
theorem dX12_letter_26 : decode cX12_letter 26 = .ok (.iconst 0, 1) := by decide +kernel
theorem dX12_letter_27 : decode cX12_letter 27 = .ok (.putfield 86, 3) := by decide +kernel
theorem dX12_letter_30 : decode cX12_letter 30 = .ok (.aload_n 0, 1) := by decide +kernel
theorem dX12_letter_31 : decode cX12_letter 31 = .ok (.invokevirtual 90, 3) := by decide +kernel
theorem dX12_letter_34 : decode cX12_letter 34 = .ok (.bipush 97, 2) := by decide +kernel
theorem dX12_letter_36 : decode cX12_letter 36 = .ok (.isub, 1) := by decide +kernel
theorem dX12_letter_37 : decode cX12_letter 37 = .ok (.istore_n 1, 1) := by decide +kernel
theorem dX12_letter_38 : decode cX12_letter 38 = .ok (.aload_n 0, 1) := by decide +kernel
theorem dX12_letter_39 : decode cX12_letter 39 = .ok (.dup, 1) := by decide +kernel
theorem dX12_letter_40 : decode cX12_letter 40 = .ok (.getfield 80, 3) := by decide +kernel
theorem dX12_letter_43 : decode cX12_letter 43 = .ok (.aload_n 0, 1) := by decide +kernel
theorem dX12_letter_44 : decode cX12_letter 44 = .ok (.getfield 86, 3) := by decide +kernel
theorem dX12_letter_47 : decode cX12_letter 47 = .ok (.ifCond .eq 7, 3) := by decide +kernel
theorem dX12_letter_50 : decode cX12_letter 50 = .ok (.iconst 0, 1) := by decide +kernel
theorem dX12_letter_51 : decode cX12_letter 51 = .ok (.goto 4, 3) := by decide +kernel
theorem dX12_letter_54 : decode cX12_letter 54 = .ok (.iconst 1, 1) := by decide +kernel
theorem dX12_letter_55 : decode cX12_letter 55 = .ok (.iadd, 1) := by decide +kernel
theorem dX12_letter_56 : decode cX12_letter 56 = .ok (.putfield 80, 3) := by decide +kernel
theorem dX12_letter_59 : decode cX12_letter 59 = .ok (.iload_n 1, 1) := by decide +kernel
theorem dX12_letter_60 : decode cX12_letter 60 = .ok (.ireturn, 1) := by decide +kernel
theorem dX12_letters_0 : decode cX12_letters 0 = .ok (.aload_n 0, 1) := by decide +kernel
theorem dX12_letters_1 : decode cX12_letters 1 = .ok (.invokevirtual 106, 3) := by decide +kernel
theorem dX12_letters_4 : decode cX12_letters 4 = .ok (.istore_n 1, 1) := by decide +kernel
theorem dX12_letters_5 : decode cX12_letters 5 = .ok (.aload_n 0, 1) := by decide +kernel
theorem dX12_letters_6 : decode cX12_letters 6 = .ok (.invokevirtual 106, 3) := by decide +kernel
theorem dX12_letters_9 : decode cX12_letters 9 = .ok (.istore_n 2, 1) := by decide +kernel
theorem dX12_letters_10 : decode cX12_letters 10 = .ok (.aload_n 0, 1) := by decide +kernel
theorem dX12_letters_11 : decode cX12_letters 11 = .ok (.getfield 86, 3) := by decide +kernel
theorem dX12_letters_14 : decode cX12_letters 14 = .ok (.ifCond .ne 24, 3) := by decide +kernel
theorem dX12_letters_17 : decode cX12_letters 17 = .ok (.aload_n 0, 1) := by decide +kernel
theorem dX12_letters_18 : decode cX12_letters 18 = .ok (.invokevirtual 90, 3) := by decide +kernel
theorem dX12_letters_21 : decode cX12_letters 21 = .ok (.bipush 97, 2) := by decide +kernel
theorem dX12_letters_23 : decode cX12_letters 23 = .ok (.bipush 122, 2) := by decide +kernel
theorem dX12_letters_25 : decode cX12_letters 25 = .ok (.invokestatic 66, 3) := by decide +kernel
theorem dX12_letters_28 : decode cX12_letters 28 = .ok (.ifCond .eq 10, 3) := by decide +kernel
theorem dX12_letters_31 : decode cX12_letters 31 = .ok (.aload_n 0, 1) := by decide +kernel
theorem dX12_letters_32 : decode cX12_letters 32 = .ok (.invokevirtual 106, 3) := by decide +kernel
theorem dX12_letters_35 : decode cX12_letters 35 = .ok (.goto 5, 3) := by decide +kernel
theorem dX12_letters_38 : decode cX12_letters 38 = .ok (.bipush 99, 2) := by decide +kernel
theorem dX12_letters_40 : decode cX12_letters 40 = .ok (.istore_n 3, 1) := by decide +kernel
theorem dX12_letters_41 : decode cX12_letters 41 = .ok (.sipush 10000, 3) := by decide +kernel
theorem dX12_letters_44 : decode cX12_letters 44 = .ok (.iload_n 1, 1) := by decide +kernel
theorem dX12_letters_45 : decode cX12_letters 45 = .ok (.imul, 1) := by decide +kernel
theorem dX12_letters_46 : decode cX12_letters 46 = .ok (.bipush 100, 2) := by decide +kernel
theorem dX12_letters_48 : decode cX12_letters 48 = .ok (.iload_n 2, 1) := by decide +kernel
theorem dX12_letters_49 : decode cX12_letters 49 = .ok (.imul, 1) := by decide +kernel
theorem dX12_letters_50 : decode cX12_letters 50 = .ok (.iadd, 1) := by decide +kernel
theorem dX12_letters_51 : decode cX12_letters 51 = .ok (.iload_n 3, 1) := by decide +kernel
theorem dX12_letters_52 : decode cX12_letters 52 = .ok (.iadd, 1) := by decide +kernel
theorem dX12_letters_53 : decode cX12_letters 53 = .ok (.ireturn, 1) := by decide +kernel
theorem dX12_word_0 : decode cX12_word 0 = .ok (.aload_n 0, 1) := by decide +kernel
theorem dX12_word_1 : decode cX12_word 1 = .ok (.invokevirtual 90, 3) := by decide +kernel
theorem dX12_word_4 : decode cX12_word 4 = .ok (.lookupswitch 164 #[(98, 96), (99, 131), (102, 60), (108, 139), (109, 147), (119, 155)], 60) := by decide +kernel
theorem dX12_word_64 : decode cX12_word 64 = .ok (.aload_n 0, 1) := by decide +kernel
theorem dX12_word_65 : decode cX12_word 65 = .ok (.dup, 1) := by decide +kernel
theorem dX12_word_66 : decode cX12_word 66 = .ok (.getfield 80, 3) := by decide +kernel
theorem dX12_word_69 : decode cX12_word 69 = .ok (.iconst 1, 1) := by decide +kernel
theorem dX12_word_70 : decode cX12_word 70 = .ok (.iadd, 1) := by decide +kernel
theorem dX12_word_71 : decode cX12_word 71 = .ok (.putfield 80, 3) := by decide +kernel
theorem dX12_word_74 : decode cX12_word 74 = .ok (.aload_n 0, 1) := by decide +kernel
theorem dX12_word_75 : decode cX12_word 75 = .ok (.invokevirtual 90, 3) := by decide +kernel
theorem dX12_word_78 : decode cX12_word 78 = .ok (.bipush 111, 2) := by decide +kernel
theorem dX12_word_80 : decode cX12_word 80 = .ok (.if_icmp .ne 11, 3) := by decide +kernel
theorem dX12_word_83 : decode cX12_word 83 = .ok (.aload_n 0, 1) := by decide +kernel
theorem dX12_word_84 : decode cX12_word 84 = .ok (.ldc 109, 2) := by decide +kernel
theorem dX12_word_86 : decode cX12_word 86 = .ok (.invokevirtual 111, 3) := by decide +kernel
theorem dX12_word_89 : decode cX12_word 89 = .ok (.iconst 0, 1) := by decide +kernel
theorem dX12_word_90 : decode cX12_word 90 = .ok (.ireturn, 1) := by decide +kernel
theorem dX12_word_91 : decode cX12_word 91 = .ok (.aload_n 0, 1) := by decide +kernel
theorem dX12_word_92 : decode cX12_word 92 = .ok (.ldc 115, 2) := by decide +kernel
theorem dX12_word_94 : decode cX12_word 94 = .ok (.invokevirtual 111, 3) := by decide +kernel
theorem dX12_word_97 : decode cX12_word 97 = .ok (.bipush 7, 2) := by decide +kernel
theorem dX12_word_99 : decode cX12_word 99 = .ok (.ireturn, 1) := by decide +kernel
theorem dX12_word_100 : decode cX12_word 100 = .ok (.aload_n 0, 1) := by decide +kernel
theorem dX12_word_101 : decode cX12_word 101 = .ok (.dup, 1) := by decide +kernel
theorem dX12_word_102 : decode cX12_word 102 = .ok (.getfield 80, 3) := by decide +kernel
theorem dX12_word_105 : decode cX12_word 105 = .ok (.iconst 1, 1) := by decide +kernel
theorem dX12_word_106 : decode cX12_word 106 = .ok (.iadd, 1) := by decide +kernel
theorem dX12_word_107 : decode cX12_word 107 = .ok (.putfield 80, 3) := by decide +kernel
theorem dX12_word_110 : decode cX12_word 110 = .ok (.aload_n 0, 1) := by decide +kernel
theorem dX12_word_111 : decode cX12_word 111 = .ok (.invokevirtual 90, 3) := by decide +kernel
theorem dX12_word_114 : decode cX12_word 114 = .ok (.bipush 97, 2) := by decide +kernel
theorem dX12_word_116 : decode cX12_word 116 = .ok (.if_icmp .ne 11, 3) := by decide +kernel
theorem dX12_word_119 : decode cX12_word 119 = .ok (.aload_n 0, 1) := by decide +kernel
theorem dX12_word_120 : decode cX12_word 120 = .ok (.ldc 117, 2) := by decide +kernel
theorem dX12_word_122 : decode cX12_word 122 = .ok (.invokevirtual 111, 3) := by decide +kernel
theorem dX12_word_125 : decode cX12_word 125 = .ok (.iconst 1, 1) := by decide +kernel
theorem dX12_word_126 : decode cX12_word 126 = .ok (.ireturn, 1) := by decide +kernel
theorem dX12_word_127 : decode cX12_word 127 = .ok (.aload_n 0, 1) := by decide +kernel
theorem dX12_word_128 : decode cX12_word 128 = .ok (.ldc 119, 2) := by decide +kernel
theorem dX12_word_130 : decode cX12_word 130 = .ok (.invokevirtual 111, 3) := by decide +kernel
theorem dX12_word_133 : decode cX12_word 133 = .ok (.iconst 5, 1) := by decide +kernel
theorem dX12_word_134 : decode cX12_word 134 = .ok (.ireturn, 1) := by decide +kernel
theorem dX12_word_135 : decode cX12_word 135 = .ok (.aload_n 0, 1) := by decide +kernel
theorem dX12_word_136 : decode cX12_word 136 = .ok (.ldc 121, 2) := by decide +kernel
theorem dX12_word_138 : decode cX12_word 138 = .ok (.invokevirtual 111, 3) := by decide +kernel
theorem dX12_word_141 : decode cX12_word 141 = .ok (.iconst 2, 1) := by decide +kernel
theorem dX12_word_142 : decode cX12_word 142 = .ok (.ireturn, 1) := by decide +kernel
theorem dX12_word_143 : decode cX12_word 143 = .ok (.aload_n 0, 1) := by decide +kernel
theorem dX12_word_144 : decode cX12_word 144 = .ok (.ldc 123, 2) := by decide +kernel
theorem dX12_word_146 : decode cX12_word 146 = .ok (.invokevirtual 111, 3) := by decide +kernel
theorem dX12_word_149 : decode cX12_word 149 = .ok (.iconst 3, 1) := by decide +kernel
theorem dX12_word_150 : decode cX12_word 150 = .ok (.ireturn, 1) := by decide +kernel
theorem dX12_word_151 : decode cX12_word 151 = .ok (.aload_n 0, 1) := by decide +kernel
theorem dX12_word_152 : decode cX12_word 152 = .ok (.ldc 125, 2) := by decide +kernel
theorem dX12_word_154 : decode cX12_word 154 = .ok (.invokevirtual 111, 3) := by decide +kernel
theorem dX12_word_157 : decode cX12_word 157 = .ok (.iconst 4, 1) := by decide +kernel
theorem dX12_word_158 : decode cX12_word 158 = .ok (.ireturn, 1) := by decide +kernel
theorem dX12_word_159 : decode cX12_word 159 = .ok (.aload_n 0, 1) := by decide +kernel
theorem dX12_word_160 : decode cX12_word 160 = .ok (.ldc 127, 2) := by decide +kernel
theorem dX12_word_162 : decode cX12_word 162 = .ok (.invokevirtual 111, 3) := by decide +kernel
theorem dX12_word_165 : decode cX12_word 165 = .ok (.bipush 6, 2) := by decide +kernel
theorem dX12_word_167 : decode cX12_word 167 = .ok (.ireturn, 1) := by decide +kernel
theorem dX12_word_168 : decode cX12_word 168 = .ok (.aload_n 0, 1) := by decide +kernel
theorem dX12_word_169 : decode cX12_word 169 = .ok (.iconst 1, 1) := by decide +kernel
theorem dX12_word_170 : decode cX12_word 170 = .ok (.putfield 86, 3) := by decide +kernel
theorem dX12_word_173 : decode cX12_word 173 = .ok (.iconst 0, 1) := by decide +kernel
theorem dX12_word_174 : decode cX12_word 174 = .ok (.ireturn, 1) := by decide +kernel
theorem dX12_reads_0 : decode cX12_reads 0 = .ok (.bipush 8, 2) := by decide +kernel
theorem dX12_reads_2 : decode cX12_reads 2 = .ok (.iload_n 1, 1) := by decide +kernel
theorem dX12_reads_3 : decode cX12_reads 3 = .ok (.imul, 1) := by decide +kernel
theorem dX12_reads_4 : decode cX12_reads 4 = .ok (.aload_n 0, 1) := by decide +kernel
theorem dX12_reads_5 : decode cX12_reads 5 = .ok (.getfield 7, 3) := by decide +kernel
theorem dX12_reads_8 : decode cX12_reads 8 = .ok (.sipush 1330, 3) := by decide +kernel
theorem dX12_reads_11 : decode cX12_reads 11 = .ok (.iload_n 1, 1) := by decide +kernel
theorem dX12_reads_12 : decode cX12_reads 12 = .ok (.iadd, 1) := by decide +kernel
theorem dX12_reads_13 : decode cX12_reads 13 = .ok (.iaload, 1) := by decide +kernel
theorem dX12_reads_14 : decode cX12_reads 14 = .ok (.iadd, 1) := by decide +kernel
theorem dX12_reads_15 : decode cX12_reads 15 = .ok (.istore_n 2, 1) := by decide +kernel
theorem dX12_reads_16 : decode cX12_reads 16 = .ok (.aload_n 0, 1) := by decide +kernel
theorem dX12_reads_17 : decode cX12_reads 17 = .ok (.invokevirtual 129, 3) := by decide +kernel
theorem dX12_reads_20 : decode cX12_reads 20 = .ok (.istore_n 3, 1) := by decide +kernel
theorem dX12_reads_21 : decode cX12_reads 21 = .ok (.aload_n 0, 1) := by decide +kernel
theorem dX12_reads_22 : decode cX12_reads 22 = .ok (.getfield 7, 3) := by decide +kernel
theorem dX12_reads_25 : decode cX12_reads 25 = .ok (.sipush 1340, 3) := by decide +kernel
theorem dX12_reads_28 : decode cX12_reads 28 = .ok (.iload_n 2, 1) := by decide +kernel
theorem dX12_reads_29 : decode cX12_reads 29 = .ok (.iadd, 1) := by decide +kernel
theorem dX12_reads_30 : decode cX12_reads 30 = .ok (.iload_n 3, 1) := by decide +kernel
theorem dX12_reads_31 : decode cX12_reads 31 = .ok (.iastore, 1) := by decide +kernel
theorem dX12_reads_32 : decode cX12_reads 32 = .ok (.aload_n 0, 1) := by decide +kernel
theorem dX12_reads_33 : decode cX12_reads 33 = .ok (.getfield 7, 3) := by decide +kernel
theorem dX12_reads_36 : decode cX12_reads 36 = .ok (.sipush 1420, 3) := by decide +kernel
theorem dX12_reads_39 : decode cX12_reads 39 = .ok (.iload_n 2, 1) := by decide +kernel
theorem dX12_reads_40 : decode cX12_reads 40 = .ok (.iadd, 1) := by decide +kernel
theorem dX12_reads_41 : decode cX12_reads 41 = .ok (.iload_n 3, 1) := by decide +kernel
theorem dX12_reads_42 : decode cX12_reads 42 = .ok (.ifCond .eq 8, 3) := by decide +kernel
theorem dX12_reads_45 : decode cX12_reads 45 = .ok (.iload_n 3, 1) := by decide +kernel
theorem dX12_reads_46 : decode cX12_reads 46 = .ok (.iconst 1, 1) := by decide +kernel
theorem dX12_reads_47 : decode cX12_reads 47 = .ok (.if_icmp .ne 10, 3) := by decide +kernel
theorem dX12_reads_50 : decode cX12_reads 50 = .ok (.aload_n 0, 1) := by decide +kernel
theorem dX12_reads_51 : decode cX12_reads 51 = .ok (.invokevirtual 132, 3) := by decide +kernel
theorem dX12_reads_54 : decode cX12_reads 54 = .ok (.goto 4, 3) := by decide +kernel
theorem dX12_reads_57 : decode cX12_reads 57 = .ok (.iconst 0, 1) := by decide +kernel
theorem dX12_reads_58 : decode cX12_reads 58 = .ok (.iastore, 1) := by decide +kernel
theorem dX12_reads_59 : decode cX12_reads 59 = .ok (.iload_n 3, 1) := by decide +kernel
theorem dX12_reads_60 : decode cX12_reads 60 = .ok (.ifCond .ne 48, 3) := by decide +kernel
theorem dX12_reads_63 : decode cX12_reads 63 = .ok (.aload_n 0, 1) := by decide +kernel
theorem dX12_reads_64 : decode cX12_reads 64 = .ok (.bipush 32, 2) := by decide +kernel
theorem dX12_reads_66 : decode cX12_reads 66 = .ok (.invokevirtual 102, 3) := by decide +kernel
theorem dX12_reads_69 : decode cX12_reads 69 = .ok (.aload_n 0, 1) := by decide +kernel
theorem dX12_reads_70 : decode cX12_reads 70 = .ok (.getfield 7, 3) := by decide +kernel
theorem dX12_reads_73 : decode cX12_reads 73 = .ok (.sipush 1500, 3) := by decide +kernel
theorem dX12_reads_76 : decode cX12_reads 76 = .ok (.iload_n 2, 1) := by decide +kernel
theorem dX12_reads_77 : decode cX12_reads 77 = .ok (.iadd, 1) := by decide +kernel
theorem dX12_reads_78 : decode cX12_reads 78 = .ok (.aload_n 0, 1) := by decide +kernel
theorem dX12_reads_79 : decode cX12_reads 79 = .ok (.iconst 1, 1) := by decide +kernel
theorem dX12_reads_80 : decode cX12_reads 80 = .ok (.invokevirtual 135, 3) := by decide +kernel
theorem dX12_reads_83 : decode cX12_reads 83 = .ok (.iastore, 1) := by decide +kernel
theorem dX12_reads_84 : decode cX12_reads 84 = .ok (.aload_n 0, 1) := by decide +kernel
theorem dX12_reads_85 : decode cX12_reads 85 = .ok (.bipush 32, 2) := by decide +kernel
theorem dX12_reads_87 : decode cX12_reads 87 = .ok (.invokevirtual 102, 3) := by decide +kernel
theorem dX12_reads_90 : decode cX12_reads 90 = .ok (.aload_n 0, 1) := by decide +kernel
theorem dX12_reads_91 : decode cX12_reads 91 = .ok (.getfield 7, 3) := by decide +kernel
theorem dX12_reads_94 : decode cX12_reads 94 = .ok (.sipush 1580, 3) := by decide +kernel
theorem dX12_reads_97 : decode cX12_reads 97 = .ok (.iload_n 2, 1) := by decide +kernel
theorem dX12_reads_98 : decode cX12_reads 98 = .ok (.iadd, 1) := by decide +kernel
theorem dX12_reads_99 : decode cX12_reads 99 = .ok (.aload_n 0, 1) := by decide +kernel
theorem dX12_reads_100 : decode cX12_reads 100 = .ok (.iconst 0, 1) := by decide +kernel
theorem dX12_reads_101 : decode cX12_reads 101 = .ok (.invokevirtual 135, 3) := by decide +kernel
theorem dX12_reads_104 : decode cX12_reads 104 = .ok (.iastore, 1) := by decide +kernel
theorem dX12_reads_105 : decode cX12_reads 105 = .ok (.goto 41, 3) := by decide +kernel
theorem dX12_reads_108 : decode cX12_reads 108 = .ok (.iload_n 3, 1) := by decide +kernel
theorem dX12_reads_109 : decode cX12_reads 109 = .ok (.iconst 1, 1) := by decide +kernel
theorem dX12_reads_110 : decode cX12_reads 110 = .ok (.if_icmp .eq 36, 3) := by decide +kernel
theorem dX12_reads_113 : decode cX12_reads 113 = .ok (.aload_n 0, 1) := by decide +kernel
theorem dX12_reads_114 : decode cX12_reads 114 = .ok (.getfield 7, 3) := by decide +kernel
theorem dX12_reads_117 : decode cX12_reads 117 = .ok (.sipush 1500, 3) := by decide +kernel
theorem dX12_reads_120 : decode cX12_reads 120 = .ok (.iload_n 2, 1) := by decide +kernel
theorem dX12_reads_121 : decode cX12_reads 121 = .ok (.iadd, 1) := by decide +kernel
theorem dX12_reads_122 : decode cX12_reads 122 = .ok (.iload_n 3, 1) := by decide +kernel
theorem dX12_reads_123 : decode cX12_reads 123 = .ok (.iconst 5, 1) := by decide +kernel
theorem dX12_reads_124 : decode cX12_reads 124 = .ok (.if_icmp .eq 9, 3) := by decide +kernel
theorem dX12_reads_127 : decode cX12_reads 127 = .ok (.iload_n 3, 1) := by decide +kernel
theorem dX12_reads_128 : decode cX12_reads 128 = .ok (.bipush 6, 2) := by decide +kernel
theorem dX12_reads_130 : decode cX12_reads 130 = .ok (.if_icmp .ne 11, 3) := by decide +kernel
theorem dX12_reads_133 : decode cX12_reads 133 = .ok (.aload_n 0, 1) := by decide +kernel
theorem dX12_reads_134 : decode cX12_reads 134 = .ok (.iconst 0, 1) := by decide +kernel
theorem dX12_reads_135 : decode cX12_reads 135 = .ok (.invokevirtual 135, 3) := by decide +kernel
theorem dX12_reads_138 : decode cX12_reads 138 = .ok (.goto 7, 3) := by decide +kernel
theorem dX12_reads_141 : decode cX12_reads 141 = .ok (.aload_n 0, 1) := by decide +kernel
theorem dX12_reads_142 : decode cX12_reads 142 = .ok (.invokevirtual 139, 3) := by decide +kernel
theorem dX12_reads_145 : decode cX12_reads 145 = .ok (.iastore, 1) := by decide +kernel
theorem dX12_reads_146 : decode cX12_reads 146 = .ok (.aload_n 0, 1) := by decide +kernel
theorem dX12_reads_147 : decode cX12_reads 147 = .ok (.getfield 7, 3) := by decide +kernel
theorem dX12_reads_150 : decode cX12_reads 150 = .ok (.sipush 1330, 3) := by decide +kernel
theorem dX12_reads_153 : decode cX12_reads 153 = .ok (.iload_n 1, 1) := by decide +kernel
theorem dX12_reads_154 : decode cX12_reads 154 = .ok (.iadd, 1) := by decide +kernel
theorem dX12_reads_155 : decode cX12_reads 155 = .ok (.dup2, 1) := by decide +kernel
theorem dX12_reads_156 : decode cX12_reads 156 = .ok (.iaload, 1) := by decide +kernel
theorem dX12_reads_157 : decode cX12_reads 157 = .ok (.aload_n 0, 1) := by decide +kernel
theorem dX12_reads_158 : decode cX12_reads 158 = .ok (.getfield 86, 3) := by decide +kernel
theorem dX12_reads_161 : decode cX12_reads 161 = .ok (.ifCond .eq 7, 3) := by decide +kernel
theorem dX12_reads_164 : decode cX12_reads 164 = .ok (.iconst 0, 1) := by decide +kernel
theorem dX12_reads_165 : decode cX12_reads 165 = .ok (.goto 4, 3) := by decide +kernel
theorem dX12_reads_168 : decode cX12_reads 168 = .ok (.iconst 1, 1) := by decide +kernel
theorem dX12_reads_169 : decode cX12_reads 169 = .ok (.iadd, 1) := by decide +kernel
theorem dX12_reads_170 : decode cX12_reads 170 = .ok (.iastore, 1) := by decide +kernel
theorem dX12_reads_171 : decode cX12_reads 171 = .ok (.return_, 1) := by decide +kernel
theorem dX12_readsWay_0 : decode cX12_readsWay 0 = .ok (.aload_n 0, 1) := by decide +kernel
theorem dX12_readsWay_1 : decode cX12_readsWay 1 = .ok (.getfield 7, 3) := by decide +kernel
theorem dX12_readsWay_4 : decode cX12_readsWay 4 = .ok (.sipush 230, 3) := by decide +kernel
theorem dX12_readsWay_7 : decode cX12_readsWay 7 = .ok (.iload_n 1, 1) := by decide +kernel
theorem dX12_readsWay_8 : decode cX12_readsWay 8 = .ok (.iadd, 1) := by decide +kernel
theorem dX12_readsWay_9 : decode cX12_readsWay 9 = .ok (.iload_n 2, 1) := by decide +kernel
theorem dX12_readsWay_10 : decode cX12_readsWay 10 = .ok (.iastore, 1) := by decide +kernel
theorem dX12_readsWay_11 : decode cX12_readsWay 11 = .ok (.aload_n 0, 1) := by decide +kernel
theorem dX12_readsWay_12 : decode cX12_readsWay 12 = .ok (.getfield 7, 3) := by decide +kernel
theorem dX12_readsWay_15 : decode cX12_readsWay 15 = .ok (.sipush 240, 3) := by decide +kernel
theorem dX12_readsWay_18 : decode cX12_readsWay 18 = .ok (.iload_n 1, 1) := by decide +kernel
theorem dX12_readsWay_19 : decode cX12_readsWay 19 = .ok (.iadd, 1) := by decide +kernel
theorem dX12_readsWay_20 : decode cX12_readsWay 20 = .ok (.aload_n 0, 1) := by decide +kernel
theorem dX12_readsWay_21 : decode cX12_readsWay 21 = .ok (.getfield 7, 3) := by decide +kernel
theorem dX12_readsWay_24 : decode cX12_readsWay 24 = .ok (.bipush 9, 2) := by decide +kernel
theorem dX12_readsWay_26 : decode cX12_readsWay 26 = .ok (.iaload, 1) := by decide +kernel
theorem dX12_readsWay_27 : decode cX12_readsWay 27 = .ok (.iastore, 1) := by decide +kernel
theorem dX12_readsWay_28 : decode cX12_readsWay 28 = .ok (.iconst 0, 1) := by decide +kernel
theorem dX12_readsWay_29 : decode cX12_readsWay 29 = .ok (.istore_n 3, 1) := by decide +kernel
theorem dX12_readsWay_30 : decode cX12_readsWay 30 = .ok (.iload_n 3, 1) := by decide +kernel
theorem dX12_readsWay_31 : decode cX12_readsWay 31 = .ok (.aload_n 0, 1) := by decide +kernel
theorem dX12_readsWay_32 : decode cX12_readsWay 32 = .ok (.getfield 7, 3) := by decide +kernel
theorem dX12_readsWay_35 : decode cX12_readsWay 35 = .ok (.bipush 9, 2) := by decide +kernel
theorem dX12_readsWay_37 : decode cX12_readsWay 37 = .ok (.iaload, 1) := by decide +kernel
theorem dX12_readsWay_38 : decode cX12_readsWay 38 = .ok (.if_icmp .ge 33, 3) := by decide +kernel
theorem dX12_readsWay_41 : decode cX12_readsWay 41 = .ok (.aload_n 0, 1) := by decide +kernel
theorem dX12_readsWay_42 : decode cX12_readsWay 42 = .ok (.getfield 7, 3) := by decide +kernel
theorem dX12_readsWay_45 : decode cX12_readsWay 45 = .ok (.sipush 250, 3) := by decide +kernel
theorem dX12_readsWay_48 : decode cX12_readsWay 48 = .ok (.bipush 120, 2) := by decide +kernel
theorem dX12_readsWay_50 : decode cX12_readsWay 50 = .ok (.iload_n 1, 1) := by decide +kernel
theorem dX12_readsWay_51 : decode cX12_readsWay 51 = .ok (.imul, 1) := by decide +kernel
theorem dX12_readsWay_52 : decode cX12_readsWay 52 = .ok (.iadd, 1) := by decide +kernel
theorem dX12_readsWay_53 : decode cX12_readsWay 53 = .ok (.iload_n 3, 1) := by decide +kernel
theorem dX12_readsWay_54 : decode cX12_readsWay 54 = .ok (.iadd, 1) := by decide +kernel
theorem dX12_readsWay_55 : decode cX12_readsWay 55 = .ok (.aload_n 0, 1) := by decide +kernel
theorem dX12_readsWay_56 : decode cX12_readsWay 56 = .ok (.getfield 7, 3) := by decide +kernel
theorem dX12_readsWay_59 : decode cX12_readsWay 59 = .ok (.bipush 110, 2) := by decide +kernel
theorem dX12_readsWay_61 : decode cX12_readsWay 61 = .ok (.iload_n 3, 1) := by decide +kernel
theorem dX12_readsWay_62 : decode cX12_readsWay 62 = .ok (.iadd, 1) := by decide +kernel
theorem dX12_readsWay_63 : decode cX12_readsWay 63 = .ok (.iaload, 1) := by decide +kernel
theorem dX12_readsWay_64 : decode cX12_readsWay 64 = .ok (.iastore, 1) := by decide +kernel
theorem dX12_readsWay_65 : decode cX12_readsWay 65 = .ok (.iinc 3 1, 3) := by decide +kernel
theorem dX12_readsWay_68 : decode cX12_readsWay 68 = .ok (.goto (-38), 3) := by decide +kernel
theorem dX12_readsWay_71 : decode cX12_readsWay 71 = .ok (.aload_n 0, 1) := by decide +kernel
theorem dX12_readsWay_72 : decode cX12_readsWay 72 = .ok (.getfield 7, 3) := by decide +kernel
theorem dX12_readsWay_75 : decode cX12_readsWay 75 = .ok (.bipush 9, 2) := by decide +kernel
theorem dX12_readsWay_77 : decode cX12_readsWay 77 = .ok (.iconst 0, 1) := by decide +kernel
theorem dX12_readsWay_78 : decode cX12_readsWay 78 = .ok (.iastore, 1) := by decide +kernel
theorem dX12_readsWay_79 : decode cX12_readsWay 79 = .ok (.aload_n 0, 1) := by decide +kernel
theorem dX12_readsWay_80 : decode cX12_readsWay 80 = .ok (.getfield 7, 3) := by decide +kernel
theorem dX12_readsWay_83 : decode cX12_readsWay 83 = .ok (.sipush 1330, 3) := by decide +kernel
theorem dX12_readsWay_86 : decode cX12_readsWay 86 = .ok (.iload_n 1, 1) := by decide +kernel
theorem dX12_readsWay_87 : decode cX12_readsWay 87 = .ok (.iadd, 1) := by decide +kernel
theorem dX12_readsWay_88 : decode cX12_readsWay 88 = .ok (.iconst 0, 1) := by decide +kernel
theorem dX12_readsWay_89 : decode cX12_readsWay 89 = .ok (.iastore, 1) := by decide +kernel
theorem dX12_readsWay_90 : decode cX12_readsWay 90 = .ok (.aload_n 0, 1) := by decide +kernel
theorem dX12_readsWay_91 : decode cX12_readsWay 91 = .ok (.iload_n 1, 1) := by decide +kernel
theorem dX12_readsWay_92 : decode cX12_readsWay 92 = .ok (.putfield 83, 3) := by decide +kernel
theorem dX12_readsWay_95 : decode cX12_readsWay 95 = .ok (.aload_n 0, 1) := by decide +kernel
theorem dX12_readsWay_96 : decode cX12_readsWay 96 = .ok (.iconst 0, 1) := by decide +kernel
theorem dX12_readsWay_97 : decode cX12_readsWay 97 = .ok (.putfield 80, 3) := by decide +kernel
theorem dX12_readsWay_100 : decode cX12_readsWay 100 = .ok (.aload_n 0, 1) := by decide +kernel
theorem dX12_readsWay_101 : decode cX12_readsWay 101 = .ok (.iconst 0, 1) := by decide +kernel
theorem dX12_readsWay_102 : decode cX12_readsWay 102 = .ok (.putfield 86, 3) := by decide +kernel
theorem dX12_readsWay_105 : decode cX12_readsWay 105 = .ok (.aload_n 0, 1) := by decide +kernel
theorem dX12_readsWay_106 : decode cX12_readsWay 106 = .ok (.iload_n 1, 1) := by decide +kernel
theorem dX12_readsWay_107 : decode cX12_readsWay 107 = .ok (.invokevirtual 142, 3) := by decide +kernel
theorem dX12_readsWay_110 : decode cX12_readsWay 110 = .ok (.aload_n 0, 1) := by decide +kernel
theorem dX12_readsWay_111 : decode cX12_readsWay 111 = .ok (.getfield 86, 3) := by decide +kernel
theorem dX12_readsWay_114 : decode cX12_readsWay 114 = .ok (.ifCond .ne 45, 3) := by decide +kernel
theorem dX12_readsWay_117 : decode cX12_readsWay 117 = .ok (.aload_n 0, 1) := by decide +kernel
theorem dX12_readsWay_118 : decode cX12_readsWay 118 = .ok (.getfield 7, 3) := by decide +kernel
theorem dX12_readsWay_121 : decode cX12_readsWay 121 = .ok (.sipush 1330, 3) := by decide +kernel
theorem dX12_readsWay_124 : decode cX12_readsWay 124 = .ok (.iload_n 1, 1) := by decide +kernel
theorem dX12_readsWay_125 : decode cX12_readsWay 125 = .ok (.iadd, 1) := by decide +kernel
theorem dX12_readsWay_126 : decode cX12_readsWay 126 = .ok (.iaload, 1) := by decide +kernel
theorem dX12_readsWay_127 : decode cX12_readsWay 127 = .ok (.bipush 8, 2) := by decide +kernel
theorem dX12_readsWay_129 : decode cX12_readsWay 129 = .ok (.if_icmp .ge 30, 3) := by decide +kernel
theorem dX12_readsWay_132 : decode cX12_readsWay 132 = .ok (.aload_n 0, 1) := by decide +kernel
theorem dX12_readsWay_133 : decode cX12_readsWay 133 = .ok (.invokevirtual 90, 3) := by decide +kernel
theorem dX12_readsWay_136 : decode cX12_readsWay 136 = .ok (.bipush 59, 2) := by decide +kernel
theorem dX12_readsWay_138 : decode cX12_readsWay 138 = .ok (.if_icmp .ne 21, 3) := by decide +kernel
theorem dX12_readsWay_141 : decode cX12_readsWay 141 = .ok (.aload_n 0, 1) := by decide +kernel
theorem dX12_readsWay_142 : decode cX12_readsWay 142 = .ok (.dup, 1) := by decide +kernel
theorem dX12_readsWay_143 : decode cX12_readsWay 143 = .ok (.getfield 80, 3) := by decide +kernel
theorem dX12_readsWay_146 : decode cX12_readsWay 146 = .ok (.iconst 1, 1) := by decide +kernel
theorem dX12_readsWay_147 : decode cX12_readsWay 147 = .ok (.iadd, 1) := by decide +kernel
theorem dX12_readsWay_148 : decode cX12_readsWay 148 = .ok (.putfield 80, 3) := by decide +kernel
theorem dX12_readsWay_151 : decode cX12_readsWay 151 = .ok (.aload_n 0, 1) := by decide +kernel
theorem dX12_readsWay_152 : decode cX12_readsWay 152 = .ok (.iload_n 1, 1) := by decide +kernel
theorem dX12_readsWay_153 : decode cX12_readsWay 153 = .ok (.invokevirtual 142, 3) := by decide +kernel
theorem dX12_readsWay_156 : decode cX12_readsWay 156 = .ok (.goto (-46), 3) := by decide +kernel
theorem dX12_readsWay_159 : decode cX12_readsWay 159 = .ok (.aload_n 0, 1) := by decide +kernel
theorem dX12_readsWay_160 : decode cX12_readsWay 160 = .ok (.aload_n 0, 1) := by decide +kernel
theorem dX12_readsWay_161 : decode cX12_readsWay 161 = .ok (.getfield 86, 3) := by decide +kernel
theorem dX12_readsWay_164 : decode cX12_readsWay 164 = .ok (.ifCond .ne 20, 3) := by decide +kernel
theorem dX12_readsWay_167 : decode cX12_readsWay 167 = .ok (.aload_n 0, 1) := by decide +kernel
theorem dX12_readsWay_168 : decode cX12_readsWay 168 = .ok (.getfield 80, 3) := by decide +kernel
theorem dX12_readsWay_171 : decode cX12_readsWay 171 = .ok (.aload_n 0, 1) := by decide +kernel
theorem dX12_readsWay_172 : decode cX12_readsWay 172 = .ok (.getfield 7, 3) := by decide +kernel
theorem dX12_readsWay_175 : decode cX12_readsWay 175 = .ok (.sipush 240, 3) := by decide +kernel
theorem dX12_readsWay_178 : decode cX12_readsWay 178 = .ok (.iload_n 1, 1) := by decide +kernel
theorem dX12_readsWay_179 : decode cX12_readsWay 179 = .ok (.iadd, 1) := by decide +kernel
theorem dX12_readsWay_180 : decode cX12_readsWay 180 = .ok (.iaload, 1) := by decide +kernel
theorem dX12_readsWay_181 : decode cX12_readsWay 181 = .ok (.if_icmp .eq 7, 3) := by decide +kernel
theorem dX12_readsWay_184 : decode cX12_readsWay 184 = .ok (.iconst 1, 1) := by decide +kernel
theorem dX12_readsWay_185 : decode cX12_readsWay 185 = .ok (.goto 4, 3) := by decide +kernel
theorem dX12_readsWay_188 : decode cX12_readsWay 188 = .ok (.iconst 0, 1) := by decide +kernel
theorem dX12_readsWay_189 : decode cX12_readsWay 189 = .ok (.putfield 86, 3) := by decide +kernel
theorem dX12_readsWay_192 : decode cX12_readsWay 192 = .ok (.aload_n 0, 1) := by decide +kernel
theorem dX12_readsWay_193 : decode cX12_readsWay 193 = .ok (.getfield 86, 3) := by decide +kernel
theorem dX12_readsWay_196 : decode cX12_readsWay 196 = .ok (.ifCond .ne 7, 3) := by decide +kernel
theorem dX12_readsWay_199 : decode cX12_readsWay 199 = .ok (.iconst 1, 1) := by decide +kernel
theorem dX12_readsWay_200 : decode cX12_readsWay 200 = .ok (.goto 4, 3) := by decide +kernel
theorem dX12_readsWay_203 : decode cX12_readsWay 203 = .ok (.iconst 0, 1) := by decide +kernel
theorem dX12_readsWay_204 : decode cX12_readsWay 204 = .ok (.ireturn, 1) := by decide +kernel
theorem dX12_text_0 : decode cX12_text 0 = .ok (.iload_n 1, 1) := by decide +kernel
theorem dX12_text_1 : decode cX12_text 1 = .ok (.invokestatic 145, 3) := by decide +kernel
theorem dX12_text_4 : decode cX12_text 4 = .ok (.ifCond .ne 6, 3) := by decide +kernel
theorem dX12_text_7 : decode cX12_text 7 = .ok (.bipush (-2), 2) := by decide +kernel
theorem dX12_text_9 : decode cX12_text 9 = .ok (.ireturn, 1) := by decide +kernel
theorem dX12_text_10 : decode cX12_text 10 = .ok (.aload_n 0, 1) := by decide +kernel
theorem dX12_text_11 : decode cX12_text 11 = .ok (.getfield 7, 3) := by decide +kernel
theorem dX12_text_14 : decode cX12_text 14 = .ok (.iconst 1, 1) := by decide +kernel
theorem dX12_text_15 : decode cX12_text 15 = .ok (.iaload, 1) := by decide +kernel
theorem dX12_text_16 : decode cX12_text 16 = .ok (.bipush 8, 2) := by decide +kernel
theorem dX12_text_18 : decode cX12_text 18 = .ok (.if_icmp .ne 6, 3) := by decide +kernel
theorem dX12_text_21 : decode cX12_text 21 = .ok (.bipush (-4), 2) := by decide +kernel
theorem dX12_text_23 : decode cX12_text 23 = .ok (.ireturn, 1) := by decide +kernel
theorem dX12_text_24 : decode cX12_text 24 = .ok (.aload_n 0, 1) := by decide +kernel
theorem dX12_text_25 : decode cX12_text 25 = .ok (.aload_n 0, 1) := by decide +kernel
theorem dX12_text_26 : decode cX12_text 26 = .ok (.getfield 7, 3) := by decide +kernel
theorem dX12_text_29 : decode cX12_text 29 = .ok (.iconst 1, 1) := by decide +kernel
theorem dX12_text_30 : decode cX12_text 30 = .ok (.iaload, 1) := by decide +kernel
theorem dX12_text_31 : decode cX12_text 31 = .ok (.iload_n 1, 1) := by decide +kernel
theorem dX12_text_32 : decode cX12_text 32 = .ok (.invokevirtual 148, 3) := by decide +kernel
theorem dX12_text_35 : decode cX12_text 35 = .ok (.ifCond .ne 11, 3) := by decide +kernel
theorem dX12_text_38 : decode cX12_text 38 = .ok (.bipush (-10), 2) := by decide +kernel
theorem dX12_text_40 : decode cX12_text 40 = .ok (.aload_n 0, 1) := by decide +kernel
theorem dX12_text_41 : decode cX12_text 41 = .ok (.getfield 80, 3) := by decide +kernel
theorem dX12_text_44 : decode cX12_text 44 = .ok (.isub, 1) := by decide +kernel
theorem dX12_text_45 : decode cX12_text 45 = .ok (.ireturn, 1) := by decide +kernel
theorem dX12_text_46 : decode cX12_text 46 = .ok (.aload_n 0, 1) := by decide +kernel
theorem dX12_text_47 : decode cX12_text 47 = .ok (.getfield 7, 3) := by decide +kernel
theorem dX12_text_50 : decode cX12_text 50 = .ok (.iconst 1, 1) := by decide +kernel
theorem dX12_text_51 : decode cX12_text 51 = .ok (.dup2, 1) := by decide +kernel
theorem dX12_text_52 : decode cX12_text 52 = .ok (.iaload, 1) := by decide +kernel
theorem dX12_text_53 : decode cX12_text 53 = .ok (.iconst 1, 1) := by decide +kernel
theorem dX12_text_54 : decode cX12_text 54 = .ok (.iadd, 1) := by decide +kernel
theorem dX12_text_55 : decode cX12_text 55 = .ok (.iastore, 1) := by decide +kernel
theorem dX12_text_56 : decode cX12_text 56 = .ok (.aload_n 0, 1) := by decide +kernel
theorem dX12_text_57 : decode cX12_text 57 = .ok (.getfield 7, 3) := by decide +kernel
theorem dX12_text_60 : decode cX12_text 60 = .ok (.iconst 1, 1) := by decide +kernel
theorem dX12_text_61 : decode cX12_text 61 = .ok (.iaload, 1) := by decide +kernel
theorem dX12_text_62 : decode cX12_text 62 = .ok (.iconst 1, 1) := by decide +kernel
theorem dX12_text_63 : decode cX12_text 63 = .ok (.isub, 1) := by decide +kernel
theorem dX12_text_64 : decode cX12_text 64 = .ok (.ireturn, 1) := by decide +kernel
theorem dX12_forgets_0 : decode cX12_forgets 0 = .ok (.iconst 0, 1) := by decide +kernel
theorem dX12_forgets_1 : decode cX12_forgets 1 = .ok (.istore_n 2, 1) := by decide +kernel
theorem dX12_forgets_2 : decode cX12_forgets 2 = .ok (.iconst 0, 1) := by decide +kernel
theorem dX12_forgets_3 : decode cX12_forgets 3 = .ok (.istore_n 3, 1) := by decide +kernel
theorem dX12_forgets_4 : decode cX12_forgets 4 = .ok (.iload_n 3, 1) := by decide +kernel
theorem dX12_forgets_5 : decode cX12_forgets 5 = .ok (.aload_n 0, 1) := by decide +kernel
theorem dX12_forgets_6 : decode cX12_forgets 6 = .ok (.getfield 152, 3) := by decide +kernel
theorem dX12_forgets_9 : decode cX12_forgets 9 = .ok (.if_icmp .ge 58, 3) := by decide +kernel
theorem dX12_forgets_12 : decode cX12_forgets 12 = .ok (.aload_n 0, 1) := by decide +kernel
theorem dX12_forgets_13 : decode cX12_forgets 13 = .ok (.getfield 22, 3) := by decide +kernel
theorem dX12_forgets_16 : decode cX12_forgets 16 = .ok (.iload_n 3, 1) := by decide +kernel
theorem dX12_forgets_17 : decode cX12_forgets 17 = .ok (.iaload, 1) := by decide +kernel
theorem dX12_forgets_18 : decode cX12_forgets 18 = .ok (.iload_n 1, 1) := by decide +kernel
theorem dX12_forgets_19 : decode cX12_forgets 19 = .ok (.if_icmp .eq 42, 3) := by decide +kernel
theorem dX12_forgets_22 : decode cX12_forgets 22 = .ok (.aload_n 0, 1) := by decide +kernel
theorem dX12_forgets_23 : decode cX12_forgets 23 = .ok (.getfield 22, 3) := by decide +kernel
theorem dX12_forgets_26 : decode cX12_forgets 26 = .ok (.iload_n 2, 1) := by decide +kernel
theorem dX12_forgets_27 : decode cX12_forgets 27 = .ok (.aload_n 0, 1) := by decide +kernel
theorem dX12_forgets_28 : decode cX12_forgets 28 = .ok (.getfield 22, 3) := by decide +kernel
theorem dX12_forgets_31 : decode cX12_forgets 31 = .ok (.iload_n 3, 1) := by decide +kernel
theorem dX12_forgets_32 : decode cX12_forgets 32 = .ok (.iaload, 1) := by decide +kernel
theorem dX12_forgets_33 : decode cX12_forgets 33 = .ok (.iastore, 1) := by decide +kernel
theorem dX12_forgets_34 : decode cX12_forgets 34 = .ok (.aload_n 0, 1) := by decide +kernel
theorem dX12_forgets_35 : decode cX12_forgets 35 = .ok (.getfield 25, 3) := by decide +kernel
theorem dX12_forgets_38 : decode cX12_forgets 38 = .ok (.iload_n 2, 1) := by decide +kernel
theorem dX12_forgets_39 : decode cX12_forgets 39 = .ok (.aload_n 0, 1) := by decide +kernel
theorem dX12_forgets_40 : decode cX12_forgets 40 = .ok (.getfield 25, 3) := by decide +kernel
theorem dX12_forgets_43 : decode cX12_forgets 43 = .ok (.iload_n 3, 1) := by decide +kernel
theorem dX12_forgets_44 : decode cX12_forgets 44 = .ok (.iaload, 1) := by decide +kernel
theorem dX12_forgets_45 : decode cX12_forgets 45 = .ok (.iastore, 1) := by decide +kernel
theorem dX12_forgets_46 : decode cX12_forgets 46 = .ok (.aload_n 0, 1) := by decide +kernel
theorem dX12_forgets_47 : decode cX12_forgets 47 = .ok (.getfield 28, 3) := by decide +kernel
theorem dX12_forgets_50 : decode cX12_forgets 50 = .ok (.iload_n 2, 1) := by decide +kernel
theorem dX12_forgets_51 : decode cX12_forgets 51 = .ok (.aload_n 0, 1) := by decide +kernel
theorem dX12_forgets_52 : decode cX12_forgets 52 = .ok (.getfield 28, 3) := by decide +kernel
theorem dX12_forgets_55 : decode cX12_forgets 55 = .ok (.iload_n 3, 1) := by decide +kernel
theorem dX12_forgets_56 : decode cX12_forgets 56 = .ok (.iaload, 1) := by decide +kernel
theorem dX12_forgets_57 : decode cX12_forgets 57 = .ok (.iastore, 1) := by decide +kernel
theorem dX12_forgets_58 : decode cX12_forgets 58 = .ok (.iinc 2 1, 3) := by decide +kernel
theorem dX12_forgets_61 : decode cX12_forgets 61 = .ok (.iinc 3 1, 3) := by decide +kernel
theorem dX12_forgets_64 : decode cX12_forgets 64 = .ok (.goto (-60), 3) := by decide +kernel
theorem dX12_forgets_67 : decode cX12_forgets 67 = .ok (.aload_n 0, 1) := by decide +kernel
theorem dX12_forgets_68 : decode cX12_forgets 68 = .ok (.iload_n 2, 1) := by decide +kernel
theorem dX12_forgets_69 : decode cX12_forgets 69 = .ok (.putfield 152, 3) := by decide +kernel
theorem dX12_forgets_72 : decode cX12_forgets 72 = .ok (.return_, 1) := by decide +kernel
theorem dX12_takes_0 : decode cX12_takes 0 = .ok (.aload_n 0, 1) := by decide +kernel
theorem dX12_takes_1 : decode cX12_takes 1 = .ok (.getfield 7, 3) := by decide +kernel
theorem dX12_takes_4 : decode cX12_takes 4 = .ok (.sipush 1340, 3) := by decide +kernel
theorem dX12_takes_7 : decode cX12_takes 7 = .ok (.iload_n 1, 1) := by decide +kernel
theorem dX12_takes_8 : decode cX12_takes 8 = .ok (.iadd, 1) := by decide +kernel
theorem dX12_takes_9 : decode cX12_takes 9 = .ok (.iaload, 1) := by decide +kernel
theorem dX12_takes_10 : decode cX12_takes 10 = .ok (.istore_n 2, 1) := by decide +kernel
theorem dX12_takes_11 : decode cX12_takes 11 = .ok (.iload_n 2, 1) := by decide +kernel
theorem dX12_takes_12 : decode cX12_takes 12 = .ok (.ifCond .eq 8, 3) := by decide +kernel
theorem dX12_takes_15 : decode cX12_takes 15 = .ok (.iload_n 2, 1) := by decide +kernel
theorem dX12_takes_16 : decode cX12_takes 16 = .ok (.iconst 1, 1) := by decide +kernel
theorem dX12_takes_17 : decode cX12_takes 17 = .ok (.if_icmp .ne 17, 3) := by decide +kernel
theorem dX12_takes_20 : decode cX12_takes 20 = .ok (.aload_n 0, 1) := by decide +kernel
theorem dX12_takes_21 : decode cX12_takes 21 = .ok (.aload_n 0, 1) := by decide +kernel
theorem dX12_takes_22 : decode cX12_takes 22 = .ok (.getfield 7, 3) := by decide +kernel
theorem dX12_takes_25 : decode cX12_takes 25 = .ok (.sipush 1420, 3) := by decide +kernel
theorem dX12_takes_28 : decode cX12_takes 28 = .ok (.iload_n 1, 1) := by decide +kernel
theorem dX12_takes_29 : decode cX12_takes 29 = .ok (.iadd, 1) := by decide +kernel
theorem dX12_takes_30 : decode cX12_takes 30 = .ok (.iaload, 1) := by decide +kernel
theorem dX12_takes_31 : decode cX12_takes 31 = .ok (.invokevirtual 155, 3) := by decide +kernel
theorem dX12_takes_34 : decode cX12_takes 34 = .ok (.iload_n 2, 1) := by decide +kernel
theorem dX12_takes_35 : decode cX12_takes 35 = .ok (.ifCond .ne 73, 3) := by decide +kernel
theorem dX12_takes_38 : decode cX12_takes 38 = .ok (.aload_n 0, 1) := by decide +kernel
theorem dX12_takes_39 : decode cX12_takes 39 = .ok (.getfield 22, 3) := by decide +kernel
theorem dX12_takes_42 : decode cX12_takes 42 = .ok (.aload_n 0, 1) := by decide +kernel
theorem dX12_takes_43 : decode cX12_takes 43 = .ok (.getfield 152, 3) := by decide +kernel
theorem dX12_takes_46 : decode cX12_takes 46 = .ok (.aload_n 0, 1) := by decide +kernel
theorem dX12_takes_47 : decode cX12_takes 47 = .ok (.getfield 7, 3) := by decide +kernel
theorem dX12_takes_50 : decode cX12_takes 50 = .ok (.sipush 1420, 3) := by decide +kernel
theorem dX12_takes_53 : decode cX12_takes 53 = .ok (.iload_n 1, 1) := by decide +kernel
theorem dX12_takes_54 : decode cX12_takes 54 = .ok (.iadd, 1) := by decide +kernel
theorem dX12_takes_55 : decode cX12_takes 55 = .ok (.iaload, 1) := by decide +kernel
theorem dX12_takes_56 : decode cX12_takes 56 = .ok (.iastore, 1) := by decide +kernel
theorem dX12_takes_57 : decode cX12_takes 57 = .ok (.aload_n 0, 1) := by decide +kernel
theorem dX12_takes_58 : decode cX12_takes 58 = .ok (.getfield 25, 3) := by decide +kernel
theorem dX12_takes_61 : decode cX12_takes 61 = .ok (.aload_n 0, 1) := by decide +kernel
theorem dX12_takes_62 : decode cX12_takes 62 = .ok (.getfield 152, 3) := by decide +kernel
theorem dX12_takes_65 : decode cX12_takes 65 = .ok (.aload_n 0, 1) := by decide +kernel
theorem dX12_takes_66 : decode cX12_takes 66 = .ok (.getfield 7, 3) := by decide +kernel
theorem dX12_takes_69 : decode cX12_takes 69 = .ok (.sipush 1500, 3) := by decide +kernel
theorem dX12_takes_72 : decode cX12_takes 72 = .ok (.iload_n 1, 1) := by decide +kernel
theorem dX12_takes_73 : decode cX12_takes 73 = .ok (.iadd, 1) := by decide +kernel
theorem dX12_takes_74 : decode cX12_takes 74 = .ok (.iaload, 1) := by decide +kernel
theorem dX12_takes_75 : decode cX12_takes 75 = .ok (.iastore, 1) := by decide +kernel
theorem dX12_takes_76 : decode cX12_takes 76 = .ok (.aload_n 0, 1) := by decide +kernel
theorem dX12_takes_77 : decode cX12_takes 77 = .ok (.getfield 28, 3) := by decide +kernel
theorem dX12_takes_80 : decode cX12_takes 80 = .ok (.aload_n 0, 1) := by decide +kernel
theorem dX12_takes_81 : decode cX12_takes 81 = .ok (.getfield 152, 3) := by decide +kernel
theorem dX12_takes_84 : decode cX12_takes 84 = .ok (.aload_n 0, 1) := by decide +kernel
theorem dX12_takes_85 : decode cX12_takes 85 = .ok (.getfield 7, 3) := by decide +kernel
theorem dX12_takes_88 : decode cX12_takes 88 = .ok (.sipush 1580, 3) := by decide +kernel
theorem dX12_takes_91 : decode cX12_takes 91 = .ok (.iload_n 1, 1) := by decide +kernel
theorem dX12_takes_92 : decode cX12_takes 92 = .ok (.iadd, 1) := by decide +kernel
theorem dX12_takes_93 : decode cX12_takes 93 = .ok (.iaload, 1) := by decide +kernel
theorem dX12_takes_94 : decode cX12_takes 94 = .ok (.iastore, 1) := by decide +kernel
theorem dX12_takes_95 : decode cX12_takes 95 = .ok (.aload_n 0, 1) := by decide +kernel
theorem dX12_takes_96 : decode cX12_takes 96 = .ok (.dup, 1) := by decide +kernel
theorem dX12_takes_97 : decode cX12_takes 97 = .ok (.getfield 152, 3) := by decide +kernel
theorem dX12_takes_100 : decode cX12_takes 100 = .ok (.iconst 1, 1) := by decide +kernel
theorem dX12_takes_101 : decode cX12_takes 101 = .ok (.iadd, 1) := by decide +kernel
theorem dX12_takes_102 : decode cX12_takes 102 = .ok (.putfield 152, 3) := by decide +kernel
theorem dX12_takes_105 : decode cX12_takes 105 = .ok (.goto 88, 3) := by decide +kernel
theorem dX12_takes_108 : decode cX12_takes 108 = .ok (.iload_n 2, 1) := by decide +kernel
theorem dX12_takes_109 : decode cX12_takes 109 = .ok (.bipush 7, 2) := by decide +kernel
theorem dX12_takes_111 : decode cX12_takes 111 = .ok (.if_icmp .ne 61, 3) := by decide +kernel
theorem dX12_takes_114 : decode cX12_takes 114 = .ok (.aload_n 0, 1) := by decide +kernel
theorem dX12_takes_115 : decode cX12_takes 115 = .ok (.getfield 7, 3) := by decide +kernel
theorem dX12_takes_118 : decode cX12_takes 118 = .ok (.sipush 1500, 3) := by decide +kernel
theorem dX12_takes_121 : decode cX12_takes 121 = .ok (.iload_n 1, 1) := by decide +kernel
theorem dX12_takes_122 : decode cX12_takes 122 = .ok (.iadd, 1) := by decide +kernel
theorem dX12_takes_123 : decode cX12_takes 123 = .ok (.iaload, 1) := by decide +kernel
theorem dX12_takes_124 : decode cX12_takes 124 = .ok (.istore_n 3, 1) := by decide +kernel
theorem dX12_takes_125 : decode cX12_takes 125 = .ok (.iconst 0, 1) := by decide +kernel
theorem dX12_takes_126 : decode cX12_takes 126 = .ok (.istore 4, 2) := by decide +kernel
theorem dX12_takes_128 : decode cX12_takes 128 = .ok (.iload 4, 2) := by decide +kernel
theorem dX12_takes_130 : decode cX12_takes 130 = .ok (.bipush 30, 2) := by decide +kernel
theorem dX12_takes_132 : decode cX12_takes 132 = .ok (.if_icmp .ge 37, 3) := by decide +kernel
theorem dX12_takes_135 : decode cX12_takes 135 = .ok (.aload_n 0, 1) := by decide +kernel
theorem dX12_takes_136 : decode cX12_takes 136 = .ok (.getfield 31, 3) := by decide +kernel
theorem dX12_takes_139 : decode cX12_takes 139 = .ok (.iload 4, 2) := by decide +kernel
theorem dX12_takes_141 : decode cX12_takes 141 = .ok (.aload_n 0, 1) := by decide +kernel
theorem dX12_takes_142 : decode cX12_takes 142 = .ok (.getfield 31, 3) := by decide +kernel
theorem dX12_takes_145 : decode cX12_takes 145 = .ok (.iload 4, 2) := by decide +kernel
theorem dX12_takes_147 : decode cX12_takes 147 = .ok (.baload, 1) := by decide +kernel
theorem dX12_takes_148 : decode cX12_takes 148 = .ok (.ifCond .ne 9, 3) := by decide +kernel
theorem dX12_takes_151 : decode cX12_takes 151 = .ok (.iload 4, 2) := by decide +kernel
theorem dX12_takes_153 : decode cX12_takes 153 = .ok (.iload_n 3, 1) := by decide +kernel
theorem dX12_takes_154 : decode cX12_takes 154 = .ok (.if_icmp .ne 7, 3) := by decide +kernel
theorem dX12_takes_157 : decode cX12_takes 157 = .ok (.iconst 1, 1) := by decide +kernel
theorem dX12_takes_158 : decode cX12_takes 158 = .ok (.goto 4, 3) := by decide +kernel
theorem dX12_takes_161 : decode cX12_takes 161 = .ok (.iconst 0, 1) := by decide +kernel
theorem dX12_takes_162 : decode cX12_takes 162 = .ok (.bastore, 1) := by decide +kernel
theorem dX12_takes_163 : decode cX12_takes 163 = .ok (.iinc 4 1, 3) := by decide +kernel
theorem dX12_takes_166 : decode cX12_takes 166 = .ok (.goto (-38), 3) := by decide +kernel
theorem dX12_takes_169 : decode cX12_takes 169 = .ok (.goto 24, 3) := by decide +kernel
theorem dX12_takes_172 : decode cX12_takes 172 = .ok (.iload_n 2, 1) := by decide +kernel
theorem dX12_takes_173 : decode cX12_takes 173 = .ok (.iconst 1, 1) := by decide +kernel
theorem dX12_takes_174 : decode cX12_takes 174 = .ok (.if_icmp .eq 19, 3) := by decide +kernel
theorem dX12_takes_177 : decode cX12_takes 177 = .ok (.aload_n 0, 1) := by decide +kernel
theorem dX12_takes_178 : decode cX12_takes 178 = .ok (.getfield 19, 3) := by decide +kernel
theorem dX12_takes_181 : decode cX12_takes 181 = .ok (.iload_n 2, 1) := by decide +kernel
theorem dX12_takes_182 : decode cX12_takes 182 = .ok (.aload_n 0, 1) := by decide +kernel
theorem dX12_takes_183 : decode cX12_takes 183 = .ok (.getfield 7, 3) := by decide +kernel
theorem dX12_takes_186 : decode cX12_takes 186 = .ok (.sipush 1500, 3) := by decide +kernel
theorem dX12_takes_189 : decode cX12_takes 189 = .ok (.iload_n 1, 1) := by decide +kernel
theorem dX12_takes_190 : decode cX12_takes 190 = .ok (.iadd, 1) := by decide +kernel
theorem dX12_takes_191 : decode cX12_takes 191 = .ok (.iaload, 1) := by decide +kernel
theorem dX12_takes_192 : decode cX12_takes 192 = .ok (.iastore, 1) := by decide +kernel
theorem dX12_takes_193 : decode cX12_takes 193 = .ok (.return_, 1) := by decide +kernel
theorem dX12_limited_0 : decode cX12_limited 0 = .ok (.iload_n 0, 1) := by decide +kernel
theorem dX12_limited_1 : decode cX12_limited 1 = .ok (.iload_n 1, 1) := by decide +kernel
theorem dX12_limited_2 : decode cX12_limited 2 = .ok (.if_icmp .ge 7, 3) := by decide +kernel
theorem dX12_limited_5 : decode cX12_limited 5 = .ok (.iload_n 1, 1) := by decide +kernel
theorem dX12_limited_6 : decode cX12_limited 6 = .ok (.goto 13, 3) := by decide +kernel
theorem dX12_limited_9 : decode cX12_limited 9 = .ok (.iload_n 0, 1) := by decide +kernel
theorem dX12_limited_10 : decode cX12_limited 10 = .ok (.iload_n 2, 1) := by decide +kernel
theorem dX12_limited_11 : decode cX12_limited 11 = .ok (.if_icmp .le 7, 3) := by decide +kernel
theorem dX12_limited_14 : decode cX12_limited 14 = .ok (.iload_n 2, 1) := by decide +kernel
theorem dX12_limited_15 : decode cX12_limited 15 = .ok (.goto 4, 3) := by decide +kernel
theorem dX12_limited_18 : decode cX12_limited 18 = .ok (.iload_n 0, 1) := by decide +kernel
theorem dX12_limited_19 : decode cX12_limited 19 = .ok (.ireturn, 1) := by decide +kernel
theorem dX12_looks_0 : decode cX12_looks 0 = .ok (.aload_n 0, 1) := by decide +kernel
theorem dX12_looks_1 : decode cX12_looks 1 = .ok (.getfield 19, 3) := by decide +kernel
theorem dX12_looks_4 : decode cX12_looks 4 = .ok (.iconst 2, 1) := by decide +kernel
theorem dX12_looks_5 : decode cX12_looks 5 = .ok (.bipush 12, 2) := by decide +kernel
theorem dX12_looks_7 : decode cX12_looks 7 = .ok (.iastore, 1) := by decide +kernel
theorem dX12_looks_8 : decode cX12_looks 8 = .ok (.aload_n 0, 1) := by decide +kernel
theorem dX12_looks_9 : decode cX12_looks 9 = .ok (.getfield 19, 3) := by decide +kernel
theorem dX12_looks_12 : decode cX12_looks 12 = .ok (.iconst 3, 1) := by decide +kernel
theorem dX12_looks_13 : decode cX12_looks 13 = .ok (.iconst 1, 1) := by decide +kernel
theorem dX12_looks_14 : decode cX12_looks 14 = .ok (.iastore, 1) := by decide +kernel
theorem dX12_looks_15 : decode cX12_looks 15 = .ok (.aload_n 0, 1) := by decide +kernel
theorem dX12_looks_16 : decode cX12_looks 16 = .ok (.getfield 19, 3) := by decide +kernel
theorem dX12_looks_19 : decode cX12_looks 19 = .ok (.iconst 4, 1) := by decide +kernel
theorem dX12_looks_20 : decode cX12_looks 20 = .ok (.iconst 3, 1) := by decide +kernel
theorem dX12_looks_21 : decode cX12_looks 21 = .ok (.iastore, 1) := by decide +kernel
theorem dX12_looks_22 : decode cX12_looks 22 = .ok (.aload_n 0, 1) := by decide +kernel
theorem dX12_looks_23 : decode cX12_looks 23 = .ok (.getfield 19, 3) := by decide +kernel
theorem dX12_looks_26 : decode cX12_looks 26 = .ok (.iconst 5, 1) := by decide +kernel
theorem dX12_looks_27 : decode cX12_looks 27 = .ok (.iconst 5, 1) := by decide +kernel
theorem dX12_looks_28 : decode cX12_looks 28 = .ok (.iastore, 1) := by decide +kernel
theorem dX12_looks_29 : decode cX12_looks 29 = .ok (.aload_n 0, 1) := by decide +kernel
theorem dX12_looks_30 : decode cX12_looks 30 = .ok (.getfield 19, 3) := by decide +kernel
theorem dX12_looks_33 : decode cX12_looks 33 = .ok (.bipush 6, 2) := by decide +kernel
theorem dX12_looks_35 : decode cX12_looks 35 = .ok (.iconst 1, 1) := by decide +kernel
theorem dX12_looks_36 : decode cX12_looks 36 = .ok (.iastore, 1) := by decide +kernel
theorem dX12_looks_37 : decode cX12_looks 37 = .ok (.aload_n 0, 1) := by decide +kernel
theorem dX12_looks_38 : decode cX12_looks 38 = .ok (.iconst 0, 1) := by decide +kernel
theorem dX12_looks_39 : decode cX12_looks 39 = .ok (.putfield 152, 3) := by decide +kernel
theorem dX12_looks_42 : decode cX12_looks 42 = .ok (.iconst 0, 1) := by decide +kernel
theorem dX12_looks_43 : decode cX12_looks 43 = .ok (.istore_n 2, 1) := by decide +kernel
theorem dX12_looks_44 : decode cX12_looks 44 = .ok (.iload_n 2, 1) := by decide +kernel
theorem dX12_looks_45 : decode cX12_looks 45 = .ok (.bipush 30, 2) := by decide +kernel
theorem dX12_looks_47 : decode cX12_looks 47 = .ok (.if_icmp .ge 16, 3) := by decide +kernel
theorem dX12_looks_50 : decode cX12_looks 50 = .ok (.aload_n 0, 1) := by decide +kernel
theorem dX12_looks_51 : decode cX12_looks 51 = .ok (.getfield 31, 3) := by decide +kernel
theorem dX12_looks_54 : decode cX12_looks 54 = .ok (.iload_n 2, 1) := by decide +kernel
theorem dX12_looks_55 : decode cX12_looks 55 = .ok (.iconst 0, 1) := by decide +kernel
theorem dX12_looks_56 : decode cX12_looks 56 = .ok (.bastore, 1) := by decide +kernel
theorem dX12_looks_57 : decode cX12_looks 57 = .ok (.iinc 2 1, 3) := by decide +kernel
theorem dX12_looks_60 : decode cX12_looks 60 = .ok (.goto (-16), 3) := by decide +kernel
theorem dX12_looks_63 : decode cX12_looks 63 = .ok (.iconst 0, 1) := by decide +kernel
theorem dX12_looks_64 : decode cX12_looks 64 = .ok (.istore_n 2, 1) := by decide +kernel
theorem dX12_looks_65 : decode cX12_looks 65 = .ok (.iconst 0, 1) := by decide +kernel
theorem dX12_looks_66 : decode cX12_looks 66 = .ok (.istore_n 3, 1) := by decide +kernel
theorem dX12_looks_67 : decode cX12_looks 67 = .ok (.iload_n 3, 1) := by decide +kernel
theorem dX12_looks_68 : decode cX12_looks 68 = .ok (.aload_n 0, 1) := by decide +kernel
theorem dX12_looks_69 : decode cX12_looks 69 = .ok (.getfield 7, 3) := by decide +kernel
theorem dX12_looks_72 : decode cX12_looks 72 = .ok (.iconst 1, 1) := by decide +kernel
theorem dX12_looks_73 : decode cX12_looks 73 = .ok (.iaload, 1) := by decide +kernel
theorem dX12_looks_74 : decode cX12_looks 74 = .ok (.if_icmp .ge 81, 3) := by decide +kernel
theorem dX12_looks_77 : decode cX12_looks 77 = .ok (.iload_n 2, 1) := by decide +kernel
theorem dX12_looks_78 : decode cX12_looks 78 = .ok (.istore 4, 2) := by decide +kernel
theorem dX12_looks_80 : decode cX12_looks 80 = .ok (.iload 4, 2) := by decide +kernel
theorem dX12_looks_82 : decode cX12_looks 82 = .ok (.ifCond .le 56, 3) := by decide +kernel
theorem dX12_looks_85 : decode cX12_looks 85 = .ok (.aload_n 0, 1) := by decide +kernel
theorem dX12_looks_86 : decode cX12_looks 86 = .ok (.getfield 7, 3) := by decide +kernel
theorem dX12_looks_89 : decode cX12_looks 89 = .ok (.sipush 230, 3) := by decide +kernel
theorem dX12_looks_92 : decode cX12_looks 92 = .ok (.aload_n 0, 1) := by decide +kernel
theorem dX12_looks_93 : decode cX12_looks 93 = .ok (.getfield 16, 3) := by decide +kernel
theorem dX12_looks_96 : decode cX12_looks 96 = .ok (.iload 4, 2) := by decide +kernel
theorem dX12_looks_98 : decode cX12_looks 98 = .ok (.iconst 1, 1) := by decide +kernel
theorem dX12_looks_99 : decode cX12_looks 99 = .ok (.isub, 1) := by decide +kernel
theorem dX12_looks_100 : decode cX12_looks 100 = .ok (.iaload, 1) := by decide +kernel
theorem dX12_looks_101 : decode cX12_looks 101 = .ok (.iadd, 1) := by decide +kernel
theorem dX12_looks_102 : decode cX12_looks 102 = .ok (.iaload, 1) := by decide +kernel
theorem dX12_looks_103 : decode cX12_looks 103 = .ok (.aload_n 0, 1) := by decide +kernel
theorem dX12_looks_104 : decode cX12_looks 104 = .ok (.getfield 7, 3) := by decide +kernel
theorem dX12_looks_107 : decode cX12_looks 107 = .ok (.sipush 230, 3) := by decide +kernel
theorem dX12_looks_110 : decode cX12_looks 110 = .ok (.iload_n 3, 1) := by decide +kernel
theorem dX12_looks_111 : decode cX12_looks 111 = .ok (.iadd, 1) := by decide +kernel
theorem dX12_looks_112 : decode cX12_looks 112 = .ok (.iaload, 1) := by decide +kernel
theorem dX12_looks_113 : decode cX12_looks 113 = .ok (.if_icmp .le 25, 3) := by decide +kernel
theorem dX12_looks_116 : decode cX12_looks 116 = .ok (.aload_n 0, 1) := by decide +kernel
theorem dX12_looks_117 : decode cX12_looks 117 = .ok (.getfield 16, 3) := by decide +kernel
theorem dX12_looks_120 : decode cX12_looks 120 = .ok (.iload 4, 2) := by decide +kernel
theorem dX12_looks_122 : decode cX12_looks 122 = .ok (.aload_n 0, 1) := by decide +kernel
theorem dX12_looks_123 : decode cX12_looks 123 = .ok (.getfield 16, 3) := by decide +kernel
theorem dX12_looks_126 : decode cX12_looks 126 = .ok (.iload 4, 2) := by decide +kernel
theorem dX12_looks_128 : decode cX12_looks 128 = .ok (.iconst 1, 1) := by decide +kernel
theorem dX12_looks_129 : decode cX12_looks 129 = .ok (.isub, 1) := by decide +kernel
theorem dX12_looks_130 : decode cX12_looks 130 = .ok (.iaload, 1) := by decide +kernel
theorem dX12_looks_131 : decode cX12_looks 131 = .ok (.iastore, 1) := by decide +kernel
theorem dX12_looks_132 : decode cX12_looks 132 = .ok (.iinc 4 (-1), 3) := by decide +kernel
theorem dX12_looks_135 : decode cX12_looks 135 = .ok (.goto (-55), 3) := by decide +kernel
theorem dX12_looks_138 : decode cX12_looks 138 = .ok (.aload_n 0, 1) := by decide +kernel
theorem dX12_looks_139 : decode cX12_looks 139 = .ok (.getfield 16, 3) := by decide +kernel
theorem dX12_looks_142 : decode cX12_looks 142 = .ok (.iload 4, 2) := by decide +kernel
theorem dX12_looks_144 : decode cX12_looks 144 = .ok (.iload_n 3, 1) := by decide +kernel
theorem dX12_looks_145 : decode cX12_looks 145 = .ok (.iastore, 1) := by decide +kernel
theorem dX12_looks_146 : decode cX12_looks 146 = .ok (.iinc 2 1, 3) := by decide +kernel
theorem dX12_looks_149 : decode cX12_looks 149 = .ok (.iinc 3 1, 3) := by decide +kernel
theorem dX12_looks_152 : decode cX12_looks 152 = .ok (.goto (-85), 3) := by decide +kernel
theorem dX12_looks_155 : decode cX12_looks 155 = .ok (.iconst 0, 1) := by decide +kernel
theorem dX12_looks_156 : decode cX12_looks 156 = .ok (.istore_n 3, 1) := by decide +kernel
theorem dX12_looks_157 : decode cX12_looks 157 = .ok (.iload_n 3, 1) := by decide +kernel
theorem dX12_looks_158 : decode cX12_looks 158 = .ok (.iload_n 2, 1) := by decide +kernel
theorem dX12_looks_159 : decode cX12_looks 159 = .ok (.if_icmp .ge 73, 3) := by decide +kernel
theorem dX12_looks_162 : decode cX12_looks 162 = .ok (.iconst 0, 1) := by decide +kernel
theorem dX12_looks_163 : decode cX12_looks 163 = .ok (.istore 4, 2) := by decide +kernel
theorem dX12_looks_165 : decode cX12_looks 165 = .ok (.iload 4, 2) := by decide +kernel
theorem dX12_looks_167 : decode cX12_looks 167 = .ok (.aload_n 0, 1) := by decide +kernel
theorem dX12_looks_168 : decode cX12_looks 168 = .ok (.getfield 7, 3) := by decide +kernel
theorem dX12_looks_171 : decode cX12_looks 171 = .ok (.sipush 1330, 3) := by decide +kernel
theorem dX12_looks_174 : decode cX12_looks 174 = .ok (.aload_n 0, 1) := by decide +kernel
theorem dX12_looks_175 : decode cX12_looks 175 = .ok (.getfield 16, 3) := by decide +kernel
theorem dX12_looks_178 : decode cX12_looks 178 = .ok (.iload_n 3, 1) := by decide +kernel
theorem dX12_looks_179 : decode cX12_looks 179 = .ok (.iaload, 1) := by decide +kernel
theorem dX12_looks_180 : decode cX12_looks 180 = .ok (.iadd, 1) := by decide +kernel
theorem dX12_looks_181 : decode cX12_looks 181 = .ok (.iaload, 1) := by decide +kernel
theorem dX12_looks_182 : decode cX12_looks 182 = .ok (.if_icmp .ge 44, 3) := by decide +kernel
theorem dX12_looks_185 : decode cX12_looks 185 = .ok (.aload_n 0, 1) := by decide +kernel
theorem dX12_looks_186 : decode cX12_looks 186 = .ok (.getfield 7, 3) := by decide +kernel
theorem dX12_looks_189 : decode cX12_looks 189 = .ok (.sipush 230, 3) := by decide +kernel
theorem dX12_looks_192 : decode cX12_looks 192 = .ok (.aload_n 0, 1) := by decide +kernel
theorem dX12_looks_193 : decode cX12_looks 193 = .ok (.getfield 16, 3) := by decide +kernel
theorem dX12_looks_196 : decode cX12_looks 196 = .ok (.iload_n 3, 1) := by decide +kernel
theorem dX12_looks_197 : decode cX12_looks 197 = .ok (.iaload, 1) := by decide +kernel
theorem dX12_looks_198 : decode cX12_looks 198 = .ok (.iadd, 1) := by decide +kernel
theorem dX12_looks_199 : decode cX12_looks 199 = .ok (.iaload, 1) := by decide +kernel
theorem dX12_looks_200 : decode cX12_looks 200 = .ok (.iload_n 1, 1) := by decide +kernel
theorem dX12_looks_201 : decode cX12_looks 201 = .ok (.if_icmp .gt 25, 3) := by decide +kernel
theorem dX12_looks_204 : decode cX12_looks 204 = .ok (.aload_n 0, 1) := by decide +kernel
theorem dX12_looks_205 : decode cX12_looks 205 = .ok (.bipush 8, 2) := by decide +kernel
theorem dX12_looks_207 : decode cX12_looks 207 = .ok (.aload_n 0, 1) := by decide +kernel
theorem dX12_looks_208 : decode cX12_looks 208 = .ok (.getfield 16, 3) := by decide +kernel
theorem dX12_looks_211 : decode cX12_looks 211 = .ok (.iload_n 3, 1) := by decide +kernel
theorem dX12_looks_212 : decode cX12_looks 212 = .ok (.iaload, 1) := by decide +kernel
theorem dX12_looks_213 : decode cX12_looks 213 = .ok (.imul, 1) := by decide +kernel
theorem dX12_looks_214 : decode cX12_looks 214 = .ok (.iload 4, 2) := by decide +kernel
theorem dX12_looks_216 : decode cX12_looks 216 = .ok (.iadd, 1) := by decide +kernel
theorem dX12_looks_217 : decode cX12_looks 217 = .ok (.invokevirtual 158, 3) := by decide +kernel
theorem dX12_looks_220 : decode cX12_looks 220 = .ok (.iinc 4 1, 3) := by decide +kernel
theorem dX12_looks_223 : decode cX12_looks 223 = .ok (.goto (-58), 3) := by decide +kernel
theorem dX12_looks_226 : decode cX12_looks 226 = .ok (.iinc 3 1, 3) := by decide +kernel
theorem dX12_looks_229 : decode cX12_looks 229 = .ok (.goto (-72), 3) := by decide +kernel
theorem dX12_looks_232 : decode cX12_looks 232 = .ok (.aload_n 0, 1) := by decide +kernel
theorem dX12_looks_233 : decode cX12_looks 233 = .ok (.getfield 19, 3) := by decide +kernel
theorem dX12_looks_236 : decode cX12_looks 236 = .ok (.iconst 2, 1) := by decide +kernel
theorem dX12_looks_237 : decode cX12_looks 237 = .ok (.aload_n 0, 1) := by decide +kernel
theorem dX12_looks_238 : decode cX12_looks 238 = .ok (.getfield 19, 3) := by decide +kernel
theorem dX12_looks_241 : decode cX12_looks 241 = .ok (.iconst 2, 1) := by decide +kernel
theorem dX12_looks_242 : decode cX12_looks 242 = .ok (.iaload, 1) := by decide +kernel
theorem dX12_looks_243 : decode cX12_looks 243 = .ok (.bipush 10, 2) := by decide +kernel
theorem dX12_looks_245 : decode cX12_looks 245 = .ok (.bipush 40, 2) := by decide +kernel
theorem dX12_looks_247 : decode cX12_looks 247 = .ok (.invokestatic 161, 3) := by decide +kernel
theorem dX12_looks_250 : decode cX12_looks 250 = .ok (.iastore, 1) := by decide +kernel
theorem dX12_looks_251 : decode cX12_looks 251 = .ok (.aload_n 0, 1) := by decide +kernel
theorem dX12_looks_252 : decode cX12_looks 252 = .ok (.getfield 19, 3) := by decide +kernel
theorem dX12_looks_255 : decode cX12_looks 255 = .ok (.iconst 3, 1) := by decide +kernel
theorem dX12_looks_256 : decode cX12_looks 256 = .ok (.aload_n 0, 1) := by decide +kernel
theorem dX12_looks_257 : decode cX12_looks 257 = .ok (.getfield 19, 3) := by decide +kernel
theorem dX12_looks_260 : decode cX12_looks 260 = .ok (.iconst 3, 1) := by decide +kernel
theorem dX12_looks_261 : decode cX12_looks 261 = .ok (.iaload, 1) := by decide +kernel
theorem dX12_looks_262 : decode cX12_looks 262 = .ok (.iconst 1, 1) := by decide +kernel
theorem dX12_looks_263 : decode cX12_looks 263 = .ok (.bipush 9, 2) := by decide +kernel
theorem dX12_looks_265 : decode cX12_looks 265 = .ok (.invokestatic 161, 3) := by decide +kernel
theorem dX12_looks_268 : decode cX12_looks 268 = .ok (.iastore, 1) := by decide +kernel
theorem dX12_looks_269 : decode cX12_looks 269 = .ok (.aload_n 0, 1) := by decide +kernel
theorem dX12_looks_270 : decode cX12_looks 270 = .ok (.getfield 19, 3) := by decide +kernel
theorem dX12_looks_273 : decode cX12_looks 273 = .ok (.iconst 4, 1) := by decide +kernel
theorem dX12_looks_274 : decode cX12_looks 274 = .ok (.aload_n 0, 1) := by decide +kernel
theorem dX12_looks_275 : decode cX12_looks 275 = .ok (.getfield 19, 3) := by decide +kernel
theorem dX12_looks_278 : decode cX12_looks 278 = .ok (.iconst 4, 1) := by decide +kernel
theorem dX12_looks_279 : decode cX12_looks 279 = .ok (.iaload, 1) := by decide +kernel
theorem dX12_looks_280 : decode cX12_looks 280 = .ok (.aload_n 0, 1) := by decide +kernel
theorem dX12_looks_281 : decode cX12_looks 281 = .ok (.getfield 19, 3) := by decide +kernel
theorem dX12_looks_284 : decode cX12_looks 284 = .ok (.iconst 3, 1) := by decide +kernel
theorem dX12_looks_285 : decode cX12_looks 285 = .ok (.iaload, 1) := by decide +kernel
theorem dX12_looks_286 : decode cX12_looks 286 = .ok (.bipush 9, 2) := by decide +kernel
theorem dX12_looks_288 : decode cX12_looks 288 = .ok (.invokestatic 161, 3) := by decide +kernel
theorem dX12_looks_291 : decode cX12_looks 291 = .ok (.iastore, 1) := by decide +kernel
theorem dX12_looks_292 : decode cX12_looks 292 = .ok (.return_, 1) := by decide +kernel
theorem dX12_force_0 : decode cX12_force 0 = .ok (.iload_n 1, 1) := by decide +kernel
theorem dX12_force_1 : decode cX12_force 1 = .ok (.iconst 0, 1) := by decide +kernel
theorem dX12_force_2 : decode cX12_force 2 = .ok (.bipush 6, 2) := by decide +kernel
theorem dX12_force_4 : decode cX12_force 4 = .ok (.invokestatic 66, 3) := by decide +kernel
theorem dX12_force_7 : decode cX12_force 7 = .ok (.ifCond .ne 5, 3) := by decide +kernel
theorem dX12_force_10 : decode cX12_force 10 = .ok (.iconst (-1), 1) := by decide +kernel
theorem dX12_force_11 : decode cX12_force 11 = .ok (.ireturn, 1) := by decide +kernel
theorem dX12_force_12 : decode cX12_force 12 = .ok (.iload_n 2, 1) := by decide +kernel
theorem dX12_force_13 : decode cX12_force 13 = .ok (.invokestatic 145, 3) := by decide +kernel
theorem dX12_force_16 : decode cX12_force 16 = .ok (.ifCond .ne 6, 3) := by decide +kernel
theorem dX12_force_19 : decode cX12_force 19 = .ok (.bipush (-2), 2) := by decide +kernel
theorem dX12_force_21 : decode cX12_force 21 = .ok (.ireturn, 1) := by decide +kernel
theorem dX12_force_22 : decode cX12_force 22 = .ok (.aload_n 0, 1) := by decide +kernel
theorem dX12_force_23 : decode cX12_force 23 = .ok (.iload_n 2, 1) := by decide +kernel
theorem dX12_force_24 : decode cX12_force 24 = .ok (.invokevirtual 165, 3) := by decide +kernel
theorem dX12_force_27 : decode cX12_force 27 = .ok (.iload_n 1, 1) := by decide +kernel
theorem dX12_force_28 : decode cX12_force 28 = .ok (.iconst 5, 1) := by decide +kernel
theorem dX12_force_29 : decode cX12_force 29 = .ok (.if_icmp .ge 14, 3) := by decide +kernel
theorem dX12_force_32 : decode cX12_force 32 = .ok (.aload_n 0, 1) := by decide +kernel
theorem dX12_force_33 : decode cX12_force 33 = .ok (.getfield 19, 3) := by decide +kernel
theorem dX12_force_36 : decode cX12_force 36 = .ok (.iload_n 1, 1) := by decide +kernel
theorem dX12_force_37 : decode cX12_force 37 = .ok (.iconst 2, 1) := by decide +kernel
theorem dX12_force_38 : decode cX12_force 38 = .ok (.iadd, 1) := by decide +kernel
theorem dX12_force_39 : decode cX12_force 39 = .ok (.iaload, 1) := by decide +kernel
theorem dX12_force_40 : decode cX12_force 40 = .ok (.goto 32, 3) := by decide +kernel
theorem dX12_force_43 : decode cX12_force 43 = .ok (.iload_n 1, 1) := by decide +kernel
theorem dX12_force_44 : decode cX12_force 44 = .ok (.iconst 5, 1) := by decide +kernel
theorem dX12_force_45 : decode cX12_force 45 = .ok (.if_icmp .ne 23, 3) := by decide +kernel
theorem dX12_force_48 : decode cX12_force 48 = .ok (.aload_n 0, 1) := by decide +kernel
theorem dX12_force_49 : decode cX12_force 49 = .ok (.getfield 31, 3) := by decide +kernel
theorem dX12_force_52 : decode cX12_force 52 = .ok (.iload_n 2, 1) := by decide +kernel
theorem dX12_force_53 : decode cX12_force 53 = .ok (.bipush 30, 2) := by decide +kernel
theorem dX12_force_55 : decode cX12_force 55 = .ok (.irem, 1) := by decide +kernel
theorem dX12_force_56 : decode cX12_force 56 = .ok (.baload, 1) := by decide +kernel
theorem dX12_force_57 : decode cX12_force 57 = .ok (.ifCond .eq 7, 3) := by decide +kernel
theorem dX12_force_60 : decode cX12_force 60 = .ok (.iconst 1, 1) := by decide +kernel
theorem dX12_force_61 : decode cX12_force 61 = .ok (.goto 11, 3) := by decide +kernel
theorem dX12_force_64 : decode cX12_force 64 = .ok (.iconst 0, 1) := by decide +kernel
theorem dX12_force_65 : decode cX12_force 65 = .ok (.goto 7, 3) := by decide +kernel
theorem dX12_force_68 : decode cX12_force 68 = .ok (.aload_n 0, 1) := by decide +kernel
theorem dX12_force_69 : decode cX12_force 69 = .ok (.getfield 152, 3) := by decide +kernel
theorem dX12_force_72 : decode cX12_force 72 = .ok (.ireturn, 1) := by decide +kernel
theorem dX12_verse_0 : decode cX12_verse 0 = .ok (.aload_n 0, 1) := by decide +kernel
theorem dX12_verse_1 : decode cX12_verse 1 = .ok (.getfield 7, 3) := by decide +kernel
theorem dX12_verse_4 : decode cX12_verse 4 = .ok (.iconst 2, 1) := by decide +kernel
theorem dX12_verse_5 : decode cX12_verse 5 = .ok (.iaload, 1) := by decide +kernel
theorem dX12_verse_6 : decode cX12_verse 6 = .ok (.bipush 10, 2) := by decide +kernel
theorem dX12_verse_8 : decode cX12_verse 8 = .ok (.if_icmp .ne 6, 3) := by decide +kernel
theorem dX12_verse_11 : decode cX12_verse 11 = .ok (.bipush (-4), 2) := by decide +kernel
theorem dX12_verse_13 : decode cX12_verse 13 = .ok (.ireturn, 1) := by decide +kernel
theorem dX12_verse_14 : decode cX12_verse 14 = .ok (.aload_n 0, 1) := by decide +kernel
theorem dX12_verse_15 : decode cX12_verse 15 = .ok (.getfield 7, 3) := by decide +kernel
theorem dX12_verse_18 : decode cX12_verse 18 = .ok (.bipush 9, 2) := by decide +kernel
theorem dX12_verse_20 : decode cX12_verse 20 = .ok (.iaload, 1) := by decide +kernel
theorem dX12_verse_21 : decode cX12_verse 21 = .ok (.istore_n 1, 1) := by decide +kernel
theorem dX12_verse_22 : decode cX12_verse 22 = .ok (.aload_n 0, 1) := by decide +kernel
theorem dX12_verse_23 : decode cX12_verse 23 = .ok (.getfield 7, 3) := by decide +kernel
theorem dX12_verse_26 : decode cX12_verse 26 = .ok (.bipush 9, 2) := by decide +kernel
theorem dX12_verse_28 : decode cX12_verse 28 = .ok (.iconst 0, 1) := by decide +kernel
theorem dX12_verse_29 : decode cX12_verse 29 = .ok (.iastore, 1) := by decide +kernel
theorem dX12_verse_30 : decode cX12_verse 30 = .ok (.iconst 0, 1) := by decide +kernel
theorem dX12_verse_31 : decode cX12_verse 31 = .ok (.istore_n 2, 1) := by decide +kernel
theorem dX12_verse_32 : decode cX12_verse 32 = .ok (.iload_n 2, 1) := by decide +kernel
theorem dX12_verse_33 : decode cX12_verse 33 = .ok (.iload_n 1, 1) := by decide +kernel
theorem dX12_verse_34 : decode cX12_verse 34 = .ok (.if_icmp .ge 79, 3) := by decide +kernel
theorem dX12_verse_37 : decode cX12_verse 37 = .ok (.aload_n 0, 1) := by decide +kernel
theorem dX12_verse_38 : decode cX12_verse 38 = .ok (.getfield 7, 3) := by decide +kernel
theorem dX12_verse_41 : decode cX12_verse 41 = .ok (.bipush 110, 2) := by decide +kernel
theorem dX12_verse_43 : decode cX12_verse 43 = .ok (.iload_n 2, 1) := by decide +kernel
theorem dX12_verse_44 : decode cX12_verse 44 = .ok (.iadd, 1) := by decide +kernel
theorem dX12_verse_45 : decode cX12_verse 45 = .ok (.iaload, 1) := by decide +kernel
theorem dX12_verse_46 : decode cX12_verse 46 = .ok (.istore_n 3, 1) := by decide +kernel
theorem dX12_verse_47 : decode cX12_verse 47 = .ok (.iload_n 3, 1) := by decide +kernel
theorem dX12_verse_48 : decode cX12_verse 48 = .ok (.bipush 32, 2) := by decide +kernel
theorem dX12_verse_50 : decode cX12_verse 50 = .ok (.if_icmp .ne 27, 3) := by decide +kernel
theorem dX12_verse_53 : decode cX12_verse 53 = .ok (.iload_n 2, 1) := by decide +kernel
theorem dX12_verse_54 : decode cX12_verse 54 = .ok (.ifCond .le 23, 3) := by decide +kernel
theorem dX12_verse_57 : decode cX12_verse 57 = .ok (.aload_n 0, 1) := by decide +kernel
theorem dX12_verse_58 : decode cX12_verse 58 = .ok (.getfield 7, 3) := by decide +kernel
theorem dX12_verse_61 : decode cX12_verse 61 = .ok (.bipush 110, 2) := by decide +kernel
theorem dX12_verse_63 : decode cX12_verse 63 = .ok (.iload_n 2, 1) := by decide +kernel
theorem dX12_verse_64 : decode cX12_verse 64 = .ok (.iadd, 1) := by decide +kernel
theorem dX12_verse_65 : decode cX12_verse 65 = .ok (.iconst 1, 1) := by decide +kernel
theorem dX12_verse_66 : decode cX12_verse 66 = .ok (.isub, 1) := by decide +kernel
theorem dX12_verse_67 : decode cX12_verse 67 = .ok (.iaload, 1) := by decide +kernel
theorem dX12_verse_68 : decode cX12_verse 68 = .ok (.bipush 32, 2) := by decide +kernel
theorem dX12_verse_70 : decode cX12_verse 70 = .ok (.if_icmp .eq 7, 3) := by decide +kernel
theorem dX12_verse_73 : decode cX12_verse 73 = .ok (.iconst 1, 1) := by decide +kernel
theorem dX12_verse_74 : decode cX12_verse 74 = .ok (.goto 4, 3) := by decide +kernel
theorem dX12_verse_77 : decode cX12_verse 77 = .ok (.iconst 0, 1) := by decide +kernel
theorem dX12_verse_78 : decode cX12_verse 78 = .ok (.istore 4, 2) := by decide +kernel
theorem dX12_verse_80 : decode cX12_verse 80 = .ok (.iload_n 2, 1) := by decide +kernel
theorem dX12_verse_81 : decode cX12_verse 81 = .ok (.bipush 60, 2) := by decide +kernel
theorem dX12_verse_83 : decode cX12_verse 83 = .ok (.if_icmp .eq 19, 3) := by decide +kernel
theorem dX12_verse_86 : decode cX12_verse 86 = .ok (.iload_n 3, 1) := by decide +kernel
theorem dX12_verse_87 : decode cX12_verse 87 = .ok (.bipush 97, 2) := by decide +kernel
theorem dX12_verse_89 : decode cX12_verse 89 = .ok (.bipush 122, 2) := by decide +kernel
theorem dX12_verse_91 : decode cX12_verse 91 = .ok (.invokestatic 66, 3) := by decide +kernel
theorem dX12_verse_94 : decode cX12_verse 94 = .ok (.ifCond .ne 13, 3) := by decide +kernel
theorem dX12_verse_97 : decode cX12_verse 97 = .ok (.iload 4, 2) := by decide +kernel
theorem dX12_verse_99 : decode cX12_verse 99 = .ok (.ifCond .ne 8, 3) := by decide +kernel
theorem dX12_verse_102 : decode cX12_verse 102 = .ok (.bipush (-10), 2) := by decide +kernel
theorem dX12_verse_104 : decode cX12_verse 104 = .ok (.iload_n 2, 1) := by decide +kernel
theorem dX12_verse_105 : decode cX12_verse 105 = .ok (.isub, 1) := by decide +kernel
theorem dX12_verse_106 : decode cX12_verse 106 = .ok (.ireturn, 1) := by decide +kernel
theorem dX12_verse_107 : decode cX12_verse 107 = .ok (.iinc 2 1, 3) := by decide +kernel
theorem dX12_verse_110 : decode cX12_verse 110 = .ok (.goto (-78), 3) := by decide +kernel
theorem dX12_verse_113 : decode cX12_verse 113 = .ok (.iload_n 1, 1) := by decide +kernel
theorem dX12_verse_114 : decode cX12_verse 114 = .ok (.ifCond .eq 19, 3) := by decide +kernel
theorem dX12_verse_117 : decode cX12_verse 117 = .ok (.aload_n 0, 1) := by decide +kernel
theorem dX12_verse_118 : decode cX12_verse 118 = .ok (.getfield 7, 3) := by decide +kernel
theorem dX12_verse_121 : decode cX12_verse 121 = .ok (.bipush 110, 2) := by decide +kernel
theorem dX12_verse_123 : decode cX12_verse 123 = .ok (.iload_n 1, 1) := by decide +kernel
theorem dX12_verse_124 : decode cX12_verse 124 = .ok (.iadd, 1) := by decide +kernel
theorem dX12_verse_125 : decode cX12_verse 125 = .ok (.iconst 1, 1) := by decide +kernel
theorem dX12_verse_126 : decode cX12_verse 126 = .ok (.isub, 1) := by decide +kernel
theorem dX12_verse_127 : decode cX12_verse 127 = .ok (.iaload, 1) := by decide +kernel
theorem dX12_verse_128 : decode cX12_verse 128 = .ok (.bipush 32, 2) := by decide +kernel
theorem dX12_verse_130 : decode cX12_verse 130 = .ok (.if_icmp .ne 8, 3) := by decide +kernel
theorem dX12_verse_133 : decode cX12_verse 133 = .ok (.bipush (-10), 2) := by decide +kernel
theorem dX12_verse_135 : decode cX12_verse 135 = .ok (.iload_n 1, 1) := by decide +kernel
theorem dX12_verse_136 : decode cX12_verse 136 = .ok (.isub, 1) := by decide +kernel
theorem dX12_verse_137 : decode cX12_verse 137 = .ok (.ireturn, 1) := by decide +kernel
theorem dX12_verse_138 : decode cX12_verse 138 = .ok (.aload_n 0, 1) := by decide +kernel
theorem dX12_verse_139 : decode cX12_verse 139 = .ok (.getfield 7, 3) := by decide +kernel
theorem dX12_verse_142 : decode cX12_verse 142 = .ok (.iconst 2, 1) := by decide +kernel
theorem dX12_verse_143 : decode cX12_verse 143 = .ok (.iaload, 1) := by decide +kernel
theorem dX12_verse_144 : decode cX12_verse 144 = .ok (.istore_n 2, 1) := by decide +kernel
theorem dX12_verse_145 : decode cX12_verse 145 = .ok (.aload_n 0, 1) := by decide +kernel
theorem dX12_verse_146 : decode cX12_verse 146 = .ok (.getfield 7, 3) := by decide +kernel
theorem dX12_verse_149 : decode cX12_verse 149 = .ok (.sipush 1660, 3) := by decide +kernel
theorem dX12_verse_152 : decode cX12_verse 152 = .ok (.iload_n 2, 1) := by decide +kernel
theorem dX12_verse_153 : decode cX12_verse 153 = .ok (.iadd, 1) := by decide +kernel
theorem dX12_verse_154 : decode cX12_verse 154 = .ok (.iload_n 1, 1) := by decide +kernel
theorem dX12_verse_155 : decode cX12_verse 155 = .ok (.iastore, 1) := by decide +kernel
theorem dX12_verse_156 : decode cX12_verse 156 = .ok (.iconst 0, 1) := by decide +kernel
theorem dX12_verse_157 : decode cX12_verse 157 = .ok (.istore_n 3, 1) := by decide +kernel
theorem dX12_verse_158 : decode cX12_verse 158 = .ok (.iload_n 3, 1) := by decide +kernel
theorem dX12_verse_159 : decode cX12_verse 159 = .ok (.iload_n 1, 1) := by decide +kernel
theorem dX12_verse_160 : decode cX12_verse 160 = .ok (.if_icmp .ge 33, 3) := by decide +kernel
theorem dX12_verse_163 : decode cX12_verse 163 = .ok (.aload_n 0, 1) := by decide +kernel
theorem dX12_verse_164 : decode cX12_verse 164 = .ok (.getfield 7, 3) := by decide +kernel
theorem dX12_verse_167 : decode cX12_verse 167 = .ok (.sipush 1670, 3) := by decide +kernel
theorem dX12_verse_170 : decode cX12_verse 170 = .ok (.bipush 60, 2) := by decide +kernel
theorem dX12_verse_172 : decode cX12_verse 172 = .ok (.iload_n 2, 1) := by decide +kernel
theorem dX12_verse_173 : decode cX12_verse 173 = .ok (.imul, 1) := by decide +kernel
theorem dX12_verse_174 : decode cX12_verse 174 = .ok (.iadd, 1) := by decide +kernel
theorem dX12_verse_175 : decode cX12_verse 175 = .ok (.iload_n 3, 1) := by decide +kernel
theorem dX12_verse_176 : decode cX12_verse 176 = .ok (.iadd, 1) := by decide +kernel
theorem dX12_verse_177 : decode cX12_verse 177 = .ok (.aload_n 0, 1) := by decide +kernel
theorem dX12_verse_178 : decode cX12_verse 178 = .ok (.getfield 7, 3) := by decide +kernel
theorem dX12_verse_181 : decode cX12_verse 181 = .ok (.bipush 110, 2) := by decide +kernel
theorem dX12_verse_183 : decode cX12_verse 183 = .ok (.iload_n 3, 1) := by decide +kernel
theorem dX12_verse_184 : decode cX12_verse 184 = .ok (.iadd, 1) := by decide +kernel
theorem dX12_verse_185 : decode cX12_verse 185 = .ok (.iaload, 1) := by decide +kernel
theorem dX12_verse_186 : decode cX12_verse 186 = .ok (.iastore, 1) := by decide +kernel
theorem dX12_verse_187 : decode cX12_verse 187 = .ok (.iinc 3 1, 3) := by decide +kernel
theorem dX12_verse_190 : decode cX12_verse 190 = .ok (.goto (-32), 3) := by decide +kernel
theorem dX12_verse_193 : decode cX12_verse 193 = .ok (.aload_n 0, 1) := by decide +kernel
theorem dX12_verse_194 : decode cX12_verse 194 = .ok (.getfield 7, 3) := by decide +kernel
theorem dX12_verse_197 : decode cX12_verse 197 = .ok (.iconst 2, 1) := by decide +kernel
theorem dX12_verse_198 : decode cX12_verse 198 = .ok (.dup2, 1) := by decide +kernel
theorem dX12_verse_199 : decode cX12_verse 199 = .ok (.iaload, 1) := by decide +kernel
theorem dX12_verse_200 : decode cX12_verse 200 = .ok (.iconst 1, 1) := by decide +kernel
theorem dX12_verse_201 : decode cX12_verse 201 = .ok (.iadd, 1) := by decide +kernel
theorem dX12_verse_202 : decode cX12_verse 202 = .ok (.iastore, 1) := by decide +kernel
theorem dX12_verse_203 : decode cX12_verse 203 = .ok (.iload_n 2, 1) := by decide +kernel
theorem dX12_verse_204 : decode cX12_verse 204 = .ok (.ireturn, 1) := by decide +kernel
theorem dX12_isVerse_0 : decode cX12_isVerse 0 = .ok (.iload_n 1, 1) := by decide +kernel
theorem dX12_isVerse_1 : decode cX12_isVerse 1 = .ok (.iconst 0, 1) := by decide +kernel
theorem dX12_isVerse_2 : decode cX12_isVerse 2 = .ok (.aload_n 0, 1) := by decide +kernel
theorem dX12_isVerse_3 : decode cX12_isVerse 3 = .ok (.getfield 7, 3) := by decide +kernel
theorem dX12_isVerse_6 : decode cX12_isVerse 6 = .ok (.iconst 2, 1) := by decide +kernel
theorem dX12_isVerse_7 : decode cX12_isVerse 7 = .ok (.iaload, 1) := by decide +kernel
theorem dX12_isVerse_8 : decode cX12_isVerse 8 = .ok (.iconst 1, 1) := by decide +kernel
theorem dX12_isVerse_9 : decode cX12_isVerse 9 = .ok (.isub, 1) := by decide +kernel
theorem dX12_isVerse_10 : decode cX12_isVerse 10 = .ok (.invokestatic 66, 3) := by decide +kernel
theorem dX12_isVerse_13 : decode cX12_isVerse 13 = .ok (.ireturn, 1) := by decide +kernel
theorem dX12_at_0 : decode cX12_at 0 = .ok (.iload_n 2, 1) := by decide +kernel
theorem dX12_at_1 : decode cX12_at 1 = .ok (.aload_n 0, 1) := by decide +kernel
theorem dX12_at_2 : decode cX12_at 2 = .ok (.getfield 7, 3) := by decide +kernel
theorem dX12_at_5 : decode cX12_at 5 = .ok (.sipush 1660, 3) := by decide +kernel
theorem dX12_at_8 : decode cX12_at 8 = .ok (.iload_n 1, 1) := by decide +kernel
theorem dX12_at_9 : decode cX12_at 9 = .ok (.iadd, 1) := by decide +kernel
theorem dX12_at_10 : decode cX12_at 10 = .ok (.iaload, 1) := by decide +kernel
theorem dX12_at_11 : decode cX12_at 11 = .ok (.if_icmp .ge 21, 3) := by decide +kernel
theorem dX12_at_14 : decode cX12_at 14 = .ok (.aload_n 0, 1) := by decide +kernel
theorem dX12_at_15 : decode cX12_at 15 = .ok (.getfield 7, 3) := by decide +kernel
theorem dX12_at_18 : decode cX12_at 18 = .ok (.sipush 1670, 3) := by decide +kernel
theorem dX12_at_21 : decode cX12_at 21 = .ok (.bipush 60, 2) := by decide +kernel
theorem dX12_at_23 : decode cX12_at 23 = .ok (.iload_n 1, 1) := by decide +kernel
theorem dX12_at_24 : decode cX12_at 24 = .ok (.imul, 1) := by decide +kernel
theorem dX12_at_25 : decode cX12_at 25 = .ok (.iadd, 1) := by decide +kernel
theorem dX12_at_26 : decode cX12_at 26 = .ok (.iload_n 2, 1) := by decide +kernel
theorem dX12_at_27 : decode cX12_at 27 = .ok (.iadd, 1) := by decide +kernel
theorem dX12_at_28 : decode cX12_at 28 = .ok (.iaload, 1) := by decide +kernel
theorem dX12_at_29 : decode cX12_at 29 = .ok (.goto 4, 3) := by decide +kernel
theorem dX12_at_32 : decode cX12_at 32 = .ok (.iconst (-1), 1) := by decide +kernel
theorem dX12_at_33 : decode cX12_at 33 = .ok (.ireturn, 1) := by decide +kernel
theorem dX12_formAt_0 : decode cX12_formAt 0 = .ok (.iconst 0, 1) := by decide +kernel
theorem dX12_formAt_1 : decode cX12_formAt 1 = .ok (.istore 4, 2) := by decide +kernel
theorem dX12_formAt_3 : decode cX12_formAt 3 = .ok (.iconst 0, 1) := by decide +kernel
theorem dX12_formAt_4 : decode cX12_formAt 4 = .ok (.istore 5, 2) := by decide +kernel
theorem dX12_formAt_6 : decode cX12_formAt 6 = .ok (.iload 5, 2) := by decide +kernel
theorem dX12_formAt_8 : decode cX12_formAt 8 = .ok (.iconst 3, 1) := by decide +kernel
theorem dX12_formAt_9 : decode cX12_formAt 9 = .ok (.if_icmp .ge 74, 3) := by decide +kernel
theorem dX12_formAt_12 : decode cX12_formAt 12 = .ok (.iload 5, 2) := by decide +kernel
theorem dX12_formAt_14 : decode cX12_formAt 14 = .ok (.iload_n 3, 1) := by decide +kernel
theorem dX12_formAt_15 : decode cX12_formAt 15 = .ok (.if_icmp .ge 15, 3) := by decide +kernel
theorem dX12_formAt_18 : decode cX12_formAt 18 = .ok (.aload_n 0, 1) := by decide +kernel
theorem dX12_formAt_19 : decode cX12_formAt 19 = .ok (.iload_n 1, 1) := by decide +kernel
theorem dX12_formAt_20 : decode cX12_formAt 20 = .ok (.iload_n 2, 1) := by decide +kernel
theorem dX12_formAt_21 : decode cX12_formAt 21 = .ok (.iload 5, 2) := by decide +kernel
theorem dX12_formAt_23 : decode cX12_formAt 23 = .ok (.iadd, 1) := by decide +kernel
theorem dX12_formAt_24 : decode cX12_formAt 24 = .ok (.invokevirtual 168, 3) := by decide +kernel
theorem dX12_formAt_27 : decode cX12_formAt 27 = .ok (.goto 4, 3) := by decide +kernel
theorem dX12_formAt_30 : decode cX12_formAt 30 = .ok (.iconst (-1), 1) := by decide +kernel
theorem dX12_formAt_31 : decode cX12_formAt 31 = .ok (.istore 6, 2) := by decide +kernel
theorem dX12_formAt_33 : decode cX12_formAt 33 = .ok (.iload 5, 2) := by decide +kernel
theorem dX12_formAt_35 : decode cX12_formAt 35 = .ok (.iload_n 3, 1) := by decide +kernel
theorem dX12_formAt_36 : decode cX12_formAt 36 = .ok (.if_icmp .ge 17, 3) := by decide +kernel
theorem dX12_formAt_39 : decode cX12_formAt 39 = .ok (.iload 6, 2) := by decide +kernel
theorem dX12_formAt_41 : decode cX12_formAt 41 = .ok (.bipush 97, 2) := by decide +kernel
theorem dX12_formAt_43 : decode cX12_formAt 43 = .ok (.bipush 122, 2) := by decide +kernel
theorem dX12_formAt_45 : decode cX12_formAt 45 = .ok (.invokestatic 66, 3) := by decide +kernel
theorem dX12_formAt_48 : decode cX12_formAt 48 = .ok (.ifCond .ne 5, 3) := by decide +kernel
theorem dX12_formAt_51 : decode cX12_formAt 51 = .ok (.iconst (-1), 1) := by decide +kernel
theorem dX12_formAt_52 : decode cX12_formAt 52 = .ok (.ireturn, 1) := by decide +kernel
theorem dX12_formAt_53 : decode cX12_formAt 53 = .ok (.bipush 100, 2) := by decide +kernel
theorem dX12_formAt_55 : decode cX12_formAt 55 = .ok (.iload 4, 2) := by decide +kernel
theorem dX12_formAt_57 : decode cX12_formAt 57 = .ok (.imul, 1) := by decide +kernel
theorem dX12_formAt_58 : decode cX12_formAt 58 = .ok (.iload 5, 2) := by decide +kernel
theorem dX12_formAt_60 : decode cX12_formAt 60 = .ok (.iload_n 3, 1) := by decide +kernel
theorem dX12_formAt_61 : decode cX12_formAt 61 = .ok (.if_icmp .ge 11, 3) := by decide +kernel
theorem dX12_formAt_64 : decode cX12_formAt 64 = .ok (.iload 6, 2) := by decide +kernel
theorem dX12_formAt_66 : decode cX12_formAt 66 = .ok (.bipush 97, 2) := by decide +kernel
theorem dX12_formAt_68 : decode cX12_formAt 68 = .ok (.isub, 1) := by decide +kernel
theorem dX12_formAt_69 : decode cX12_formAt 69 = .ok (.goto 5, 3) := by decide +kernel
theorem dX12_formAt_72 : decode cX12_formAt 72 = .ok (.bipush 99, 2) := by decide +kernel
theorem dX12_formAt_74 : decode cX12_formAt 74 = .ok (.iadd, 1) := by decide +kernel
theorem dX12_formAt_75 : decode cX12_formAt 75 = .ok (.istore 4, 2) := by decide +kernel
theorem dX12_formAt_77 : decode cX12_formAt 77 = .ok (.iinc 5 1, 3) := by decide +kernel
theorem dX12_formAt_80 : decode cX12_formAt 80 = .ok (.goto (-74), 3) := by decide +kernel
theorem dX12_formAt_83 : decode cX12_formAt 83 = .ok (.iconst 0, 1) := by decide +kernel
theorem dX12_formAt_84 : decode cX12_formAt 84 = .ok (.istore 5, 2) := by decide +kernel
theorem dX12_formAt_86 : decode cX12_formAt 86 = .ok (.iload 5, 2) := by decide +kernel
theorem dX12_formAt_88 : decode cX12_formAt 88 = .ok (.aload_n 0, 1) := by decide +kernel
theorem dX12_formAt_89 : decode cX12_formAt 89 = .ok (.getfield 152, 3) := by decide +kernel
theorem dX12_formAt_92 : decode cX12_formAt 92 = .ok (.if_icmp .ge 24, 3) := by decide +kernel
theorem dX12_formAt_95 : decode cX12_formAt 95 = .ok (.aload_n 0, 1) := by decide +kernel
theorem dX12_formAt_96 : decode cX12_formAt 96 = .ok (.getfield 22, 3) := by decide +kernel
theorem dX12_formAt_99 : decode cX12_formAt 99 = .ok (.iload 5, 2) := by decide +kernel
theorem dX12_formAt_101 : decode cX12_formAt 101 = .ok (.iaload, 1) := by decide +kernel
theorem dX12_formAt_102 : decode cX12_formAt 102 = .ok (.iload 4, 2) := by decide +kernel
theorem dX12_formAt_104 : decode cX12_formAt 104 = .ok (.if_icmp .ne 6, 3) := by decide +kernel
theorem dX12_formAt_107 : decode cX12_formAt 107 = .ok (.iload 5, 2) := by decide +kernel
theorem dX12_formAt_109 : decode cX12_formAt 109 = .ok (.ireturn, 1) := by decide +kernel
theorem dX12_formAt_110 : decode cX12_formAt 110 = .ok (.iinc 5 1, 3) := by decide +kernel
theorem dX12_formAt_113 : decode cX12_formAt 113 = .ok (.goto (-27), 3) := by decide +kernel
theorem dX12_formAt_116 : decode cX12_formAt 116 = .ok (.iconst (-1), 1) := by decide +kernel
theorem dX12_formAt_117 : decode cX12_formAt 117 = .ok (.ireturn, 1) := by decide +kernel
theorem dX12_restOf_0 : decode cX12_restOf 0 = .ok (.iload_n 2, 1) := by decide +kernel
theorem dX12_restOf_1 : decode cX12_restOf 1 = .ok (.aload_n 0, 1) := by decide +kernel
theorem dX12_restOf_2 : decode cX12_restOf 2 = .ok (.getfield 19, 3) := by decide +kernel
theorem dX12_restOf_5 : decode cX12_restOf 5 = .ok (.iconst 2, 1) := by decide +kernel
theorem dX12_restOf_6 : decode cX12_restOf 6 = .ok (.iaload, 1) := by decide +kernel
theorem dX12_restOf_7 : decode cX12_restOf 7 = .ok (.if_icmp .le 8, 3) := by decide +kernel
theorem dX12_restOf_10 : decode cX12_restOf 10 = .ok (.ldc 172, 2) := by decide +kernel
theorem dX12_restOf_12 : decode cX12_restOf 12 = .ok (.goto 18, 3) := by decide +kernel
theorem dX12_restOf_15 : decode cX12_restOf 15 = .ok (.aload_n 0, 1) := by decide +kernel
theorem dX12_restOf_16 : decode cX12_restOf 16 = .ok (.getfield 35, 3) := by decide +kernel
theorem dX12_restOf_19 : decode cX12_restOf 19 = .ok (.bipush 82, 2) := by decide +kernel
theorem dX12_restOf_21 : decode cX12_restOf 21 = .ok (.iload_n 1, 1) := by decide +kernel
theorem dX12_restOf_22 : decode cX12_restOf 22 = .ok (.imul, 1) := by decide +kernel
theorem dX12_restOf_23 : decode cX12_restOf 23 = .ok (.iconst 2, 1) := by decide +kernel
theorem dX12_restOf_24 : decode cX12_restOf 24 = .ok (.iload_n 2, 1) := by decide +kernel
theorem dX12_restOf_25 : decode cX12_restOf 25 = .ok (.imul, 1) := by decide +kernel
theorem dX12_restOf_26 : decode cX12_restOf 26 = .ok (.iadd, 1) := by decide +kernel
theorem dX12_restOf_27 : decode cX12_restOf 27 = .ok (.iload_n 3, 1) := by decide +kernel
theorem dX12_restOf_28 : decode cX12_restOf 28 = .ok (.iadd, 1) := by decide +kernel
theorem dX12_restOf_29 : decode cX12_restOf 29 = .ok (.iaload, 1) := by decide +kernel
theorem dX12_restOf_30 : decode cX12_restOf 30 = .ok (.ireturn, 1) := by decide +kernel
theorem dX12_wide_0 : decode cX12_wide 0 = .ok (.iload_n 3, 1) := by decide +kernel
theorem dX12_wide_1 : decode cX12_wide 1 = .ok (.iconst 1, 1) := by decide +kernel
theorem dX12_wide_2 : decode cX12_wide 2 = .ok (.if_icmp .ne 21, 3) := by decide +kernel
theorem dX12_wide_5 : decode cX12_wide 5 = .ok (.aload_n 0, 1) := by decide +kernel
theorem dX12_wide_6 : decode cX12_wide 6 = .ok (.getfield 7, 3) := by decide +kernel
theorem dX12_wide_9 : decode cX12_wide 9 = .ok (.bipush 20, 2) := by decide +kernel
theorem dX12_wide_11 : decode cX12_wide 11 = .ok (.aload_n 0, 1) := by decide +kernel
theorem dX12_wide_12 : decode cX12_wide 12 = .ok (.iload_n 1, 1) := by decide +kernel
theorem dX12_wide_13 : decode cX12_wide 13 = .ok (.iload_n 2, 1) := by decide +kernel
theorem dX12_wide_14 : decode cX12_wide 14 = .ok (.invokevirtual 168, 3) := by decide +kernel
theorem dX12_wide_17 : decode cX12_wide 17 = .ok (.iadd, 1) := by decide +kernel
theorem dX12_wide_18 : decode cX12_wide 18 = .ok (.bipush 97, 2) := by decide +kernel
theorem dX12_wide_20 : decode cX12_wide 20 = .ok (.isub, 1) := by decide +kernel
theorem dX12_wide_21 : decode cX12_wide 21 = .ok (.iaload, 1) := by decide +kernel
theorem dX12_wide_22 : decode cX12_wide 22 = .ok (.ireturn, 1) := by decide +kernel
theorem dX12_wide_23 : decode cX12_wide 23 = .ok (.aload_n 0, 1) := by decide +kernel
theorem dX12_wide_24 : decode cX12_wide 24 = .ok (.iload_n 1, 1) := by decide +kernel
theorem dX12_wide_25 : decode cX12_wide 25 = .ok (.iload_n 2, 1) := by decide +kernel
theorem dX12_wide_26 : decode cX12_wide 26 = .ok (.iload_n 3, 1) := by decide +kernel
theorem dX12_wide_27 : decode cX12_wide 27 = .ok (.invokevirtual 173, 3) := by decide +kernel
theorem dX12_wide_30 : decode cX12_wide 30 = .ok (.istore 4, 2) := by decide +kernel
theorem dX12_wide_32 : decode cX12_wide 32 = .ok (.iload 4, 2) := by decide +kernel
theorem dX12_wide_34 : decode cX12_wide 34 = .ok (.iconst (-1), 1) := by decide +kernel
theorem dX12_wide_35 : decode cX12_wide 35 = .ok (.if_icmp .ne 7, 3) := by decide +kernel
theorem dX12_wide_38 : decode cX12_wide 38 = .ok (.iconst 0, 1) := by decide +kernel
theorem dX12_wide_39 : decode cX12_wide 39 = .ok (.goto 10, 3) := by decide +kernel
theorem dX12_wide_42 : decode cX12_wide 42 = .ok (.aload_n 0, 1) := by decide +kernel
theorem dX12_wide_43 : decode cX12_wide 43 = .ok (.getfield 25, 3) := by decide +kernel
theorem dX12_wide_46 : decode cX12_wide 46 = .ok (.iload 4, 2) := by decide +kernel
theorem dX12_wide_48 : decode cX12_wide 48 = .ok (.iaload, 1) := by decide +kernel
theorem dX12_wide_49 : decode cX12_wide 49 = .ok (.ireturn, 1) := by decide +kernel
theorem dX12_ugly_0 : decode cX12_ugly 0 = .ok (.iload_n 3, 1) := by decide +kernel
theorem dX12_ugly_1 : decode cX12_ugly 1 = .ok (.iconst 1, 1) := by decide +kernel
theorem dX12_ugly_2 : decode cX12_ugly 2 = .ok (.if_icmp .ne 7, 3) := by decide +kernel
theorem dX12_ugly_5 : decode cX12_ugly 5 = .ok (.iconst 0, 1) := by decide +kernel
theorem dX12_ugly_6 : decode cX12_ugly 6 = .ok (.goto 15, 3) := by decide +kernel
theorem dX12_ugly_9 : decode cX12_ugly 9 = .ok (.aload_n 0, 1) := by decide +kernel
theorem dX12_ugly_10 : decode cX12_ugly 10 = .ok (.getfield 28, 3) := by decide +kernel
theorem dX12_ugly_13 : decode cX12_ugly 13 = .ok (.aload_n 0, 1) := by decide +kernel
theorem dX12_ugly_14 : decode cX12_ugly 14 = .ok (.iload_n 1, 1) := by decide +kernel
theorem dX12_ugly_15 : decode cX12_ugly 15 = .ok (.iload_n 2, 1) := by decide +kernel
theorem dX12_ugly_16 : decode cX12_ugly 16 = .ok (.iload_n 3, 1) := by decide +kernel
theorem dX12_ugly_17 : decode cX12_ugly 17 = .ok (.invokevirtual 173, 3) := by decide +kernel
theorem dX12_ugly_20 : decode cX12_ugly 20 = .ok (.iaload, 1) := by decide +kernel
theorem dX12_ugly_21 : decode cX12_ugly 21 = .ok (.ireturn, 1) := by decide +kernel
theorem dX12_isLetter_0 : decode cX12_isLetter 0 = .ok (.aload_n 0, 1) := by decide +kernel
theorem dX12_isLetter_1 : decode cX12_isLetter 1 = .ok (.iload_n 1, 1) := by decide +kernel
theorem dX12_isLetter_2 : decode cX12_isLetter 2 = .ok (.iload_n 2, 1) := by decide +kernel
theorem dX12_isLetter_3 : decode cX12_isLetter 3 = .ok (.invokevirtual 168, 3) := by decide +kernel
theorem dX12_isLetter_6 : decode cX12_isLetter 6 = .ok (.bipush 97, 2) := by decide +kernel
theorem dX12_isLetter_8 : decode cX12_isLetter 8 = .ok (.bipush 122, 2) := by decide +kernel
theorem dX12_isLetter_10 : decode cX12_isLetter 10 = .ok (.invokestatic 66, 3) := by decide +kernel
theorem dX12_isLetter_13 : decode cX12_isLetter 13 = .ok (.ireturn, 1) := by decide +kernel
theorem dX12_goingOn_0 : decode cX12_goingOn 0 = .ok (.aload_n 0, 1) := by decide +kernel
theorem dX12_goingOn_1 : decode cX12_goingOn 1 = .ok (.iload_n 1, 1) := by decide +kernel
theorem dX12_goingOn_2 : decode cX12_goingOn 2 = .ok (.iload_n 2, 1) := by decide +kernel
theorem dX12_goingOn_3 : decode cX12_goingOn 3 = .ok (.iload_n 3, 1) := by decide +kernel
theorem dX12_goingOn_4 : decode cX12_goingOn 4 = .ok (.invokevirtual 176, 3) := by decide +kernel
theorem dX12_goingOn_7 : decode cX12_goingOn 7 = .ok (.istore 5, 2) := by decide +kernel
theorem dX12_goingOn_9 : decode cX12_goingOn 9 = .ok (.iload 5, 2) := by decide +kernel
theorem dX12_goingOn_11 : decode cX12_goingOn 11 = .ok (.ifCond .ne 8, 3) := by decide +kernel
theorem dX12_goingOn_14 : decode cX12_goingOn 14 = .ok (.ldc 172, 2) := by decide +kernel
theorem dX12_goingOn_16 : decode cX12_goingOn 16 = .ok (.goto 39, 3) := by decide +kernel
theorem dX12_goingOn_19 : decode cX12_goingOn 19 = .ok (.aload_n 0, 1) := by decide +kernel
theorem dX12_goingOn_20 : decode cX12_goingOn 20 = .ok (.iload_n 1, 1) := by decide +kernel
theorem dX12_goingOn_21 : decode cX12_goingOn 21 = .ok (.iload_n 2, 1) := by decide +kernel
theorem dX12_goingOn_22 : decode cX12_goingOn 22 = .ok (.iload_n 3, 1) := by decide +kernel
theorem dX12_goingOn_23 : decode cX12_goingOn 23 = .ok (.invokevirtual 179, 3) := by decide +kernel
theorem dX12_goingOn_26 : decode cX12_goingOn 26 = .ok (.aload_n 0, 1) := by decide +kernel
theorem dX12_goingOn_27 : decode cX12_goingOn 27 = .ok (.iload_n 2, 1) := by decide +kernel
theorem dX12_goingOn_28 : decode cX12_goingOn 28 = .ok (.iload_n 3, 1) := by decide +kernel
theorem dX12_goingOn_29 : decode cX12_goingOn 29 = .ok (.iadd, 1) := by decide +kernel
theorem dX12_goingOn_30 : decode cX12_goingOn 30 = .ok (.iload 4, 2) := by decide +kernel
theorem dX12_goingOn_32 : decode cX12_goingOn 32 = .ok (.iload 5, 2) := by decide +kernel
theorem dX12_goingOn_34 : decode cX12_goingOn 34 = .ok (.iadd, 1) := by decide +kernel
theorem dX12_goingOn_35 : decode cX12_goingOn 35 = .ok (.aload_n 0, 1) := by decide +kernel
theorem dX12_goingOn_36 : decode cX12_goingOn 36 = .ok (.iload_n 1, 1) := by decide +kernel
theorem dX12_goingOn_37 : decode cX12_goingOn 37 = .ok (.iload_n 2, 1) := by decide +kernel
theorem dX12_goingOn_38 : decode cX12_goingOn 38 = .ok (.iload_n 3, 1) := by decide +kernel
theorem dX12_goingOn_39 : decode cX12_goingOn 39 = .ok (.iadd, 1) := by decide +kernel
theorem dX12_goingOn_40 : decode cX12_goingOn 40 = .ok (.invokevirtual 182, 3) := by decide +kernel
theorem dX12_goingOn_43 : decode cX12_goingOn 43 = .ok (.ifCond .eq 7, 3) := by decide +kernel
theorem dX12_goingOn_46 : decode cX12_goingOn 46 = .ok (.iconst 1, 1) := by decide +kernel
theorem dX12_goingOn_47 : decode cX12_goingOn 47 = .ok (.goto 4, 3) := by decide +kernel
theorem dX12_goingOn_50 : decode cX12_goingOn 50 = .ok (.iconst 0, 1) := by decide +kernel
theorem dX12_goingOn_51 : decode cX12_goingOn 51 = .ok (.invokevirtual 185, 3) := by decide +kernel
theorem dX12_goingOn_54 : decode cX12_goingOn 54 = .ok (.iadd, 1) := by decide +kernel
theorem dX12_goingOn_55 : decode cX12_goingOn 55 = .ok (.ireturn, 1) := by decide +kernel
theorem dX12_breaking_0 : decode cX12_breaking 0 = .ok (.aload_n 0, 1) := by decide +kernel
theorem dX12_breaking_1 : decode cX12_breaking 1 = .ok (.iload_n 1, 1) := by decide +kernel
theorem dX12_breaking_2 : decode cX12_breaking 2 = .ok (.iload_n 2, 1) := by decide +kernel
theorem dX12_breaking_3 : decode cX12_breaking 3 = .ok (.iload_n 3, 1) := by decide +kernel
theorem dX12_breaking_4 : decode cX12_breaking 4 = .ok (.invokevirtual 176, 3) := by decide +kernel
theorem dX12_breaking_7 : decode cX12_breaking 7 = .ok (.istore 6, 2) := by decide +kernel
theorem dX12_breaking_9 : decode cX12_breaking 9 = .ok (.iload 6, 2) := by decide +kernel
theorem dX12_breaking_11 : decode cX12_breaking 11 = .ok (.ifCond .le 46, 3) := by decide +kernel
theorem dX12_breaking_14 : decode cX12_breaking 14 = .ok (.iload 5, 2) := by decide +kernel
theorem dX12_breaking_16 : decode cX12_breaking 16 = .ok (.iconst 1, 1) := by decide +kernel
theorem dX12_breaking_17 : decode cX12_breaking 17 = .ok (.if_icmp .ne 40, 3) := by decide +kernel
theorem dX12_breaking_20 : decode cX12_breaking 20 = .ok (.aload_n 0, 1) := by decide +kernel
theorem dX12_breaking_21 : decode cX12_breaking 21 = .ok (.iload_n 1, 1) := by decide +kernel
theorem dX12_breaking_22 : decode cX12_breaking 22 = .ok (.iload_n 2, 1) := by decide +kernel
theorem dX12_breaking_23 : decode cX12_breaking 23 = .ok (.iload_n 3, 1) := by decide +kernel
theorem dX12_breaking_24 : decode cX12_breaking 24 = .ok (.iadd, 1) := by decide +kernel
theorem dX12_breaking_25 : decode cX12_breaking 25 = .ok (.invokevirtual 182, 3) := by decide +kernel
theorem dX12_breaking_28 : decode cX12_breaking 28 = .ok (.ifCond .eq 29, 3) := by decide +kernel
theorem dX12_breaking_31 : decode cX12_breaking 31 = .ok (.iload 4, 2) := by decide +kernel
theorem dX12_breaking_33 : decode cX12_breaking 33 = .ok (.iload 6, 2) := by decide +kernel
theorem dX12_breaking_35 : decode cX12_breaking 35 = .ok (.iadd, 1) := by decide +kernel
theorem dX12_breaking_36 : decode cX12_breaking 36 = .ok (.aload_n 0, 1) := by decide +kernel
theorem dX12_breaking_37 : decode cX12_breaking 37 = .ok (.getfield 7, 3) := by decide +kernel
theorem dX12_breaking_40 : decode cX12_breaking 40 = .ok (.bipush 46, 2) := by decide +kernel
theorem dX12_breaking_42 : decode cX12_breaking 42 = .ok (.iaload, 1) := by decide +kernel
theorem dX12_breaking_43 : decode cX12_breaking 43 = .ok (.iadd, 1) := by decide +kernel
theorem dX12_breaking_44 : decode cX12_breaking 44 = .ok (.aload_n 0, 1) := by decide +kernel
theorem dX12_breaking_45 : decode cX12_breaking 45 = .ok (.getfield 19, 3) := by decide +kernel
theorem dX12_breaking_48 : decode cX12_breaking 48 = .ok (.iconst 2, 1) := by decide +kernel
theorem dX12_breaking_49 : decode cX12_breaking 49 = .ok (.iaload, 1) := by decide +kernel
theorem dX12_breaking_50 : decode cX12_breaking 50 = .ok (.if_icmp .ne 7, 3) := by decide +kernel
theorem dX12_breaking_53 : decode cX12_breaking 53 = .ok (.iconst 1, 1) := by decide +kernel
theorem dX12_breaking_54 : decode cX12_breaking 54 = .ok (.goto 4, 3) := by decide +kernel
theorem dX12_breaking_57 : decode cX12_breaking 57 = .ok (.iconst 0, 1) := by decide +kernel
theorem dX12_breaking_58 : decode cX12_breaking 58 = .ok (.istore 7, 2) := by decide +kernel
theorem dX12_breaking_60 : decode cX12_breaking 60 = .ok (.iload 7, 2) := by decide +kernel
theorem dX12_breaking_62 : decode cX12_breaking 62 = .ok (.ifCond .eq 30, 3) := by decide +kernel
theorem dX12_breaking_65 : decode cX12_breaking 65 = .ok (.aload_n 0, 1) := by decide +kernel
theorem dX12_breaking_66 : decode cX12_breaking 66 = .ok (.iload_n 1, 1) := by decide +kernel
theorem dX12_breaking_67 : decode cX12_breaking 67 = .ok (.iload_n 2, 1) := by decide +kernel
theorem dX12_breaking_68 : decode cX12_breaking 68 = .ok (.iload_n 3, 1) := by decide +kernel
theorem dX12_breaking_69 : decode cX12_breaking 69 = .ok (.invokevirtual 179, 3) := by decide +kernel
theorem dX12_breaking_72 : decode cX12_breaking 72 = .ok (.aload_n 0, 1) := by decide +kernel
theorem dX12_breaking_73 : decode cX12_breaking 73 = .ok (.getfield 19, 3) := by decide +kernel
theorem dX12_breaking_76 : decode cX12_breaking 76 = .ok (.iconst 5, 1) := by decide +kernel
theorem dX12_breaking_77 : decode cX12_breaking 77 = .ok (.iaload, 1) := by decide +kernel
theorem dX12_breaking_78 : decode cX12_breaking 78 = .ok (.iadd, 1) := by decide +kernel
theorem dX12_breaking_79 : decode cX12_breaking 79 = .ok (.aload_n 0, 1) := by decide +kernel
theorem dX12_breaking_80 : decode cX12_breaking 80 = .ok (.iload_n 2, 1) := by decide +kernel
theorem dX12_breaking_81 : decode cX12_breaking 81 = .ok (.iload_n 3, 1) := by decide +kernel
theorem dX12_breaking_82 : decode cX12_breaking 82 = .ok (.iadd, 1) := by decide +kernel
theorem dX12_breaking_83 : decode cX12_breaking 83 = .ok (.iconst 0, 1) := by decide +kernel
theorem dX12_breaking_84 : decode cX12_breaking 84 = .ok (.iconst 0, 1) := by decide +kernel
theorem dX12_breaking_85 : decode cX12_breaking 85 = .ok (.invokevirtual 185, 3) := by decide +kernel
theorem dX12_breaking_88 : decode cX12_breaking 88 = .ok (.iadd, 1) := by decide +kernel
theorem dX12_breaking_89 : decode cX12_breaking 89 = .ok (.goto 5, 3) := by decide +kernel
theorem dX12_breaking_92 : decode cX12_breaking 92 = .ok (.ldc 172, 2) := by decide +kernel
theorem dX12_breaking_94 : decode cX12_breaking 94 = .ok (.ireturn, 1) := by decide +kernel
theorem dX12_blanked_0 : decode cX12_blanked 0 = .ok (.aload_n 0, 1) := by decide +kernel
theorem dX12_blanked_1 : decode cX12_blanked 1 = .ok (.getfield 19, 3) := by decide +kernel
theorem dX12_blanked_4 : decode cX12_blanked 4 = .ok (.bipush 6, 2) := by decide +kernel
theorem dX12_blanked_6 : decode cX12_blanked 6 = .ok (.iaload, 1) := by decide +kernel
theorem dX12_blanked_7 : decode cX12_blanked 7 = .ok (.iload_n 3, 1) := by decide +kernel
theorem dX12_blanked_8 : decode cX12_blanked 8 = .ok (.aload_n 0, 1) := by decide +kernel
theorem dX12_blanked_9 : decode cX12_blanked 9 = .ok (.getfield 19, 3) := by decide +kernel
theorem dX12_blanked_12 : decode cX12_blanked 12 = .ok (.iconst 3, 1) := by decide +kernel
theorem dX12_blanked_13 : decode cX12_blanked 13 = .ok (.iaload, 1) := by decide +kernel
theorem dX12_blanked_14 : decode cX12_blanked 14 = .ok (.isub, 1) := by decide +kernel
theorem dX12_blanked_15 : decode cX12_blanked 15 = .ok (.imul, 1) := by decide +kernel
theorem dX12_blanked_16 : decode cX12_blanked 16 = .ok (.aload_n 0, 1) := by decide +kernel
theorem dX12_blanked_17 : decode cX12_blanked 17 = .ok (.iload_n 1, 1) := by decide +kernel
theorem dX12_blanked_18 : decode cX12_blanked 18 = .ok (.iconst 1, 1) := by decide +kernel
theorem dX12_blanked_19 : decode cX12_blanked 19 = .ok (.iadd, 1) := by decide +kernel
theorem dX12_blanked_20 : decode cX12_blanked 20 = .ok (.iload_n 2, 1) := by decide +kernel
theorem dX12_blanked_21 : decode cX12_blanked 21 = .ok (.iload_n 3, 1) := by decide +kernel
theorem dX12_blanked_22 : decode cX12_blanked 22 = .ok (.iadd, 1) := by decide +kernel
theorem dX12_blanked_23 : decode cX12_blanked 23 = .ok (.iconst 0, 1) := by decide +kernel
theorem dX12_blanked_24 : decode cX12_blanked 24 = .ok (.invokevirtual 185, 3) := by decide +kernel
theorem dX12_blanked_27 : decode cX12_blanked 27 = .ok (.iadd, 1) := by decide +kernel
theorem dX12_blanked_28 : decode cX12_blanked 28 = .ok (.ireturn, 1) := by decide +kernel
theorem dX12_ended_0 : decode cX12_ended 0 = .ok (.iload_n 2, 1) := by decide +kernel
theorem dX12_ended_1 : decode cX12_ended 1 = .ok (.aload_n 0, 1) := by decide +kernel
theorem dX12_ended_2 : decode cX12_ended 2 = .ok (.getfield 19, 3) := by decide +kernel
theorem dX12_ended_5 : decode cX12_ended 5 = .ok (.iconst 2, 1) := by decide +kernel
theorem dX12_ended_6 : decode cX12_ended 6 = .ok (.iaload, 1) := by decide +kernel
theorem dX12_ended_7 : decode cX12_ended 7 = .ok (.if_icmp .ne 15, 3) := by decide +kernel
theorem dX12_ended_10 : decode cX12_ended 10 = .ok (.aload_n 0, 1) := by decide +kernel
theorem dX12_ended_11 : decode cX12_ended 11 = .ok (.iload_n 1, 1) := by decide +kernel
theorem dX12_ended_12 : decode cX12_ended 12 = .ok (.iconst 1, 1) := by decide +kernel
theorem dX12_ended_13 : decode cX12_ended 13 = .ok (.iadd, 1) := by decide +kernel
theorem dX12_ended_14 : decode cX12_ended 14 = .ok (.iconst 0, 1) := by decide +kernel
theorem dX12_ended_15 : decode cX12_ended 15 = .ok (.iconst 0, 1) := by decide +kernel
theorem dX12_ended_16 : decode cX12_ended 16 = .ok (.invokevirtual 185, 3) := by decide +kernel
theorem dX12_ended_19 : decode cX12_ended 19 = .ok (.goto 5, 3) := by decide +kernel
theorem dX12_ended_22 : decode cX12_ended 22 = .ok (.ldc 172, 2) := by decide +kernel
theorem dX12_ended_24 : decode cX12_ended 24 = .ok (.ireturn, 1) := by decide +kernel
theorem dX12_leastOf_0 : decode cX12_leastOf 0 = .ok (.ldc 172, 2) := by decide +kernel
theorem dX12_leastOf_2 : decode cX12_leastOf 2 = .ok (.istore 5, 2) := by decide +kernel
theorem dX12_leastOf_4 : decode cX12_leastOf 4 = .ok (.aload_n 0, 1) := by decide +kernel
theorem dX12_leastOf_5 : decode cX12_leastOf 5 = .ok (.iload_n 1, 1) := by decide +kernel
theorem dX12_leastOf_6 : decode cX12_leastOf 6 = .ok (.iload_n 2, 1) := by decide +kernel
theorem dX12_leastOf_7 : decode cX12_leastOf 7 = .ok (.invokevirtual 182, 3) := by decide +kernel
theorem dX12_leastOf_10 : decode cX12_leastOf 10 = .ok (.ifCond .eq 76, 3) := by decide +kernel
theorem dX12_leastOf_13 : decode cX12_leastOf 13 = .ok (.iconst 3, 1) := by decide +kernel
theorem dX12_leastOf_14 : decode cX12_leastOf 14 = .ok (.istore 6, 2) := by decide +kernel
theorem dX12_leastOf_16 : decode cX12_leastOf 16 = .ok (.iload 6, 2) := by decide +kernel
theorem dX12_leastOf_18 : decode cX12_leastOf 18 = .ok (.ifCond .le 65, 3) := by decide +kernel
theorem dX12_leastOf_21 : decode cX12_leastOf 21 = .ok (.aload_n 0, 1) := by decide +kernel
theorem dX12_leastOf_22 : decode cX12_leastOf 22 = .ok (.iload_n 1, 1) := by decide +kernel
theorem dX12_leastOf_23 : decode cX12_leastOf 23 = .ok (.iload_n 2, 1) := by decide +kernel
theorem dX12_leastOf_24 : decode cX12_leastOf 24 = .ok (.iload 6, 2) := by decide +kernel
theorem dX12_leastOf_26 : decode cX12_leastOf 26 = .ok (.iload_n 3, 1) := by decide +kernel
theorem dX12_leastOf_27 : decode cX12_leastOf 27 = .ok (.invokevirtual 188, 3) := by decide +kernel
theorem dX12_leastOf_30 : decode cX12_leastOf 30 = .ok (.istore 7, 2) := by decide +kernel
theorem dX12_leastOf_32 : decode cX12_leastOf 32 = .ok (.aload_n 0, 1) := by decide +kernel
theorem dX12_leastOf_33 : decode cX12_leastOf 33 = .ok (.iload_n 1, 1) := by decide +kernel
theorem dX12_leastOf_34 : decode cX12_leastOf 34 = .ok (.iload_n 2, 1) := by decide +kernel
theorem dX12_leastOf_35 : decode cX12_leastOf 35 = .ok (.iload 6, 2) := by decide +kernel
theorem dX12_leastOf_37 : decode cX12_leastOf 37 = .ok (.iload_n 3, 1) := by decide +kernel
theorem dX12_leastOf_38 : decode cX12_leastOf 38 = .ok (.iload 4, 2) := by decide +kernel
theorem dX12_leastOf_40 : decode cX12_leastOf 40 = .ok (.invokevirtual 192, 3) := by decide +kernel
theorem dX12_leastOf_43 : decode cX12_leastOf 43 = .ok (.istore 8, 2) := by decide +kernel
theorem dX12_leastOf_45 : decode cX12_leastOf 45 = .ok (.iload 7, 2) := by decide +kernel
theorem dX12_leastOf_47 : decode cX12_leastOf 47 = .ok (.iload 5, 2) := by decide +kernel
theorem dX12_leastOf_49 : decode cX12_leastOf 49 = .ok (.if_icmp .ge 8, 3) := by decide +kernel
theorem dX12_leastOf_52 : decode cX12_leastOf 52 = .ok (.iload 7, 2) := by decide +kernel
theorem dX12_leastOf_54 : decode cX12_leastOf 54 = .ok (.goto 5, 3) := by decide +kernel
theorem dX12_leastOf_57 : decode cX12_leastOf 57 = .ok (.iload 5, 2) := by decide +kernel
theorem dX12_leastOf_59 : decode cX12_leastOf 59 = .ok (.istore 5, 2) := by decide +kernel
theorem dX12_leastOf_61 : decode cX12_leastOf 61 = .ok (.iload 8, 2) := by decide +kernel
theorem dX12_leastOf_63 : decode cX12_leastOf 63 = .ok (.iload 5, 2) := by decide +kernel
theorem dX12_leastOf_65 : decode cX12_leastOf 65 = .ok (.if_icmp .ge 8, 3) := by decide +kernel
theorem dX12_leastOf_68 : decode cX12_leastOf 68 = .ok (.iload 8, 2) := by decide +kernel
theorem dX12_leastOf_70 : decode cX12_leastOf 70 = .ok (.goto 5, 3) := by decide +kernel
theorem dX12_leastOf_73 : decode cX12_leastOf 73 = .ok (.iload 5, 2) := by decide +kernel
theorem dX12_leastOf_75 : decode cX12_leastOf 75 = .ok (.istore 5, 2) := by decide +kernel
theorem dX12_leastOf_77 : decode cX12_leastOf 77 = .ok (.iinc 6 (-1), 3) := by decide +kernel
theorem dX12_leastOf_80 : decode cX12_leastOf 80 = .ok (.goto (-64), 3) := by decide +kernel
theorem dX12_leastOf_83 : decode cX12_leastOf 83 = .ok (.iload 5, 2) := by decide +kernel
theorem dX12_leastOf_85 : decode cX12_leastOf 85 = .ok (.ireturn, 1) := by decide +kernel
theorem dX12_leastOf_86 : decode cX12_leastOf 86 = .ok (.aload_n 0, 1) := by decide +kernel
theorem dX12_leastOf_87 : decode cX12_leastOf 87 = .ok (.getfield 19, 3) := by decide +kernel
theorem dX12_leastOf_90 : decode cX12_leastOf 90 = .ok (.iconst 3, 1) := by decide +kernel
theorem dX12_leastOf_91 : decode cX12_leastOf 91 = .ok (.iaload, 1) := by decide +kernel
theorem dX12_leastOf_92 : decode cX12_leastOf 92 = .ok (.istore 6, 2) := by decide +kernel
theorem dX12_leastOf_94 : decode cX12_leastOf 94 = .ok (.iload 6, 2) := by decide +kernel
theorem dX12_leastOf_96 : decode cX12_leastOf 96 = .ok (.aload_n 0, 1) := by decide +kernel
theorem dX12_leastOf_97 : decode cX12_leastOf 97 = .ok (.getfield 19, 3) := by decide +kernel
theorem dX12_leastOf_100 : decode cX12_leastOf 100 = .ok (.iconst 4, 1) := by decide +kernel
theorem dX12_leastOf_101 : decode cX12_leastOf 101 = .ok (.iaload, 1) := by decide +kernel
theorem dX12_leastOf_102 : decode cX12_leastOf 102 = .ok (.if_icmp .gt 35, 3) := by decide +kernel
theorem dX12_leastOf_105 : decode cX12_leastOf 105 = .ok (.aload_n 0, 1) := by decide +kernel
theorem dX12_leastOf_106 : decode cX12_leastOf 106 = .ok (.iload_n 2, 1) := by decide +kernel
theorem dX12_leastOf_107 : decode cX12_leastOf 107 = .ok (.iload_n 3, 1) := by decide +kernel
theorem dX12_leastOf_108 : decode cX12_leastOf 108 = .ok (.iload 6, 2) := by decide +kernel
theorem dX12_leastOf_110 : decode cX12_leastOf 110 = .ok (.invokevirtual 196, 3) := by decide +kernel
theorem dX12_leastOf_113 : decode cX12_leastOf 113 = .ok (.istore 7, 2) := by decide +kernel
theorem dX12_leastOf_115 : decode cX12_leastOf 115 = .ok (.iload 7, 2) := by decide +kernel
theorem dX12_leastOf_117 : decode cX12_leastOf 117 = .ok (.iload 5, 2) := by decide +kernel
theorem dX12_leastOf_119 : decode cX12_leastOf 119 = .ok (.if_icmp .ge 8, 3) := by decide +kernel
theorem dX12_leastOf_122 : decode cX12_leastOf 122 = .ok (.iload 7, 2) := by decide +kernel
theorem dX12_leastOf_124 : decode cX12_leastOf 124 = .ok (.goto 5, 3) := by decide +kernel
theorem dX12_leastOf_127 : decode cX12_leastOf 127 = .ok (.iload 5, 2) := by decide +kernel
theorem dX12_leastOf_129 : decode cX12_leastOf 129 = .ok (.istore 5, 2) := by decide +kernel
theorem dX12_leastOf_131 : decode cX12_leastOf 131 = .ok (.iinc 6 1, 3) := by decide +kernel
theorem dX12_leastOf_134 : decode cX12_leastOf 134 = .ok (.goto (-40), 3) := by decide +kernel
theorem dX12_leastOf_137 : decode cX12_leastOf 137 = .ok (.aload_n 0, 1) := by decide +kernel
theorem dX12_leastOf_138 : decode cX12_leastOf 138 = .ok (.iload_n 2, 1) := by decide +kernel
theorem dX12_leastOf_139 : decode cX12_leastOf 139 = .ok (.iload_n 3, 1) := by decide +kernel
theorem dX12_leastOf_140 : decode cX12_leastOf 140 = .ok (.invokevirtual 199, 3) := by decide +kernel
theorem dX12_leastOf_143 : decode cX12_leastOf 143 = .ok (.istore 6, 2) := by decide +kernel
theorem dX12_leastOf_145 : decode cX12_leastOf 145 = .ok (.iload 6, 2) := by decide +kernel
theorem dX12_leastOf_147 : decode cX12_leastOf 147 = .ok (.iload 5, 2) := by decide +kernel
theorem dX12_leastOf_149 : decode cX12_leastOf 149 = .ok (.if_icmp .ge 8, 3) := by decide +kernel
theorem dX12_leastOf_152 : decode cX12_leastOf 152 = .ok (.iload 6, 2) := by decide +kernel
theorem dX12_leastOf_154 : decode cX12_leastOf 154 = .ok (.goto 5, 3) := by decide +kernel
theorem dX12_leastOf_157 : decode cX12_leastOf 157 = .ok (.iload 5, 2) := by decide +kernel
theorem dX12_leastOf_159 : decode cX12_leastOf 159 = .ok (.ireturn, 1) := by decide +kernel
theorem dX12_sets_0 : decode cX12_sets 0 = .ok (.aload_n 0, 1) := by decide +kernel
theorem dX12_sets_1 : decode cX12_sets 1 = .ok (.iload_n 2, 1) := by decide +kernel
theorem dX12_sets_2 : decode cX12_sets 2 = .ok (.invokevirtual 165, 3) := by decide +kernel
theorem dX12_sets_5 : decode cX12_sets 5 = .ok (.aload_n 0, 1) := by decide +kernel
theorem dX12_sets_6 : decode cX12_sets 6 = .ok (.getfield 7, 3) := by decide +kernel
theorem dX12_sets_9 : decode cX12_sets 9 = .ok (.sipush 1660, 3) := by decide +kernel
theorem dX12_sets_12 : decode cX12_sets 12 = .ok (.iload_n 1, 1) := by decide +kernel
theorem dX12_sets_13 : decode cX12_sets 13 = .ok (.iadd, 1) := by decide +kernel
theorem dX12_sets_14 : decode cX12_sets 14 = .ok (.iaload, 1) := by decide +kernel
theorem dX12_sets_15 : decode cX12_sets 15 = .ok (.istore_n 3, 1) := by decide +kernel
theorem dX12_sets_16 : decode cX12_sets 16 = .ok (.iload_n 3, 1) := by decide +kernel
theorem dX12_sets_17 : decode cX12_sets 17 = .ok (.istore 4, 2) := by decide +kernel
theorem dX12_sets_19 : decode cX12_sets 19 = .ok (.iload 4, 2) := by decide +kernel
theorem dX12_sets_21 : decode cX12_sets 21 = .ok (.ifCond .lt 82, 3) := by decide +kernel
theorem dX12_sets_24 : decode cX12_sets 24 = .ok (.aload_n 0, 1) := by decide +kernel
theorem dX12_sets_25 : decode cX12_sets 25 = .ok (.getfield 19, 3) := by decide +kernel
theorem dX12_sets_28 : decode cX12_sets 28 = .ok (.iconst 2, 1) := by decide +kernel
theorem dX12_sets_29 : decode cX12_sets 29 = .ok (.iaload, 1) := by decide +kernel
theorem dX12_sets_30 : decode cX12_sets 30 = .ok (.istore 5, 2) := by decide +kernel
theorem dX12_sets_32 : decode cX12_sets 32 = .ok (.iload 5, 2) := by decide +kernel
theorem dX12_sets_34 : decode cX12_sets 34 = .ok (.ifCond .lt 63, 3) := by decide +kernel
theorem dX12_sets_37 : decode cX12_sets 37 = .ok (.iconst 0, 1) := by decide +kernel
theorem dX12_sets_38 : decode cX12_sets 38 = .ok (.istore 6, 2) := by decide +kernel
theorem dX12_sets_40 : decode cX12_sets 40 = .ok (.iload 6, 2) := by decide +kernel
theorem dX12_sets_42 : decode cX12_sets 42 = .ok (.iconst 2, 1) := by decide +kernel
theorem dX12_sets_43 : decode cX12_sets 43 = .ok (.if_icmp .ge 48, 3) := by decide +kernel
theorem dX12_sets_46 : decode cX12_sets 46 = .ok (.aload_n 0, 1) := by decide +kernel
theorem dX12_sets_47 : decode cX12_sets 47 = .ok (.getfield 35, 3) := by decide +kernel
theorem dX12_sets_50 : decode cX12_sets 50 = .ok (.bipush 82, 2) := by decide +kernel
theorem dX12_sets_52 : decode cX12_sets 52 = .ok (.iload 4, 2) := by decide +kernel
theorem dX12_sets_54 : decode cX12_sets 54 = .ok (.imul, 1) := by decide +kernel
theorem dX12_sets_55 : decode cX12_sets 55 = .ok (.iconst 2, 1) := by decide +kernel
theorem dX12_sets_56 : decode cX12_sets 56 = .ok (.iload 5, 2) := by decide +kernel
theorem dX12_sets_58 : decode cX12_sets 58 = .ok (.imul, 1) := by decide +kernel
theorem dX12_sets_59 : decode cX12_sets 59 = .ok (.iadd, 1) := by decide +kernel
theorem dX12_sets_60 : decode cX12_sets 60 = .ok (.iload 6, 2) := by decide +kernel
theorem dX12_sets_62 : decode cX12_sets 62 = .ok (.iadd, 1) := by decide +kernel
theorem dX12_sets_63 : decode cX12_sets 63 = .ok (.iload 4, 2) := by decide +kernel
theorem dX12_sets_65 : decode cX12_sets 65 = .ok (.iload_n 3, 1) := by decide +kernel
theorem dX12_sets_66 : decode cX12_sets 66 = .ok (.if_icmp .ne 7, 3) := by decide +kernel
theorem dX12_sets_69 : decode cX12_sets 69 = .ok (.iconst 0, 1) := by decide +kernel
theorem dX12_sets_70 : decode cX12_sets 70 = .ok (.goto 14, 3) := by decide +kernel
theorem dX12_sets_73 : decode cX12_sets 73 = .ok (.aload_n 0, 1) := by decide +kernel
theorem dX12_sets_74 : decode cX12_sets 74 = .ok (.iload_n 1, 1) := by decide +kernel
theorem dX12_sets_75 : decode cX12_sets 75 = .ok (.iload 4, 2) := by decide +kernel
theorem dX12_sets_77 : decode cX12_sets 77 = .ok (.iload 5, 2) := by decide +kernel
theorem dX12_sets_79 : decode cX12_sets 79 = .ok (.iload 6, 2) := by decide +kernel
theorem dX12_sets_81 : decode cX12_sets 81 = .ok (.invokevirtual 202, 3) := by decide +kernel
theorem dX12_sets_84 : decode cX12_sets 84 = .ok (.iastore, 1) := by decide +kernel
theorem dX12_sets_85 : decode cX12_sets 85 = .ok (.iinc 6 1, 3) := by decide +kernel
theorem dX12_sets_88 : decode cX12_sets 88 = .ok (.goto (-48), 3) := by decide +kernel
theorem dX12_sets_91 : decode cX12_sets 91 = .ok (.iinc 5 (-1), 3) := by decide +kernel
theorem dX12_sets_94 : decode cX12_sets 94 = .ok (.goto (-62), 3) := by decide +kernel
theorem dX12_sets_97 : decode cX12_sets 97 = .ok (.iinc 4 (-1), 3) := by decide +kernel
theorem dX12_sets_100 : decode cX12_sets 100 = .ok (.goto (-81), 3) := by decide +kernel
theorem dX12_sets_103 : decode cX12_sets 103 = .ok (.aload_n 0, 1) := by decide +kernel
theorem dX12_sets_104 : decode cX12_sets 104 = .ok (.aload_n 0, 1) := by decide +kernel
theorem dX12_sets_105 : decode cX12_sets 105 = .ok (.getfield 35, 3) := by decide +kernel
theorem dX12_sets_108 : decode cX12_sets 108 = .ok (.iconst 0, 1) := by decide +kernel
theorem dX12_sets_109 : decode cX12_sets 109 = .ok (.iaload, 1) := by decide +kernel
theorem dX12_sets_110 : decode cX12_sets 110 = .ok (.putfield 205, 3) := by decide +kernel
theorem dX12_sets_113 : decode cX12_sets 113 = .ok (.aload_n 0, 1) := by decide +kernel
theorem dX12_sets_114 : decode cX12_sets 114 = .ok (.getfield 205, 3) := by decide +kernel
theorem dX12_sets_117 : decode cX12_sets 117 = .ok (.ldc 172, 2) := by decide +kernel
theorem dX12_sets_119 : decode cX12_sets 119 = .ok (.if_icmp .lt 5, 3) := by decide +kernel
theorem dX12_sets_122 : decode cX12_sets 122 = .ok (.iconst 0, 1) := by decide +kernel
theorem dX12_sets_123 : decode cX12_sets 123 = .ok (.ireturn, 1) := by decide +kernel
theorem dX12_sets_124 : decode cX12_sets 124 = .ok (.iconst 0, 1) := by decide +kernel
theorem dX12_sets_125 : decode cX12_sets 125 = .ok (.istore 4, 2) := by decide +kernel
theorem dX12_sets_127 : decode cX12_sets 127 = .ok (.iload 4, 2) := by decide +kernel
theorem dX12_sets_129 : decode cX12_sets 129 = .ok (.bipush 61, 2) := by decide +kernel
theorem dX12_sets_131 : decode cX12_sets 131 = .ok (.if_icmp .ge 17, 3) := by decide +kernel
theorem dX12_sets_134 : decode cX12_sets 134 = .ok (.aload_n 0, 1) := by decide +kernel
theorem dX12_sets_135 : decode cX12_sets 135 = .ok (.getfield 38, 3) := by decide +kernel
theorem dX12_sets_138 : decode cX12_sets 138 = .ok (.iload 4, 2) := by decide +kernel
theorem dX12_sets_140 : decode cX12_sets 140 = .ok (.iconst 0, 1) := by decide +kernel
theorem dX12_sets_141 : decode cX12_sets 141 = .ok (.iastore, 1) := by decide +kernel
theorem dX12_sets_142 : decode cX12_sets 142 = .ok (.iinc 4 1, 3) := by decide +kernel
theorem dX12_sets_145 : decode cX12_sets 145 = .ok (.goto (-18), 3) := by decide +kernel
theorem dX12_sets_148 : decode cX12_sets 148 = .ok (.iconst 0, 1) := by decide +kernel
theorem dX12_sets_149 : decode cX12_sets 149 = .ok (.istore 4, 2) := by decide +kernel
theorem dX12_sets_151 : decode cX12_sets 151 = .ok (.iload 4, 2) := by decide +kernel
theorem dX12_sets_153 : decode cX12_sets 153 = .ok (.bipush 27, 2) := by decide +kernel
theorem dX12_sets_155 : decode cX12_sets 155 = .ok (.if_icmp .ge 17, 3) := by decide +kernel
theorem dX12_sets_158 : decode cX12_sets 158 = .ok (.aload_n 0, 1) := by decide +kernel
theorem dX12_sets_159 : decode cX12_sets 159 = .ok (.getfield 44, 3) := by decide +kernel
theorem dX12_sets_162 : decode cX12_sets 162 = .ok (.iload 4, 2) := by decide +kernel
theorem dX12_sets_164 : decode cX12_sets 164 = .ok (.iconst 0, 1) := by decide +kernel
theorem dX12_sets_165 : decode cX12_sets 165 = .ok (.iastore, 1) := by decide +kernel
theorem dX12_sets_166 : decode cX12_sets 166 = .ok (.iinc 4 1, 3) := by decide +kernel
theorem dX12_sets_169 : decode cX12_sets 169 = .ok (.goto (-18), 3) := by decide +kernel
theorem dX12_sets_172 : decode cX12_sets 172 = .ok (.aload_n 0, 1) := by decide +kernel
theorem dX12_sets_173 : decode cX12_sets 173 = .ok (.iconst 1, 1) := by decide +kernel
theorem dX12_sets_174 : decode cX12_sets 174 = .ok (.putfield 208, 3) := by decide +kernel
theorem dX12_sets_177 : decode cX12_sets 177 = .ok (.aload_n 0, 1) := by decide +kernel
theorem dX12_sets_178 : decode cX12_sets 178 = .ok (.getfield 41, 3) := by decide +kernel
theorem dX12_sets_181 : decode cX12_sets 181 = .ok (.iconst 0, 1) := by decide +kernel
theorem dX12_sets_182 : decode cX12_sets 182 = .ok (.iconst 0, 1) := by decide +kernel
theorem dX12_sets_183 : decode cX12_sets 183 = .ok (.iastore, 1) := by decide +kernel
theorem dX12_sets_184 : decode cX12_sets 184 = .ok (.aload_n 0, 1) := by decide +kernel
theorem dX12_sets_185 : decode cX12_sets 185 = .ok (.iconst 0, 1) := by decide +kernel
theorem dX12_sets_186 : decode cX12_sets 186 = .ok (.putfield 211, 3) := by decide +kernel
theorem dX12_sets_189 : decode cX12_sets 189 = .ok (.aload_n 0, 1) := by decide +kernel
theorem dX12_sets_190 : decode cX12_sets 190 = .ok (.iconst 0, 1) := by decide +kernel
theorem dX12_sets_191 : decode cX12_sets 191 = .ok (.putfield 214, 3) := by decide +kernel
theorem dX12_sets_194 : decode cX12_sets 194 = .ok (.iconst 0, 1) := by decide +kernel
theorem dX12_sets_195 : decode cX12_sets 195 = .ok (.istore 4, 2) := by decide +kernel
theorem dX12_sets_197 : decode cX12_sets 197 = .ok (.iconst 0, 1) := by decide +kernel
theorem dX12_sets_198 : decode cX12_sets 198 = .ok (.istore 5, 2) := by decide +kernel
theorem dX12_sets_200 : decode cX12_sets 200 = .ok (.iconst 0, 1) := by decide +kernel
theorem dX12_sets_201 : decode cX12_sets 201 = .ok (.istore 6, 2) := by decide +kernel
theorem dX12_sets_203 : decode cX12_sets 203 = .ok (.iload 4, 2) := by decide +kernel
theorem dX12_sets_205 : decode cX12_sets 205 = .ok (.iload_n 3, 1) := by decide +kernel
theorem dX12_sets_206 : decode cX12_sets 206 = .ok (.if_icmp .ge 342, 3) := by decide +kernel
theorem dX12_sets_209 : decode cX12_sets 209 = .ok (.aload_n 0, 1) := by decide +kernel
theorem dX12_sets_210 : decode cX12_sets 210 = .ok (.getfield 35, 3) := by decide +kernel
theorem dX12_sets_213 : decode cX12_sets 213 = .ok (.bipush 82, 2) := by decide +kernel
theorem dX12_sets_215 : decode cX12_sets 215 = .ok (.iload 4, 2) := by decide +kernel
theorem dX12_sets_217 : decode cX12_sets 217 = .ok (.imul, 1) := by decide +kernel
theorem dX12_sets_218 : decode cX12_sets 218 = .ok (.iconst 2, 1) := by decide +kernel
theorem dX12_sets_219 : decode cX12_sets 219 = .ok (.iload 5, 2) := by decide +kernel
theorem dX12_sets_221 : decode cX12_sets 221 = .ok (.imul, 1) := by decide +kernel
theorem dX12_sets_222 : decode cX12_sets 222 = .ok (.iadd, 1) := by decide +kernel
theorem dX12_sets_223 : decode cX12_sets 223 = .ok (.iload 6, 2) := by decide +kernel
theorem dX12_sets_225 : decode cX12_sets 225 = .ok (.iadd, 1) := by decide +kernel
theorem dX12_sets_226 : decode cX12_sets 226 = .ok (.iaload, 1) := by decide +kernel
theorem dX12_sets_227 : decode cX12_sets 227 = .ok (.istore 7, 2) := by decide +kernel
theorem dX12_sets_229 : decode cX12_sets 229 = .ok (.aload_n 0, 1) := by decide +kernel
theorem dX12_sets_230 : decode cX12_sets 230 = .ok (.iload_n 1, 1) := by decide +kernel
theorem dX12_sets_231 : decode cX12_sets 231 = .ok (.iload 4, 2) := by decide +kernel
theorem dX12_sets_233 : decode cX12_sets 233 = .ok (.invokevirtual 182, 3) := by decide +kernel
theorem dX12_sets_236 : decode cX12_sets 236 = .ok (.ifCond .eq 221, 3) := by decide +kernel
theorem dX12_sets_239 : decode cX12_sets 239 = .ok (.iconst 3, 1) := by decide +kernel
theorem dX12_sets_240 : decode cX12_sets 240 = .ok (.istore 8, 2) := by decide +kernel
theorem dX12_sets_242 : decode cX12_sets 242 = .ok (.aload_n 0, 1) := by decide +kernel
theorem dX12_sets_243 : decode cX12_sets 243 = .ok (.iload_n 1, 1) := by decide +kernel
theorem dX12_sets_244 : decode cX12_sets 244 = .ok (.iload 4, 2) := by decide +kernel
theorem dX12_sets_246 : decode cX12_sets 246 = .ok (.iload 8, 2) := by decide +kernel
theorem dX12_sets_248 : decode cX12_sets 248 = .ok (.iload 5, 2) := by decide +kernel
theorem dX12_sets_250 : decode cX12_sets 250 = .ok (.invokevirtual 188, 3) := by decide +kernel
theorem dX12_sets_253 : decode cX12_sets 253 = .ok (.iload 7, 2) := by decide +kernel
theorem dX12_sets_255 : decode cX12_sets 255 = .ok (.if_icmp .eq 27, 3) := by decide +kernel
theorem dX12_sets_258 : decode cX12_sets 258 = .ok (.aload_n 0, 1) := by decide +kernel
theorem dX12_sets_259 : decode cX12_sets 259 = .ok (.iload_n 1, 1) := by decide +kernel
theorem dX12_sets_260 : decode cX12_sets 260 = .ok (.iload 4, 2) := by decide +kernel
theorem dX12_sets_262 : decode cX12_sets 262 = .ok (.iload 8, 2) := by decide +kernel
theorem dX12_sets_264 : decode cX12_sets 264 = .ok (.iload 5, 2) := by decide +kernel
theorem dX12_sets_266 : decode cX12_sets 266 = .ok (.iload 6, 2) := by decide +kernel
theorem dX12_sets_268 : decode cX12_sets 268 = .ok (.invokevirtual 192, 3) := by decide +kernel
theorem dX12_sets_271 : decode cX12_sets 271 = .ok (.iload 7, 2) := by decide +kernel
theorem dX12_sets_273 : decode cX12_sets 273 = .ok (.if_icmp .eq 9, 3) := by decide +kernel
theorem dX12_sets_276 : decode cX12_sets 276 = .ok (.iinc 8 (-1), 3) := by decide +kernel
theorem dX12_sets_279 : decode cX12_sets 279 = .ok (.goto (-37), 3) := by decide +kernel
theorem dX12_sets_282 : decode cX12_sets 282 = .ok (.aload_n 0, 1) := by decide +kernel
theorem dX12_sets_283 : decode cX12_sets 283 = .ok (.iload_n 1, 1) := by decide +kernel
theorem dX12_sets_284 : decode cX12_sets 284 = .ok (.iload 4, 2) := by decide +kernel
theorem dX12_sets_286 : decode cX12_sets 286 = .ok (.iload 8, 2) := by decide +kernel
theorem dX12_sets_288 : decode cX12_sets 288 = .ok (.iload 5, 2) := by decide +kernel
theorem dX12_sets_290 : decode cX12_sets 290 = .ok (.invokevirtual 188, 3) := by decide +kernel
theorem dX12_sets_293 : decode cX12_sets 293 = .ok (.iload 7, 2) := by decide +kernel
theorem dX12_sets_295 : decode cX12_sets 295 = .ok (.if_icmp .ne 7, 3) := by decide +kernel
theorem dX12_sets_298 : decode cX12_sets 298 = .ok (.iconst 1, 1) := by decide +kernel
theorem dX12_sets_299 : decode cX12_sets 299 = .ok (.goto 4, 3) := by decide +kernel
theorem dX12_sets_302 : decode cX12_sets 302 = .ok (.iconst 0, 1) := by decide +kernel
theorem dX12_sets_303 : decode cX12_sets 303 = .ok (.istore 9, 2) := by decide +kernel
theorem dX12_sets_305 : decode cX12_sets 305 = .ok (.aload_n 0, 1) := by decide +kernel
theorem dX12_sets_306 : decode cX12_sets 306 = .ok (.getfield 38, 3) := by decide +kernel
theorem dX12_sets_309 : decode cX12_sets 309 = .ok (.iload 4, 2) := by decide +kernel
theorem dX12_sets_311 : decode cX12_sets 311 = .ok (.iload 8, 2) := by decide +kernel
theorem dX12_sets_313 : decode cX12_sets 313 = .ok (.iastore, 1) := by decide +kernel
theorem dX12_sets_314 : decode cX12_sets 314 = .ok (.aload_n 0, 1) := by decide +kernel
theorem dX12_sets_315 : decode cX12_sets 315 = .ok (.dup, 1) := by decide +kernel
theorem dX12_sets_316 : decode cX12_sets 316 = .ok (.getfield 211, 3) := by decide +kernel
theorem dX12_sets_319 : decode cX12_sets 319 = .ok (.iload 8, 2) := by decide +kernel
theorem dX12_sets_321 : decode cX12_sets 321 = .ok (.iconst 1, 1) := by decide +kernel
theorem dX12_sets_322 : decode cX12_sets 322 = .ok (.if_icmp .le 7, 3) := by decide +kernel
theorem dX12_sets_325 : decode cX12_sets 325 = .ok (.iconst 1, 1) := by decide +kernel
theorem dX12_sets_326 : decode cX12_sets 326 = .ok (.goto 4, 3) := by decide +kernel
theorem dX12_sets_329 : decode cX12_sets 329 = .ok (.iconst 0, 1) := by decide +kernel
theorem dX12_sets_330 : decode cX12_sets 330 = .ok (.iadd, 1) := by decide +kernel
theorem dX12_sets_331 : decode cX12_sets 331 = .ok (.putfield 211, 3) := by decide +kernel
theorem dX12_sets_334 : decode cX12_sets 334 = .ok (.aload_n 0, 1) := by decide +kernel
theorem dX12_sets_335 : decode cX12_sets 335 = .ok (.getfield 44, 3) := by decide +kernel
theorem dX12_sets_338 : decode cX12_sets 338 = .ok (.aload_n 0, 1) := by decide +kernel
theorem dX12_sets_339 : decode cX12_sets 339 = .ok (.iload_n 1, 1) := by decide +kernel
theorem dX12_sets_340 : decode cX12_sets 340 = .ok (.iload 4, 2) := by decide +kernel
theorem dX12_sets_342 : decode cX12_sets 342 = .ok (.invokevirtual 168, 3) := by decide +kernel
theorem dX12_sets_345 : decode cX12_sets 345 = .ok (.bipush 97, 2) := by decide +kernel
theorem dX12_sets_347 : decode cX12_sets 347 = .ok (.isub, 1) := by decide +kernel
theorem dX12_sets_348 : decode cX12_sets 348 = .ok (.dup2, 1) := by decide +kernel
theorem dX12_sets_349 : decode cX12_sets 349 = .ok (.iaload, 1) := by decide +kernel
theorem dX12_sets_350 : decode cX12_sets 350 = .ok (.iload 8, 2) := by decide +kernel
theorem dX12_sets_352 : decode cX12_sets 352 = .ok (.iconst 1, 1) := by decide +kernel
theorem dX12_sets_353 : decode cX12_sets 353 = .ok (.if_icmp .ne 7, 3) := by decide +kernel
theorem dX12_sets_356 : decode cX12_sets 356 = .ok (.iconst 1, 1) := by decide +kernel
theorem dX12_sets_357 : decode cX12_sets 357 = .ok (.goto 4, 3) := by decide +kernel
theorem dX12_sets_360 : decode cX12_sets 360 = .ok (.iconst 0, 1) := by decide +kernel
theorem dX12_sets_361 : decode cX12_sets 361 = .ok (.iadd, 1) := by decide +kernel
theorem dX12_sets_362 : decode cX12_sets 362 = .ok (.iastore, 1) := by decide +kernel
theorem dX12_sets_363 : decode cX12_sets 363 = .ok (.iload 5, 2) := by decide +kernel
theorem dX12_sets_365 : decode cX12_sets 365 = .ok (.aload_n 0, 1) := by decide +kernel
theorem dX12_sets_366 : decode cX12_sets 366 = .ok (.iload_n 1, 1) := by decide +kernel
theorem dX12_sets_367 : decode cX12_sets 367 = .ok (.iload 4, 2) := by decide +kernel
theorem dX12_sets_369 : decode cX12_sets 369 = .ok (.iload 8, 2) := by decide +kernel
theorem dX12_sets_371 : decode cX12_sets 371 = .ok (.invokevirtual 176, 3) := by decide +kernel
theorem dX12_sets_374 : decode cX12_sets 374 = .ok (.iadd, 1) := by decide +kernel
theorem dX12_sets_375 : decode cX12_sets 375 = .ok (.istore 5, 2) := by decide +kernel
theorem dX12_sets_377 : decode cX12_sets 377 = .ok (.iload 4, 2) := by decide +kernel
theorem dX12_sets_379 : decode cX12_sets 379 = .ok (.iload 8, 2) := by decide +kernel
theorem dX12_sets_381 : decode cX12_sets 381 = .ok (.iadd, 1) := by decide +kernel
theorem dX12_sets_382 : decode cX12_sets 382 = .ok (.istore 4, 2) := by decide +kernel
theorem dX12_sets_384 : decode cX12_sets 384 = .ok (.aload_n 0, 1) := by decide +kernel
theorem dX12_sets_385 : decode cX12_sets 385 = .ok (.iload_n 1, 1) := by decide +kernel
theorem dX12_sets_386 : decode cX12_sets 386 = .ok (.iload 4, 2) := by decide +kernel
theorem dX12_sets_388 : decode cX12_sets 388 = .ok (.invokevirtual 182, 3) := by decide +kernel
theorem dX12_sets_391 : decode cX12_sets 391 = .ok (.ifCond .eq 7, 3) := by decide +kernel
theorem dX12_sets_394 : decode cX12_sets 394 = .ok (.iconst 1, 1) := by decide +kernel
theorem dX12_sets_395 : decode cX12_sets 395 = .ok (.goto 4, 3) := by decide +kernel
theorem dX12_sets_398 : decode cX12_sets 398 = .ok (.iconst 0, 1) := by decide +kernel
theorem dX12_sets_399 : decode cX12_sets 399 = .ok (.istore 6, 2) := by decide +kernel
theorem dX12_sets_401 : decode cX12_sets 401 = .ok (.iload 9, 2) := by decide +kernel
theorem dX12_sets_403 : decode cX12_sets 403 = .ok (.ifCond .ne 51, 3) := by decide +kernel
theorem dX12_sets_406 : decode cX12_sets 406 = .ok (.aload_n 0, 1) := by decide +kernel
theorem dX12_sets_407 : decode cX12_sets 407 = .ok (.dup, 1) := by decide +kernel
theorem dX12_sets_408 : decode cX12_sets 408 = .ok (.getfield 214, 3) := by decide +kernel
theorem dX12_sets_411 : decode cX12_sets 411 = .ok (.iconst 1, 1) := by decide +kernel
theorem dX12_sets_412 : decode cX12_sets 412 = .ok (.iadd, 1) := by decide +kernel
theorem dX12_sets_413 : decode cX12_sets 413 = .ok (.putfield 214, 3) := by decide +kernel
theorem dX12_sets_416 : decode cX12_sets 416 = .ok (.aload_n 0, 1) := by decide +kernel
theorem dX12_sets_417 : decode cX12_sets 417 = .ok (.getfield 44, 3) := by decide +kernel
theorem dX12_sets_420 : decode cX12_sets 420 = .ok (.bipush 26, 2) := by decide +kernel
theorem dX12_sets_422 : decode cX12_sets 422 = .ok (.dup2, 1) := by decide +kernel
theorem dX12_sets_423 : decode cX12_sets 423 = .ok (.iaload, 1) := by decide +kernel
theorem dX12_sets_424 : decode cX12_sets 424 = .ok (.iconst 1, 1) := by decide +kernel
theorem dX12_sets_425 : decode cX12_sets 425 = .ok (.iadd, 1) := by decide +kernel
theorem dX12_sets_426 : decode cX12_sets 426 = .ok (.iastore, 1) := by decide +kernel
theorem dX12_sets_427 : decode cX12_sets 427 = .ok (.aload_n 0, 1) := by decide +kernel
theorem dX12_sets_428 : decode cX12_sets 428 = .ok (.getfield 41, 3) := by decide +kernel
theorem dX12_sets_431 : decode cX12_sets 431 = .ok (.aload_n 0, 1) := by decide +kernel
theorem dX12_sets_432 : decode cX12_sets 432 = .ok (.getfield 208, 3) := by decide +kernel
theorem dX12_sets_435 : decode cX12_sets 435 = .ok (.iload 4, 2) := by decide +kernel
theorem dX12_sets_437 : decode cX12_sets 437 = .ok (.iastore, 1) := by decide +kernel
theorem dX12_sets_438 : decode cX12_sets 438 = .ok (.aload_n 0, 1) := by decide +kernel
theorem dX12_sets_439 : decode cX12_sets 439 = .ok (.dup, 1) := by decide +kernel
theorem dX12_sets_440 : decode cX12_sets 440 = .ok (.getfield 208, 3) := by decide +kernel
theorem dX12_sets_443 : decode cX12_sets 443 = .ok (.iconst 1, 1) := by decide +kernel
theorem dX12_sets_444 : decode cX12_sets 444 = .ok (.iadd, 1) := by decide +kernel
theorem dX12_sets_445 : decode cX12_sets 445 = .ok (.putfield 208, 3) := by decide +kernel
theorem dX12_sets_448 : decode cX12_sets 448 = .ok (.iconst 0, 1) := by decide +kernel
theorem dX12_sets_449 : decode cX12_sets 449 = .ok (.istore 5, 2) := by decide +kernel
theorem dX12_sets_451 : decode cX12_sets 451 = .ok (.iconst 0, 1) := by decide +kernel
theorem dX12_sets_452 : decode cX12_sets 452 = .ok (.istore 6, 2) := by decide +kernel
theorem dX12_sets_454 : decode cX12_sets 454 = .ok (.goto 91, 3) := by decide +kernel
theorem dX12_sets_457 : decode cX12_sets 457 = .ok (.aload_n 0, 1) := by decide +kernel
theorem dX12_sets_458 : decode cX12_sets 458 = .ok (.getfield 19, 3) := by decide +kernel
theorem dX12_sets_461 : decode cX12_sets 461 = .ok (.iconst 3, 1) := by decide +kernel
theorem dX12_sets_462 : decode cX12_sets 462 = .ok (.iaload, 1) := by decide +kernel
theorem dX12_sets_463 : decode cX12_sets 463 = .ok (.istore 8, 2) := by decide +kernel
theorem dX12_sets_465 : decode cX12_sets 465 = .ok (.iload 8, 2) := by decide +kernel
theorem dX12_sets_467 : decode cX12_sets 467 = .ok (.aload_n 0, 1) := by decide +kernel
theorem dX12_sets_468 : decode cX12_sets 468 = .ok (.getfield 19, 3) := by decide +kernel
theorem dX12_sets_471 : decode cX12_sets 471 = .ok (.iconst 4, 1) := by decide +kernel
theorem dX12_sets_472 : decode cX12_sets 472 = .ok (.iaload, 1) := by decide +kernel
theorem dX12_sets_473 : decode cX12_sets 473 = .ok (.if_icmp .gt 24, 3) := by decide +kernel
theorem dX12_sets_476 : decode cX12_sets 476 = .ok (.aload_n 0, 1) := by decide +kernel
theorem dX12_sets_477 : decode cX12_sets 477 = .ok (.iload 4, 2) := by decide +kernel
theorem dX12_sets_479 : decode cX12_sets 479 = .ok (.iload 5, 2) := by decide +kernel
theorem dX12_sets_481 : decode cX12_sets 481 = .ok (.iload 8, 2) := by decide +kernel
theorem dX12_sets_483 : decode cX12_sets 483 = .ok (.invokevirtual 196, 3) := by decide +kernel
theorem dX12_sets_486 : decode cX12_sets 486 = .ok (.iload 7, 2) := by decide +kernel
theorem dX12_sets_488 : decode cX12_sets 488 = .ok (.if_icmp .eq 9, 3) := by decide +kernel
theorem dX12_sets_491 : decode cX12_sets 491 = .ok (.iinc 8 1, 3) := by decide +kernel
theorem dX12_sets_494 : decode cX12_sets 494 = .ok (.goto (-29), 3) := by decide +kernel
theorem dX12_sets_497 : decode cX12_sets 497 = .ok (.iload 5, 2) := by decide +kernel
theorem dX12_sets_499 : decode cX12_sets 499 = .ok (.iload 8, 2) := by decide +kernel
theorem dX12_sets_501 : decode cX12_sets 501 = .ok (.iadd, 1) := by decide +kernel
theorem dX12_sets_502 : decode cX12_sets 502 = .ok (.istore 5, 2) := by decide +kernel
theorem dX12_sets_504 : decode cX12_sets 504 = .ok (.iinc 4 1, 3) := by decide +kernel
theorem dX12_sets_507 : decode cX12_sets 507 = .ok (.iconst 0, 1) := by decide +kernel
theorem dX12_sets_508 : decode cX12_sets 508 = .ok (.istore 6, 2) := by decide +kernel
theorem dX12_sets_510 : decode cX12_sets 510 = .ok (.iload 8, 2) := by decide +kernel
theorem dX12_sets_512 : decode cX12_sets 512 = .ok (.aload_n 0, 1) := by decide +kernel
theorem dX12_sets_513 : decode cX12_sets 513 = .ok (.getfield 19, 3) := by decide +kernel
theorem dX12_sets_516 : decode cX12_sets 516 = .ok (.iconst 4, 1) := by decide +kernel
theorem dX12_sets_517 : decode cX12_sets 517 = .ok (.iaload, 1) := by decide +kernel
theorem dX12_sets_518 : decode cX12_sets 518 = .ok (.if_icmp .le 27, 3) := by decide +kernel
theorem dX12_sets_521 : decode cX12_sets 521 = .ok (.aload_n 0, 1) := by decide +kernel
theorem dX12_sets_522 : decode cX12_sets 522 = .ok (.getfield 41, 3) := by decide +kernel
theorem dX12_sets_525 : decode cX12_sets 525 = .ok (.aload_n 0, 1) := by decide +kernel
theorem dX12_sets_526 : decode cX12_sets 526 = .ok (.getfield 208, 3) := by decide +kernel
theorem dX12_sets_529 : decode cX12_sets 529 = .ok (.iload 4, 2) := by decide +kernel
theorem dX12_sets_531 : decode cX12_sets 531 = .ok (.iastore, 1) := by decide +kernel
theorem dX12_sets_532 : decode cX12_sets 532 = .ok (.aload_n 0, 1) := by decide +kernel
theorem dX12_sets_533 : decode cX12_sets 533 = .ok (.dup, 1) := by decide +kernel
theorem dX12_sets_534 : decode cX12_sets 534 = .ok (.getfield 208, 3) := by decide +kernel
theorem dX12_sets_537 : decode cX12_sets 537 = .ok (.iconst 1, 1) := by decide +kernel
theorem dX12_sets_538 : decode cX12_sets 538 = .ok (.iadd, 1) := by decide +kernel
theorem dX12_sets_539 : decode cX12_sets 539 = .ok (.putfield 208, 3) := by decide +kernel
theorem dX12_sets_542 : decode cX12_sets 542 = .ok (.iconst 0, 1) := by decide +kernel
theorem dX12_sets_543 : decode cX12_sets 543 = .ok (.istore 5, 2) := by decide +kernel
theorem dX12_sets_545 : decode cX12_sets 545 = .ok (.goto (-342), 3) := by decide +kernel
theorem dX12_sets_548 : decode cX12_sets 548 = .ok (.iconst 1, 1) := by decide +kernel
theorem dX12_sets_549 : decode cX12_sets 549 = .ok (.ireturn, 1) := by decide +kernel
theorem dX12_line_0 : decode cX12_line 0 = .ok (.aload_n 0, 1) := by decide +kernel
theorem dX12_line_1 : decode cX12_line 1 = .ok (.iload_n 1, 1) := by decide +kernel
theorem dX12_line_2 : decode cX12_line 2 = .ok (.invokevirtual 217, 3) := by decide +kernel
theorem dX12_line_5 : decode cX12_line 5 = .ok (.ifCond .eq 17, 3) := by decide +kernel
theorem dX12_line_8 : decode cX12_line 8 = .ok (.iload_n 3, 1) := by decide +kernel
theorem dX12_line_9 : decode cX12_line 9 = .ok (.ifCond .lt 13, 3) := by decide +kernel
theorem dX12_line_12 : decode cX12_line 12 = .ok (.iload_n 3, 1) := by decide +kernel
theorem dX12_line_13 : decode cX12_line 13 = .ok (.iconst 4, 1) := by decide +kernel
theorem dX12_line_14 : decode cX12_line 14 = .ok (.bipush 9, 2) := by decide +kernel
theorem dX12_line_16 : decode cX12_line 16 = .ok (.invokestatic 66, 3) := by decide +kernel
theorem dX12_line_19 : decode cX12_line 19 = .ok (.ifCond .eq 5, 3) := by decide +kernel
theorem dX12_line_22 : decode cX12_line 22 = .ok (.iconst (-1), 1) := by decide +kernel
theorem dX12_line_23 : decode cX12_line 23 = .ok (.ireturn, 1) := by decide +kernel
theorem dX12_line_24 : decode cX12_line 24 = .ok (.iload_n 2, 1) := by decide +kernel
theorem dX12_line_25 : decode cX12_line 25 = .ok (.invokestatic 145, 3) := by decide +kernel
theorem dX12_line_28 : decode cX12_line 28 = .ok (.ifCond .ne 6, 3) := by decide +kernel
theorem dX12_line_31 : decode cX12_line 31 = .ok (.bipush (-2), 2) := by decide +kernel
theorem dX12_line_33 : decode cX12_line 33 = .ok (.ireturn, 1) := by decide +kernel
theorem dX12_line_34 : decode cX12_line 34 = .ok (.aload_n 0, 1) := by decide +kernel
theorem dX12_line_35 : decode cX12_line 35 = .ok (.iload_n 1, 1) := by decide +kernel
theorem dX12_line_36 : decode cX12_line 36 = .ok (.iload_n 2, 1) := by decide +kernel
theorem dX12_line_37 : decode cX12_line 37 = .ok (.invokevirtual 220, 3) := by decide +kernel
theorem dX12_line_40 : decode cX12_line 40 = .ok (.ifCond .ne 6, 3) := by decide +kernel
theorem dX12_line_43 : decode cX12_line 43 = .ok (.bipush (-9), 2) := by decide +kernel
theorem dX12_line_45 : decode cX12_line 45 = .ok (.ireturn, 1) := by decide +kernel
theorem dX12_line_46 : decode cX12_line 46 = .ok (.iload_n 3, 1) := by decide +kernel
theorem dX12_line_47 : decode cX12_line 47 = .ok (.tableswitch 49 0 3 #[29, 34, 39, 44], 29) := by decide +kernel
theorem dX12_line_76 : decode cX12_line 76 = .ok (.aload_n 0, 1) := by decide +kernel
theorem dX12_line_77 : decode cX12_line 77 = .ok (.getfield 205, 3) := by decide +kernel
theorem dX12_line_80 : decode cX12_line 80 = .ok (.ireturn, 1) := by decide +kernel
theorem dX12_line_81 : decode cX12_line 81 = .ok (.aload_n 0, 1) := by decide +kernel
theorem dX12_line_82 : decode cX12_line 82 = .ok (.getfield 208, 3) := by decide +kernel
theorem dX12_line_85 : decode cX12_line 85 = .ok (.ireturn, 1) := by decide +kernel
theorem dX12_line_86 : decode cX12_line 86 = .ok (.aload_n 0, 1) := by decide +kernel
theorem dX12_line_87 : decode cX12_line 87 = .ok (.getfield 211, 3) := by decide +kernel
theorem dX12_line_90 : decode cX12_line 90 = .ok (.ireturn, 1) := by decide +kernel
theorem dX12_line_91 : decode cX12_line 91 = .ok (.aload_n 0, 1) := by decide +kernel
theorem dX12_line_92 : decode cX12_line 92 = .ok (.getfield 214, 3) := by decide +kernel
theorem dX12_line_95 : decode cX12_line 95 = .ok (.ireturn, 1) := by decide +kernel
theorem dX12_line_96 : decode cX12_line 96 = .ok (.iload_n 3, 1) := by decide +kernel
theorem dX12_line_97 : decode cX12_line 97 = .ok (.bipush 10, 2) := by decide +kernel
theorem dX12_line_99 : decode cX12_line 99 = .ok (.isub, 1) := by decide +kernel
theorem dX12_line_100 : decode cX12_line 100 = .ok (.aload_n 0, 1) := by decide +kernel
theorem dX12_line_101 : decode cX12_line 101 = .ok (.getfield 208, 3) := by decide +kernel
theorem dX12_line_104 : decode cX12_line 104 = .ok (.if_icmp .ge 15, 3) := by decide +kernel
theorem dX12_line_107 : decode cX12_line 107 = .ok (.aload_n 0, 1) := by decide +kernel
theorem dX12_line_108 : decode cX12_line 108 = .ok (.getfield 41, 3) := by decide +kernel
theorem dX12_line_111 : decode cX12_line 111 = .ok (.iload_n 3, 1) := by decide +kernel
theorem dX12_line_112 : decode cX12_line 112 = .ok (.bipush 10, 2) := by decide +kernel
theorem dX12_line_114 : decode cX12_line 114 = .ok (.isub, 1) := by decide +kernel
theorem dX12_line_115 : decode cX12_line 115 = .ok (.iaload, 1) := by decide +kernel
theorem dX12_line_116 : decode cX12_line 116 = .ok (.goto 4, 3) := by decide +kernel
theorem dX12_line_119 : decode cX12_line 119 = .ok (.iconst (-1), 1) := by decide +kernel
theorem dX12_line_120 : decode cX12_line 120 = .ok (.ireturn, 1) := by decide +kernel
theorem dX12_needs_0 : decode cX12_needs 0 = .ok (.aload_n 0, 1) := by decide +kernel
theorem dX12_needs_1 : decode cX12_needs 1 = .ok (.iload_n 1, 1) := by decide +kernel
theorem dX12_needs_2 : decode cX12_needs 2 = .ok (.invokevirtual 217, 3) := by decide +kernel
theorem dX12_needs_5 : decode cX12_needs 5 = .ok (.ifCond .eq 10, 3) := by decide +kernel
theorem dX12_needs_8 : decode cX12_needs 8 = .ok (.iload_n 3, 1) := by decide +kernel
theorem dX12_needs_9 : decode cX12_needs 9 = .ok (.invokestatic 70, 3) := by decide +kernel
theorem dX12_needs_12 : decode cX12_needs 12 = .ok (.ifCond .ne 5, 3) := by decide +kernel
theorem dX12_needs_15 : decode cX12_needs 15 = .ok (.iconst (-1), 1) := by decide +kernel
theorem dX12_needs_16 : decode cX12_needs 16 = .ok (.ireturn, 1) := by decide +kernel
theorem dX12_needs_17 : decode cX12_needs 17 = .ok (.iload_n 2, 1) := by decide +kernel
theorem dX12_needs_18 : decode cX12_needs 18 = .ok (.invokestatic 145, 3) := by decide +kernel
theorem dX12_needs_21 : decode cX12_needs 21 = .ok (.ifCond .ne 8, 3) := by decide +kernel
theorem dX12_needs_24 : decode cX12_needs 24 = .ok (.bipush (-2), 2) := by decide +kernel
theorem dX12_needs_26 : decode cX12_needs 26 = .ok (.goto 23, 3) := by decide +kernel
theorem dX12_needs_29 : decode cX12_needs 29 = .ok (.aload_n 0, 1) := by decide +kernel
theorem dX12_needs_30 : decode cX12_needs 30 = .ok (.iload_n 1, 1) := by decide +kernel
theorem dX12_needs_31 : decode cX12_needs 31 = .ok (.iload_n 2, 1) := by decide +kernel
theorem dX12_needs_32 : decode cX12_needs 32 = .ok (.invokevirtual 220, 3) := by decide +kernel
theorem dX12_needs_35 : decode cX12_needs 35 = .ok (.ifCond .eq 12, 3) := by decide +kernel
theorem dX12_needs_38 : decode cX12_needs 38 = .ok (.aload_n 0, 1) := by decide +kernel
theorem dX12_needs_39 : decode cX12_needs 39 = .ok (.getfield 44, 3) := by decide +kernel
theorem dX12_needs_42 : decode cX12_needs 42 = .ok (.iload_n 3, 1) := by decide +kernel
theorem dX12_needs_43 : decode cX12_needs 43 = .ok (.iaload, 1) := by decide +kernel
theorem dX12_needs_44 : decode cX12_needs 44 = .ok (.goto 5, 3) := by decide +kernel
theorem dX12_needs_47 : decode cX12_needs 47 = .ok (.bipush (-9), 2) := by decide +kernel
theorem dX12_needs_49 : decode cX12_needs 49 = .ok (.ireturn, 1) := by decide +kernel
theorem dX12_lacking_0 : decode cX12_lacking 0 = .ok (.iconst 0, 1) := by decide +kernel
theorem dX12_lacking_1 : decode cX12_lacking 1 = .ok (.istore_n 1, 1) := by decide +kernel
theorem dX12_lacking_2 : decode cX12_lacking 2 = .ok (.iload_n 1, 1) := by decide +kernel
theorem dX12_lacking_3 : decode cX12_lacking 3 = .ok (.bipush 27, 2) := by decide +kernel
theorem dX12_lacking_5 : decode cX12_lacking 5 = .ok (.if_icmp .ge 29, 3) := by decide +kernel
theorem dX12_lacking_8 : decode cX12_lacking 8 = .ok (.aload_n 0, 1) := by decide +kernel
theorem dX12_lacking_9 : decode cX12_lacking 9 = .ok (.getfield 7, 3) := by decide +kernel
theorem dX12_lacking_12 : decode cX12_lacking 12 = .ok (.bipush 50, 2) := by decide +kernel
theorem dX12_lacking_14 : decode cX12_lacking 14 = .ok (.iload_n 1, 1) := by decide +kernel
theorem dX12_lacking_15 : decode cX12_lacking 15 = .ok (.iadd, 1) := by decide +kernel
theorem dX12_lacking_16 : decode cX12_lacking 16 = .ok (.iaload, 1) := by decide +kernel
theorem dX12_lacking_17 : decode cX12_lacking 17 = .ok (.aload_n 0, 1) := by decide +kernel
theorem dX12_lacking_18 : decode cX12_lacking 18 = .ok (.getfield 44, 3) := by decide +kernel
theorem dX12_lacking_21 : decode cX12_lacking 21 = .ok (.iload_n 1, 1) := by decide +kernel
theorem dX12_lacking_22 : decode cX12_lacking 22 = .ok (.iaload, 1) := by decide +kernel
theorem dX12_lacking_23 : decode cX12_lacking 23 = .ok (.if_icmp .ge 5, 3) := by decide +kernel
theorem dX12_lacking_26 : decode cX12_lacking 26 = .ok (.iload_n 1, 1) := by decide +kernel
theorem dX12_lacking_27 : decode cX12_lacking 27 = .ok (.ireturn, 1) := by decide +kernel
theorem dX12_lacking_28 : decode cX12_lacking 28 = .ok (.iinc 1 1, 3) := by decide +kernel
theorem dX12_lacking_31 : decode cX12_lacking 31 = .ok (.goto (-29), 3) := by decide +kernel
theorem dX12_lacking_34 : decode cX12_lacking 34 = .ok (.bipush (-5), 2) := by decide +kernel
theorem dX12_lacking_36 : decode cX12_lacking 36 = .ok (.ireturn, 1) := by decide +kernel
theorem dX12_spares_0 : decode cX12_spares 0 = .ok (.aload_n 0, 1) := by decide +kernel
theorem dX12_spares_1 : decode cX12_spares 1 = .ok (.getfield 22, 3) := by decide +kernel
theorem dX12_spares_4 : decode cX12_spares 4 = .ok (.iload_n 2, 1) := by decide +kernel
theorem dX12_spares_5 : decode cX12_spares 5 = .ok (.iaload, 1) := by decide +kernel
theorem dX12_spares_6 : decode cX12_spares 6 = .ok (.bipush 100, 2) := by decide +kernel
theorem dX12_spares_8 : decode cX12_spares 8 = .ok (.irem, 1) := by decide +kernel
theorem dX12_spares_9 : decode cX12_spares 9 = .ok (.bipush 99, 2) := by decide +kernel
theorem dX12_spares_11 : decode cX12_spares 11 = .ok (.if_icmp .ne 7, 3) := by decide +kernel
theorem dX12_spares_14 : decode cX12_spares 14 = .ok (.iconst 2, 1) := by decide +kernel
theorem dX12_spares_15 : decode cX12_spares 15 = .ok (.goto 4, 3) := by decide +kernel
theorem dX12_spares_18 : decode cX12_spares 18 = .ok (.iconst 3, 1) := by decide +kernel
theorem dX12_spares_19 : decode cX12_spares 19 = .ok (.istore 5, 2) := by decide +kernel
theorem dX12_spares_21 : decode cX12_spares 21 = .ok (.aload_n 0, 1) := by decide +kernel
theorem dX12_spares_22 : decode cX12_spares 22 = .ok (.iload_n 1, 1) := by decide +kernel
theorem dX12_spares_23 : decode cX12_spares 23 = .ok (.iload_n 3, 1) := by decide +kernel
theorem dX12_spares_24 : decode cX12_spares 24 = .ok (.iload 5, 2) := by decide +kernel
theorem dX12_spares_26 : decode cX12_spares 26 = .ok (.invokevirtual 173, 3) := by decide +kernel
theorem dX12_spares_29 : decode cX12_spares 29 = .ok (.iload_n 2, 1) := by decide +kernel
theorem dX12_spares_30 : decode cX12_spares 30 = .ok (.if_icmp .ne 7, 3) := by decide +kernel
theorem dX12_spares_33 : decode cX12_spares 33 = .ok (.iconst 1, 1) := by decide +kernel
theorem dX12_spares_34 : decode cX12_spares 34 = .ok (.goto 4, 3) := by decide +kernel
theorem dX12_spares_37 : decode cX12_spares 37 = .ok (.iconst 0, 1) := by decide +kernel
theorem dX12_spares_38 : decode cX12_spares 38 = .ok (.istore 6, 2) := by decide +kernel
theorem dX12_spares_40 : decode cX12_spares 40 = .ok (.iconst 0, 1) := by decide +kernel
theorem dX12_spares_41 : decode cX12_spares 41 = .ok (.istore 7, 2) := by decide +kernel
theorem dX12_spares_43 : decode cX12_spares 43 = .ok (.iconst 0, 1) := by decide +kernel
theorem dX12_spares_44 : decode cX12_spares 44 = .ok (.istore 8, 2) := by decide +kernel
theorem dX12_spares_46 : decode cX12_spares 46 = .ok (.iload 8, 2) := by decide +kernel
theorem dX12_spares_48 : decode cX12_spares 48 = .ok (.iload 5, 2) := by decide +kernel
theorem dX12_spares_50 : decode cX12_spares 50 = .ok (.if_icmp .ge 63, 3) := by decide +kernel
theorem dX12_spares_53 : decode cX12_spares 53 = .ok (.iload 6, 2) := by decide +kernel
theorem dX12_spares_55 : decode cX12_spares 55 = .ok (.ifCond .eq 58, 3) := by decide +kernel
theorem dX12_spares_58 : decode cX12_spares 58 = .ok (.aload_n 0, 1) := by decide +kernel
theorem dX12_spares_59 : decode cX12_spares 59 = .ok (.getfield 38, 3) := by decide +kernel
theorem dX12_spares_62 : decode cX12_spares 62 = .ok (.iload_n 3, 1) := by decide +kernel
theorem dX12_spares_63 : decode cX12_spares 63 = .ok (.iload 8, 2) := by decide +kernel
theorem dX12_spares_65 : decode cX12_spares 65 = .ok (.iadd, 1) := by decide +kernel
theorem dX12_spares_66 : decode cX12_spares 66 = .ok (.iaload, 1) := by decide +kernel
theorem dX12_spares_67 : decode cX12_spares 67 = .ok (.iconst 1, 1) := by decide +kernel
theorem dX12_spares_68 : decode cX12_spares 68 = .ok (.if_icmp .ne 7, 3) := by decide +kernel
theorem dX12_spares_71 : decode cX12_spares 71 = .ok (.iconst 1, 1) := by decide +kernel
theorem dX12_spares_72 : decode cX12_spares 72 = .ok (.goto 4, 3) := by decide +kernel
theorem dX12_spares_75 : decode cX12_spares 75 = .ok (.iconst 0, 1) := by decide +kernel
theorem dX12_spares_76 : decode cX12_spares 76 = .ok (.istore 6, 2) := by decide +kernel
theorem dX12_spares_78 : decode cX12_spares 78 = .ok (.iload 7, 2) := by decide +kernel
theorem dX12_spares_80 : decode cX12_spares 80 = .ok (.ifCond .ne 20, 3) := by decide +kernel
theorem dX12_spares_83 : decode cX12_spares 83 = .ok (.aload_n 0, 1) := by decide +kernel
theorem dX12_spares_84 : decode cX12_spares 84 = .ok (.iload_n 1, 1) := by decide +kernel
theorem dX12_spares_85 : decode cX12_spares 85 = .ok (.iload_n 3, 1) := by decide +kernel
theorem dX12_spares_86 : decode cX12_spares 86 = .ok (.iload 8, 2) := by decide +kernel
theorem dX12_spares_88 : decode cX12_spares 88 = .ok (.iadd, 1) := by decide +kernel
theorem dX12_spares_89 : decode cX12_spares 89 = .ok (.invokevirtual 168, 3) := by decide +kernel
theorem dX12_spares_92 : decode cX12_spares 92 = .ok (.bipush 97, 2) := by decide +kernel
theorem dX12_spares_94 : decode cX12_spares 94 = .ok (.isub, 1) := by decide +kernel
theorem dX12_spares_95 : decode cX12_spares 95 = .ok (.iload 4, 2) := by decide +kernel
theorem dX12_spares_97 : decode cX12_spares 97 = .ok (.if_icmp .ne 7, 3) := by decide +kernel
theorem dX12_spares_100 : decode cX12_spares 100 = .ok (.iconst 1, 1) := by decide +kernel
theorem dX12_spares_101 : decode cX12_spares 101 = .ok (.goto 4, 3) := by decide +kernel
theorem dX12_spares_104 : decode cX12_spares 104 = .ok (.iconst 0, 1) := by decide +kernel
theorem dX12_spares_105 : decode cX12_spares 105 = .ok (.istore 7, 2) := by decide +kernel
theorem dX12_spares_107 : decode cX12_spares 107 = .ok (.iinc 8 1, 3) := by decide +kernel
theorem dX12_spares_110 : decode cX12_spares 110 = .ok (.goto (-64), 3) := by decide +kernel
theorem dX12_spares_113 : decode cX12_spares 113 = .ok (.iload 6, 2) := by decide +kernel
theorem dX12_spares_115 : decode cX12_spares 115 = .ok (.ifCond .eq 12, 3) := by decide +kernel
theorem dX12_spares_118 : decode cX12_spares 118 = .ok (.iload 7, 2) := by decide +kernel
theorem dX12_spares_120 : decode cX12_spares 120 = .ok (.ifCond .eq 7, 3) := by decide +kernel
theorem dX12_spares_123 : decode cX12_spares 123 = .ok (.iconst 1, 1) := by decide +kernel
theorem dX12_spares_124 : decode cX12_spares 124 = .ok (.goto 4, 3) := by decide +kernel
theorem dX12_spares_127 : decode cX12_spares 127 = .ok (.iconst 0, 1) := by decide +kernel
theorem dX12_spares_128 : decode cX12_spares 128 = .ok (.ireturn, 1) := by decide +kernel
theorem dX12_enough_0 : decode cX12_enough 0 = .ok (.aload_n 0, 1) := by decide +kernel
theorem dX12_enough_1 : decode cX12_enough 1 = .ok (.iload_n 1, 1) := by decide +kernel
theorem dX12_enough_2 : decode cX12_enough 2 = .ok (.invokevirtual 217, 3) := by decide +kernel
theorem dX12_enough_5 : decode cX12_enough 5 = .ok (.ifCond .eq 12, 3) := by decide +kernel
theorem dX12_enough_8 : decode cX12_enough 8 = .ok (.iload_n 2, 1) := by decide +kernel
theorem dX12_enough_9 : decode cX12_enough 9 = .ok (.iconst 0, 1) := by decide +kernel
theorem dX12_enough_10 : decode cX12_enough 10 = .ok (.iconst 2, 1) := by decide +kernel
theorem dX12_enough_11 : decode cX12_enough 11 = .ok (.invokestatic 66, 3) := by decide +kernel
theorem dX12_enough_14 : decode cX12_enough 14 = .ok (.ifCond .ne 5, 3) := by decide +kernel
theorem dX12_enough_17 : decode cX12_enough 17 = .ok (.iconst (-1), 1) := by decide +kernel
theorem dX12_enough_18 : decode cX12_enough 18 = .ok (.ireturn, 1) := by decide +kernel
theorem dX12_enough_19 : decode cX12_enough 19 = .ok (.aload_n 0, 1) := by decide +kernel
theorem dX12_enough_20 : decode cX12_enough 20 = .ok (.iload_n 1, 1) := by decide +kernel
theorem dX12_enough_21 : decode cX12_enough 21 = .ok (.aload_n 0, 1) := by decide +kernel
theorem dX12_enough_22 : decode cX12_enough 22 = .ok (.getfield 7, 3) := by decide +kernel
theorem dX12_enough_25 : decode cX12_enough 25 = .ok (.iconst 0, 1) := by decide +kernel
theorem dX12_enough_26 : decode cX12_enough 26 = .ok (.iaload, 1) := by decide +kernel
theorem dX12_enough_27 : decode cX12_enough 27 = .ok (.invokevirtual 220, 3) := by decide +kernel
theorem dX12_enough_30 : decode cX12_enough 30 = .ok (.ifCond .ne 6, 3) := by decide +kernel
theorem dX12_enough_33 : decode cX12_enough 33 = .ok (.bipush (-9), 2) := by decide +kernel
theorem dX12_enough_35 : decode cX12_enough 35 = .ok (.ireturn, 1) := by decide +kernel
theorem dX12_enough_36 : decode cX12_enough 36 = .ok (.aload_n 0, 1) := by decide +kernel
theorem dX12_enough_37 : decode cX12_enough 37 = .ok (.invokevirtual 223, 3) := by decide +kernel
theorem dX12_enough_40 : decode cX12_enough 40 = .ok (.istore_n 3, 1) := by decide +kernel
theorem dX12_enough_41 : decode cX12_enough 41 = .ok (.iload_n 2, 1) := by decide +kernel
theorem dX12_enough_42 : decode cX12_enough 42 = .ok (.iconst 2, 1) := by decide +kernel
theorem dX12_enough_43 : decode cX12_enough 43 = .ok (.if_icmp .ge 24, 3) := by decide +kernel
theorem dX12_enough_46 : decode cX12_enough 46 = .ok (.iload_n 2, 1) := by decide +kernel
theorem dX12_enough_47 : decode cX12_enough 47 = .ok (.iconst 1, 1) := by decide +kernel
theorem dX12_enough_48 : decode cX12_enough 48 = .ok (.if_icmp .ne 7, 3) := by decide +kernel
theorem dX12_enough_51 : decode cX12_enough 51 = .ok (.iload_n 3, 1) := by decide +kernel
theorem dX12_enough_52 : decode cX12_enough 52 = .ok (.goto 14, 3) := by decide +kernel
theorem dX12_enough_55 : decode cX12_enough 55 = .ok (.iload_n 3, 1) := by decide +kernel
theorem dX12_enough_56 : decode cX12_enough 56 = .ok (.bipush (-5), 2) := by decide +kernel
theorem dX12_enough_58 : decode cX12_enough 58 = .ok (.if_icmp .ne 7, 3) := by decide +kernel
theorem dX12_enough_61 : decode cX12_enough 61 = .ok (.iconst 1, 1) := by decide +kernel
theorem dX12_enough_62 : decode cX12_enough 62 = .ok (.goto 4, 3) := by decide +kernel
theorem dX12_enough_65 : decode cX12_enough 65 = .ok (.iconst 0, 1) := by decide +kernel
theorem dX12_enough_66 : decode cX12_enough 66 = .ok (.ireturn, 1) := by decide +kernel
theorem dX12_enough_67 : decode cX12_enough 67 = .ok (.bipush (-5), 2) := by decide +kernel
theorem dX12_enough_69 : decode cX12_enough 69 = .ok (.istore 4, 2) := by decide +kernel
theorem dX12_enough_71 : decode cX12_enough 71 = .ok (.iconst 0, 1) := by decide +kernel
theorem dX12_enough_72 : decode cX12_enough 72 = .ok (.istore 5, 2) := by decide +kernel
theorem dX12_enough_74 : decode cX12_enough 74 = .ok (.iload 5, 2) := by decide +kernel
theorem dX12_enough_76 : decode cX12_enough 76 = .ok (.aload_n 0, 1) := by decide +kernel
theorem dX12_enough_77 : decode cX12_enough 77 = .ok (.getfield 152, 3) := by decide +kernel
theorem dX12_enough_80 : decode cX12_enough 80 = .ok (.if_icmp .ge 85, 3) := by decide +kernel
theorem dX12_enough_83 : decode cX12_enough 83 = .ok (.iload_n 3, 1) := by decide +kernel
theorem dX12_enough_84 : decode cX12_enough 84 = .ok (.bipush (-5), 2) := by decide +kernel
theorem dX12_enough_86 : decode cX12_enough 86 = .ok (.if_icmp .eq 79, 3) := by decide +kernel
theorem dX12_enough_89 : decode cX12_enough 89 = .ok (.iconst 0, 1) := by decide +kernel
theorem dX12_enough_90 : decode cX12_enough 90 = .ok (.istore 6, 2) := by decide +kernel
theorem dX12_enough_92 : decode cX12_enough 92 = .ok (.iload 6, 2) := by decide +kernel
theorem dX12_enough_94 : decode cX12_enough 94 = .ok (.aload_n 0, 1) := by decide +kernel
theorem dX12_enough_95 : decode cX12_enough 95 = .ok (.getfield 7, 3) := by decide +kernel
theorem dX12_enough_98 : decode cX12_enough 98 = .ok (.sipush 1660, 3) := by decide +kernel
theorem dX12_enough_101 : decode cX12_enough 101 = .ok (.iload_n 1, 1) := by decide +kernel
theorem dX12_enough_102 : decode cX12_enough 102 = .ok (.iadd, 1) := by decide +kernel
theorem dX12_enough_103 : decode cX12_enough 103 = .ok (.iaload, 1) := by decide +kernel
theorem dX12_enough_104 : decode cX12_enough 104 = .ok (.if_icmp .ge 55, 3) := by decide +kernel
theorem dX12_enough_107 : decode cX12_enough 107 = .ok (.aload_n 0, 1) := by decide +kernel
theorem dX12_enough_108 : decode cX12_enough 108 = .ok (.iload_n 1, 1) := by decide +kernel
theorem dX12_enough_109 : decode cX12_enough 109 = .ok (.iload 5, 2) := by decide +kernel
theorem dX12_enough_111 : decode cX12_enough 111 = .ok (.iload 6, 2) := by decide +kernel
theorem dX12_enough_113 : decode cX12_enough 113 = .ok (.iload_n 3, 1) := by decide +kernel
theorem dX12_enough_114 : decode cX12_enough 114 = .ok (.invokevirtual 226, 3) := by decide +kernel
theorem dX12_enough_117 : decode cX12_enough 117 = .ok (.ifCond .eq 32, 3) := by decide +kernel
theorem dX12_enough_120 : decode cX12_enough 120 = .ok (.iload 4, 2) := by decide +kernel
theorem dX12_enough_122 : decode cX12_enough 122 = .ok (.bipush (-5), 2) := by decide +kernel
theorem dX12_enough_124 : decode cX12_enough 124 = .ok (.if_icmp .eq 15, 3) := by decide +kernel
theorem dX12_enough_127 : decode cX12_enough 127 = .ok (.aload_n 0, 1) := by decide +kernel
theorem dX12_enough_128 : decode cX12_enough 128 = .ok (.getfield 22, 3) := by decide +kernel
theorem dX12_enough_131 : decode cX12_enough 131 = .ok (.iload 5, 2) := by decide +kernel
theorem dX12_enough_133 : decode cX12_enough 133 = .ok (.iaload, 1) := by decide +kernel
theorem dX12_enough_134 : decode cX12_enough 134 = .ok (.iload 4, 2) := by decide +kernel
theorem dX12_enough_136 : decode cX12_enough 136 = .ok (.if_icmp .ge 13, 3) := by decide +kernel
theorem dX12_enough_139 : decode cX12_enough 139 = .ok (.aload_n 0, 1) := by decide +kernel
theorem dX12_enough_140 : decode cX12_enough 140 = .ok (.getfield 22, 3) := by decide +kernel
theorem dX12_enough_143 : decode cX12_enough 143 = .ok (.iload 5, 2) := by decide +kernel
theorem dX12_enough_145 : decode cX12_enough 145 = .ok (.iaload, 1) := by decide +kernel
theorem dX12_enough_146 : decode cX12_enough 146 = .ok (.goto 5, 3) := by decide +kernel
theorem dX12_enough_149 : decode cX12_enough 149 = .ok (.iload 4, 2) := by decide +kernel
theorem dX12_enough_151 : decode cX12_enough 151 = .ok (.istore 4, 2) := by decide +kernel
theorem dX12_enough_153 : decode cX12_enough 153 = .ok (.iinc 6 1, 3) := by decide +kernel
theorem dX12_enough_156 : decode cX12_enough 156 = .ok (.goto (-64), 3) := by decide +kernel
theorem dX12_enough_159 : decode cX12_enough 159 = .ok (.iinc 5 1, 3) := by decide +kernel
theorem dX12_enough_162 : decode cX12_enough 162 = .ok (.goto (-88), 3) := by decide +kernel
theorem dX12_enough_165 : decode cX12_enough 165 = .ok (.iload 4, 2) := by decide +kernel
theorem dX12_enough_167 : decode cX12_enough 167 = .ok (.ireturn, 1) := by decide +kernel
theorem dX12_page_0 : decode cX12_page 0 = .ok (.aload_n 0, 1) := by decide +kernel
theorem dX12_page_1 : decode cX12_page 1 = .ok (.iload_n 1, 1) := by decide +kernel
theorem dX12_page_2 : decode cX12_page 2 = .ok (.invokevirtual 217, 3) := by decide +kernel
theorem dX12_page_5 : decode cX12_page 5 = .ok (.ifCond .ne 5, 3) := by decide +kernel
theorem dX12_page_8 : decode cX12_page 8 = .ok (.iconst (-1), 1) := by decide +kernel
theorem dX12_page_9 : decode cX12_page 9 = .ok (.ireturn, 1) := by decide +kernel
theorem dX12_page_10 : decode cX12_page 10 = .ok (.aload_n 0, 1) := by decide +kernel
theorem dX12_page_11 : decode cX12_page 11 = .ok (.getfield 7, 3) := by decide +kernel
theorem dX12_page_14 : decode cX12_page 14 = .ok (.iconst 3, 1) := by decide +kernel
theorem dX12_page_15 : decode cX12_page 15 = .ok (.iaload, 1) := by decide +kernel
theorem dX12_page_16 : decode cX12_page 16 = .ok (.bipush 20, 2) := by decide +kernel
theorem dX12_page_18 : decode cX12_page 18 = .ok (.if_icmp .ne 6, 3) := by decide +kernel
theorem dX12_page_21 : decode cX12_page 21 = .ok (.bipush (-4), 2) := by decide +kernel
theorem dX12_page_23 : decode cX12_page 23 = .ok (.ireturn, 1) := by decide +kernel
theorem dX12_page_24 : decode cX12_page 24 = .ok (.aload_n 0, 1) := by decide +kernel
theorem dX12_page_25 : decode cX12_page 25 = .ok (.iload_n 1, 1) := by decide +kernel
theorem dX12_page_26 : decode cX12_page 26 = .ok (.aload_n 0, 1) := by decide +kernel
theorem dX12_page_27 : decode cX12_page 27 = .ok (.getfield 7, 3) := by decide +kernel
theorem dX12_page_30 : decode cX12_page 30 = .ok (.iconst 0, 1) := by decide +kernel
theorem dX12_page_31 : decode cX12_page 31 = .ok (.iaload, 1) := by decide +kernel
theorem dX12_page_32 : decode cX12_page 32 = .ok (.invokevirtual 220, 3) := by decide +kernel
theorem dX12_page_35 : decode cX12_page 35 = .ok (.ifCond .ne 6, 3) := by decide +kernel
theorem dX12_page_38 : decode cX12_page 38 = .ok (.bipush (-9), 2) := by decide +kernel
theorem dX12_page_40 : decode cX12_page 40 = .ok (.ireturn, 1) := by decide +kernel
theorem dX12_page_41 : decode cX12_page 41 = .ok (.aload_n 0, 1) := by decide +kernel
theorem dX12_page_42 : decode cX12_page 42 = .ok (.invokevirtual 223, 3) := by decide +kernel
theorem dX12_page_45 : decode cX12_page 45 = .ok (.bipush (-5), 2) := by decide +kernel
theorem dX12_page_47 : decode cX12_page 47 = .ok (.if_icmp .eq 6, 3) := by decide +kernel
theorem dX12_page_50 : decode cX12_page 50 = .ok (.bipush (-3), 2) := by decide +kernel
theorem dX12_page_52 : decode cX12_page 52 = .ok (.ireturn, 1) := by decide +kernel
theorem dX12_page_53 : decode cX12_page 53 = .ok (.aload_n 0, 1) := by decide +kernel
theorem dX12_page_54 : decode cX12_page 54 = .ok (.getfield 7, 3) := by decide +kernel
theorem dX12_page_57 : decode cX12_page 57 = .ok (.iconst 3, 1) := by decide +kernel
theorem dX12_page_58 : decode cX12_page 58 = .ok (.iaload, 1) := by decide +kernel
theorem dX12_page_59 : decode cX12_page 59 = .ok (.istore_n 2, 1) := by decide +kernel
theorem dX12_page_60 : decode cX12_page 60 = .ok (.aload_n 0, 1) := by decide +kernel
theorem dX12_page_61 : decode cX12_page 61 = .ok (.getfield 7, 3) := by decide +kernel
theorem dX12_page_64 : decode cX12_page 64 = .ok (.sipush 2270, 3) := by decide +kernel
theorem dX12_page_67 : decode cX12_page 67 = .ok (.iload_n 2, 1) := by decide +kernel
theorem dX12_page_68 : decode cX12_page 68 = .ok (.iadd, 1) := by decide +kernel
theorem dX12_page_69 : decode cX12_page 69 = .ok (.iload_n 1, 1) := by decide +kernel
theorem dX12_page_70 : decode cX12_page 70 = .ok (.iastore, 1) := by decide +kernel
theorem dX12_page_71 : decode cX12_page 71 = .ok (.aload_n 0, 1) := by decide +kernel
theorem dX12_page_72 : decode cX12_page 72 = .ok (.getfield 7, 3) := by decide +kernel
theorem dX12_page_75 : decode cX12_page 75 = .ok (.sipush 2290, 3) := by decide +kernel
theorem dX12_page_78 : decode cX12_page 78 = .ok (.iload_n 2, 1) := by decide +kernel
theorem dX12_page_79 : decode cX12_page 79 = .ok (.iadd, 1) := by decide +kernel
theorem dX12_page_80 : decode cX12_page 80 = .ok (.iconst 1, 1) := by decide +kernel
theorem dX12_page_81 : decode cX12_page 81 = .ok (.iastore, 1) := by decide +kernel
theorem dX12_page_82 : decode cX12_page 82 = .ok (.aload_n 0, 1) := by decide +kernel
theorem dX12_page_83 : decode cX12_page 83 = .ok (.getfield 7, 3) := by decide +kernel
theorem dX12_page_86 : decode cX12_page 86 = .ok (.sipush 2310, 3) := by decide +kernel
theorem dX12_page_89 : decode cX12_page 89 = .ok (.iload_n 2, 1) := by decide +kernel
theorem dX12_page_90 : decode cX12_page 90 = .ok (.iadd, 1) := by decide +kernel
theorem dX12_page_91 : decode cX12_page 91 = .ok (.iconst 0, 1) := by decide +kernel
theorem dX12_page_92 : decode cX12_page 92 = .ok (.iastore, 1) := by decide +kernel
theorem dX12_page_93 : decode cX12_page 93 = .ok (.iconst 0, 1) := by decide +kernel
theorem dX12_page_94 : decode cX12_page 94 = .ok (.istore_n 3, 1) := by decide +kernel
theorem dX12_page_95 : decode cX12_page 95 = .ok (.iload_n 3, 1) := by decide +kernel
theorem dX12_page_96 : decode cX12_page 96 = .ok (.bipush 27, 2) := by decide +kernel
theorem dX12_page_98 : decode cX12_page 98 = .ok (.if_icmp .ge 48, 3) := by decide +kernel
theorem dX12_page_101 : decode cX12_page 101 = .ok (.aload_n 0, 1) := by decide +kernel
theorem dX12_page_102 : decode cX12_page 102 = .ok (.getfield 7, 3) := by decide +kernel
theorem dX12_page_105 : decode cX12_page 105 = .ok (.sipush 2330, 3) := by decide +kernel
theorem dX12_page_108 : decode cX12_page 108 = .ok (.bipush 27, 2) := by decide +kernel
theorem dX12_page_110 : decode cX12_page 110 = .ok (.iload_n 2, 1) := by decide +kernel
theorem dX12_page_111 : decode cX12_page 111 = .ok (.imul, 1) := by decide +kernel
theorem dX12_page_112 : decode cX12_page 112 = .ok (.iadd, 1) := by decide +kernel
theorem dX12_page_113 : decode cX12_page 113 = .ok (.iload_n 3, 1) := by decide +kernel
theorem dX12_page_114 : decode cX12_page 114 = .ok (.iadd, 1) := by decide +kernel
theorem dX12_page_115 : decode cX12_page 115 = .ok (.aload_n 0, 1) := by decide +kernel
theorem dX12_page_116 : decode cX12_page 116 = .ok (.getfield 44, 3) := by decide +kernel
theorem dX12_page_119 : decode cX12_page 119 = .ok (.iload_n 3, 1) := by decide +kernel
theorem dX12_page_120 : decode cX12_page 120 = .ok (.iaload, 1) := by decide +kernel
theorem dX12_page_121 : decode cX12_page 121 = .ok (.iastore, 1) := by decide +kernel
theorem dX12_page_122 : decode cX12_page 122 = .ok (.aload_n 0, 1) := by decide +kernel
theorem dX12_page_123 : decode cX12_page 123 = .ok (.getfield 7, 3) := by decide +kernel
theorem dX12_page_126 : decode cX12_page 126 = .ok (.bipush 50, 2) := by decide +kernel
theorem dX12_page_128 : decode cX12_page 128 = .ok (.iload_n 3, 1) := by decide +kernel
theorem dX12_page_129 : decode cX12_page 129 = .ok (.iadd, 1) := by decide +kernel
theorem dX12_page_130 : decode cX12_page 130 = .ok (.dup2, 1) := by decide +kernel
theorem dX12_page_131 : decode cX12_page 131 = .ok (.iaload, 1) := by decide +kernel
theorem dX12_page_132 : decode cX12_page 132 = .ok (.aload_n 0, 1) := by decide +kernel
theorem dX12_page_133 : decode cX12_page 133 = .ok (.getfield 44, 3) := by decide +kernel
theorem dX12_page_136 : decode cX12_page 136 = .ok (.iload_n 3, 1) := by decide +kernel
theorem dX12_page_137 : decode cX12_page 137 = .ok (.iaload, 1) := by decide +kernel
theorem dX12_page_138 : decode cX12_page 138 = .ok (.isub, 1) := by decide +kernel
theorem dX12_page_139 : decode cX12_page 139 = .ok (.iastore, 1) := by decide +kernel
theorem dX12_page_140 : decode cX12_page 140 = .ok (.iinc 3 1, 3) := by decide +kernel
theorem dX12_page_143 : decode cX12_page 143 = .ok (.goto (-48), 3) := by decide +kernel
theorem dX12_page_146 : decode cX12_page 146 = .ok (.aload_n 0, 1) := by decide +kernel
theorem dX12_page_147 : decode cX12_page 147 = .ok (.getfield 7, 3) := by decide +kernel
theorem dX12_page_150 : decode cX12_page 150 = .ok (.iconst 3, 1) := by decide +kernel
theorem dX12_page_151 : decode cX12_page 151 = .ok (.dup2, 1) := by decide +kernel
theorem dX12_page_152 : decode cX12_page 152 = .ok (.iaload, 1) := by decide +kernel
theorem dX12_page_153 : decode cX12_page 153 = .ok (.iconst 1, 1) := by decide +kernel
theorem dX12_page_154 : decode cX12_page 154 = .ok (.iadd, 1) := by decide +kernel
theorem dX12_page_155 : decode cX12_page 155 = .ok (.iastore, 1) := by decide +kernel
theorem dX12_page_156 : decode cX12_page 156 = .ok (.iload_n 2, 1) := by decide +kernel
theorem dX12_page_157 : decode cX12_page 157 = .ok (.ireturn, 1) := by decide +kernel
theorem dX12_isPage_0 : decode cX12_isPage 0 = .ok (.iload_n 1, 1) := by decide +kernel
theorem dX12_isPage_1 : decode cX12_isPage 1 = .ok (.iconst 0, 1) := by decide +kernel
theorem dX12_isPage_2 : decode cX12_isPage 2 = .ok (.aload_n 0, 1) := by decide +kernel
theorem dX12_isPage_3 : decode cX12_isPage 3 = .ok (.getfield 7, 3) := by decide +kernel
theorem dX12_isPage_6 : decode cX12_isPage 6 = .ok (.iconst 3, 1) := by decide +kernel
theorem dX12_isPage_7 : decode cX12_isPage 7 = .ok (.iaload, 1) := by decide +kernel
theorem dX12_isPage_8 : decode cX12_isPage 8 = .ok (.iconst 1, 1) := by decide +kernel
theorem dX12_isPage_9 : decode cX12_isPage 9 = .ok (.isub, 1) := by decide +kernel
theorem dX12_isPage_10 : decode cX12_isPage 10 = .ok (.invokestatic 66, 3) := by decide +kernel
theorem dX12_isPage_13 : decode cX12_isPage 13 = .ok (.ireturn, 1) := by decide +kernel
theorem dX12_pull_0 : decode cX12_pull 0 = .ok (.aload_n 0, 1) := by decide +kernel
theorem dX12_pull_1 : decode cX12_pull 1 = .ok (.iload_n 1, 1) := by decide +kernel
theorem dX12_pull_2 : decode cX12_pull 2 = .ok (.invokevirtual 230, 3) := by decide +kernel
theorem dX12_pull_5 : decode cX12_pull 5 = .ok (.ifCond .ne 5, 3) := by decide +kernel
theorem dX12_pull_8 : decode cX12_pull 8 = .ok (.iconst (-1), 1) := by decide +kernel
theorem dX12_pull_9 : decode cX12_pull 9 = .ok (.ireturn, 1) := by decide +kernel
theorem dX12_pull_10 : decode cX12_pull 10 = .ok (.iload_n 2, 1) := by decide +kernel
theorem dX12_pull_11 : decode cX12_pull 11 = .ok (.iconst 1, 1) := by decide +kernel
theorem dX12_pull_12 : decode cX12_pull 12 = .ok (.sipush 500, 3) := by decide +kernel
theorem dX12_pull_15 : decode cX12_pull 15 = .ok (.invokestatic 66, 3) := by decide +kernel
theorem dX12_pull_18 : decode cX12_pull 18 = .ok (.ifCond .ne 6, 3) := by decide +kernel
theorem dX12_pull_21 : decode cX12_pull 21 = .ok (.bipush (-2), 2) := by decide +kernel
theorem dX12_pull_23 : decode cX12_pull 23 = .ok (.ireturn, 1) := by decide +kernel
theorem dX12_pull_24 : decode cX12_pull 24 = .ok (.aload_n 0, 1) := by decide +kernel
theorem dX12_pull_25 : decode cX12_pull 25 = .ok (.getfield 7, 3) := by decide +kernel
theorem dX12_pull_28 : decode cX12_pull 28 = .ok (.sipush 2290, 3) := by decide +kernel
theorem dX12_pull_31 : decode cX12_pull 31 = .ok (.iload_n 1, 1) := by decide +kernel
theorem dX12_pull_32 : decode cX12_pull 32 = .ok (.iadd, 1) := by decide +kernel
theorem dX12_pull_33 : decode cX12_pull 33 = .ok (.iaload, 1) := by decide +kernel
theorem dX12_pull_34 : decode cX12_pull 34 = .ok (.ifCond .ne 6, 3) := by decide +kernel
theorem dX12_pull_37 : decode cX12_pull 37 = .ok (.bipush (-3), 2) := by decide +kernel
theorem dX12_pull_39 : decode cX12_pull 39 = .ok (.ireturn, 1) := by decide +kernel
theorem dX12_pull_40 : decode cX12_pull 40 = .ok (.aload_n 0, 1) := by decide +kernel
theorem dX12_pull_41 : decode cX12_pull 41 = .ok (.getfield 7, 3) := by decide +kernel
theorem dX12_pull_44 : decode cX12_pull 44 = .ok (.sipush 2310, 3) := by decide +kernel
theorem dX12_pull_47 : decode cX12_pull 47 = .ok (.iload_n 1, 1) := by decide +kernel
theorem dX12_pull_48 : decode cX12_pull 48 = .ok (.iadd, 1) := by decide +kernel
theorem dX12_pull_49 : decode cX12_pull 49 = .ok (.dup2, 1) := by decide +kernel
theorem dX12_pull_50 : decode cX12_pull 50 = .ok (.iaload, 1) := by decide +kernel
theorem dX12_pull_51 : decode cX12_pull 51 = .ok (.iload_n 2, 1) := by decide +kernel
theorem dX12_pull_52 : decode cX12_pull 52 = .ok (.iadd, 1) := by decide +kernel
theorem dX12_pull_53 : decode cX12_pull 53 = .ok (.iastore, 1) := by decide +kernel
theorem dX12_pull_54 : decode cX12_pull 54 = .ok (.aload_n 0, 1) := by decide +kernel
theorem dX12_pull_55 : decode cX12_pull 55 = .ok (.getfield 7, 3) := by decide +kernel
theorem dX12_pull_58 : decode cX12_pull 58 = .ok (.sipush 2310, 3) := by decide +kernel
theorem dX12_pull_61 : decode cX12_pull 61 = .ok (.iload_n 1, 1) := by decide +kernel
theorem dX12_pull_62 : decode cX12_pull 62 = .ok (.iadd, 1) := by decide +kernel
theorem dX12_pull_63 : decode cX12_pull 63 = .ok (.iaload, 1) := by decide +kernel
theorem dX12_pull_64 : decode cX12_pull 64 = .ok (.ireturn, 1) := by decide +kernel
theorem dX12_down_0 : decode cX12_down 0 = .ok (.aload_n 0, 1) := by decide +kernel
theorem dX12_down_1 : decode cX12_down 1 = .ok (.iload_n 1, 1) := by decide +kernel
theorem dX12_down_2 : decode cX12_down 2 = .ok (.invokevirtual 230, 3) := by decide +kernel
theorem dX12_down_5 : decode cX12_down 5 = .ok (.ifCond .ne 5, 3) := by decide +kernel
theorem dX12_down_8 : decode cX12_down 8 = .ok (.iconst (-1), 1) := by decide +kernel
theorem dX12_down_9 : decode cX12_down 9 = .ok (.ireturn, 1) := by decide +kernel
theorem dX12_down_10 : decode cX12_down 10 = .ok (.aload_n 0, 1) := by decide +kernel
theorem dX12_down_11 : decode cX12_down 11 = .ok (.getfield 7, 3) := by decide +kernel
theorem dX12_down_14 : decode cX12_down 14 = .ok (.sipush 2290, 3) := by decide +kernel
theorem dX12_down_17 : decode cX12_down 17 = .ok (.iload_n 1, 1) := by decide +kernel
theorem dX12_down_18 : decode cX12_down 18 = .ok (.iadd, 1) := by decide +kernel
theorem dX12_down_19 : decode cX12_down 19 = .ok (.iaload, 1) := by decide +kernel
theorem dX12_down_20 : decode cX12_down 20 = .ok (.ifCond .ne 6, 3) := by decide +kernel
theorem dX12_down_23 : decode cX12_down 23 = .ok (.bipush (-3), 2) := by decide +kernel
theorem dX12_down_25 : decode cX12_down 25 = .ok (.ireturn, 1) := by decide +kernel
theorem dX12_down_26 : decode cX12_down 26 = .ok (.iconst 0, 1) := by decide +kernel
theorem dX12_down_27 : decode cX12_down 27 = .ok (.istore_n 2, 1) := by decide +kernel
theorem dX12_down_28 : decode cX12_down 28 = .ok (.iconst 0, 1) := by decide +kernel
theorem dX12_down_29 : decode cX12_down 29 = .ok (.istore_n 3, 1) := by decide +kernel
theorem dX12_down_30 : decode cX12_down 30 = .ok (.iload_n 3, 1) := by decide +kernel
theorem dX12_down_31 : decode cX12_down 31 = .ok (.bipush 27, 2) := by decide +kernel
theorem dX12_down_33 : decode cX12_down 33 = .ok (.if_icmp .ge 97, 3) := by decide +kernel
theorem dX12_down_36 : decode cX12_down 36 = .ok (.aload_n 0, 1) := by decide +kernel
theorem dX12_down_37 : decode cX12_down 37 = .ok (.getfield 7, 3) := by decide +kernel
theorem dX12_down_40 : decode cX12_down 40 = .ok (.sipush 2330, 3) := by decide +kernel
theorem dX12_down_43 : decode cX12_down 43 = .ok (.bipush 27, 2) := by decide +kernel
theorem dX12_down_45 : decode cX12_down 45 = .ok (.iload_n 1, 1) := by decide +kernel
theorem dX12_down_46 : decode cX12_down 46 = .ok (.imul, 1) := by decide +kernel
theorem dX12_down_47 : decode cX12_down 47 = .ok (.iadd, 1) := by decide +kernel
theorem dX12_down_48 : decode cX12_down 48 = .ok (.iload_n 3, 1) := by decide +kernel
theorem dX12_down_49 : decode cX12_down 49 = .ok (.iadd, 1) := by decide +kernel
theorem dX12_down_50 : decode cX12_down 50 = .ok (.iaload, 1) := by decide +kernel
theorem dX12_down_51 : decode cX12_down 51 = .ok (.istore 4, 2) := by decide +kernel
theorem dX12_down_53 : decode cX12_down 53 = .ok (.iload 4, 2) := by decide +kernel
theorem dX12_down_55 : decode cX12_down 55 = .ok (.aload_n 0, 1) := by decide +kernel
theorem dX12_down_56 : decode cX12_down 56 = .ok (.getfield 7, 3) := by decide +kernel
theorem dX12_down_59 : decode cX12_down 59 = .ok (.sipush 2310, 3) := by decide +kernel
theorem dX12_down_62 : decode cX12_down 62 = .ok (.iload_n 1, 1) := by decide +kernel
theorem dX12_down_63 : decode cX12_down 63 = .ok (.iadd, 1) := by decide +kernel
theorem dX12_down_64 : decode cX12_down 64 = .ok (.iaload, 1) := by decide +kernel
theorem dX12_down_65 : decode cX12_down 65 = .ok (.imul, 1) := by decide +kernel
theorem dX12_down_66 : decode cX12_down 66 = .ok (.sipush 10000, 3) := by decide +kernel
theorem dX12_down_69 : decode cX12_down 69 = .ok (.idiv, 1) := by decide +kernel
theorem dX12_down_70 : decode cX12_down 70 = .ok (.istore 5, 2) := by decide +kernel
theorem dX12_down_72 : decode cX12_down 72 = .ok (.iload 5, 2) := by decide +kernel
theorem dX12_down_74 : decode cX12_down 74 = .ok (.iload 4, 2) := by decide +kernel
theorem dX12_down_76 : decode cX12_down 76 = .ok (.if_icmp .le 8, 3) := by decide +kernel
theorem dX12_down_79 : decode cX12_down 79 = .ok (.iload 4, 2) := by decide +kernel
theorem dX12_down_81 : decode cX12_down 81 = .ok (.goto 5, 3) := by decide +kernel
theorem dX12_down_84 : decode cX12_down 84 = .ok (.iload 5, 2) := by decide +kernel
theorem dX12_down_86 : decode cX12_down 86 = .ok (.istore 5, 2) := by decide +kernel
theorem dX12_down_88 : decode cX12_down 88 = .ok (.aload_n 0, 1) := by decide +kernel
theorem dX12_down_89 : decode cX12_down 89 = .ok (.getfield 7, 3) := by decide +kernel
theorem dX12_down_92 : decode cX12_down 92 = .ok (.bipush 80, 2) := by decide +kernel
theorem dX12_down_94 : decode cX12_down 94 = .ok (.iload_n 3, 1) := by decide +kernel
theorem dX12_down_95 : decode cX12_down 95 = .ok (.iadd, 1) := by decide +kernel
theorem dX12_down_96 : decode cX12_down 96 = .ok (.dup2, 1) := by decide +kernel
theorem dX12_down_97 : decode cX12_down 97 = .ok (.iaload, 1) := by decide +kernel
theorem dX12_down_98 : decode cX12_down 98 = .ok (.iload 5, 2) := by decide +kernel
theorem dX12_down_100 : decode cX12_down 100 = .ok (.iadd, 1) := by decide +kernel
theorem dX12_down_101 : decode cX12_down 101 = .ok (.iastore, 1) := by decide +kernel
theorem dX12_down_102 : decode cX12_down 102 = .ok (.aload_n 0, 1) := by decide +kernel
theorem dX12_down_103 : decode cX12_down 103 = .ok (.getfield 7, 3) := by decide +kernel
theorem dX12_down_106 : decode cX12_down 106 = .ok (.bipush 50, 2) := by decide +kernel
theorem dX12_down_108 : decode cX12_down 108 = .ok (.iload_n 3, 1) := by decide +kernel
theorem dX12_down_109 : decode cX12_down 109 = .ok (.iadd, 1) := by decide +kernel
theorem dX12_down_110 : decode cX12_down 110 = .ok (.dup2, 1) := by decide +kernel
theorem dX12_down_111 : decode cX12_down 111 = .ok (.iaload, 1) := by decide +kernel
theorem dX12_down_112 : decode cX12_down 112 = .ok (.iload 4, 2) := by decide +kernel
theorem dX12_down_114 : decode cX12_down 114 = .ok (.iload 5, 2) := by decide +kernel
theorem dX12_down_116 : decode cX12_down 116 = .ok (.isub, 1) := by decide +kernel
theorem dX12_down_117 : decode cX12_down 117 = .ok (.iadd, 1) := by decide +kernel
theorem dX12_down_118 : decode cX12_down 118 = .ok (.iastore, 1) := by decide +kernel
theorem dX12_down_119 : decode cX12_down 119 = .ok (.iload_n 2, 1) := by decide +kernel
theorem dX12_down_120 : decode cX12_down 120 = .ok (.iload 5, 2) := by decide +kernel
theorem dX12_down_122 : decode cX12_down 122 = .ok (.iadd, 1) := by decide +kernel
theorem dX12_down_123 : decode cX12_down 123 = .ok (.istore_n 2, 1) := by decide +kernel
theorem dX12_down_124 : decode cX12_down 124 = .ok (.iinc 3 1, 3) := by decide +kernel
theorem dX12_down_127 : decode cX12_down 127 = .ok (.goto (-97), 3) := by decide +kernel
theorem dX12_down_130 : decode cX12_down 130 = .ok (.aload_n 0, 1) := by decide +kernel
theorem dX12_down_131 : decode cX12_down 131 = .ok (.getfield 7, 3) := by decide +kernel
theorem dX12_down_134 : decode cX12_down 134 = .ok (.sipush 2290, 3) := by decide +kernel
theorem dX12_down_137 : decode cX12_down 137 = .ok (.iload_n 1, 1) := by decide +kernel
theorem dX12_down_138 : decode cX12_down 138 = .ok (.iadd, 1) := by decide +kernel
theorem dX12_down_139 : decode cX12_down 139 = .ok (.iconst 0, 1) := by decide +kernel
theorem dX12_down_140 : decode cX12_down 140 = .ok (.iastore, 1) := by decide +kernel
theorem dX12_down_141 : decode cX12_down 141 = .ok (.iload_n 2, 1) := by decide +kernel
theorem dX12_down_142 : decode cX12_down 142 = .ok (.ireturn, 1) := by decide +kernel
theorem dX12_press_0 : decode cX12_press 0 = .ok (.iload_n 1, 1) := by decide +kernel
theorem dX12_press_1 : decode cX12_press 1 = .ok (.iconst 0, 1) := by decide +kernel
theorem dX12_press_2 : decode cX12_press 2 = .ok (.iconst 3, 1) := by decide +kernel
theorem dX12_press_3 : decode cX12_press 3 = .ok (.invokestatic 66, 3) := by decide +kernel
theorem dX12_press_6 : decode cX12_press 6 = .ok (.ifCond .ne 5, 3) := by decide +kernel
theorem dX12_press_9 : decode cX12_press 9 = .ok (.iconst (-1), 1) := by decide +kernel
theorem dX12_press_10 : decode cX12_press 10 = .ok (.ireturn, 1) := by decide +kernel
theorem dX12_press_11 : decode cX12_press 11 = .ok (.iload_n 2, 1) := by decide +kernel
theorem dX12_press_12 : decode cX12_press 12 = .ok (.iconst 0, 1) := by decide +kernel
theorem dX12_press_13 : decode cX12_press 13 = .ok (.bipush 99, 2) := by decide +kernel
theorem dX12_press_15 : decode cX12_press 15 = .ok (.invokestatic 66, 3) := by decide +kernel
theorem dX12_press_18 : decode cX12_press 18 = .ok (.ifCond .ne 6, 3) := by decide +kernel
theorem dX12_press_21 : decode cX12_press 21 = .ok (.bipush (-2), 2) := by decide +kernel
theorem dX12_press_23 : decode cX12_press 23 = .ok (.ireturn, 1) := by decide +kernel
theorem dX12_press_24 : decode cX12_press 24 = .ok (.aload_n 0, 1) := by decide +kernel
theorem dX12_press_25 : decode cX12_press 25 = .ok (.getfield 7, 3) := by decide +kernel
theorem dX12_press_28 : decode cX12_press 28 = .ok (.sipush 2870, 3) := by decide +kernel
theorem dX12_press_31 : decode cX12_press 31 = .ok (.iload_n 1, 1) := by decide +kernel
theorem dX12_press_32 : decode cX12_press 32 = .ok (.iadd, 1) := by decide +kernel
theorem dX12_press_33 : decode cX12_press 33 = .ok (.iaload, 1) := by decide +kernel
theorem dX12_press_34 : decode cX12_press 34 = .ok (.istore_n 3, 1) := by decide +kernel
theorem dX12_press_35 : decode cX12_press 35 = .ok (.aload_n 0, 1) := by decide +kernel
theorem dX12_press_36 : decode cX12_press 36 = .ok (.getfield 7, 3) := by decide +kernel
theorem dX12_press_39 : decode cX12_press 39 = .ok (.sipush 2870, 3) := by decide +kernel
theorem dX12_press_42 : decode cX12_press 42 = .ok (.iload_n 1, 1) := by decide +kernel
theorem dX12_press_43 : decode cX12_press 43 = .ok (.iadd, 1) := by decide +kernel
theorem dX12_press_44 : decode cX12_press 44 = .ok (.iload_n 2, 1) := by decide +kernel
theorem dX12_press_45 : decode cX12_press 45 = .ok (.iastore, 1) := by decide +kernel
theorem dX12_press_46 : decode cX12_press 46 = .ok (.iload_n 3, 1) := by decide +kernel
theorem dX12_press_47 : decode cX12_press 47 = .ok (.ireturn, 1) := by decide +kernel
theorem dX12_isFeast_0 : decode cX12_isFeast 0 = .ok (.aload_n 0, 1) := by decide +kernel
theorem dX12_isFeast_1 : decode cX12_isFeast 1 = .ok (.iload_n 1, 1) := by decide +kernel
theorem dX12_isFeast_2 : decode cX12_isFeast 2 = .ok (.invokevirtual 165, 3) := by decide +kernel
theorem dX12_isFeast_5 : decode cX12_isFeast 5 = .ok (.aload_n 0, 1) := by decide +kernel
theorem dX12_isFeast_6 : decode cX12_isFeast 6 = .ok (.getfield 31, 3) := by decide +kernel
theorem dX12_isFeast_9 : decode cX12_isFeast 9 = .ok (.iload_n 1, 1) := by decide +kernel
theorem dX12_isFeast_10 : decode cX12_isFeast 10 = .ok (.bipush 30, 2) := by decide +kernel
theorem dX12_isFeast_12 : decode cX12_isFeast 12 = .ok (.irem, 1) := by decide +kernel
theorem dX12_isFeast_13 : decode cX12_isFeast 13 = .ok (.baload, 1) := by decide +kernel
theorem dX12_isFeast_14 : decode cX12_isFeast 14 = .ok (.ireturn, 1) := by decide +kernel
theorem dX12_order_0 : decode cX12_order 0 = .ok (.aload_n 0, 1) := by decide +kernel
theorem dX12_order_1 : decode cX12_order 1 = .ok (.iload_n 1, 1) := by decide +kernel
theorem dX12_order_2 : decode cX12_order 2 = .ok (.invokevirtual 230, 3) := by decide +kernel
theorem dX12_order_5 : decode cX12_order 5 = .ok (.ifCond .ne 5, 3) := by decide +kernel
theorem dX12_order_8 : decode cX12_order 8 = .ok (.iconst (-1), 1) := by decide +kernel
theorem dX12_order_9 : decode cX12_order 9 = .ok (.ireturn, 1) := by decide +kernel
theorem dX12_order_10 : decode cX12_order 10 = .ok (.iload_n 2, 1) := by decide +kernel
theorem dX12_order_11 : decode cX12_order 11 = .ok (.iconst 1, 1) := by decide +kernel
theorem dX12_order_12 : decode cX12_order 12 = .ok (.sipush 999, 3) := by decide +kernel
theorem dX12_order_15 : decode cX12_order 15 = .ok (.invokestatic 66, 3) := by decide +kernel
theorem dX12_order_18 : decode cX12_order 18 = .ok (.ifCond .ne 6, 3) := by decide +kernel
theorem dX12_order_21 : decode cX12_order 21 = .ok (.bipush (-2), 2) := by decide +kernel
theorem dX12_order_23 : decode cX12_order 23 = .ok (.ireturn, 1) := by decide +kernel
theorem dX12_order_24 : decode cX12_order 24 = .ok (.iconst (-1), 1) := by decide +kernel
theorem dX12_order_25 : decode cX12_order 25 = .ok (.istore_n 3, 1) := by decide +kernel
theorem dX12_order_26 : decode cX12_order 26 = .ok (.iconst 0, 1) := by decide +kernel
theorem dX12_order_27 : decode cX12_order 27 = .ok (.istore 4, 2) := by decide +kernel
theorem dX12_order_29 : decode cX12_order 29 = .ok (.iconst 0, 1) := by decide +kernel
theorem dX12_order_30 : decode cX12_order 30 = .ok (.istore 5, 2) := by decide +kernel
theorem dX12_order_32 : decode cX12_order 32 = .ok (.iload 5, 2) := by decide +kernel
theorem dX12_order_34 : decode cX12_order 34 = .ok (.iconst 4, 1) := by decide +kernel
theorem dX12_order_35 : decode cX12_order 35 = .ok (.if_icmp .ge 84, 3) := by decide +kernel
theorem dX12_order_38 : decode cX12_order 38 = .ok (.aload_n 0, 1) := by decide +kernel
theorem dX12_order_39 : decode cX12_order 39 = .ok (.getfield 7, 3) := by decide +kernel
theorem dX12_order_42 : decode cX12_order 42 = .ok (.sipush 2874, 3) := by decide +kernel
theorem dX12_order_45 : decode cX12_order 45 = .ok (.iload 5, 2) := by decide +kernel
theorem dX12_order_47 : decode cX12_order 47 = .ok (.iadd, 1) := by decide +kernel
theorem dX12_order_48 : decode cX12_order 48 = .ok (.iaload, 1) := by decide +kernel
theorem dX12_order_49 : decode cX12_order 49 = .ok (.aload_n 0, 1) := by decide +kernel
theorem dX12_order_50 : decode cX12_order 50 = .ok (.getfield 7, 3) := by decide +kernel
theorem dX12_order_53 : decode cX12_order 53 = .ok (.iconst 0, 1) := by decide +kernel
theorem dX12_order_54 : decode cX12_order 54 = .ok (.iaload, 1) := by decide +kernel
theorem dX12_order_55 : decode cX12_order 55 = .ok (.if_icmp .le 17, 3) := by decide +kernel
theorem dX12_order_58 : decode cX12_order 58 = .ok (.aload_n 0, 1) := by decide +kernel
theorem dX12_order_59 : decode cX12_order 59 = .ok (.getfield 7, 3) := by decide +kernel
theorem dX12_order_62 : decode cX12_order 62 = .ok (.sipush 2874, 3) := by decide +kernel
theorem dX12_order_65 : decode cX12_order 65 = .ok (.iload 5, 2) := by decide +kernel
theorem dX12_order_67 : decode cX12_order 67 = .ok (.iadd, 1) := by decide +kernel
theorem dX12_order_68 : decode cX12_order 68 = .ok (.iaload, 1) := by decide +kernel
theorem dX12_order_69 : decode cX12_order 69 = .ok (.goto 9, 3) := by decide +kernel
theorem dX12_order_72 : decode cX12_order 72 = .ok (.aload_n 0, 1) := by decide +kernel
theorem dX12_order_73 : decode cX12_order 73 = .ok (.getfield 7, 3) := by decide +kernel
theorem dX12_order_76 : decode cX12_order 76 = .ok (.iconst 0, 1) := by decide +kernel
theorem dX12_order_77 : decode cX12_order 77 = .ok (.iaload, 1) := by decide +kernel
theorem dX12_order_78 : decode cX12_order 78 = .ok (.istore 6, 2) := by decide +kernel
theorem dX12_order_80 : decode cX12_order 80 = .ok (.aload_n 0, 1) := by decide +kernel
theorem dX12_order_81 : decode cX12_order 81 = .ok (.getfield 7, 3) := by decide +kernel
theorem dX12_order_84 : decode cX12_order 84 = .ok (.sipush 2870, 3) := by decide +kernel
theorem dX12_order_87 : decode cX12_order 87 = .ok (.iload 5, 2) := by decide +kernel
theorem dX12_order_89 : decode cX12_order 89 = .ok (.iadd, 1) := by decide +kernel
theorem dX12_order_90 : decode cX12_order 90 = .ok (.iaload, 1) := by decide +kernel
theorem dX12_order_91 : decode cX12_order 91 = .ok (.ifCond .le 22, 3) := by decide +kernel
theorem dX12_order_94 : decode cX12_order 94 = .ok (.iload_n 3, 1) := by decide +kernel
theorem dX12_order_95 : decode cX12_order 95 = .ok (.iconst (-1), 1) := by decide +kernel
theorem dX12_order_96 : decode cX12_order 96 = .ok (.if_icmp .eq 10, 3) := by decide +kernel
theorem dX12_order_99 : decode cX12_order 99 = .ok (.iload 6, 2) := by decide +kernel
theorem dX12_order_101 : decode cX12_order 101 = .ok (.iload 4, 2) := by decide +kernel
theorem dX12_order_103 : decode cX12_order 103 = .ok (.if_icmp .ge 10, 3) := by decide +kernel
theorem dX12_order_106 : decode cX12_order 106 = .ok (.iload 5, 2) := by decide +kernel
theorem dX12_order_108 : decode cX12_order 108 = .ok (.istore_n 3, 1) := by decide +kernel
theorem dX12_order_109 : decode cX12_order 109 = .ok (.iload 6, 2) := by decide +kernel
theorem dX12_order_111 : decode cX12_order 111 = .ok (.istore 4, 2) := by decide +kernel
theorem dX12_order_113 : decode cX12_order 113 = .ok (.iinc 5 1, 3) := by decide +kernel
theorem dX12_order_116 : decode cX12_order 116 = .ok (.goto (-84), 3) := by decide +kernel
theorem dX12_order_119 : decode cX12_order 119 = .ok (.iload_n 3, 1) := by decide +kernel
theorem dX12_order_120 : decode cX12_order 120 = .ok (.iconst (-1), 1) := by decide +kernel
theorem dX12_order_121 : decode cX12_order 121 = .ok (.if_icmp .ne 6, 3) := by decide +kernel
theorem dX12_order_124 : decode cX12_order 124 = .ok (.bipush (-3), 2) := by decide +kernel
theorem dX12_order_126 : decode cX12_order 126 = .ok (.ireturn, 1) := by decide +kernel
theorem dX12_order_127 : decode cX12_order 127 = .ok (.aload_n 0, 1) := by decide +kernel
theorem dX12_order_128 : decode cX12_order 128 = .ok (.getfield 7, 3) := by decide +kernel
theorem dX12_order_131 : decode cX12_order 131 = .ok (.iconst 4, 1) := by decide +kernel
theorem dX12_order_132 : decode cX12_order 132 = .ok (.iaload, 1) := by decide +kernel
theorem dX12_order_133 : decode cX12_order 133 = .ok (.bipush 12, 2) := by decide +kernel
theorem dX12_order_135 : decode cX12_order 135 = .ok (.if_icmp .ne 6, 3) := by decide +kernel
theorem dX12_order_138 : decode cX12_order 138 = .ok (.bipush (-4), 2) := by decide +kernel
theorem dX12_order_140 : decode cX12_order 140 = .ok (.ireturn, 1) := by decide +kernel
theorem dX12_order_141 : decode cX12_order 141 = .ok (.iload_n 2, 1) := by decide +kernel
theorem dX12_order_142 : decode cX12_order 142 = .ok (.aload_n 0, 1) := by decide +kernel
theorem dX12_order_143 : decode cX12_order 143 = .ok (.getfield 7, 3) := by decide +kernel
theorem dX12_order_146 : decode cX12_order 146 = .ok (.sipush 2870, 3) := by decide +kernel
theorem dX12_order_149 : decode cX12_order 149 = .ok (.iload_n 3, 1) := by decide +kernel
theorem dX12_order_150 : decode cX12_order 150 = .ok (.iadd, 1) := by decide +kernel
theorem dX12_order_151 : decode cX12_order 151 = .ok (.iaload, 1) := by decide +kernel
theorem dX12_order_152 : decode cX12_order 152 = .ok (.iadd, 1) := by decide +kernel
theorem dX12_order_153 : decode cX12_order 153 = .ok (.iconst 1, 1) := by decide +kernel
theorem dX12_order_154 : decode cX12_order 154 = .ok (.isub, 1) := by decide +kernel
theorem dX12_order_155 : decode cX12_order 155 = .ok (.aload_n 0, 1) := by decide +kernel
theorem dX12_order_156 : decode cX12_order 156 = .ok (.getfield 7, 3) := by decide +kernel
theorem dX12_order_159 : decode cX12_order 159 = .ok (.sipush 2870, 3) := by decide +kernel
theorem dX12_order_162 : decode cX12_order 162 = .ok (.iload_n 3, 1) := by decide +kernel
theorem dX12_order_163 : decode cX12_order 163 = .ok (.iadd, 1) := by decide +kernel
theorem dX12_order_164 : decode cX12_order 164 = .ok (.iaload, 1) := by decide +kernel
theorem dX12_order_165 : decode cX12_order 165 = .ok (.idiv, 1) := by decide +kernel
theorem dX12_order_166 : decode cX12_order 166 = .ok (.istore 5, 2) := by decide +kernel
theorem dX12_order_168 : decode cX12_order 168 = .ok (.bipush (-5), 2) := by decide +kernel
theorem dX12_order_170 : decode cX12_order 170 = .ok (.istore 6, 2) := by decide +kernel
theorem dX12_order_172 : decode cX12_order 172 = .ok (.bipush (-5), 2) := by decide +kernel
theorem dX12_order_174 : decode cX12_order 174 = .ok (.istore 7, 2) := by decide +kernel
theorem dX12_order_176 : decode cX12_order 176 = .ok (.iload 4, 2) := by decide +kernel
theorem dX12_order_178 : decode cX12_order 178 = .ok (.istore 8, 2) := by decide +kernel
theorem dX12_order_180 : decode cX12_order 180 = .ok (.iload 8, 2) := by decide +kernel
theorem dX12_order_182 : decode cX12_order 182 = .ok (.sipush 999, 3) := by decide +kernel
theorem dX12_order_185 : decode cX12_order 185 = .ok (.if_icmp .gt 58, 3) := by decide +kernel
theorem dX12_order_188 : decode cX12_order 188 = .ok (.iload 5, 2) := by decide +kernel
theorem dX12_order_190 : decode cX12_order 190 = .ok (.ifCond .le 53, 3) := by decide +kernel
theorem dX12_order_193 : decode cX12_order 193 = .ok (.aload_n 0, 1) := by decide +kernel
theorem dX12_order_194 : decode cX12_order 194 = .ok (.iload 8, 2) := by decide +kernel
theorem dX12_order_196 : decode cX12_order 196 = .ok (.invokevirtual 233, 3) := by decide +kernel
theorem dX12_order_199 : decode cX12_order 199 = .ok (.ifCond .ne 38, 3) := by decide +kernel
theorem dX12_order_202 : decode cX12_order 202 = .ok (.iload 6, 2) := by decide +kernel
theorem dX12_order_204 : decode cX12_order 204 = .ok (.bipush (-5), 2) := by decide +kernel
theorem dX12_order_206 : decode cX12_order 206 = .ok (.if_icmp .ne 8, 3) := by decide +kernel
theorem dX12_order_209 : decode cX12_order 209 = .ok (.iload 8, 2) := by decide +kernel
theorem dX12_order_211 : decode cX12_order 211 = .ok (.goto 5, 3) := by decide +kernel
theorem dX12_order_214 : decode cX12_order 214 = .ok (.iload 6, 2) := by decide +kernel
theorem dX12_order_216 : decode cX12_order 216 = .ok (.istore 6, 2) := by decide +kernel
theorem dX12_order_218 : decode cX12_order 218 = .ok (.iinc 5 (-1), 3) := by decide +kernel
theorem dX12_order_221 : decode cX12_order 221 = .ok (.iload 5, 2) := by decide +kernel
theorem dX12_order_223 : decode cX12_order 223 = .ok (.ifCond .ne 10, 3) := by decide +kernel
theorem dX12_order_226 : decode cX12_order 226 = .ok (.iload 8, 2) := by decide +kernel
theorem dX12_order_228 : decode cX12_order 228 = .ok (.iconst 1, 1) := by decide +kernel
theorem dX12_order_229 : decode cX12_order 229 = .ok (.iadd, 1) := by decide +kernel
theorem dX12_order_230 : decode cX12_order 230 = .ok (.goto 5, 3) := by decide +kernel
theorem dX12_order_233 : decode cX12_order 233 = .ok (.bipush (-5), 2) := by decide +kernel
theorem dX12_order_235 : decode cX12_order 235 = .ok (.istore 7, 2) := by decide +kernel
theorem dX12_order_237 : decode cX12_order 237 = .ok (.iinc 8 1, 3) := by decide +kernel
theorem dX12_order_240 : decode cX12_order 240 = .ok (.goto (-60), 3) := by decide +kernel
theorem dX12_order_243 : decode cX12_order 243 = .ok (.aload_n 0, 1) := by decide +kernel
theorem dX12_order_244 : decode cX12_order 244 = .ok (.getfield 7, 3) := by decide +kernel
theorem dX12_order_247 : decode cX12_order 247 = .ok (.iconst 4, 1) := by decide +kernel
theorem dX12_order_248 : decode cX12_order 248 = .ok (.iaload, 1) := by decide +kernel
theorem dX12_order_249 : decode cX12_order 249 = .ok (.istore 8, 2) := by decide +kernel
theorem dX12_order_251 : decode cX12_order 251 = .ok (.aload_n 0, 1) := by decide +kernel
theorem dX12_order_252 : decode cX12_order 252 = .ok (.getfield 7, 3) := by decide +kernel
theorem dX12_order_255 : decode cX12_order 255 = .ok (.sipush 2880, 3) := by decide +kernel
theorem dX12_order_258 : decode cX12_order 258 = .ok (.iload 8, 2) := by decide +kernel
theorem dX12_order_260 : decode cX12_order 260 = .ok (.iadd, 1) := by decide +kernel
theorem dX12_order_261 : decode cX12_order 261 = .ok (.iload_n 3, 1) := by decide +kernel
theorem dX12_order_262 : decode cX12_order 262 = .ok (.iastore, 1) := by decide +kernel
theorem dX12_order_263 : decode cX12_order 263 = .ok (.aload_n 0, 1) := by decide +kernel
theorem dX12_order_264 : decode cX12_order 264 = .ok (.getfield 7, 3) := by decide +kernel
theorem dX12_order_267 : decode cX12_order 267 = .ok (.sipush 2892, 3) := by decide +kernel
theorem dX12_order_270 : decode cX12_order 270 = .ok (.iload 8, 2) := by decide +kernel
theorem dX12_order_272 : decode cX12_order 272 = .ok (.iadd, 1) := by decide +kernel
theorem dX12_order_273 : decode cX12_order 273 = .ok (.iload 6, 2) := by decide +kernel
theorem dX12_order_275 : decode cX12_order 275 = .ok (.iastore, 1) := by decide +kernel
theorem dX12_order_276 : decode cX12_order 276 = .ok (.aload_n 0, 1) := by decide +kernel
theorem dX12_order_277 : decode cX12_order 277 = .ok (.getfield 7, 3) := by decide +kernel
theorem dX12_order_280 : decode cX12_order 280 = .ok (.sipush 2904, 3) := by decide +kernel
theorem dX12_order_283 : decode cX12_order 283 = .ok (.iload 8, 2) := by decide +kernel
theorem dX12_order_285 : decode cX12_order 285 = .ok (.iadd, 1) := by decide +kernel
theorem dX12_order_286 : decode cX12_order 286 = .ok (.iload 7, 2) := by decide +kernel
theorem dX12_order_288 : decode cX12_order 288 = .ok (.iastore, 1) := by decide +kernel
theorem dX12_order_289 : decode cX12_order 289 = .ok (.aload_n 0, 1) := by decide +kernel
theorem dX12_order_290 : decode cX12_order 290 = .ok (.getfield 7, 3) := by decide +kernel
theorem dX12_order_293 : decode cX12_order 293 = .ok (.sipush 2874, 3) := by decide +kernel
theorem dX12_order_296 : decode cX12_order 296 = .ok (.iload_n 3, 1) := by decide +kernel
theorem dX12_order_297 : decode cX12_order 297 = .ok (.iadd, 1) := by decide +kernel
theorem dX12_order_298 : decode cX12_order 298 = .ok (.iload 7, 2) := by decide +kernel
theorem dX12_order_300 : decode cX12_order 300 = .ok (.bipush (-5), 2) := by decide +kernel
theorem dX12_order_302 : decode cX12_order 302 = .ok (.if_icmp .ne 9, 3) := by decide +kernel
theorem dX12_order_305 : decode cX12_order 305 = .ok (.sipush 1001, 3) := by decide +kernel
theorem dX12_order_308 : decode cX12_order 308 = .ok (.goto 5, 3) := by decide +kernel
theorem dX12_order_311 : decode cX12_order 311 = .ok (.iload 7, 2) := by decide +kernel
theorem dX12_order_313 : decode cX12_order 313 = .ok (.iastore, 1) := by decide +kernel
theorem dX12_order_314 : decode cX12_order 314 = .ok (.aload_n 0, 1) := by decide +kernel
theorem dX12_order_315 : decode cX12_order 315 = .ok (.getfield 7, 3) := by decide +kernel
theorem dX12_order_318 : decode cX12_order 318 = .ok (.iconst 4, 1) := by decide +kernel
theorem dX12_order_319 : decode cX12_order 319 = .ok (.dup2, 1) := by decide +kernel
theorem dX12_order_320 : decode cX12_order 320 = .ok (.iaload, 1) := by decide +kernel
theorem dX12_order_321 : decode cX12_order 321 = .ok (.iconst 1, 1) := by decide +kernel
theorem dX12_order_322 : decode cX12_order 322 = .ok (.iadd, 1) := by decide +kernel
theorem dX12_order_323 : decode cX12_order 323 = .ok (.iastore, 1) := by decide +kernel
theorem dX12_order_324 : decode cX12_order 324 = .ok (.iload 8, 2) := by decide +kernel
theorem dX12_order_326 : decode cX12_order 326 = .ok (.ireturn, 1) := by decide +kernel
theorem dX12_done_0 : decode cX12_done 0 = .ok (.iload_n 1, 1) := by decide +kernel
theorem dX12_done_1 : decode cX12_done 1 = .ok (.iconst 0, 1) := by decide +kernel
theorem dX12_done_2 : decode cX12_done 2 = .ok (.aload_n 0, 1) := by decide +kernel
theorem dX12_done_3 : decode cX12_done 3 = .ok (.getfield 7, 3) := by decide +kernel
theorem dX12_done_6 : decode cX12_done 6 = .ok (.iconst 4, 1) := by decide +kernel
theorem dX12_done_7 : decode cX12_done 7 = .ok (.iaload, 1) := by decide +kernel
theorem dX12_done_8 : decode cX12_done 8 = .ok (.iconst 1, 1) := by decide +kernel
theorem dX12_done_9 : decode cX12_done 9 = .ok (.isub, 1) := by decide +kernel
theorem dX12_done_10 : decode cX12_done 10 = .ok (.invokestatic 66, 3) := by decide +kernel
theorem dX12_done_13 : decode cX12_done 13 = .ok (.ifCond .ne 5, 3) := by decide +kernel
theorem dX12_done_16 : decode cX12_done 16 = .ok (.iconst (-1), 1) := by decide +kernel
theorem dX12_done_17 : decode cX12_done 17 = .ok (.ireturn, 1) := by decide +kernel
theorem dX12_done_18 : decode cX12_done 18 = .ok (.iload_n 2, 1) := by decide +kernel
theorem dX12_done_19 : decode cX12_done 19 = .ok (.tableswitch 58 0 2 #[25, 36, 47], 25) := by decide +kernel
theorem dX12_done_44 : decode cX12_done 44 = .ok (.aload_n 0, 1) := by decide +kernel
theorem dX12_done_45 : decode cX12_done 45 = .ok (.getfield 7, 3) := by decide +kernel
theorem dX12_done_48 : decode cX12_done 48 = .ok (.sipush 2880, 3) := by decide +kernel
theorem dX12_done_51 : decode cX12_done 51 = .ok (.iload_n 1, 1) := by decide +kernel
theorem dX12_done_52 : decode cX12_done 52 = .ok (.iadd, 1) := by decide +kernel
theorem dX12_done_53 : decode cX12_done 53 = .ok (.iaload, 1) := by decide +kernel
theorem dX12_done_54 : decode cX12_done 54 = .ok (.ireturn, 1) := by decide +kernel
theorem dX12_done_55 : decode cX12_done 55 = .ok (.aload_n 0, 1) := by decide +kernel
theorem dX12_done_56 : decode cX12_done 56 = .ok (.getfield 7, 3) := by decide +kernel
theorem dX12_done_59 : decode cX12_done 59 = .ok (.sipush 2892, 3) := by decide +kernel
theorem dX12_done_62 : decode cX12_done 62 = .ok (.iload_n 1, 1) := by decide +kernel
theorem dX12_done_63 : decode cX12_done 63 = .ok (.iadd, 1) := by decide +kernel
theorem dX12_done_64 : decode cX12_done 64 = .ok (.iaload, 1) := by decide +kernel
theorem dX12_done_65 : decode cX12_done 65 = .ok (.ireturn, 1) := by decide +kernel
theorem dX12_done_66 : decode cX12_done 66 = .ok (.aload_n 0, 1) := by decide +kernel
theorem dX12_done_67 : decode cX12_done 67 = .ok (.getfield 7, 3) := by decide +kernel
theorem dX12_done_70 : decode cX12_done 70 = .ok (.sipush 2904, 3) := by decide +kernel
theorem dX12_done_73 : decode cX12_done 73 = .ok (.iload_n 1, 1) := by decide +kernel
theorem dX12_done_74 : decode cX12_done 74 = .ok (.iadd, 1) := by decide +kernel
theorem dX12_done_75 : decode cX12_done 75 = .ok (.iaload, 1) := by decide +kernel
theorem dX12_done_76 : decode cX12_done 76 = .ok (.ireturn, 1) := by decide +kernel
theorem dX12_done_77 : decode cX12_done 77 = .ok (.iconst (-1), 1) := by decide +kernel
theorem dX12_done_78 : decode cX12_done 78 = .ok (.ireturn, 1) := by decide +kernel
theorem dX12_leaf_0 : decode cX12_leaf 0 = .ok (.iload_n 1, 1) := by decide +kernel
theorem dX12_leaf_1 : decode cX12_leaf 1 = .ok (.iconst 0, 1) := by decide +kernel
theorem dX12_leaf_2 : decode cX12_leaf 2 = .ok (.bipush 6, 2) := by decide +kernel
theorem dX12_leaf_4 : decode cX12_leaf 4 = .ok (.invokestatic 66, 3) := by decide +kernel
theorem dX12_leaf_7 : decode cX12_leaf 7 = .ok (.ifCond .eq 14, 3) := by decide +kernel
theorem dX12_leaf_10 : decode cX12_leaf 10 = .ok (.iload 4, 2) := by decide +kernel
theorem dX12_leaf_12 : decode cX12_leaf 12 = .ok (.iconst 0, 1) := by decide +kernel
theorem dX12_leaf_13 : decode cX12_leaf 13 = .ok (.bipush 9, 2) := by decide +kernel
theorem dX12_leaf_15 : decode cX12_leaf 15 = .ok (.invokestatic 66, 3) := by decide +kernel
theorem dX12_leaf_18 : decode cX12_leaf 18 = .ok (.ifCond .ne 5, 3) := by decide +kernel
theorem dX12_leaf_21 : decode cX12_leaf 21 = .ok (.iconst (-1), 1) := by decide +kernel
theorem dX12_leaf_22 : decode cX12_leaf 22 = .ok (.ireturn, 1) := by decide +kernel
theorem dX12_leaf_23 : decode cX12_leaf 23 = .ok (.iload_n 2, 1) := by decide +kernel
theorem dX12_leaf_24 : decode cX12_leaf 24 = .ok (.iconst 0, 1) := by decide +kernel
theorem dX12_leaf_25 : decode cX12_leaf 25 = .ok (.bipush 29, 2) := by decide +kernel
theorem dX12_leaf_27 : decode cX12_leaf 27 = .ok (.invokestatic 66, 3) := by decide +kernel
theorem dX12_leaf_30 : decode cX12_leaf 30 = .ok (.ifCond .eq 14, 3) := by decide +kernel
theorem dX12_leaf_33 : decode cX12_leaf 33 = .ok (.iload_n 3, 1) := by decide +kernel
theorem dX12_leaf_34 : decode cX12_leaf 34 = .ok (.iconst 0, 1) := by decide +kernel
theorem dX12_leaf_35 : decode cX12_leaf 35 = .ok (.sipush 255, 3) := by decide +kernel
theorem dX12_leaf_38 : decode cX12_leaf 38 = .ok (.invokestatic 66, 3) := by decide +kernel
theorem dX12_leaf_41 : decode cX12_leaf 41 = .ok (.ifCond .ne 6, 3) := by decide +kernel
theorem dX12_leaf_44 : decode cX12_leaf 44 = .ok (.bipush (-2), 2) := by decide +kernel
theorem dX12_leaf_46 : decode cX12_leaf 46 = .ok (.ireturn, 1) := by decide +kernel
theorem dX12_leaf_47 : decode cX12_leaf 47 = .ok (.aload_n 0, 1) := by decide +kernel
theorem dX12_leaf_48 : decode cX12_leaf 48 = .ok (.getfield 7, 3) := by decide +kernel
theorem dX12_leaf_51 : decode cX12_leaf 51 = .ok (.iconst 5, 1) := by decide +kernel
theorem dX12_leaf_52 : decode cX12_leaf 52 = .ok (.iaload, 1) := by decide +kernel
theorem dX12_leaf_53 : decode cX12_leaf 53 = .ok (.bipush 40, 2) := by decide +kernel
theorem dX12_leaf_55 : decode cX12_leaf 55 = .ok (.if_icmp .ne 6, 3) := by decide +kernel
theorem dX12_leaf_58 : decode cX12_leaf 58 = .ok (.bipush (-4), 2) := by decide +kernel
theorem dX12_leaf_60 : decode cX12_leaf 60 = .ok (.ireturn, 1) := by decide +kernel
theorem dX12_leaf_61 : decode cX12_leaf 61 = .ok (.aload_n 0, 1) := by decide +kernel
theorem dX12_leaf_62 : decode cX12_leaf 62 = .ok (.getfield 7, 3) := by decide +kernel
theorem dX12_leaf_65 : decode cX12_leaf 65 = .ok (.iconst 5, 1) := by decide +kernel
theorem dX12_leaf_66 : decode cX12_leaf 66 = .ok (.iaload, 1) := by decide +kernel
theorem dX12_leaf_67 : decode cX12_leaf 67 = .ok (.istore 5, 2) := by decide +kernel
theorem dX12_leaf_69 : decode cX12_leaf 69 = .ok (.aload_n 0, 1) := by decide +kernel
theorem dX12_leaf_70 : decode cX12_leaf 70 = .ok (.getfield 7, 3) := by decide +kernel
theorem dX12_leaf_73 : decode cX12_leaf 73 = .ok (.sipush 2920, 3) := by decide +kernel
theorem dX12_leaf_76 : decode cX12_leaf 76 = .ok (.iload 5, 2) := by decide +kernel
theorem dX12_leaf_78 : decode cX12_leaf 78 = .ok (.iadd, 1) := by decide +kernel
theorem dX12_leaf_79 : decode cX12_leaf 79 = .ok (.iload_n 1, 1) := by decide +kernel
theorem dX12_leaf_80 : decode cX12_leaf 80 = .ok (.iastore, 1) := by decide +kernel
theorem dX12_leaf_81 : decode cX12_leaf 81 = .ok (.aload_n 0, 1) := by decide +kernel
theorem dX12_leaf_82 : decode cX12_leaf 82 = .ok (.getfield 7, 3) := by decide +kernel
theorem dX12_leaf_85 : decode cX12_leaf 85 = .ok (.sipush 2960, 3) := by decide +kernel
theorem dX12_leaf_88 : decode cX12_leaf 88 = .ok (.iload 5, 2) := by decide +kernel
theorem dX12_leaf_90 : decode cX12_leaf 90 = .ok (.iadd, 1) := by decide +kernel
theorem dX12_leaf_91 : decode cX12_leaf 91 = .ok (.iload_n 2, 1) := by decide +kernel
theorem dX12_leaf_92 : decode cX12_leaf 92 = .ok (.iastore, 1) := by decide +kernel
theorem dX12_leaf_93 : decode cX12_leaf 93 = .ok (.aload_n 0, 1) := by decide +kernel
theorem dX12_leaf_94 : decode cX12_leaf 94 = .ok (.getfield 7, 3) := by decide +kernel
theorem dX12_leaf_97 : decode cX12_leaf 97 = .ok (.sipush 3000, 3) := by decide +kernel
theorem dX12_leaf_100 : decode cX12_leaf 100 = .ok (.iload 5, 2) := by decide +kernel
theorem dX12_leaf_102 : decode cX12_leaf 102 = .ok (.iadd, 1) := by decide +kernel
theorem dX12_leaf_103 : decode cX12_leaf 103 = .ok (.iload_n 3, 1) := by decide +kernel
theorem dX12_leaf_104 : decode cX12_leaf 104 = .ok (.iastore, 1) := by decide +kernel
theorem dX12_leaf_105 : decode cX12_leaf 105 = .ok (.aload_n 0, 1) := by decide +kernel
theorem dX12_leaf_106 : decode cX12_leaf 106 = .ok (.getfield 7, 3) := by decide +kernel
theorem dX12_leaf_109 : decode cX12_leaf 109 = .ok (.sipush 3040, 3) := by decide +kernel
theorem dX12_leaf_112 : decode cX12_leaf 112 = .ok (.iload 5, 2) := by decide +kernel
theorem dX12_leaf_114 : decode cX12_leaf 114 = .ok (.iadd, 1) := by decide +kernel
theorem dX12_leaf_115 : decode cX12_leaf 115 = .ok (.iload 4, 2) := by decide +kernel
theorem dX12_leaf_117 : decode cX12_leaf 117 = .ok (.iastore, 1) := by decide +kernel
theorem dX12_leaf_118 : decode cX12_leaf 118 = .ok (.aload_n 0, 1) := by decide +kernel
theorem dX12_leaf_119 : decode cX12_leaf 119 = .ok (.getfield 7, 3) := by decide +kernel
theorem dX12_leaf_122 : decode cX12_leaf 122 = .ok (.iconst 5, 1) := by decide +kernel
theorem dX12_leaf_123 : decode cX12_leaf 123 = .ok (.dup2, 1) := by decide +kernel
theorem dX12_leaf_124 : decode cX12_leaf 124 = .ok (.iaload, 1) := by decide +kernel
theorem dX12_leaf_125 : decode cX12_leaf 125 = .ok (.iconst 1, 1) := by decide +kernel
theorem dX12_leaf_126 : decode cX12_leaf 126 = .ok (.iadd, 1) := by decide +kernel
theorem dX12_leaf_127 : decode cX12_leaf 127 = .ok (.iastore, 1) := by decide +kernel
theorem dX12_leaf_128 : decode cX12_leaf 128 = .ok (.iload 5, 2) := by decide +kernel
theorem dX12_leaf_130 : decode cX12_leaf 130 = .ok (.ireturn, 1) := by decide +kernel
theorem dX12_costs_0 : decode cX12_costs 0 = .ok (.aload_n 0, 1) := by decide +kernel
theorem dX12_costs_1 : decode cX12_costs 1 = .ok (.getfield 7, 3) := by decide +kernel
theorem dX12_costs_4 : decode cX12_costs 4 = .ok (.sipush 2920, 3) := by decide +kernel
theorem dX12_costs_7 : decode cX12_costs 7 = .ok (.iload_n 1, 1) := by decide +kernel
theorem dX12_costs_8 : decode cX12_costs 8 = .ok (.iadd, 1) := by decide +kernel
theorem dX12_costs_9 : decode cX12_costs 9 = .ok (.iaload, 1) := by decide +kernel
theorem dX12_costs_10 : decode cX12_costs 10 = .ok (.tableswitch 82 1 6 #[38, 41, 44, 61, 63, 79], 38) := by decide +kernel
theorem dX12_costs_48 : decode cX12_costs 48 = .ok (.bipush 20, 2) := by decide +kernel
theorem dX12_costs_50 : decode cX12_costs 50 = .ok (.ireturn, 1) := by decide +kernel
theorem dX12_costs_51 : decode cX12_costs 51 = .ok (.bipush 60, 2) := by decide +kernel
theorem dX12_costs_53 : decode cX12_costs 53 = .ok (.ireturn, 1) := by decide +kernel
theorem dX12_costs_54 : decode cX12_costs 54 = .ok (.bipush 10, 2) := by decide +kernel
theorem dX12_costs_56 : decode cX12_costs 56 = .ok (.aload_n 0, 1) := by decide +kernel
theorem dX12_costs_57 : decode cX12_costs 57 = .ok (.getfield 7, 3) := by decide +kernel
theorem dX12_costs_60 : decode cX12_costs 60 = .ok (.sipush 3000, 3) := by decide +kernel
theorem dX12_costs_63 : decode cX12_costs 63 = .ok (.iload_n 1, 1) := by decide +kernel
theorem dX12_costs_64 : decode cX12_costs 64 = .ok (.iadd, 1) := by decide +kernel
theorem dX12_costs_65 : decode cX12_costs 65 = .ok (.iaload, 1) := by decide +kernel
theorem dX12_costs_66 : decode cX12_costs 66 = .ok (.bipush 7, 2) := by decide +kernel
theorem dX12_costs_68 : decode cX12_costs 68 = .ok (.irem, 1) := by decide +kernel
theorem dX12_costs_69 : decode cX12_costs 69 = .ok (.iadd, 1) := by decide +kernel
theorem dX12_costs_70 : decode cX12_costs 70 = .ok (.ireturn, 1) := by decide +kernel
theorem dX12_costs_71 : decode cX12_costs 71 = .ok (.iconst 0, 1) := by decide +kernel
theorem dX12_costs_72 : decode cX12_costs 72 = .ok (.ireturn, 1) := by decide +kernel
theorem dX12_costs_73 : decode cX12_costs 73 = .ok (.bipush 60, 2) := by decide +kernel
theorem dX12_costs_75 : decode cX12_costs 75 = .ok (.iconst 3, 1) := by decide +kernel
theorem dX12_costs_76 : decode cX12_costs 76 = .ok (.aload_n 0, 1) := by decide +kernel
theorem dX12_costs_77 : decode cX12_costs 77 = .ok (.getfield 7, 3) := by decide +kernel
theorem dX12_costs_80 : decode cX12_costs 80 = .ok (.sipush 2960, 3) := by decide +kernel
theorem dX12_costs_83 : decode cX12_costs 83 = .ok (.iload_n 1, 1) := by decide +kernel
theorem dX12_costs_84 : decode cX12_costs 84 = .ok (.iadd, 1) := by decide +kernel
theorem dX12_costs_85 : decode cX12_costs 85 = .ok (.iaload, 1) := by decide +kernel
theorem dX12_costs_86 : decode cX12_costs 86 = .ok (.imul, 1) := by decide +kernel
theorem dX12_costs_87 : decode cX12_costs 87 = .ok (.iadd, 1) := by decide +kernel
theorem dX12_costs_88 : decode cX12_costs 88 = .ok (.ireturn, 1) := by decide +kernel
theorem dX12_costs_89 : decode cX12_costs 89 = .ok (.bipush 15, 2) := by decide +kernel
theorem dX12_costs_91 : decode cX12_costs 91 = .ok (.ireturn, 1) := by decide +kernel
theorem dX12_costs_92 : decode cX12_costs 92 = .ok (.bipush 10, 2) := by decide +kernel
theorem dX12_costs_94 : decode cX12_costs 94 = .ok (.ireturn, 1) := by decide +kernel
theorem dX12_shows_0 : decode cX12_shows 0 = .ok (.iload_n 1, 1) := by decide +kernel
theorem dX12_shows_1 : decode cX12_shows 1 = .ok (.iconst 0, 1) := by decide +kernel
theorem dX12_shows_2 : decode cX12_shows 2 = .ok (.aload_n 0, 1) := by decide +kernel
theorem dX12_shows_3 : decode cX12_shows 3 = .ok (.getfield 7, 3) := by decide +kernel
theorem dX12_shows_6 : decode cX12_shows 6 = .ok (.iconst 5, 1) := by decide +kernel
theorem dX12_shows_7 : decode cX12_shows 7 = .ok (.iaload, 1) := by decide +kernel
theorem dX12_shows_8 : decode cX12_shows 8 = .ok (.iconst 1, 1) := by decide +kernel
theorem dX12_shows_9 : decode cX12_shows 9 = .ok (.isub, 1) := by decide +kernel
theorem dX12_shows_10 : decode cX12_shows 10 = .ok (.invokestatic 66, 3) := by decide +kernel
theorem dX12_shows_13 : decode cX12_shows 13 = .ok (.ifCond .eq 12, 3) := by decide +kernel
theorem dX12_shows_16 : decode cX12_shows 16 = .ok (.iload_n 2, 1) := by decide +kernel
theorem dX12_shows_17 : decode cX12_shows 17 = .ok (.iconst 0, 1) := by decide +kernel
theorem dX12_shows_18 : decode cX12_shows 18 = .ok (.iconst 1, 1) := by decide +kernel
theorem dX12_shows_19 : decode cX12_shows 19 = .ok (.invokestatic 66, 3) := by decide +kernel
theorem dX12_shows_22 : decode cX12_shows 22 = .ok (.ifCond .ne 5, 3) := by decide +kernel
theorem dX12_shows_25 : decode cX12_shows 25 = .ok (.iconst (-1), 1) := by decide +kernel
theorem dX12_shows_26 : decode cX12_shows 26 = .ok (.ireturn, 1) := by decide +kernel
theorem dX12_shows_27 : decode cX12_shows 27 = .ok (.iload_n 2, 1) := by decide +kernel
theorem dX12_shows_28 : decode cX12_shows 28 = .ok (.ifCond .ne 9, 3) := by decide +kernel
theorem dX12_shows_31 : decode cX12_shows 31 = .ok (.aload_n 0, 1) := by decide +kernel
theorem dX12_shows_32 : decode cX12_shows 32 = .ok (.iload_n 1, 1) := by decide +kernel
theorem dX12_shows_33 : decode cX12_shows 33 = .ok (.invokevirtual 236, 3) := by decide +kernel
theorem dX12_shows_36 : decode cX12_shows 36 = .ok (.ireturn, 1) := by decide +kernel
theorem dX12_shows_37 : decode cX12_shows 37 = .ok (.aload_n 0, 1) := by decide +kernel
theorem dX12_shows_38 : decode cX12_shows 38 = .ok (.getfield 7, 3) := by decide +kernel
theorem dX12_shows_41 : decode cX12_shows 41 = .ok (.sipush 2960, 3) := by decide +kernel
theorem dX12_shows_44 : decode cX12_shows 44 = .ok (.iload_n 1, 1) := by decide +kernel
theorem dX12_shows_45 : decode cX12_shows 45 = .ok (.iadd, 1) := by decide +kernel
theorem dX12_shows_46 : decode cX12_shows 46 = .ok (.iaload, 1) := by decide +kernel
theorem dX12_shows_47 : decode cX12_shows 47 = .ok (.istore_n 3, 1) := by decide +kernel
theorem dX12_shows_48 : decode cX12_shows 48 = .ok (.aload_n 0, 1) := by decide +kernel
theorem dX12_shows_49 : decode cX12_shows 49 = .ok (.getfield 7, 3) := by decide +kernel
theorem dX12_shows_52 : decode cX12_shows 52 = .ok (.sipush 2920, 3) := by decide +kernel
theorem dX12_shows_55 : decode cX12_shows 55 = .ok (.iload_n 1, 1) := by decide +kernel
theorem dX12_shows_56 : decode cX12_shows 56 = .ok (.iadd, 1) := by decide +kernel
theorem dX12_shows_57 : decode cX12_shows 57 = .ok (.iaload, 1) := by decide +kernel
theorem dX12_shows_58 : decode cX12_shows 58 = .ok (.tableswitch 49 2 6 #[34, 49, 42, 34, 44], 34) := by decide +kernel
theorem dX12_shows_92 : decode cX12_shows 92 = .ok (.aload_n 0, 1) := by decide +kernel
theorem dX12_shows_93 : decode cX12_shows 93 = .ok (.iload_n 1, 1) := by decide +kernel
theorem dX12_shows_94 : decode cX12_shows 94 = .ok (.invokevirtual 236, 3) := by decide +kernel
theorem dX12_shows_97 : decode cX12_shows 97 = .ok (.iload_n 3, 1) := by decide +kernel
theorem dX12_shows_98 : decode cX12_shows 98 = .ok (.isub, 1) := by decide +kernel
theorem dX12_shows_99 : decode cX12_shows 99 = .ok (.ireturn, 1) := by decide +kernel
theorem dX12_shows_100 : decode cX12_shows 100 = .ok (.iconst (-1), 1) := by decide +kernel
theorem dX12_shows_101 : decode cX12_shows 101 = .ok (.ireturn, 1) := by decide +kernel
theorem dX12_shows_102 : decode cX12_shows 102 = .ok (.bipush 100, 2) := by decide +kernel
theorem dX12_shows_104 : decode cX12_shows 104 = .ok (.iload_n 3, 1) := by decide +kernel
theorem dX12_shows_105 : decode cX12_shows 105 = .ok (.iadd, 1) := by decide +kernel
theorem dX12_shows_106 : decode cX12_shows 106 = .ok (.ireturn, 1) := by decide +kernel
theorem dX12_shows_107 : decode cX12_shows 107 = .ok (.iload_n 3, 1) := by decide +kernel
theorem dX12_shows_108 : decode cX12_shows 108 = .ok (.ireturn, 1) := by decide +kernel
theorem dX12_as_0 : decode cX12_as 0 = .ok (.iload_n 1, 1) := by decide +kernel
theorem dX12_as_1 : decode cX12_as 1 = .ok (.iconst 0, 1) := by decide +kernel
theorem dX12_as_2 : decode cX12_as 2 = .ok (.aload_n 0, 1) := by decide +kernel
theorem dX12_as_3 : decode cX12_as 3 = .ok (.getfield 7, 3) := by decide +kernel
theorem dX12_as_6 : decode cX12_as 6 = .ok (.iconst 5, 1) := by decide +kernel
theorem dX12_as_7 : decode cX12_as 7 = .ok (.iaload, 1) := by decide +kernel
theorem dX12_as_8 : decode cX12_as 8 = .ok (.iconst 1, 1) := by decide +kernel
theorem dX12_as_9 : decode cX12_as 9 = .ok (.isub, 1) := by decide +kernel
theorem dX12_as_10 : decode cX12_as 10 = .ok (.invokestatic 66, 3) := by decide +kernel
theorem dX12_as_13 : decode cX12_as 13 = .ok (.ifCond .eq 13, 3) := by decide +kernel
theorem dX12_as_16 : decode cX12_as 16 = .ok (.iload_n 2, 1) := by decide +kernel
theorem dX12_as_17 : decode cX12_as 17 = .ok (.iconst 0, 1) := by decide +kernel
theorem dX12_as_18 : decode cX12_as 18 = .ok (.bipush 6, 2) := by decide +kernel
theorem dX12_as_20 : decode cX12_as 20 = .ok (.invokestatic 66, 3) := by decide +kernel
theorem dX12_as_23 : decode cX12_as 23 = .ok (.ifCond .ne 5, 3) := by decide +kernel
theorem dX12_as_26 : decode cX12_as 26 = .ok (.iconst (-1), 1) := by decide +kernel
theorem dX12_as_27 : decode cX12_as 27 = .ok (.ireturn, 1) := by decide +kernel
theorem dX12_as_28 : decode cX12_as 28 = .ok (.aload_n 0, 1) := by decide +kernel
theorem dX12_as_29 : decode cX12_as 29 = .ok (.getfield 7, 3) := by decide +kernel
theorem dX12_as_32 : decode cX12_as 32 = .ok (.sipush 2920, 3) := by decide +kernel
theorem dX12_as_35 : decode cX12_as 35 = .ok (.iload_n 1, 1) := by decide +kernel
theorem dX12_as_36 : decode cX12_as 36 = .ok (.iadd, 1) := by decide +kernel
theorem dX12_as_37 : decode cX12_as 37 = .ok (.iaload, 1) := by decide +kernel
theorem dX12_as_38 : decode cX12_as 38 = .ok (.istore_n 3, 1) := by decide +kernel
theorem dX12_as_39 : decode cX12_as 39 = .ok (.iload_n 2, 1) := by decide +kernel
theorem dX12_as_40 : decode cX12_as 40 = .ok (.ifCond .eq 29, 3) := by decide +kernel
theorem dX12_as_43 : decode cX12_as 43 = .ok (.iload_n 2, 1) := by decide +kernel
theorem dX12_as_44 : decode cX12_as 44 = .ok (.iload_n 3, 1) := by decide +kernel
theorem dX12_as_45 : decode cX12_as 45 = .ok (.if_icmp .eq 24, 3) := by decide +kernel
theorem dX12_as_48 : decode cX12_as 48 = .ok (.iload_n 2, 1) := by decide +kernel
theorem dX12_as_49 : decode cX12_as 49 = .ok (.iconst 2, 1) := by decide +kernel
theorem dX12_as_50 : decode cX12_as 50 = .ok (.if_icmp .ne 8, 3) := by decide +kernel
theorem dX12_as_53 : decode cX12_as 53 = .ok (.iload_n 3, 1) := by decide +kernel
theorem dX12_as_54 : decode cX12_as 54 = .ok (.iconst 5, 1) := by decide +kernel
theorem dX12_as_55 : decode cX12_as 55 = .ok (.if_icmp .eq 14, 3) := by decide +kernel
theorem dX12_as_58 : decode cX12_as 58 = .ok (.iload_n 2, 1) := by decide +kernel
theorem dX12_as_59 : decode cX12_as 59 = .ok (.iconst 1, 1) := by decide +kernel
theorem dX12_as_60 : decode cX12_as 60 = .ok (.if_icmp .ne 13, 3) := by decide +kernel
theorem dX12_as_63 : decode cX12_as 63 = .ok (.iload_n 3, 1) := by decide +kernel
theorem dX12_as_64 : decode cX12_as 64 = .ok (.bipush 6, 2) := by decide +kernel
theorem dX12_as_66 : decode cX12_as 66 = .ok (.if_icmp .ne 7, 3) := by decide +kernel
theorem dX12_as_69 : decode cX12_as 69 = .ok (.iconst 1, 1) := by decide +kernel
theorem dX12_as_70 : decode cX12_as 70 = .ok (.goto 4, 3) := by decide +kernel
theorem dX12_as_73 : decode cX12_as 73 = .ok (.iconst 0, 1) := by decide +kernel
theorem dX12_as_74 : decode cX12_as 74 = .ok (.istore 4, 2) := by decide +kernel
theorem dX12_as_76 : decode cX12_as 76 = .ok (.iload 4, 2) := by decide +kernel
theorem dX12_as_78 : decode cX12_as 78 = .ok (.ifCond .eq 16, 3) := by decide +kernel
theorem dX12_as_81 : decode cX12_as 81 = .ok (.aload_n 0, 1) := by decide +kernel
theorem dX12_as_82 : decode cX12_as 82 = .ok (.getfield 7, 3) := by decide +kernel
theorem dX12_as_85 : decode cX12_as 85 = .ok (.sipush 2960, 3) := by decide +kernel
theorem dX12_as_88 : decode cX12_as 88 = .ok (.iload_n 1, 1) := by decide +kernel
theorem dX12_as_89 : decode cX12_as 89 = .ok (.iadd, 1) := by decide +kernel
theorem dX12_as_90 : decode cX12_as 90 = .ok (.iaload, 1) := by decide +kernel
theorem dX12_as_91 : decode cX12_as 91 = .ok (.goto 5, 3) := by decide +kernel
theorem dX12_as_94 : decode cX12_as 94 = .ok (.bipush (-6), 2) := by decide +kernel
theorem dX12_as_96 : decode cX12_as 96 = .ok (.ireturn, 1) := by decide +kernel
theorem dX12_copies_0 : decode cX12_copies 0 = .ok (.iload_n 1, 1) := by decide +kernel
theorem dX12_copies_1 : decode cX12_copies 1 = .ok (.iconst 0, 1) := by decide +kernel
theorem dX12_copies_2 : decode cX12_copies 2 = .ok (.sipush 1023, 3) := by decide +kernel
theorem dX12_copies_5 : decode cX12_copies 5 = .ok (.invokestatic 66, 3) := by decide +kernel
theorem dX12_copies_8 : decode cX12_copies 8 = .ok (.ifCond .ne 6, 3) := by decide +kernel
theorem dX12_copies_11 : decode cX12_copies 11 = .ok (.bipush (-2), 2) := by decide +kernel
theorem dX12_copies_13 : decode cX12_copies 13 = .ok (.ireturn, 1) := by decide +kernel
theorem dX12_copies_14 : decode cX12_copies 14 = .ok (.iconst 0, 1) := by decide +kernel
theorem dX12_copies_15 : decode cX12_copies 15 = .ok (.istore_n 2, 1) := by decide +kernel
theorem dX12_copies_16 : decode cX12_copies 16 = .ok (.iconst 0, 1) := by decide +kernel
theorem dX12_copies_17 : decode cX12_copies 17 = .ok (.istore_n 3, 1) := by decide +kernel
theorem dX12_copies_18 : decode cX12_copies 18 = .ok (.iload_n 3, 1) := by decide +kernel
theorem dX12_copies_19 : decode cX12_copies 19 = .ok (.sipush 256, 3) := by decide +kernel
theorem dX12_copies_22 : decode cX12_copies 22 = .ok (.if_icmp .ge 159, 3) := by decide +kernel
theorem dX12_copies_25 : decode cX12_copies 25 = .ok (.iconst 0, 1) := by decide +kernel
theorem dX12_copies_26 : decode cX12_copies 26 = .ok (.istore 4, 2) := by decide +kernel
theorem dX12_copies_28 : decode cX12_copies 28 = .ok (.iconst 0, 1) := by decide +kernel
theorem dX12_copies_29 : decode cX12_copies 29 = .ok (.istore 5, 2) := by decide +kernel
theorem dX12_copies_31 : decode cX12_copies 31 = .ok (.iload 5, 2) := by decide +kernel
theorem dX12_copies_33 : decode cX12_copies 33 = .ok (.bipush 30, 2) := by decide +kernel
theorem dX12_copies_35 : decode cX12_copies 35 = .ok (.if_icmp .ge 135, 3) := by decide +kernel
theorem dX12_copies_38 : decode cX12_copies 38 = .ok (.iconst 0, 1) := by decide +kernel
theorem dX12_copies_39 : decode cX12_copies 39 = .ok (.istore 6, 2) := by decide +kernel
theorem dX12_copies_41 : decode cX12_copies 41 = .ok (.iconst 0, 1) := by decide +kernel
theorem dX12_copies_42 : decode cX12_copies 42 = .ok (.istore 7, 2) := by decide +kernel
theorem dX12_copies_44 : decode cX12_copies 44 = .ok (.iload 7, 2) := by decide +kernel
theorem dX12_copies_46 : decode cX12_copies 46 = .ok (.aload_n 0, 1) := by decide +kernel
theorem dX12_copies_47 : decode cX12_copies 47 = .ok (.getfield 7, 3) := by decide +kernel
theorem dX12_copies_50 : decode cX12_copies 50 = .ok (.iconst 5, 1) := by decide +kernel
theorem dX12_copies_51 : decode cX12_copies 51 = .ok (.iaload, 1) := by decide +kernel
theorem dX12_copies_52 : decode cX12_copies 52 = .ok (.if_icmp .ge 96, 3) := by decide +kernel
theorem dX12_copies_55 : decode cX12_copies 55 = .ok (.aload_n 0, 1) := by decide +kernel
theorem dX12_copies_56 : decode cX12_copies 56 = .ok (.getfield 7, 3) := by decide +kernel
theorem dX12_copies_59 : decode cX12_copies 59 = .ok (.sipush 2920, 3) := by decide +kernel
theorem dX12_copies_62 : decode cX12_copies 62 = .ok (.iload 7, 2) := by decide +kernel
theorem dX12_copies_64 : decode cX12_copies 64 = .ok (.iadd, 1) := by decide +kernel
theorem dX12_copies_65 : decode cX12_copies 65 = .ok (.iaload, 1) := by decide +kernel
theorem dX12_copies_66 : decode cX12_copies 66 = .ok (.iconst 4, 1) := by decide +kernel
theorem dX12_copies_67 : decode cX12_copies 67 = .ok (.if_icmp .eq 38, 3) := by decide +kernel
theorem dX12_copies_70 : decode cX12_copies 70 = .ok (.aload_n 0, 1) := by decide +kernel
theorem dX12_copies_71 : decode cX12_copies 71 = .ok (.getfield 7, 3) := by decide +kernel
theorem dX12_copies_74 : decode cX12_copies 74 = .ok (.sipush 3000, 3) := by decide +kernel
theorem dX12_copies_77 : decode cX12_copies 77 = .ok (.iload 7, 2) := by decide +kernel
theorem dX12_copies_79 : decode cX12_copies 79 = .ok (.iadd, 1) := by decide +kernel
theorem dX12_copies_80 : decode cX12_copies 80 = .ok (.iaload, 1) := by decide +kernel
theorem dX12_copies_81 : decode cX12_copies 81 = .ok (.iload_n 3, 1) := by decide +kernel
theorem dX12_copies_82 : decode cX12_copies 82 = .ok (.if_icmp .ne 23, 3) := by decide +kernel
theorem dX12_copies_85 : decode cX12_copies 85 = .ok (.aload_n 0, 1) := by decide +kernel
theorem dX12_copies_86 : decode cX12_copies 86 = .ok (.getfield 7, 3) := by decide +kernel
theorem dX12_copies_89 : decode cX12_copies 89 = .ok (.sipush 2960, 3) := by decide +kernel
theorem dX12_copies_92 : decode cX12_copies 92 = .ok (.iload 7, 2) := by decide +kernel
theorem dX12_copies_94 : decode cX12_copies 94 = .ok (.iadd, 1) := by decide +kernel
theorem dX12_copies_95 : decode cX12_copies 95 = .ok (.iaload, 1) := by decide +kernel
theorem dX12_copies_96 : decode cX12_copies 96 = .ok (.iload 5, 2) := by decide +kernel
theorem dX12_copies_98 : decode cX12_copies 98 = .ok (.if_icmp .ne 7, 3) := by decide +kernel
theorem dX12_copies_101 : decode cX12_copies 101 = .ok (.iconst 1, 1) := by decide +kernel
theorem dX12_copies_102 : decode cX12_copies 102 = .ok (.goto 4, 3) := by decide +kernel
theorem dX12_copies_105 : decode cX12_copies 105 = .ok (.iconst 0, 1) := by decide +kernel
theorem dX12_copies_106 : decode cX12_copies 106 = .ok (.istore 8, 2) := by decide +kernel
theorem dX12_copies_108 : decode cX12_copies 108 = .ok (.iload 6, 2) := by decide +kernel
theorem dX12_copies_110 : decode cX12_copies 110 = .ok (.iload 8, 2) := by decide +kernel
theorem dX12_copies_112 : decode cX12_copies 112 = .ok (.ifCond .eq 26, 3) := by decide +kernel
theorem dX12_copies_115 : decode cX12_copies 115 = .ok (.iload_n 1, 1) := by decide +kernel
theorem dX12_copies_116 : decode cX12_copies 116 = .ok (.aload_n 0, 1) := by decide +kernel
theorem dX12_copies_117 : decode cX12_copies 117 = .ok (.getfield 7, 3) := by decide +kernel
theorem dX12_copies_120 : decode cX12_copies 120 = .ok (.sipush 3040, 3) := by decide +kernel
theorem dX12_copies_123 : decode cX12_copies 123 = .ok (.iload 7, 2) := by decide +kernel
theorem dX12_copies_125 : decode cX12_copies 125 = .ok (.iadd, 1) := by decide +kernel
theorem dX12_copies_126 : decode cX12_copies 126 = .ok (.iaload, 1) := by decide +kernel
theorem dX12_copies_127 : decode cX12_copies 127 = .ok (.ishr, 1) := by decide +kernel
theorem dX12_copies_128 : decode cX12_copies 128 = .ok (.iconst 1, 1) := by decide +kernel
theorem dX12_copies_129 : decode cX12_copies 129 = .ok (.iand, 1) := by decide +kernel
theorem dX12_copies_130 : decode cX12_copies 130 = .ok (.iconst 1, 1) := by decide +kernel
theorem dX12_copies_131 : decode cX12_copies 131 = .ok (.if_icmp .ne 7, 3) := by decide +kernel
theorem dX12_copies_134 : decode cX12_copies 134 = .ok (.iconst 1, 1) := by decide +kernel
theorem dX12_copies_135 : decode cX12_copies 135 = .ok (.goto 4, 3) := by decide +kernel
theorem dX12_copies_138 : decode cX12_copies 138 = .ok (.iconst 0, 1) := by decide +kernel
theorem dX12_copies_139 : decode cX12_copies 139 = .ok (.iadd, 1) := by decide +kernel
theorem dX12_copies_140 : decode cX12_copies 140 = .ok (.istore 6, 2) := by decide +kernel
theorem dX12_copies_142 : decode cX12_copies 142 = .ok (.iinc 7 1, 3) := by decide +kernel
theorem dX12_copies_145 : decode cX12_copies 145 = .ok (.goto (-101), 3) := by decide +kernel
theorem dX12_copies_148 : decode cX12_copies 148 = .ok (.iload 6, 2) := by decide +kernel
theorem dX12_copies_150 : decode cX12_copies 150 = .ok (.iload 4, 2) := by decide +kernel
theorem dX12_copies_152 : decode cX12_copies 152 = .ok (.if_icmp .le 8, 3) := by decide +kernel
theorem dX12_copies_155 : decode cX12_copies 155 = .ok (.iload 6, 2) := by decide +kernel
theorem dX12_copies_157 : decode cX12_copies 157 = .ok (.goto 5, 3) := by decide +kernel
theorem dX12_copies_160 : decode cX12_copies 160 = .ok (.iload 4, 2) := by decide +kernel
theorem dX12_copies_162 : decode cX12_copies 162 = .ok (.istore 4, 2) := by decide +kernel
theorem dX12_copies_164 : decode cX12_copies 164 = .ok (.iinc 5 1, 3) := by decide +kernel
theorem dX12_copies_167 : decode cX12_copies 167 = .ok (.goto (-136), 3) := by decide +kernel
theorem dX12_copies_170 : decode cX12_copies 170 = .ok (.iload_n 2, 1) := by decide +kernel
theorem dX12_copies_171 : decode cX12_copies 171 = .ok (.iload 4, 2) := by decide +kernel
theorem dX12_copies_173 : decode cX12_copies 173 = .ok (.iadd, 1) := by decide +kernel
theorem dX12_copies_174 : decode cX12_copies 174 = .ok (.istore_n 2, 1) := by decide +kernel
theorem dX12_copies_175 : decode cX12_copies 175 = .ok (.iinc 3 1, 3) := by decide +kernel
theorem dX12_copies_178 : decode cX12_copies 178 = .ok (.goto (-160), 3) := by decide +kernel
theorem dX12_copies_181 : decode cX12_copies 181 = .ok (.iload_n 2, 1) := by decide +kernel
theorem dX12_copies_182 : decode cX12_copies 182 = .ok (.ireturn, 1) := by decide +kernel
theorem dX12_state_0 : decode cX12_state 0 = .ok (.iload_n 1, 1) := by decide +kernel
theorem dX12_state_1 : decode cX12_state 1 = .ok (.iconst 0, 1) := by decide +kernel
theorem dX12_state_2 : decode cX12_state 2 = .ok (.ldc 239, 2) := by decide +kernel
theorem dX12_state_4 : decode cX12_state 4 = .ok (.invokestatic 66, 3) := by decide +kernel
theorem dX12_state_7 : decode cX12_state 7 = .ok (.ifCond .ne 6, 3) := by decide +kernel
theorem dX12_state_10 : decode cX12_state 10 = .ok (.bipush (-2), 2) := by decide +kernel
theorem dX12_state_12 : decode cX12_state 12 = .ok (.ireturn, 1) := by decide +kernel
theorem dX12_state_13 : decode cX12_state 13 = .ok (.iconst 0, 1) := by decide +kernel
theorem dX12_state_14 : decode cX12_state 14 = .ok (.istore_n 2, 1) := by decide +kernel
theorem dX12_state_15 : decode cX12_state 15 = .ok (.iload_n 2, 1) := by decide +kernel
theorem dX12_state_16 : decode cX12_state 16 = .ok (.aload_n 0, 1) := by decide +kernel
theorem dX12_state_17 : decode cX12_state 17 = .ok (.getfield 7, 3) := by decide +kernel
theorem dX12_state_20 : decode cX12_state 20 = .ok (.bipush 6, 2) := by decide +kernel
theorem dX12_state_22 : decode cX12_state 22 = .ok (.iaload, 1) := by decide +kernel
theorem dX12_state_23 : decode cX12_state 23 = .ok (.if_icmp .ge 26, 3) := by decide +kernel
theorem dX12_state_26 : decode cX12_state 26 = .ok (.aload_n 0, 1) := by decide +kernel
theorem dX12_state_27 : decode cX12_state 27 = .ok (.getfield 7, 3) := by decide +kernel
theorem dX12_state_30 : decode cX12_state 30 = .ok (.sipush 3080, 3) := by decide +kernel
theorem dX12_state_33 : decode cX12_state 33 = .ok (.iload_n 2, 1) := by decide +kernel
theorem dX12_state_34 : decode cX12_state 34 = .ok (.iadd, 1) := by decide +kernel
theorem dX12_state_35 : decode cX12_state 35 = .ok (.iaload, 1) := by decide +kernel
theorem dX12_state_36 : decode cX12_state 36 = .ok (.iload_n 1, 1) := by decide +kernel
theorem dX12_state_37 : decode cX12_state 37 = .ok (.if_icmp .ne 6, 3) := by decide +kernel
theorem dX12_state_40 : decode cX12_state 40 = .ok (.bipush (-3), 2) := by decide +kernel
theorem dX12_state_42 : decode cX12_state 42 = .ok (.ireturn, 1) := by decide +kernel
theorem dX12_state_43 : decode cX12_state 43 = .ok (.iinc 2 1, 3) := by decide +kernel
theorem dX12_state_46 : decode cX12_state 46 = .ok (.goto (-31), 3) := by decide +kernel
theorem dX12_state_49 : decode cX12_state 49 = .ok (.aload_n 0, 1) := by decide +kernel
theorem dX12_state_50 : decode cX12_state 50 = .ok (.getfield 7, 3) := by decide +kernel
theorem dX12_state_53 : decode cX12_state 53 = .ok (.bipush 6, 2) := by decide +kernel
theorem dX12_state_55 : decode cX12_state 55 = .ok (.iaload, 1) := by decide +kernel
theorem dX12_state_56 : decode cX12_state 56 = .ok (.bipush 7, 2) := by decide +kernel
theorem dX12_state_58 : decode cX12_state 58 = .ok (.if_icmp .ne 6, 3) := by decide +kernel
theorem dX12_state_61 : decode cX12_state 61 = .ok (.bipush (-4), 2) := by decide +kernel
theorem dX12_state_63 : decode cX12_state 63 = .ok (.ireturn, 1) := by decide +kernel
theorem dX12_state_64 : decode cX12_state 64 = .ok (.aload_n 0, 1) := by decide +kernel
theorem dX12_state_65 : decode cX12_state 65 = .ok (.getfield 7, 3) := by decide +kernel
theorem dX12_state_68 : decode cX12_state 68 = .ok (.sipush 3080, 3) := by decide +kernel
theorem dX12_state_71 : decode cX12_state 71 = .ok (.aload_n 0, 1) := by decide +kernel
theorem dX12_state_72 : decode cX12_state 72 = .ok (.getfield 7, 3) := by decide +kernel
theorem dX12_state_75 : decode cX12_state 75 = .ok (.bipush 6, 2) := by decide +kernel
theorem dX12_state_77 : decode cX12_state 77 = .ok (.iaload, 1) := by decide +kernel
theorem dX12_state_78 : decode cX12_state 78 = .ok (.iadd, 1) := by decide +kernel
theorem dX12_state_79 : decode cX12_state 79 = .ok (.iload_n 1, 1) := by decide +kernel
theorem dX12_state_80 : decode cX12_state 80 = .ok (.iastore, 1) := by decide +kernel
theorem dX12_state_81 : decode cX12_state 81 = .ok (.aload_n 0, 1) := by decide +kernel
theorem dX12_state_82 : decode cX12_state 82 = .ok (.getfield 7, 3) := by decide +kernel
theorem dX12_state_85 : decode cX12_state 85 = .ok (.bipush 6, 2) := by decide +kernel
theorem dX12_state_87 : decode cX12_state 87 = .ok (.dup2, 1) := by decide +kernel
theorem dX12_state_88 : decode cX12_state 88 = .ok (.iaload, 1) := by decide +kernel
theorem dX12_state_89 : decode cX12_state 89 = .ok (.iconst 1, 1) := by decide +kernel
theorem dX12_state_90 : decode cX12_state 90 = .ok (.iadd, 1) := by decide +kernel
theorem dX12_state_91 : decode cX12_state 91 = .ok (.iastore, 1) := by decide +kernel
theorem dX12_state_92 : decode cX12_state 92 = .ok (.aload_n 0, 1) := by decide +kernel
theorem dX12_state_93 : decode cX12_state 93 = .ok (.getfield 7, 3) := by decide +kernel
theorem dX12_state_96 : decode cX12_state 96 = .ok (.bipush 6, 2) := by decide +kernel
theorem dX12_state_98 : decode cX12_state 98 = .ok (.iaload, 1) := by decide +kernel
theorem dX12_state_99 : decode cX12_state 99 = .ok (.iconst 1, 1) := by decide +kernel
theorem dX12_state_100 : decode cX12_state 100 = .ok (.isub, 1) := by decide +kernel
theorem dX12_state_101 : decode cX12_state 101 = .ok (.ireturn, 1) := by decide +kernel
theorem dX12_follows_0 : decode cX12_follows 0 = .ok (.iload_n 1, 1) := by decide +kernel
theorem dX12_follows_1 : decode cX12_follows 1 = .ok (.aload_n 0, 1) := by decide +kernel
theorem dX12_follows_2 : decode cX12_follows 2 = .ok (.getfield 7, 3) := by decide +kernel
theorem dX12_follows_5 : decode cX12_follows 5 = .ok (.bipush 6, 2) := by decide +kernel
theorem dX12_follows_7 : decode cX12_follows 7 = .ok (.iaload, 1) := by decide +kernel
theorem dX12_follows_8 : decode cX12_follows 8 = .ok (.if_icmp .ne 50, 3) := by decide +kernel
theorem dX12_follows_11 : decode cX12_follows 11 = .ok (.iconst 0, 1) := by decide +kernel
theorem dX12_follows_12 : decode cX12_follows 12 = .ok (.istore 4, 2) := by decide +kernel
theorem dX12_follows_14 : decode cX12_follows 14 = .ok (.iload 4, 2) := by decide +kernel
theorem dX12_follows_16 : decode cX12_follows 16 = .ok (.iload_n 1, 1) := by decide +kernel
theorem dX12_follows_17 : decode cX12_follows 17 = .ok (.if_icmp .ge 30, 3) := by decide +kernel
theorem dX12_follows_20 : decode cX12_follows 20 = .ok (.aload_n 0, 1) := by decide +kernel
theorem dX12_follows_21 : decode cX12_follows 21 = .ok (.getfield 240, 3) := by decide +kernel
theorem dX12_follows_24 : decode cX12_follows 24 = .ok (.ifCond .ne 23, 3) := by decide +kernel
theorem dX12_follows_27 : decode cX12_follows 27 = .ok (.aload_n 0, 1) := by decide +kernel
theorem dX12_follows_28 : decode cX12_follows 28 = .ok (.getfield 50, 3) := by decide +kernel
theorem dX12_follows_31 : decode cX12_follows 31 = .ok (.iload 4, 2) := by decide +kernel
theorem dX12_follows_33 : decode cX12_follows 33 = .ok (.aload_n 0, 1) := by decide +kernel
theorem dX12_follows_34 : decode cX12_follows 34 = .ok (.getfield 47, 3) := by decide +kernel
theorem dX12_follows_37 : decode cX12_follows 37 = .ok (.iload 4, 2) := by decide +kernel
theorem dX12_follows_39 : decode cX12_follows 39 = .ok (.iaload, 1) := by decide +kernel
theorem dX12_follows_40 : decode cX12_follows 40 = .ok (.iastore, 1) := by decide +kernel
theorem dX12_follows_41 : decode cX12_follows 41 = .ok (.iinc 4 1, 3) := by decide +kernel
theorem dX12_follows_44 : decode cX12_follows 44 = .ok (.goto (-30), 3) := by decide +kernel
theorem dX12_follows_47 : decode cX12_follows 47 = .ok (.aload_n 0, 1) := by decide +kernel
theorem dX12_follows_48 : decode cX12_follows 48 = .ok (.dup, 1) := by decide +kernel
theorem dX12_follows_49 : decode cX12_follows 49 = .ok (.getfield 240, 3) := by decide +kernel
theorem dX12_follows_52 : decode cX12_follows 52 = .ok (.iconst 1, 1) := by decide +kernel
theorem dX12_follows_53 : decode cX12_follows 53 = .ok (.iadd, 1) := by decide +kernel
theorem dX12_follows_54 : decode cX12_follows 54 = .ok (.putfield 240, 3) := by decide +kernel
theorem dX12_follows_57 : decode cX12_follows 57 = .ok (.return_, 1) := by decide +kernel
theorem dX12_follows_58 : decode cX12_follows 58 = .ok (.iconst 0, 1) := by decide +kernel
theorem dX12_follows_59 : decode cX12_follows 59 = .ok (.istore 4, 2) := by decide +kernel
theorem dX12_follows_61 : decode cX12_follows 61 = .ok (.iload 4, 2) := by decide +kernel
theorem dX12_follows_63 : decode cX12_follows 63 = .ok (.aload_n 0, 1) := by decide +kernel
theorem dX12_follows_64 : decode cX12_follows 64 = .ok (.getfield 7, 3) := by decide +kernel
theorem dX12_follows_67 : decode cX12_follows 67 = .ok (.bipush 6, 2) := by decide +kernel
theorem dX12_follows_69 : decode cX12_follows 69 = .ok (.iaload, 1) := by decide +kernel
theorem dX12_follows_70 : decode cX12_follows 70 = .ok (.if_icmp .ge 89, 3) := by decide +kernel
theorem dX12_follows_73 : decode cX12_follows 73 = .ok (.iload_n 1, 1) := by decide +kernel
theorem dX12_follows_74 : decode cX12_follows 74 = .ok (.ifCond .ne 7, 3) := by decide +kernel
theorem dX12_follows_77 : decode cX12_follows 77 = .ok (.iconst 0, 1) := by decide +kernel
theorem dX12_follows_78 : decode cX12_follows 78 = .ok (.goto 32, 3) := by decide +kernel
theorem dX12_follows_81 : decode cX12_follows 81 = .ok (.aload_n 0, 1) := by decide +kernel
theorem dX12_follows_82 : decode cX12_follows 82 = .ok (.getfield 7, 3) := by decide +kernel
theorem dX12_follows_85 : decode cX12_follows 85 = .ok (.sipush 3080, 3) := by decide +kernel
theorem dX12_follows_88 : decode cX12_follows 88 = .ok (.aload_n 0, 1) := by decide +kernel
theorem dX12_follows_89 : decode cX12_follows 89 = .ok (.getfield 47, 3) := by decide +kernel
theorem dX12_follows_92 : decode cX12_follows 92 = .ok (.iload_n 1, 1) := by decide +kernel
theorem dX12_follows_93 : decode cX12_follows 93 = .ok (.iconst 1, 1) := by decide +kernel
theorem dX12_follows_94 : decode cX12_follows 94 = .ok (.isub, 1) := by decide +kernel
theorem dX12_follows_95 : decode cX12_follows 95 = .ok (.iaload, 1) := by decide +kernel
theorem dX12_follows_96 : decode cX12_follows 96 = .ok (.iadd, 1) := by decide +kernel
theorem dX12_follows_97 : decode cX12_follows 97 = .ok (.iaload, 1) := by decide +kernel
theorem dX12_follows_98 : decode cX12_follows 98 = .ok (.aload_n 0, 1) := by decide +kernel
theorem dX12_follows_99 : decode cX12_follows 99 = .ok (.getfield 7, 3) := by decide +kernel
theorem dX12_follows_102 : decode cX12_follows 102 = .ok (.sipush 3080, 3) := by decide +kernel
theorem dX12_follows_105 : decode cX12_follows 105 = .ok (.iload 4, 2) := by decide +kernel
theorem dX12_follows_107 : decode cX12_follows 107 = .ok (.iadd, 1) := by decide +kernel
theorem dX12_follows_108 : decode cX12_follows 108 = .ok (.iaload, 1) := by decide +kernel
theorem dX12_follows_109 : decode cX12_follows 109 = .ok (.ixor, 1) := by decide +kernel
theorem dX12_follows_110 : decode cX12_follows 110 = .ok (.istore 5, 2) := by decide +kernel
theorem dX12_follows_112 : decode cX12_follows 112 = .ok (.iload_n 2, 1) := by decide +kernel
theorem dX12_follows_113 : decode cX12_follows 113 = .ok (.iload 4, 2) := by decide +kernel
theorem dX12_follows_115 : decode cX12_follows 115 = .ok (.ishr, 1) := by decide +kernel
theorem dX12_follows_116 : decode cX12_follows 116 = .ok (.iconst 1, 1) := by decide +kernel
theorem dX12_follows_117 : decode cX12_follows 117 = .ok (.iand, 1) := by decide +kernel
theorem dX12_follows_118 : decode cX12_follows 118 = .ok (.ifCond .ne 35, 3) := by decide +kernel
theorem dX12_follows_121 : decode cX12_follows 121 = .ok (.iload 5, 2) := by decide +kernel
theorem dX12_follows_123 : decode cX12_follows 123 = .ok (.iload_n 3, 1) := by decide +kernel
theorem dX12_follows_124 : decode cX12_follows 124 = .ok (.iand, 1) := by decide +kernel
theorem dX12_follows_125 : decode cX12_follows 125 = .ok (.ifCond .ne 28, 3) := by decide +kernel
theorem dX12_follows_128 : decode cX12_follows 128 = .ok (.aload_n 0, 1) := by decide +kernel
theorem dX12_follows_129 : decode cX12_follows 129 = .ok (.getfield 47, 3) := by decide +kernel
theorem dX12_follows_132 : decode cX12_follows 132 = .ok (.iload_n 1, 1) := by decide +kernel
theorem dX12_follows_133 : decode cX12_follows 133 = .ok (.iload 4, 2) := by decide +kernel
theorem dX12_follows_135 : decode cX12_follows 135 = .ok (.iastore, 1) := by decide +kernel
theorem dX12_follows_136 : decode cX12_follows 136 = .ok (.aload_n 0, 1) := by decide +kernel
theorem dX12_follows_137 : decode cX12_follows 137 = .ok (.iload_n 1, 1) := by decide +kernel
theorem dX12_follows_138 : decode cX12_follows 138 = .ok (.iconst 1, 1) := by decide +kernel
theorem dX12_follows_139 : decode cX12_follows 139 = .ok (.iadd, 1) := by decide +kernel
theorem dX12_follows_140 : decode cX12_follows 140 = .ok (.iload_n 2, 1) := by decide +kernel
theorem dX12_follows_141 : decode cX12_follows 141 = .ok (.iconst 1, 1) := by decide +kernel
theorem dX12_follows_142 : decode cX12_follows 142 = .ok (.iload 4, 2) := by decide +kernel
theorem dX12_follows_144 : decode cX12_follows 144 = .ok (.ishl, 1) := by decide +kernel
theorem dX12_follows_145 : decode cX12_follows 145 = .ok (.ior, 1) := by decide +kernel
theorem dX12_follows_146 : decode cX12_follows 146 = .ok (.iload_n 3, 1) := by decide +kernel
theorem dX12_follows_147 : decode cX12_follows 147 = .ok (.iload 5, 2) := by decide +kernel
theorem dX12_follows_149 : decode cX12_follows 149 = .ok (.ior, 1) := by decide +kernel
theorem dX12_follows_150 : decode cX12_follows 150 = .ok (.invokevirtual 243, 3) := by decide +kernel
theorem dX12_follows_153 : decode cX12_follows 153 = .ok (.iinc 4 1, 3) := by decide +kernel
theorem dX12_follows_156 : decode cX12_follows 156 = .ok (.goto (-95), 3) := by decide +kernel
theorem dX12_follows_159 : decode cX12_follows 159 = .ok (.return_, 1) := by decide +kernel
theorem dX12_allowed_0 : decode cX12_allowed 0 = .ok (.iload_n 1, 1) := by decide +kernel
theorem dX12_allowed_1 : decode cX12_allowed 1 = .ok (.iconst (-1), 1) := by decide +kernel
theorem dX12_allowed_2 : decode cX12_allowed 2 = .ok (.aload_n 0, 1) := by decide +kernel
theorem dX12_allowed_3 : decode cX12_allowed 3 = .ok (.getfield 7, 3) := by decide +kernel
theorem dX12_allowed_6 : decode cX12_allowed 6 = .ok (.bipush 6, 2) := by decide +kernel
theorem dX12_allowed_8 : decode cX12_allowed 8 = .ok (.iaload, 1) := by decide +kernel
theorem dX12_allowed_9 : decode cX12_allowed 9 = .ok (.iconst 1, 1) := by decide +kernel
theorem dX12_allowed_10 : decode cX12_allowed 10 = .ok (.isub, 1) := by decide +kernel
theorem dX12_allowed_11 : decode cX12_allowed 11 = .ok (.invokestatic 66, 3) := by decide +kernel
theorem dX12_allowed_14 : decode cX12_allowed 14 = .ok (.ifCond .ne 5, 3) := by decide +kernel
theorem dX12_allowed_17 : decode cX12_allowed 17 = .ok (.iconst (-1), 1) := by decide +kernel
theorem dX12_allowed_18 : decode cX12_allowed 18 = .ok (.ireturn, 1) := by decide +kernel
theorem dX12_allowed_19 : decode cX12_allowed 19 = .ok (.aload_n 0, 1) := by decide +kernel
theorem dX12_allowed_20 : decode cX12_allowed 20 = .ok (.iconst 0, 1) := by decide +kernel
theorem dX12_allowed_21 : decode cX12_allowed 21 = .ok (.putfield 240, 3) := by decide +kernel
theorem dX12_allowed_24 : decode cX12_allowed 24 = .ok (.aload_n 0, 1) := by decide +kernel
theorem dX12_allowed_25 : decode cX12_allowed 25 = .ok (.iconst 0, 1) := by decide +kernel
theorem dX12_allowed_26 : decode cX12_allowed 26 = .ok (.iconst 0, 1) := by decide +kernel
theorem dX12_allowed_27 : decode cX12_allowed 27 = .ok (.iconst 0, 1) := by decide +kernel
theorem dX12_allowed_28 : decode cX12_allowed 28 = .ok (.invokevirtual 243, 3) := by decide +kernel
theorem dX12_allowed_31 : decode cX12_allowed 31 = .ok (.iload_n 1, 1) := by decide +kernel
theorem dX12_allowed_32 : decode cX12_allowed 32 = .ok (.iconst (-1), 1) := by decide +kernel
theorem dX12_allowed_33 : decode cX12_allowed 33 = .ok (.if_icmp .ne 10, 3) := by decide +kernel
theorem dX12_allowed_36 : decode cX12_allowed 36 = .ok (.aload_n 0, 1) := by decide +kernel
theorem dX12_allowed_37 : decode cX12_allowed 37 = .ok (.getfield 240, 3) := by decide +kernel
theorem dX12_allowed_40 : decode cX12_allowed 40 = .ok (.goto 20, 3) := by decide +kernel
theorem dX12_allowed_43 : decode cX12_allowed 43 = .ok (.aload_n 0, 1) := by decide +kernel
theorem dX12_allowed_44 : decode cX12_allowed 44 = .ok (.getfield 240, 3) := by decide +kernel
theorem dX12_allowed_47 : decode cX12_allowed 47 = .ok (.ifCond .ne 7, 3) := by decide +kernel
theorem dX12_allowed_50 : decode cX12_allowed 50 = .ok (.iconst (-1), 1) := by decide +kernel
theorem dX12_allowed_51 : decode cX12_allowed 51 = .ok (.goto 9, 3) := by decide +kernel
theorem dX12_allowed_54 : decode cX12_allowed 54 = .ok (.aload_n 0, 1) := by decide +kernel
theorem dX12_allowed_55 : decode cX12_allowed 55 = .ok (.getfield 50, 3) := by decide +kernel
theorem dX12_allowed_58 : decode cX12_allowed 58 = .ok (.iload_n 1, 1) := by decide +kernel
theorem dX12_allowed_59 : decode cX12_allowed 59 = .ok (.iaload, 1) := by decide +kernel
theorem dX12_allowed_60 : decode cX12_allowed 60 = .ok (.ireturn, 1) := by decide +kernel
theorem dX12_hand_0 : decode cX12_hand 0 = .ok (.iload_n 1, 1) := by decide +kernel
theorem dX12_hand_1 : decode cX12_hand 1 = .ok (.iconst 0, 1) := by decide +kernel
theorem dX12_hand_2 : decode cX12_hand 2 = .ok (.sipush 9999, 3) := by decide +kernel
theorem dX12_hand_5 : decode cX12_hand 5 = .ok (.invokestatic 66, 3) := by decide +kernel
theorem dX12_hand_8 : decode cX12_hand 8 = .ok (.ifCond .ne 6, 3) := by decide +kernel
theorem dX12_hand_11 : decode cX12_hand 11 = .ok (.bipush (-2), 2) := by decide +kernel
theorem dX12_hand_13 : decode cX12_hand 13 = .ok (.ireturn, 1) := by decide +kernel
theorem dX12_hand_14 : decode cX12_hand 14 = .ok (.aload_n 0, 1) := by decide +kernel
theorem dX12_hand_15 : decode cX12_hand 15 = .ok (.getfield 7, 3) := by decide +kernel
theorem dX12_hand_18 : decode cX12_hand 18 = .ok (.bipush 7, 2) := by decide +kernel
theorem dX12_hand_20 : decode cX12_hand 20 = .ok (.iaload, 1) := by decide +kernel
theorem dX12_hand_21 : decode cX12_hand 21 = .ok (.bipush 10, 2) := by decide +kernel
theorem dX12_hand_23 : decode cX12_hand 23 = .ok (.if_icmp .ne 6, 3) := by decide +kernel
theorem dX12_hand_26 : decode cX12_hand 26 = .ok (.bipush (-4), 2) := by decide +kernel
theorem dX12_hand_28 : decode cX12_hand 28 = .ok (.ireturn, 1) := by decide +kernel
theorem dX12_hand_29 : decode cX12_hand 29 = .ok (.aload_n 0, 1) := by decide +kernel
theorem dX12_hand_30 : decode cX12_hand 30 = .ok (.getfield 7, 3) := by decide +kernel
theorem dX12_hand_33 : decode cX12_hand 33 = .ok (.sipush 3090, 3) := by decide +kernel
theorem dX12_hand_36 : decode cX12_hand 36 = .ok (.aload_n 0, 1) := by decide +kernel
theorem dX12_hand_37 : decode cX12_hand 37 = .ok (.getfield 7, 3) := by decide +kernel
theorem dX12_hand_40 : decode cX12_hand 40 = .ok (.bipush 7, 2) := by decide +kernel
theorem dX12_hand_42 : decode cX12_hand 42 = .ok (.iaload, 1) := by decide +kernel
theorem dX12_hand_43 : decode cX12_hand 43 = .ok (.iadd, 1) := by decide +kernel
theorem dX12_hand_44 : decode cX12_hand 44 = .ok (.iload_n 1, 1) := by decide +kernel
theorem dX12_hand_45 : decode cX12_hand 45 = .ok (.iastore, 1) := by decide +kernel
theorem dX12_hand_46 : decode cX12_hand 46 = .ok (.aload_n 0, 1) := by decide +kernel
theorem dX12_hand_47 : decode cX12_hand 47 = .ok (.getfield 7, 3) := by decide +kernel
theorem dX12_hand_50 : decode cX12_hand 50 = .ok (.bipush 7, 2) := by decide +kernel
theorem dX12_hand_52 : decode cX12_hand 52 = .ok (.dup2, 1) := by decide +kernel
theorem dX12_hand_53 : decode cX12_hand 53 = .ok (.iaload, 1) := by decide +kernel
theorem dX12_hand_54 : decode cX12_hand 54 = .ok (.iconst 1, 1) := by decide +kernel
theorem dX12_hand_55 : decode cX12_hand 55 = .ok (.iadd, 1) := by decide +kernel
theorem dX12_hand_56 : decode cX12_hand 56 = .ok (.iastore, 1) := by decide +kernel
theorem dX12_hand_57 : decode cX12_hand 57 = .ok (.aload_n 0, 1) := by decide +kernel
theorem dX12_hand_58 : decode cX12_hand 58 = .ok (.getfield 7, 3) := by decide +kernel
theorem dX12_hand_61 : decode cX12_hand 61 = .ok (.bipush 7, 2) := by decide +kernel
theorem dX12_hand_63 : decode cX12_hand 63 = .ok (.iaload, 1) := by decide +kernel
theorem dX12_hand_64 : decode cX12_hand 64 = .ok (.iconst 1, 1) := by decide +kernel
theorem dX12_hand_65 : decode cX12_hand 65 = .ok (.isub, 1) := by decide +kernel
theorem dX12_hand_66 : decode cX12_hand 66 = .ok (.ireturn, 1) := by decide +kernel
theorem dX12_apart_0 : decode cX12_apart 0 = .ok (.iconst 0, 1) := by decide +kernel
theorem dX12_apart_1 : decode cX12_apart 1 = .ok (.istore_n 2, 1) := by decide +kernel
theorem dX12_apart_2 : decode cX12_apart 2 = .ok (.iload_n 0, 1) := by decide +kernel
theorem dX12_apart_3 : decode cX12_apart 3 = .ok (.istore_n 3, 1) := by decide +kernel
theorem dX12_apart_4 : decode cX12_apart 4 = .ok (.iload_n 1, 1) := by decide +kernel
theorem dX12_apart_5 : decode cX12_apart 5 = .ok (.istore 4, 2) := by decide +kernel
theorem dX12_apart_7 : decode cX12_apart 7 = .ok (.iconst 0, 1) := by decide +kernel
theorem dX12_apart_8 : decode cX12_apart 8 = .ok (.istore 5, 2) := by decide +kernel
theorem dX12_apart_10 : decode cX12_apart 10 = .ok (.iload 5, 2) := by decide +kernel
theorem dX12_apart_12 : decode cX12_apart 12 = .ok (.iconst 4, 1) := by decide +kernel
theorem dX12_apart_13 : decode cX12_apart 13 = .ok (.if_icmp .ge 49, 3) := by decide +kernel
theorem dX12_apart_16 : decode cX12_apart 16 = .ok (.iload_n 3, 1) := by decide +kernel
theorem dX12_apart_17 : decode cX12_apart 17 = .ok (.bipush 10, 2) := by decide +kernel
theorem dX12_apart_19 : decode cX12_apart 19 = .ok (.irem, 1) := by decide +kernel
theorem dX12_apart_20 : decode cX12_apart 20 = .ok (.iload 4, 2) := by decide +kernel
theorem dX12_apart_22 : decode cX12_apart 22 = .ok (.bipush 10, 2) := by decide +kernel
theorem dX12_apart_24 : decode cX12_apart 24 = .ok (.irem, 1) := by decide +kernel
theorem dX12_apart_25 : decode cX12_apart 25 = .ok (.isub, 1) := by decide +kernel
theorem dX12_apart_26 : decode cX12_apart 26 = .ok (.istore 6, 2) := by decide +kernel
theorem dX12_apart_28 : decode cX12_apart 28 = .ok (.iload_n 2, 1) := by decide +kernel
theorem dX12_apart_29 : decode cX12_apart 29 = .ok (.iload 6, 2) := by decide +kernel
theorem dX12_apart_31 : decode cX12_apart 31 = .ok (.ifCond .ge 9, 3) := by decide +kernel
theorem dX12_apart_34 : decode cX12_apart 34 = .ok (.iload 6, 2) := by decide +kernel
theorem dX12_apart_36 : decode cX12_apart 36 = .ok (.ineg, 1) := by decide +kernel
theorem dX12_apart_37 : decode cX12_apart 37 = .ok (.goto 5, 3) := by decide +kernel
theorem dX12_apart_40 : decode cX12_apart 40 = .ok (.iload 6, 2) := by decide +kernel
theorem dX12_apart_42 : decode cX12_apart 42 = .ok (.iadd, 1) := by decide +kernel
theorem dX12_apart_43 : decode cX12_apart 43 = .ok (.istore_n 2, 1) := by decide +kernel
theorem dX12_apart_44 : decode cX12_apart 44 = .ok (.iload_n 3, 1) := by decide +kernel
theorem dX12_apart_45 : decode cX12_apart 45 = .ok (.bipush 10, 2) := by decide +kernel
theorem dX12_apart_47 : decode cX12_apart 47 = .ok (.idiv, 1) := by decide +kernel
theorem dX12_apart_48 : decode cX12_apart 48 = .ok (.istore_n 3, 1) := by decide +kernel
theorem dX12_apart_49 : decode cX12_apart 49 = .ok (.iload 4, 2) := by decide +kernel
theorem dX12_apart_51 : decode cX12_apart 51 = .ok (.bipush 10, 2) := by decide +kernel
theorem dX12_apart_53 : decode cX12_apart 53 = .ok (.idiv, 1) := by decide +kernel
theorem dX12_apart_54 : decode cX12_apart 54 = .ok (.istore 4, 2) := by decide +kernel
theorem dX12_apart_56 : decode cX12_apart 56 = .ok (.iinc 5 1, 3) := by decide +kernel
theorem dX12_apart_59 : decode cX12_apart 59 = .ok (.goto (-49), 3) := by decide +kernel
theorem dX12_apart_62 : decode cX12_apart 62 = .ok (.iload_n 2, 1) := by decide +kernel
theorem dX12_apart_63 : decode cX12_apart 63 = .ok (.ireturn, 1) := by decide +kernel
theorem dX12_parts_0 : decode cX12_parts 0 = .ok (.iload_n 2, 1) := by decide +kernel
theorem dX12_parts_1 : decode cX12_parts 1 = .ok (.aload_n 0, 1) := by decide +kernel
theorem dX12_parts_2 : decode cX12_parts 2 = .ok (.getfield 247, 3) := by decide +kernel
theorem dX12_parts_5 : decode cX12_parts 5 = .ok (.if_icmp .le 4, 3) := by decide +kernel
theorem dX12_parts_8 : decode cX12_parts 8 = .ok (.return_, 1) := by decide +kernel
theorem dX12_parts_9 : decode cX12_parts 9 = .ok (.iload_n 1, 1) := by decide +kernel
theorem dX12_parts_10 : decode cX12_parts 10 = .ok (.aload_n 0, 1) := by decide +kernel
theorem dX12_parts_11 : decode cX12_parts 11 = .ok (.getfield 7, 3) := by decide +kernel
theorem dX12_parts_14 : decode cX12_parts 14 = .ok (.bipush 7, 2) := by decide +kernel
theorem dX12_parts_16 : decode cX12_parts 16 = .ok (.iaload, 1) := by decide +kernel
theorem dX12_parts_17 : decode cX12_parts 17 = .ok (.if_icmp .ne 31, 3) := by decide +kernel
theorem dX12_parts_20 : decode cX12_parts 20 = .ok (.aload_n 0, 1) := by decide +kernel
theorem dX12_parts_21 : decode cX12_parts 21 = .ok (.iload_n 2, 1) := by decide +kernel
theorem dX12_parts_22 : decode cX12_parts 22 = .ok (.aload_n 0, 1) := by decide +kernel
theorem dX12_parts_23 : decode cX12_parts 23 = .ok (.getfield 247, 3) := by decide +kernel
theorem dX12_parts_26 : decode cX12_parts 26 = .ok (.if_icmp .ge 7, 3) := by decide +kernel
theorem dX12_parts_29 : decode cX12_parts 29 = .ok (.iconst 1, 1) := by decide +kernel
theorem dX12_parts_30 : decode cX12_parts 30 = .ok (.goto 9, 3) := by decide +kernel
theorem dX12_parts_33 : decode cX12_parts 33 = .ok (.aload_n 0, 1) := by decide +kernel
theorem dX12_parts_34 : decode cX12_parts 34 = .ok (.getfield 250, 3) := by decide +kernel
theorem dX12_parts_37 : decode cX12_parts 37 = .ok (.iconst 1, 1) := by decide +kernel
theorem dX12_parts_38 : decode cX12_parts 38 = .ok (.iadd, 1) := by decide +kernel
theorem dX12_parts_39 : decode cX12_parts 39 = .ok (.putfield 250, 3) := by decide +kernel
theorem dX12_parts_42 : decode cX12_parts 42 = .ok (.aload_n 0, 1) := by decide +kernel
theorem dX12_parts_43 : decode cX12_parts 43 = .ok (.iload_n 2, 1) := by decide +kernel
theorem dX12_parts_44 : decode cX12_parts 44 = .ok (.putfield 247, 3) := by decide +kernel
theorem dX12_parts_47 : decode cX12_parts 47 = .ok (.return_, 1) := by decide +kernel
theorem dX12_parts_48 : decode cX12_parts 48 = .ok (.iconst 0, 1) := by decide +kernel
theorem dX12_parts_49 : decode cX12_parts 49 = .ok (.istore_n 3, 1) := by decide +kernel
theorem dX12_parts_50 : decode cX12_parts 50 = .ok (.iload_n 3, 1) := by decide +kernel
theorem dX12_parts_51 : decode cX12_parts 51 = .ok (.iload_n 2, 1) := by decide +kernel
theorem dX12_parts_52 : decode cX12_parts 52 = .ok (.if_icmp .gt 85, 3) := by decide +kernel
theorem dX12_parts_55 : decode cX12_parts 55 = .ok (.iload_n 3, 1) := by decide +kernel
theorem dX12_parts_56 : decode cX12_parts 56 = .ok (.bipush 10, 2) := by decide +kernel
theorem dX12_parts_58 : decode cX12_parts 58 = .ok (.if_icmp .ge 79, 3) := by decide +kernel
theorem dX12_parts_61 : decode cX12_parts 61 = .ok (.iload_n 3, 1) := by decide +kernel
theorem dX12_parts_62 : decode cX12_parts 62 = .ok (.iload_n 2, 1) := by decide +kernel
theorem dX12_parts_63 : decode cX12_parts 63 = .ok (.if_icmp .ge 12, 3) := by decide +kernel
theorem dX12_parts_66 : decode cX12_parts 66 = .ok (.aload_n 0, 1) := by decide +kernel
theorem dX12_parts_67 : decode cX12_parts 67 = .ok (.getfield 56, 3) := by decide +kernel
theorem dX12_parts_70 : decode cX12_parts 70 = .ok (.iload_n 3, 1) := by decide +kernel
theorem dX12_parts_71 : decode cX12_parts 71 = .ok (.iaload, 1) := by decide +kernel
theorem dX12_parts_72 : decode cX12_parts 72 = .ok (.goto 4, 3) := by decide +kernel
theorem dX12_parts_75 : decode cX12_parts 75 = .ok (.iconst 0, 1) := by decide +kernel
theorem dX12_parts_76 : decode cX12_parts 76 = .ok (.istore 4, 2) := by decide +kernel
theorem dX12_parts_78 : decode cX12_parts 78 = .ok (.iload 4, 2) := by decide +kernel
theorem dX12_parts_80 : decode cX12_parts 80 = .ok (.aload_n 0, 1) := by decide +kernel
theorem dX12_parts_81 : decode cX12_parts 81 = .ok (.getfield 53, 3) := by decide +kernel
theorem dX12_parts_84 : decode cX12_parts 84 = .ok (.iload_n 1, 1) := by decide +kernel
theorem dX12_parts_85 : decode cX12_parts 85 = .ok (.iaload, 1) := by decide +kernel
theorem dX12_parts_86 : decode cX12_parts 86 = .ok (.iconst (-1), 1) := by decide +kernel
theorem dX12_parts_87 : decode cX12_parts 87 = .ok (.ixor, 1) := by decide +kernel
theorem dX12_parts_88 : decode cX12_parts 88 = .ok (.iand, 1) := by decide +kernel
theorem dX12_parts_89 : decode cX12_parts 89 = .ok (.ifCond .ne 42, 3) := by decide +kernel
theorem dX12_parts_92 : decode cX12_parts 92 = .ok (.aload_n 0, 1) := by decide +kernel
theorem dX12_parts_93 : decode cX12_parts 93 = .ok (.getfield 56, 3) := by decide +kernel
theorem dX12_parts_96 : decode cX12_parts 96 = .ok (.iload_n 3, 1) := by decide +kernel
theorem dX12_parts_97 : decode cX12_parts 97 = .ok (.iload 4, 2) := by decide +kernel
theorem dX12_parts_99 : decode cX12_parts 99 = .ok (.iconst 1, 1) := by decide +kernel
theorem dX12_parts_100 : decode cX12_parts 100 = .ok (.iload_n 1, 1) := by decide +kernel
theorem dX12_parts_101 : decode cX12_parts 101 = .ok (.ishl, 1) := by decide +kernel
theorem dX12_parts_102 : decode cX12_parts 102 = .ok (.ior, 1) := by decide +kernel
theorem dX12_parts_103 : decode cX12_parts 103 = .ok (.iastore, 1) := by decide +kernel
theorem dX12_parts_104 : decode cX12_parts 104 = .ok (.aload_n 0, 1) := by decide +kernel
theorem dX12_parts_105 : decode cX12_parts 105 = .ok (.iload_n 1, 1) := by decide +kernel
theorem dX12_parts_106 : decode cX12_parts 106 = .ok (.iconst 1, 1) := by decide +kernel
theorem dX12_parts_107 : decode cX12_parts 107 = .ok (.iadd, 1) := by decide +kernel
theorem dX12_parts_108 : decode cX12_parts 108 = .ok (.iload_n 3, 1) := by decide +kernel
theorem dX12_parts_109 : decode cX12_parts 109 = .ok (.iload_n 2, 1) := by decide +kernel
theorem dX12_parts_110 : decode cX12_parts 110 = .ok (.if_icmp .ge 7, 3) := by decide +kernel
theorem dX12_parts_113 : decode cX12_parts 113 = .ok (.iload_n 2, 1) := by decide +kernel
theorem dX12_parts_114 : decode cX12_parts 114 = .ok (.goto 6, 3) := by decide +kernel
theorem dX12_parts_117 : decode cX12_parts 117 = .ok (.iload_n 2, 1) := by decide +kernel
theorem dX12_parts_118 : decode cX12_parts 118 = .ok (.iconst 1, 1) := by decide +kernel
theorem dX12_parts_119 : decode cX12_parts 119 = .ok (.iadd, 1) := by decide +kernel
theorem dX12_parts_120 : decode cX12_parts 120 = .ok (.invokevirtual 253, 3) := by decide +kernel
theorem dX12_parts_123 : decode cX12_parts 123 = .ok (.aload_n 0, 1) := by decide +kernel
theorem dX12_parts_124 : decode cX12_parts 124 = .ok (.getfield 56, 3) := by decide +kernel
theorem dX12_parts_127 : decode cX12_parts 127 = .ok (.iload_n 3, 1) := by decide +kernel
theorem dX12_parts_128 : decode cX12_parts 128 = .ok (.iload 4, 2) := by decide +kernel
theorem dX12_parts_130 : decode cX12_parts 130 = .ok (.iastore, 1) := by decide +kernel
theorem dX12_parts_131 : decode cX12_parts 131 = .ok (.iinc 3 1, 3) := by decide +kernel
theorem dX12_parts_134 : decode cX12_parts 134 = .ok (.goto (-84), 3) := by decide +kernel
theorem dX12_parts_137 : decode cX12_parts 137 = .ok (.return_, 1) := by decide +kernel
theorem dX12_rival_0 : decode cX12_rival 0 = .ok (.iload_n 2, 1) := by decide +kernel
theorem dX12_rival_1 : decode cX12_rival 1 = .ok (.iconst 0, 1) := by decide +kernel
theorem dX12_rival_2 : decode cX12_rival 2 = .ok (.iconst 1, 1) := by decide +kernel
theorem dX12_rival_3 : decode cX12_rival 3 = .ok (.invokestatic 66, 3) := by decide +kernel
theorem dX12_rival_6 : decode cX12_rival 6 = .ok (.ifCond .ne 5, 3) := by decide +kernel
theorem dX12_rival_9 : decode cX12_rival 9 = .ok (.iconst (-1), 1) := by decide +kernel
theorem dX12_rival_10 : decode cX12_rival 10 = .ok (.ireturn, 1) := by decide +kernel
theorem dX12_rival_11 : decode cX12_rival 11 = .ok (.iload_n 1, 1) := by decide +kernel
theorem dX12_rival_12 : decode cX12_rival 12 = .ok (.iconst 0, 1) := by decide +kernel
theorem dX12_rival_13 : decode cX12_rival 13 = .ok (.bipush 36, 2) := by decide +kernel
theorem dX12_rival_15 : decode cX12_rival 15 = .ok (.invokestatic 66, 3) := by decide +kernel
theorem dX12_rival_18 : decode cX12_rival 18 = .ok (.ifCond .ne 6, 3) := by decide +kernel
theorem dX12_rival_21 : decode cX12_rival 21 = .ok (.bipush (-2), 2) := by decide +kernel
theorem dX12_rival_23 : decode cX12_rival 23 = .ok (.ireturn, 1) := by decide +kernel
theorem dX12_rival_24 : decode cX12_rival 24 = .ok (.iconst 0, 1) := by decide +kernel
theorem dX12_rival_25 : decode cX12_rival 25 = .ok (.istore_n 3, 1) := by decide +kernel
theorem dX12_rival_26 : decode cX12_rival 26 = .ok (.iload_n 3, 1) := by decide +kernel
theorem dX12_rival_27 : decode cX12_rival 27 = .ok (.aload_n 0, 1) := by decide +kernel
theorem dX12_rival_28 : decode cX12_rival 28 = .ok (.getfield 7, 3) := by decide +kernel
theorem dX12_rival_31 : decode cX12_rival 31 = .ok (.bipush 7, 2) := by decide +kernel
theorem dX12_rival_33 : decode cX12_rival 33 = .ok (.iaload, 1) := by decide +kernel
theorem dX12_rival_34 : decode cX12_rival 34 = .ok (.if_icmp .ge 82, 3) := by decide +kernel
theorem dX12_rival_37 : decode cX12_rival 37 = .ok (.aload_n 0, 1) := by decide +kernel
theorem dX12_rival_38 : decode cX12_rival 38 = .ok (.getfield 53, 3) := by decide +kernel
theorem dX12_rival_41 : decode cX12_rival 41 = .ok (.iload_n 3, 1) := by decide +kernel
theorem dX12_rival_42 : decode cX12_rival 42 = .ok (.iconst 0, 1) := by decide +kernel
theorem dX12_rival_43 : decode cX12_rival 43 = .ok (.iastore, 1) := by decide +kernel
theorem dX12_rival_44 : decode cX12_rival 44 = .ok (.iconst 0, 1) := by decide +kernel
theorem dX12_rival_45 : decode cX12_rival 45 = .ok (.istore 4, 2) := by decide +kernel
theorem dX12_rival_47 : decode cX12_rival 47 = .ok (.iload 4, 2) := by decide +kernel
theorem dX12_rival_49 : decode cX12_rival 49 = .ok (.aload_n 0, 1) := by decide +kernel
theorem dX12_rival_50 : decode cX12_rival 50 = .ok (.getfield 7, 3) := by decide +kernel
theorem dX12_rival_53 : decode cX12_rival 53 = .ok (.bipush 7, 2) := by decide +kernel
theorem dX12_rival_55 : decode cX12_rival 55 = .ok (.iaload, 1) := by decide +kernel
theorem dX12_rival_56 : decode cX12_rival 56 = .ok (.if_icmp .ge 54, 3) := by decide +kernel
theorem dX12_rival_59 : decode cX12_rival 59 = .ok (.aload_n 0, 1) := by decide +kernel
theorem dX12_rival_60 : decode cX12_rival 60 = .ok (.getfield 53, 3) := by decide +kernel
theorem dX12_rival_63 : decode cX12_rival 63 = .ok (.iload_n 3, 1) := by decide +kernel
theorem dX12_rival_64 : decode cX12_rival 64 = .ok (.dup2, 1) := by decide +kernel
theorem dX12_rival_65 : decode cX12_rival 65 = .ok (.iaload, 1) := by decide +kernel
theorem dX12_rival_66 : decode cX12_rival 66 = .ok (.aload_n 0, 1) := by decide +kernel
theorem dX12_rival_67 : decode cX12_rival 67 = .ok (.getfield 7, 3) := by decide +kernel
theorem dX12_rival_70 : decode cX12_rival 70 = .ok (.sipush 3090, 3) := by decide +kernel
theorem dX12_rival_73 : decode cX12_rival 73 = .ok (.iload_n 3, 1) := by decide +kernel
theorem dX12_rival_74 : decode cX12_rival 74 = .ok (.iadd, 1) := by decide +kernel
theorem dX12_rival_75 : decode cX12_rival 75 = .ok (.iaload, 1) := by decide +kernel
theorem dX12_rival_76 : decode cX12_rival 76 = .ok (.aload_n 0, 1) := by decide +kernel
theorem dX12_rival_77 : decode cX12_rival 77 = .ok (.getfield 7, 3) := by decide +kernel
theorem dX12_rival_80 : decode cX12_rival 80 = .ok (.sipush 3090, 3) := by decide +kernel
theorem dX12_rival_83 : decode cX12_rival 83 = .ok (.iload 4, 2) := by decide +kernel
theorem dX12_rival_85 : decode cX12_rival 85 = .ok (.iadd, 1) := by decide +kernel
theorem dX12_rival_86 : decode cX12_rival 86 = .ok (.iaload, 1) := by decide +kernel
theorem dX12_rival_87 : decode cX12_rival 87 = .ok (.invokestatic 257, 3) := by decide +kernel
theorem dX12_rival_90 : decode cX12_rival 90 = .ok (.iload_n 1, 1) := by decide +kernel
theorem dX12_rival_91 : decode cX12_rival 91 = .ok (.if_icmp .gt 10, 3) := by decide +kernel
theorem dX12_rival_94 : decode cX12_rival 94 = .ok (.iconst 1, 1) := by decide +kernel
theorem dX12_rival_95 : decode cX12_rival 95 = .ok (.iload 4, 2) := by decide +kernel
theorem dX12_rival_97 : decode cX12_rival 97 = .ok (.ishl, 1) := by decide +kernel
theorem dX12_rival_98 : decode cX12_rival 98 = .ok (.goto 4, 3) := by decide +kernel
theorem dX12_rival_101 : decode cX12_rival 101 = .ok (.iconst 0, 1) := by decide +kernel
theorem dX12_rival_102 : decode cX12_rival 102 = .ok (.ior, 1) := by decide +kernel
theorem dX12_rival_103 : decode cX12_rival 103 = .ok (.iastore, 1) := by decide +kernel
theorem dX12_rival_104 : decode cX12_rival 104 = .ok (.iinc 4 1, 3) := by decide +kernel
theorem dX12_rival_107 : decode cX12_rival 107 = .ok (.goto (-60), 3) := by decide +kernel
theorem dX12_rival_110 : decode cX12_rival 110 = .ok (.iinc 3 1, 3) := by decide +kernel
theorem dX12_rival_113 : decode cX12_rival 113 = .ok (.goto (-87), 3) := by decide +kernel
theorem dX12_rival_116 : decode cX12_rival 116 = .ok (.aload_n 0, 1) := by decide +kernel
theorem dX12_rival_117 : decode cX12_rival 117 = .ok (.bipush 11, 2) := by decide +kernel
theorem dX12_rival_119 : decode cX12_rival 119 = .ok (.putfield 247, 3) := by decide +kernel
theorem dX12_rival_122 : decode cX12_rival 122 = .ok (.aload_n 0, 1) := by decide +kernel
theorem dX12_rival_123 : decode cX12_rival 123 = .ok (.iconst 0, 1) := by decide +kernel
theorem dX12_rival_124 : decode cX12_rival 124 = .ok (.putfield 250, 3) := by decide +kernel
theorem dX12_rival_127 : decode cX12_rival 127 = .ok (.aload_n 0, 1) := by decide +kernel
theorem dX12_rival_128 : decode cX12_rival 128 = .ok (.iconst 0, 1) := by decide +kernel
theorem dX12_rival_129 : decode cX12_rival 129 = .ok (.iconst 0, 1) := by decide +kernel
theorem dX12_rival_130 : decode cX12_rival 130 = .ok (.invokevirtual 253, 3) := by decide +kernel
theorem dX12_rival_133 : decode cX12_rival 133 = .ok (.iload_n 2, 1) := by decide +kernel
theorem dX12_rival_134 : decode cX12_rival 134 = .ok (.ifCond .ne 10, 3) := by decide +kernel
theorem dX12_rival_137 : decode cX12_rival 137 = .ok (.aload_n 0, 1) := by decide +kernel
theorem dX12_rival_138 : decode cX12_rival 138 = .ok (.getfield 247, 3) := by decide +kernel
theorem dX12_rival_141 : decode cX12_rival 141 = .ok (.goto 7, 3) := by decide +kernel
theorem dX12_rival_144 : decode cX12_rival 144 = .ok (.aload_n 0, 1) := by decide +kernel
theorem dX12_rival_145 : decode cX12_rival 145 = .ok (.getfield 250, 3) := by decide +kernel
theorem dX12_rival_148 : decode cX12_rival 148 = .ok (.ireturn, 1) := by decide +kernel
theorem dX12_ahead_0 : decode cX12_ahead 0 = .ok (.iload_n 1, 1) := by decide +kernel
theorem dX12_ahead_1 : decode cX12_ahead 1 = .ok (.iconst 0, 1) := by decide +kernel
theorem dX12_ahead_2 : decode cX12_ahead 2 = .ok (.bipush 9, 2) := by decide +kernel
theorem dX12_ahead_4 : decode cX12_ahead 4 = .ok (.invokestatic 66, 3) := by decide +kernel
theorem dX12_ahead_7 : decode cX12_ahead 7 = .ok (.ifCond .eq 13, 3) := by decide +kernel
theorem dX12_ahead_10 : decode cX12_ahead 10 = .ok (.iload_n 2, 1) := by decide +kernel
theorem dX12_ahead_11 : decode cX12_ahead 11 = .ok (.iconst 0, 1) := by decide +kernel
theorem dX12_ahead_12 : decode cX12_ahead 12 = .ok (.bipush 9, 2) := by decide +kernel
theorem dX12_ahead_14 : decode cX12_ahead 14 = .ok (.invokestatic 66, 3) := by decide +kernel
theorem dX12_ahead_17 : decode cX12_ahead 17 = .ok (.ifCond .ne 5, 3) := by decide +kernel
theorem dX12_ahead_20 : decode cX12_ahead 20 = .ok (.iconst (-1), 1) := by decide +kernel
theorem dX12_ahead_21 : decode cX12_ahead 21 = .ok (.ireturn, 1) := by decide +kernel
theorem dX12_ahead_22 : decode cX12_ahead 22 = .ok (.iload_n 1, 1) := by decide +kernel
theorem dX12_ahead_23 : decode cX12_ahead 23 = .ok (.iload_n 2, 1) := by decide +kernel
theorem dX12_ahead_24 : decode cX12_ahead 24 = .ok (.if_icmp .ne 6, 3) := by decide +kernel
theorem dX12_ahead_27 : decode cX12_ahead 27 = .ok (.bipush (-2), 2) := by decide +kernel
theorem dX12_ahead_29 : decode cX12_ahead 29 = .ok (.ireturn, 1) := by decide +kernel
theorem dX12_ahead_30 : decode cX12_ahead 30 = .ok (.iconst 0, 1) := by decide +kernel
theorem dX12_ahead_31 : decode cX12_ahead 31 = .ok (.istore_n 3, 1) := by decide +kernel
theorem dX12_ahead_32 : decode cX12_ahead 32 = .ok (.iload_n 3, 1) := by decide +kernel
theorem dX12_ahead_33 : decode cX12_ahead 33 = .ok (.aload_n 0, 1) := by decide +kernel
theorem dX12_ahead_34 : decode cX12_ahead 34 = .ok (.getfield 7, 3) := by decide +kernel
theorem dX12_ahead_37 : decode cX12_ahead 37 = .ok (.bipush 10, 2) := by decide +kernel
theorem dX12_ahead_39 : decode cX12_ahead 39 = .ok (.iaload, 1) := by decide +kernel
theorem dX12_ahead_40 : decode cX12_ahead 40 = .ok (.if_icmp .ge 40, 3) := by decide +kernel
theorem dX12_ahead_43 : decode cX12_ahead 43 = .ok (.aload_n 0, 1) := by decide +kernel
theorem dX12_ahead_44 : decode cX12_ahead 44 = .ok (.getfield 7, 3) := by decide +kernel
theorem dX12_ahead_47 : decode cX12_ahead 47 = .ok (.sipush 3100, 3) := by decide +kernel
theorem dX12_ahead_50 : decode cX12_ahead 50 = .ok (.iload_n 3, 1) := by decide +kernel
theorem dX12_ahead_51 : decode cX12_ahead 51 = .ok (.iadd, 1) := by decide +kernel
theorem dX12_ahead_52 : decode cX12_ahead 52 = .ok (.iaload, 1) := by decide +kernel
theorem dX12_ahead_53 : decode cX12_ahead 53 = .ok (.iload_n 1, 1) := by decide +kernel
theorem dX12_ahead_54 : decode cX12_ahead 54 = .ok (.if_icmp .ne 20, 3) := by decide +kernel
theorem dX12_ahead_57 : decode cX12_ahead 57 = .ok (.aload_n 0, 1) := by decide +kernel
theorem dX12_ahead_58 : decode cX12_ahead 58 = .ok (.getfield 7, 3) := by decide +kernel
theorem dX12_ahead_61 : decode cX12_ahead 61 = .ok (.sipush 3130, 3) := by decide +kernel
theorem dX12_ahead_64 : decode cX12_ahead 64 = .ok (.iload_n 3, 1) := by decide +kernel
theorem dX12_ahead_65 : decode cX12_ahead 65 = .ok (.iadd, 1) := by decide +kernel
theorem dX12_ahead_66 : decode cX12_ahead 66 = .ok (.iaload, 1) := by decide +kernel
theorem dX12_ahead_67 : decode cX12_ahead 67 = .ok (.iload_n 2, 1) := by decide +kernel
theorem dX12_ahead_68 : decode cX12_ahead 68 = .ok (.if_icmp .ne 6, 3) := by decide +kernel
theorem dX12_ahead_71 : decode cX12_ahead 71 = .ok (.bipush (-3), 2) := by decide +kernel
theorem dX12_ahead_73 : decode cX12_ahead 73 = .ok (.ireturn, 1) := by decide +kernel
theorem dX12_ahead_74 : decode cX12_ahead 74 = .ok (.iinc 3 1, 3) := by decide +kernel
theorem dX12_ahead_77 : decode cX12_ahead 77 = .ok (.goto (-45), 3) := by decide +kernel
theorem dX12_ahead_80 : decode cX12_ahead 80 = .ok (.aload_n 0, 1) := by decide +kernel
theorem dX12_ahead_81 : decode cX12_ahead 81 = .ok (.getfield 7, 3) := by decide +kernel
theorem dX12_ahead_84 : decode cX12_ahead 84 = .ok (.bipush 10, 2) := by decide +kernel
theorem dX12_ahead_86 : decode cX12_ahead 86 = .ok (.iaload, 1) := by decide +kernel
theorem dX12_ahead_87 : decode cX12_ahead 87 = .ok (.bipush 30, 2) := by decide +kernel
theorem dX12_ahead_89 : decode cX12_ahead 89 = .ok (.if_icmp .ne 6, 3) := by decide +kernel
theorem dX12_ahead_92 : decode cX12_ahead 92 = .ok (.bipush (-4), 2) := by decide +kernel
theorem dX12_ahead_94 : decode cX12_ahead 94 = .ok (.ireturn, 1) := by decide +kernel
theorem dX12_ahead_95 : decode cX12_ahead 95 = .ok (.aload_n 0, 1) := by decide +kernel
theorem dX12_ahead_96 : decode cX12_ahead 96 = .ok (.getfield 7, 3) := by decide +kernel
theorem dX12_ahead_99 : decode cX12_ahead 99 = .ok (.sipush 3100, 3) := by decide +kernel
theorem dX12_ahead_102 : decode cX12_ahead 102 = .ok (.aload_n 0, 1) := by decide +kernel
theorem dX12_ahead_103 : decode cX12_ahead 103 = .ok (.getfield 7, 3) := by decide +kernel
theorem dX12_ahead_106 : decode cX12_ahead 106 = .ok (.bipush 10, 2) := by decide +kernel
theorem dX12_ahead_108 : decode cX12_ahead 108 = .ok (.iaload, 1) := by decide +kernel
theorem dX12_ahead_109 : decode cX12_ahead 109 = .ok (.iadd, 1) := by decide +kernel
theorem dX12_ahead_110 : decode cX12_ahead 110 = .ok (.iload_n 1, 1) := by decide +kernel
theorem dX12_ahead_111 : decode cX12_ahead 111 = .ok (.iastore, 1) := by decide +kernel
theorem dX12_ahead_112 : decode cX12_ahead 112 = .ok (.aload_n 0, 1) := by decide +kernel
theorem dX12_ahead_113 : decode cX12_ahead 113 = .ok (.getfield 7, 3) := by decide +kernel
theorem dX12_ahead_116 : decode cX12_ahead 116 = .ok (.sipush 3130, 3) := by decide +kernel
theorem dX12_ahead_119 : decode cX12_ahead 119 = .ok (.aload_n 0, 1) := by decide +kernel
theorem dX12_ahead_120 : decode cX12_ahead 120 = .ok (.getfield 7, 3) := by decide +kernel
theorem dX12_ahead_123 : decode cX12_ahead 123 = .ok (.bipush 10, 2) := by decide +kernel
theorem dX12_ahead_125 : decode cX12_ahead 125 = .ok (.iaload, 1) := by decide +kernel
theorem dX12_ahead_126 : decode cX12_ahead 126 = .ok (.iadd, 1) := by decide +kernel
theorem dX12_ahead_127 : decode cX12_ahead 127 = .ok (.iload_n 2, 1) := by decide +kernel
theorem dX12_ahead_128 : decode cX12_ahead 128 = .ok (.iastore, 1) := by decide +kernel
theorem dX12_ahead_129 : decode cX12_ahead 129 = .ok (.aload_n 0, 1) := by decide +kernel
theorem dX12_ahead_130 : decode cX12_ahead 130 = .ok (.getfield 7, 3) := by decide +kernel
theorem dX12_ahead_133 : decode cX12_ahead 133 = .ok (.bipush 10, 2) := by decide +kernel
theorem dX12_ahead_135 : decode cX12_ahead 135 = .ok (.dup2, 1) := by decide +kernel
theorem dX12_ahead_136 : decode cX12_ahead 136 = .ok (.iaload, 1) := by decide +kernel
theorem dX12_ahead_137 : decode cX12_ahead 137 = .ok (.iconst 1, 1) := by decide +kernel
theorem dX12_ahead_138 : decode cX12_ahead 138 = .ok (.iadd, 1) := by decide +kernel
theorem dX12_ahead_139 : decode cX12_ahead 139 = .ok (.iastore, 1) := by decide +kernel
theorem dX12_ahead_140 : decode cX12_ahead 140 = .ok (.aload_n 0, 1) := by decide +kernel
theorem dX12_ahead_141 : decode cX12_ahead 141 = .ok (.getfield 7, 3) := by decide +kernel
theorem dX12_ahead_144 : decode cX12_ahead 144 = .ok (.bipush 10, 2) := by decide +kernel
theorem dX12_ahead_146 : decode cX12_ahead 146 = .ok (.iaload, 1) := by decide +kernel
theorem dX12_ahead_147 : decode cX12_ahead 147 = .ok (.ireturn, 1) := by decide +kernel
theorem dX12_mayCome_0 : decode cX12_mayCome 0 = .ok (.iload_n 2, 1) := by decide +kernel
theorem dX12_mayCome_1 : decode cX12_mayCome 1 = .ok (.iload_n 1, 1) := by decide +kernel
theorem dX12_mayCome_2 : decode cX12_mayCome 2 = .ok (.ishr, 1) := by decide +kernel
theorem dX12_mayCome_3 : decode cX12_mayCome 3 = .ok (.iconst 1, 1) := by decide +kernel
theorem dX12_mayCome_4 : decode cX12_mayCome 4 = .ok (.iand, 1) := by decide +kernel
theorem dX12_mayCome_5 : decode cX12_mayCome 5 = .ok (.ifCond .ne 7, 3) := by decide +kernel
theorem dX12_mayCome_8 : decode cX12_mayCome 8 = .ok (.iconst 1, 1) := by decide +kernel
theorem dX12_mayCome_9 : decode cX12_mayCome 9 = .ok (.goto 4, 3) := by decide +kernel
theorem dX12_mayCome_12 : decode cX12_mayCome 12 = .ok (.iconst 0, 1) := by decide +kernel
theorem dX12_mayCome_13 : decode cX12_mayCome 13 = .ok (.istore 4, 2) := by decide +kernel
theorem dX12_mayCome_15 : decode cX12_mayCome 15 = .ok (.iconst 0, 1) := by decide +kernel
theorem dX12_mayCome_16 : decode cX12_mayCome 16 = .ok (.istore 5, 2) := by decide +kernel
theorem dX12_mayCome_18 : decode cX12_mayCome 18 = .ok (.iload 5, 2) := by decide +kernel
theorem dX12_mayCome_20 : decode cX12_mayCome 20 = .ok (.aload_n 0, 1) := by decide +kernel
theorem dX12_mayCome_21 : decode cX12_mayCome 21 = .ok (.getfield 7, 3) := by decide +kernel
theorem dX12_mayCome_24 : decode cX12_mayCome 24 = .ok (.bipush 10, 2) := by decide +kernel
theorem dX12_mayCome_26 : decode cX12_mayCome 26 = .ok (.iaload, 1) := by decide +kernel
theorem dX12_mayCome_27 : decode cX12_mayCome 27 = .ok (.if_icmp .ge 81, 3) := by decide +kernel
theorem dX12_mayCome_30 : decode cX12_mayCome 30 = .ok (.aload_n 0, 1) := by decide +kernel
theorem dX12_mayCome_31 : decode cX12_mayCome 31 = .ok (.getfield 7, 3) := by decide +kernel
theorem dX12_mayCome_34 : decode cX12_mayCome 34 = .ok (.sipush 3130, 3) := by decide +kernel
theorem dX12_mayCome_37 : decode cX12_mayCome 37 = .ok (.iload 5, 2) := by decide +kernel
theorem dX12_mayCome_39 : decode cX12_mayCome 39 = .ok (.iadd, 1) := by decide +kernel
theorem dX12_mayCome_40 : decode cX12_mayCome 40 = .ok (.iaload, 1) := by decide +kernel
theorem dX12_mayCome_41 : decode cX12_mayCome 41 = .ok (.iload_n 1, 1) := by decide +kernel
theorem dX12_mayCome_42 : decode cX12_mayCome 42 = .ok (.if_icmp .ne 22, 3) := by decide +kernel
theorem dX12_mayCome_45 : decode cX12_mayCome 45 = .ok (.aload_n 0, 1) := by decide +kernel
theorem dX12_mayCome_46 : decode cX12_mayCome 46 = .ok (.getfield 7, 3) := by decide +kernel
theorem dX12_mayCome_49 : decode cX12_mayCome 49 = .ok (.sipush 3100, 3) := by decide +kernel
theorem dX12_mayCome_52 : decode cX12_mayCome 52 = .ok (.iload 5, 2) := by decide +kernel
theorem dX12_mayCome_54 : decode cX12_mayCome 54 = .ok (.iadd, 1) := by decide +kernel
theorem dX12_mayCome_55 : decode cX12_mayCome 55 = .ok (.iaload, 1) := by decide +kernel
theorem dX12_mayCome_56 : decode cX12_mayCome 56 = .ok (.iload_n 3, 1) := by decide +kernel
theorem dX12_mayCome_57 : decode cX12_mayCome 57 = .ok (.if_icmp .ge 7, 3) := by decide +kernel
theorem dX12_mayCome_60 : decode cX12_mayCome 60 = .ok (.iconst 1, 1) := by decide +kernel
theorem dX12_mayCome_61 : decode cX12_mayCome 61 = .ok (.goto 4, 3) := by decide +kernel
theorem dX12_mayCome_64 : decode cX12_mayCome 64 = .ok (.iconst 0, 1) := by decide +kernel
theorem dX12_mayCome_65 : decode cX12_mayCome 65 = .ok (.istore 6, 2) := by decide +kernel
theorem dX12_mayCome_67 : decode cX12_mayCome 67 = .ok (.iload 4, 2) := by decide +kernel
theorem dX12_mayCome_69 : decode cX12_mayCome 69 = .ok (.ifCond .eq 30, 3) := by decide +kernel
theorem dX12_mayCome_72 : decode cX12_mayCome 72 = .ok (.iload 6, 2) := by decide +kernel
theorem dX12_mayCome_74 : decode cX12_mayCome 74 = .ok (.ifCond .eq 21, 3) := by decide +kernel
theorem dX12_mayCome_77 : decode cX12_mayCome 77 = .ok (.iload_n 2, 1) := by decide +kernel
theorem dX12_mayCome_78 : decode cX12_mayCome 78 = .ok (.aload_n 0, 1) := by decide +kernel
theorem dX12_mayCome_79 : decode cX12_mayCome 79 = .ok (.getfield 7, 3) := by decide +kernel
theorem dX12_mayCome_82 : decode cX12_mayCome 82 = .ok (.sipush 3100, 3) := by decide +kernel
theorem dX12_mayCome_85 : decode cX12_mayCome 85 = .ok (.iload 5, 2) := by decide +kernel
theorem dX12_mayCome_87 : decode cX12_mayCome 87 = .ok (.iadd, 1) := by decide +kernel
theorem dX12_mayCome_88 : decode cX12_mayCome 88 = .ok (.iaload, 1) := by decide +kernel
theorem dX12_mayCome_89 : decode cX12_mayCome 89 = .ok (.ishr, 1) := by decide +kernel
theorem dX12_mayCome_90 : decode cX12_mayCome 90 = .ok (.iconst 1, 1) := by decide +kernel
theorem dX12_mayCome_91 : decode cX12_mayCome 91 = .ok (.iand, 1) := by decide +kernel
theorem dX12_mayCome_92 : decode cX12_mayCome 92 = .ok (.ifCond .eq 7, 3) := by decide +kernel
theorem dX12_mayCome_95 : decode cX12_mayCome 95 = .ok (.iconst 1, 1) := by decide +kernel
theorem dX12_mayCome_96 : decode cX12_mayCome 96 = .ok (.goto 4, 3) := by decide +kernel
theorem dX12_mayCome_99 : decode cX12_mayCome 99 = .ok (.iconst 0, 1) := by decide +kernel
theorem dX12_mayCome_100 : decode cX12_mayCome 100 = .ok (.istore 4, 2) := by decide +kernel
theorem dX12_mayCome_102 : decode cX12_mayCome 102 = .ok (.iinc 5 1, 3) := by decide +kernel
theorem dX12_mayCome_105 : decode cX12_mayCome 105 = .ok (.goto (-87), 3) := by decide +kernel
theorem dX12_mayCome_108 : decode cX12_mayCome 108 = .ok (.iload 4, 2) := by decide +kernel
theorem dX12_mayCome_110 : decode cX12_mayCome 110 = .ok (.ireturn, 1) := by decide +kernel
theorem dX12_runs_0 : decode cX12_runs 0 = .ok (.iload_n 2, 1) := by decide +kernel
theorem dX12_runs_1 : decode cX12_runs 1 = .ok (.ifCond .lt 19, 3) := by decide +kernel
theorem dX12_runs_4 : decode cX12_runs 4 = .ok (.iload_n 2, 1) := by decide +kernel
theorem dX12_runs_5 : decode cX12_runs 5 = .ok (.iconst 2, 1) := by decide +kernel
theorem dX12_runs_6 : decode cX12_runs 6 = .ok (.bipush 9, 2) := by decide +kernel
theorem dX12_runs_8 : decode cX12_runs 8 = .ok (.invokestatic 66, 3) := by decide +kernel
theorem dX12_runs_11 : decode cX12_runs 11 = .ok (.ifCond .ne 9, 3) := by decide +kernel
theorem dX12_runs_14 : decode cX12_runs 14 = .ok (.iload_n 2, 1) := by decide +kernel
theorem dX12_runs_15 : decode cX12_runs 15 = .ok (.bipush 19, 2) := by decide +kernel
theorem dX12_runs_17 : decode cX12_runs 17 = .ok (.if_icmp .le 5, 3) := by decide +kernel
theorem dX12_runs_20 : decode cX12_runs 20 = .ok (.iconst (-1), 1) := by decide +kernel
theorem dX12_runs_21 : decode cX12_runs 21 = .ok (.ireturn, 1) := by decide +kernel
theorem dX12_runs_22 : decode cX12_runs 22 = .ok (.iload_n 1, 1) := by decide +kernel
theorem dX12_runs_23 : decode cX12_runs 23 = .ok (.iconst 1, 1) := by decide +kernel
theorem dX12_runs_24 : decode cX12_runs 24 = .ok (.bipush 10, 2) := by decide +kernel
theorem dX12_runs_26 : decode cX12_runs 26 = .ok (.invokestatic 66, 3) := by decide +kernel
theorem dX12_runs_29 : decode cX12_runs 29 = .ok (.ifCond .ne 6, 3) := by decide +kernel
theorem dX12_runs_32 : decode cX12_runs 32 = .ok (.bipush (-2), 2) := by decide +kernel
theorem dX12_runs_34 : decode cX12_runs 34 = .ok (.ireturn, 1) := by decide +kernel
theorem dX12_runs_35 : decode cX12_runs 35 = .ok (.iconst 1, 1) := by decide +kernel
theorem dX12_runs_36 : decode cX12_runs 36 = .ok (.iload_n 1, 1) := by decide +kernel
theorem dX12_runs_37 : decode cX12_runs 37 = .ok (.ishl, 1) := by decide +kernel
theorem dX12_runs_38 : decode cX12_runs 38 = .ok (.iconst 1, 1) := by decide +kernel
theorem dX12_runs_39 : decode cX12_runs 39 = .ok (.isub, 1) := by decide +kernel
theorem dX12_runs_40 : decode cX12_runs 40 = .ok (.istore_n 3, 1) := by decide +kernel
theorem dX12_runs_41 : decode cX12_runs 41 = .ok (.iload_n 3, 1) := by decide +kernel
theorem dX12_runs_42 : decode cX12_runs 42 = .ok (.istore 4, 2) := by decide +kernel
theorem dX12_runs_44 : decode cX12_runs 44 = .ok (.iload 4, 2) := by decide +kernel
theorem dX12_runs_46 : decode cX12_runs 46 = .ok (.ifCond .lt 80, 3) := by decide +kernel
theorem dX12_runs_49 : decode cX12_runs 49 = .ok (.aload_n 0, 1) := by decide +kernel
theorem dX12_runs_50 : decode cX12_runs 50 = .ok (.getfield 59, 3) := by decide +kernel
theorem dX12_runs_53 : decode cX12_runs 53 = .ok (.iload 4, 2) := by decide +kernel
theorem dX12_runs_55 : decode cX12_runs 55 = .ok (.iload 4, 2) := by decide +kernel
theorem dX12_runs_57 : decode cX12_runs 57 = .ok (.iload_n 3, 1) := by decide +kernel
theorem dX12_runs_58 : decode cX12_runs 58 = .ok (.if_icmp .ne 7, 3) := by decide +kernel
theorem dX12_runs_61 : decode cX12_runs 61 = .ok (.iconst 1, 1) := by decide +kernel
theorem dX12_runs_62 : decode cX12_runs 62 = .ok (.goto 4, 3) := by decide +kernel
theorem dX12_runs_65 : decode cX12_runs 65 = .ok (.iconst 0, 1) := by decide +kernel
theorem dX12_runs_66 : decode cX12_runs 66 = .ok (.iastore, 1) := by decide +kernel
theorem dX12_runs_67 : decode cX12_runs 67 = .ok (.iconst 0, 1) := by decide +kernel
theorem dX12_runs_68 : decode cX12_runs 68 = .ok (.istore 5, 2) := by decide +kernel
theorem dX12_runs_70 : decode cX12_runs 70 = .ok (.iload 5, 2) := by decide +kernel
theorem dX12_runs_72 : decode cX12_runs 72 = .ok (.iload_n 1, 1) := by decide +kernel
theorem dX12_runs_73 : decode cX12_runs 73 = .ok (.if_icmp .ge 47, 3) := by decide +kernel
theorem dX12_runs_76 : decode cX12_runs 76 = .ok (.aload_n 0, 1) := by decide +kernel
theorem dX12_runs_77 : decode cX12_runs 77 = .ok (.getfield 59, 3) := by decide +kernel
theorem dX12_runs_80 : decode cX12_runs 80 = .ok (.iload 4, 2) := by decide +kernel
theorem dX12_runs_82 : decode cX12_runs 82 = .ok (.dup2, 1) := by decide +kernel
theorem dX12_runs_83 : decode cX12_runs 83 = .ok (.iaload, 1) := by decide +kernel
theorem dX12_runs_84 : decode cX12_runs 84 = .ok (.aload_n 0, 1) := by decide +kernel
theorem dX12_runs_85 : decode cX12_runs 85 = .ok (.iload 5, 2) := by decide +kernel
theorem dX12_runs_87 : decode cX12_runs 87 = .ok (.iload 4, 2) := by decide +kernel
theorem dX12_runs_89 : decode cX12_runs 89 = .ok (.iload_n 1, 1) := by decide +kernel
theorem dX12_runs_90 : decode cX12_runs 90 = .ok (.invokevirtual 260, 3) := by decide +kernel
theorem dX12_runs_93 : decode cX12_runs 93 = .ok (.ifCond .eq 18, 3) := by decide +kernel
theorem dX12_runs_96 : decode cX12_runs 96 = .ok (.aload_n 0, 1) := by decide +kernel
theorem dX12_runs_97 : decode cX12_runs 97 = .ok (.getfield 59, 3) := by decide +kernel
theorem dX12_runs_100 : decode cX12_runs 100 = .ok (.iload 4, 2) := by decide +kernel
theorem dX12_runs_102 : decode cX12_runs 102 = .ok (.iconst 1, 1) := by decide +kernel
theorem dX12_runs_103 : decode cX12_runs 103 = .ok (.iload 5, 2) := by decide +kernel
theorem dX12_runs_105 : decode cX12_runs 105 = .ok (.ishl, 1) := by decide +kernel
theorem dX12_runs_106 : decode cX12_runs 106 = .ok (.ior, 1) := by decide +kernel
theorem dX12_runs_107 : decode cX12_runs 107 = .ok (.iaload, 1) := by decide +kernel
theorem dX12_runs_108 : decode cX12_runs 108 = .ok (.goto 4, 3) := by decide +kernel
theorem dX12_runs_111 : decode cX12_runs 111 = .ok (.iconst 0, 1) := by decide +kernel
theorem dX12_runs_112 : decode cX12_runs 112 = .ok (.iadd, 1) := by decide +kernel
theorem dX12_runs_113 : decode cX12_runs 113 = .ok (.iastore, 1) := by decide +kernel
theorem dX12_runs_114 : decode cX12_runs 114 = .ok (.iinc 5 1, 3) := by decide +kernel
theorem dX12_runs_117 : decode cX12_runs 117 = .ok (.goto (-47), 3) := by decide +kernel
theorem dX12_runs_120 : decode cX12_runs 120 = .ok (.iinc 4 (-1), 3) := by decide +kernel
theorem dX12_runs_123 : decode cX12_runs 123 = .ok (.goto (-79), 3) := by decide +kernel
theorem dX12_runs_126 : decode cX12_runs 126 = .ok (.iload_n 2, 1) := by decide +kernel
theorem dX12_runs_127 : decode cX12_runs 127 = .ok (.ifCond .ne 10, 3) := by decide +kernel
theorem dX12_runs_130 : decode cX12_runs 130 = .ok (.aload_n 0, 1) := by decide +kernel
theorem dX12_runs_131 : decode cX12_runs 131 = .ok (.getfield 59, 3) := by decide +kernel
theorem dX12_runs_134 : decode cX12_runs 134 = .ok (.iconst 0, 1) := by decide +kernel
theorem dX12_runs_135 : decode cX12_runs 135 = .ok (.iaload, 1) := by decide +kernel
theorem dX12_runs_136 : decode cX12_runs 136 = .ok (.ireturn, 1) := by decide +kernel
theorem dX12_runs_137 : decode cX12_runs 137 = .ok (.iconst 0, 1) := by decide +kernel
theorem dX12_runs_138 : decode cX12_runs 138 = .ok (.istore 4, 2) := by decide +kernel
theorem dX12_runs_140 : decode cX12_runs 140 = .ok (.iconst 0, 1) := by decide +kernel
theorem dX12_runs_141 : decode cX12_runs 141 = .ok (.istore 5, 2) := by decide +kernel
theorem dX12_runs_143 : decode cX12_runs 143 = .ok (.iload 5, 2) := by decide +kernel
theorem dX12_runs_145 : decode cX12_runs 145 = .ok (.iload_n 1, 1) := by decide +kernel
theorem dX12_runs_146 : decode cX12_runs 146 = .ok (.if_icmp .ge 45, 3) := by decide +kernel
theorem dX12_runs_149 : decode cX12_runs 149 = .ok (.iload 4, 2) := by decide +kernel
theorem dX12_runs_151 : decode cX12_runs 151 = .ok (.aload_n 0, 1) := by decide +kernel
theorem dX12_runs_152 : decode cX12_runs 152 = .ok (.iload 5, 2) := by decide +kernel
theorem dX12_runs_154 : decode cX12_runs 154 = .ok (.iconst 0, 1) := by decide +kernel
theorem dX12_runs_155 : decode cX12_runs 155 = .ok (.iload_n 1, 1) := by decide +kernel
theorem dX12_runs_156 : decode cX12_runs 156 = .ok (.invokevirtual 260, 3) := by decide +kernel
theorem dX12_runs_159 : decode cX12_runs 159 = .ok (.ifCond .eq 22, 3) := by decide +kernel
theorem dX12_runs_162 : decode cX12_runs 162 = .ok (.aload_n 0, 1) := by decide +kernel
theorem dX12_runs_163 : decode cX12_runs 163 = .ok (.getfield 59, 3) := by decide +kernel
theorem dX12_runs_166 : decode cX12_runs 166 = .ok (.iconst 1, 1) := by decide +kernel
theorem dX12_runs_167 : decode cX12_runs 167 = .ok (.iload 5, 2) := by decide +kernel
theorem dX12_runs_169 : decode cX12_runs 169 = .ok (.ishl, 1) := by decide +kernel
theorem dX12_runs_170 : decode cX12_runs 170 = .ok (.iaload, 1) := by decide +kernel
theorem dX12_runs_171 : decode cX12_runs 171 = .ok (.ifCond .le 10, 3) := by decide +kernel
theorem dX12_runs_174 : decode cX12_runs 174 = .ok (.iconst 1, 1) := by decide +kernel
theorem dX12_runs_175 : decode cX12_runs 175 = .ok (.iload 5, 2) := by decide +kernel
theorem dX12_runs_177 : decode cX12_runs 177 = .ok (.ishl, 1) := by decide +kernel
theorem dX12_runs_178 : decode cX12_runs 178 = .ok (.goto 4, 3) := by decide +kernel
theorem dX12_runs_181 : decode cX12_runs 181 = .ok (.iconst 0, 1) := by decide +kernel
theorem dX12_runs_182 : decode cX12_runs 182 = .ok (.ior, 1) := by decide +kernel
theorem dX12_runs_183 : decode cX12_runs 183 = .ok (.istore 4, 2) := by decide +kernel
theorem dX12_runs_185 : decode cX12_runs 185 = .ok (.iinc 5 1, 3) := by decide +kernel
theorem dX12_runs_188 : decode cX12_runs 188 = .ok (.goto (-45), 3) := by decide +kernel
theorem dX12_runs_191 : decode cX12_runs 191 = .ok (.iload_n 2, 1) := by decide +kernel
theorem dX12_runs_192 : decode cX12_runs 192 = .ok (.iconst 1, 1) := by decide +kernel
theorem dX12_runs_193 : decode cX12_runs 193 = .ok (.if_icmp .ne 6, 3) := by decide +kernel
theorem dX12_runs_196 : decode cX12_runs 196 = .ok (.iload 4, 2) := by decide +kernel
theorem dX12_runs_198 : decode cX12_runs 198 = .ok (.ireturn, 1) := by decide +kernel
theorem dX12_runs_199 : decode cX12_runs 199 = .ok (.iload_n 2, 1) := by decide +kernel
theorem dX12_runs_200 : decode cX12_runs 200 = .ok (.bipush 10, 2) := by decide +kernel
theorem dX12_runs_202 : decode cX12_runs 202 = .ok (.isub, 1) := by decide +kernel
theorem dX12_runs_203 : decode cX12_runs 203 = .ok (.iload_n 1, 1) := by decide +kernel
theorem dX12_runs_204 : decode cX12_runs 204 = .ok (.if_icmp .ge 12, 3) := by decide +kernel
theorem dX12_runs_207 : decode cX12_runs 207 = .ok (.aload_n 0, 1) := by decide +kernel
theorem dX12_runs_208 : decode cX12_runs 208 = .ok (.getfield 59, 3) := by decide +kernel
theorem dX12_runs_211 : decode cX12_runs 211 = .ok (.iconst 0, 1) := by decide +kernel
theorem dX12_runs_212 : decode cX12_runs 212 = .ok (.iaload, 1) := by decide +kernel
theorem dX12_runs_213 : decode cX12_runs 213 = .ok (.ifCond .ne 5, 3) := by decide +kernel
theorem dX12_runs_216 : decode cX12_runs 216 = .ok (.iconst (-1), 1) := by decide +kernel
theorem dX12_runs_217 : decode cX12_runs 217 = .ok (.ireturn, 1) := by decide +kernel
theorem dX12_runs_218 : decode cX12_runs 218 = .ok (.iconst 0, 1) := by decide +kernel
theorem dX12_runs_219 : decode cX12_runs 219 = .ok (.istore 5, 2) := by decide +kernel
theorem dX12_runs_221 : decode cX12_runs 221 = .ok (.iconst (-1), 1) := by decide +kernel
theorem dX12_runs_222 : decode cX12_runs 222 = .ok (.istore 6, 2) := by decide +kernel
theorem dX12_runs_224 : decode cX12_runs 224 = .ok (.iconst 0, 1) := by decide +kernel
theorem dX12_runs_225 : decode cX12_runs 225 = .ok (.istore 7, 2) := by decide +kernel
theorem dX12_runs_227 : decode cX12_runs 227 = .ok (.iload 7, 2) := by decide +kernel
theorem dX12_runs_229 : decode cX12_runs 229 = .ok (.iload_n 2, 1) := by decide +kernel
theorem dX12_runs_230 : decode cX12_runs 230 = .ok (.bipush 10, 2) := by decide +kernel
theorem dX12_runs_232 : decode cX12_runs 232 = .ok (.isub, 1) := by decide +kernel
theorem dX12_runs_233 : decode cX12_runs 233 = .ok (.if_icmp .gt 56, 3) := by decide +kernel
theorem dX12_runs_236 : decode cX12_runs 236 = .ok (.iload_n 1, 1) := by decide +kernel
theorem dX12_runs_237 : decode cX12_runs 237 = .ok (.iconst 1, 1) := by decide +kernel
theorem dX12_runs_238 : decode cX12_runs 238 = .ok (.isub, 1) := by decide +kernel
theorem dX12_runs_239 : decode cX12_runs 239 = .ok (.istore 6, 2) := by decide +kernel
theorem dX12_runs_241 : decode cX12_runs 241 = .ok (.aload_n 0, 1) := by decide +kernel
theorem dX12_runs_242 : decode cX12_runs 242 = .ok (.iload 6, 2) := by decide +kernel
theorem dX12_runs_244 : decode cX12_runs 244 = .ok (.iload 5, 2) := by decide +kernel
theorem dX12_runs_246 : decode cX12_runs 246 = .ok (.iload_n 1, 1) := by decide +kernel
theorem dX12_runs_247 : decode cX12_runs 247 = .ok (.invokevirtual 260, 3) := by decide +kernel
theorem dX12_runs_250 : decode cX12_runs 250 = .ok (.ifCond .eq 18, 3) := by decide +kernel
theorem dX12_runs_253 : decode cX12_runs 253 = .ok (.aload_n 0, 1) := by decide +kernel
theorem dX12_runs_254 : decode cX12_runs 254 = .ok (.getfield 59, 3) := by decide +kernel
theorem dX12_runs_257 : decode cX12_runs 257 = .ok (.iload 5, 2) := by decide +kernel
theorem dX12_runs_259 : decode cX12_runs 259 = .ok (.iconst 1, 1) := by decide +kernel
theorem dX12_runs_260 : decode cX12_runs 260 = .ok (.iload 6, 2) := by decide +kernel
theorem dX12_runs_262 : decode cX12_runs 262 = .ok (.ishl, 1) := by decide +kernel
theorem dX12_runs_263 : decode cX12_runs 263 = .ok (.ior, 1) := by decide +kernel
theorem dX12_runs_264 : decode cX12_runs 264 = .ok (.iaload, 1) := by decide +kernel
theorem dX12_runs_265 : decode cX12_runs 265 = .ok (.ifCond .ne 9, 3) := by decide +kernel
theorem dX12_runs_268 : decode cX12_runs 268 = .ok (.iinc 6 (-1), 3) := by decide +kernel
theorem dX12_runs_271 : decode cX12_runs 271 = .ok (.goto (-30), 3) := by decide +kernel
theorem dX12_runs_274 : decode cX12_runs 274 = .ok (.iload 5, 2) := by decide +kernel
theorem dX12_runs_276 : decode cX12_runs 276 = .ok (.iconst 1, 1) := by decide +kernel
theorem dX12_runs_277 : decode cX12_runs 277 = .ok (.iload 6, 2) := by decide +kernel
theorem dX12_runs_279 : decode cX12_runs 279 = .ok (.ishl, 1) := by decide +kernel
theorem dX12_runs_280 : decode cX12_runs 280 = .ok (.ior, 1) := by decide +kernel
theorem dX12_runs_281 : decode cX12_runs 281 = .ok (.istore 5, 2) := by decide +kernel
theorem dX12_runs_283 : decode cX12_runs 283 = .ok (.iinc 7 1, 3) := by decide +kernel
theorem dX12_runs_286 : decode cX12_runs 286 = .ok (.goto (-59), 3) := by decide +kernel
theorem dX12_runs_289 : decode cX12_runs 289 = .ok (.iload 6, 2) := by decide +kernel
theorem dX12_runs_291 : decode cX12_runs 291 = .ok (.ireturn, 1) := by decide +kernel
theorem dX12_loan_0 : decode cX12_loan 0 = .ok (.iload_n 1, 1) := by decide +kernel
theorem dX12_loan_1 : decode cX12_loan 1 = .ok (.iconst 1, 1) := by decide +kernel
theorem dX12_loan_2 : decode cX12_loan 2 = .ok (.sipush 9999, 3) := by decide +kernel
theorem dX12_loan_5 : decode cX12_loan 5 = .ok (.invokestatic 66, 3) := by decide +kernel
theorem dX12_loan_8 : decode cX12_loan 8 = .ok (.ifCond .eq 20, 3) := by decide +kernel
theorem dX12_loan_11 : decode cX12_loan 11 = .ok (.iload_n 2, 1) := by decide +kernel
theorem dX12_loan_12 : decode cX12_loan 12 = .ok (.invokestatic 145, 3) := by decide +kernel
theorem dX12_loan_15 : decode cX12_loan 15 = .ok (.ifCond .eq 13, 3) := by decide +kernel
theorem dX12_loan_18 : decode cX12_loan 18 = .ok (.iload_n 3, 1) := by decide +kernel
theorem dX12_loan_19 : decode cX12_loan 19 = .ok (.iconst 0, 1) := by decide +kernel
theorem dX12_loan_20 : decode cX12_loan 20 = .ok (.bipush 40, 2) := by decide +kernel
theorem dX12_loan_22 : decode cX12_loan 22 = .ok (.invokestatic 66, 3) := by decide +kernel
theorem dX12_loan_25 : decode cX12_loan 25 = .ok (.ifCond .ne 6, 3) := by decide +kernel
theorem dX12_loan_28 : decode cX12_loan 28 = .ok (.bipush (-2), 2) := by decide +kernel
theorem dX12_loan_30 : decode cX12_loan 30 = .ok (.ireturn, 1) := by decide +kernel
theorem dX12_loan_31 : decode cX12_loan 31 = .ok (.aload_n 0, 1) := by decide +kernel
theorem dX12_loan_32 : decode cX12_loan 32 = .ok (.getfield 7, 3) := by decide +kernel
theorem dX12_loan_35 : decode cX12_loan 35 = .ok (.bipush 8, 2) := by decide +kernel
theorem dX12_loan_37 : decode cX12_loan 37 = .ok (.iaload, 1) := by decide +kernel
theorem dX12_loan_38 : decode cX12_loan 38 = .ok (.bipush 6, 2) := by decide +kernel
theorem dX12_loan_40 : decode cX12_loan 40 = .ok (.if_icmp .ne 6, 3) := by decide +kernel
theorem dX12_loan_43 : decode cX12_loan 43 = .ok (.bipush (-4), 2) := by decide +kernel
theorem dX12_loan_45 : decode cX12_loan 45 = .ok (.ireturn, 1) := by decide +kernel
theorem dX12_loan_46 : decode cX12_loan 46 = .ok (.aload_n 0, 1) := by decide +kernel
theorem dX12_loan_47 : decode cX12_loan 47 = .ok (.getfield 7, 3) := by decide +kernel
theorem dX12_loan_50 : decode cX12_loan 50 = .ok (.bipush 8, 2) := by decide +kernel
theorem dX12_loan_52 : decode cX12_loan 52 = .ok (.iaload, 1) := by decide +kernel
theorem dX12_loan_53 : decode cX12_loan 53 = .ok (.istore 4, 2) := by decide +kernel
theorem dX12_loan_55 : decode cX12_loan 55 = .ok (.aload_n 0, 1) := by decide +kernel
theorem dX12_loan_56 : decode cX12_loan 56 = .ok (.getfield 7, 3) := by decide +kernel
theorem dX12_loan_59 : decode cX12_loan 59 = .ok (.sipush 3160, 3) := by decide +kernel
theorem dX12_loan_62 : decode cX12_loan 62 = .ok (.iload 4, 2) := by decide +kernel
theorem dX12_loan_64 : decode cX12_loan 64 = .ok (.iadd, 1) := by decide +kernel
theorem dX12_loan_65 : decode cX12_loan 65 = .ok (.iload_n 1, 1) := by decide +kernel
theorem dX12_loan_66 : decode cX12_loan 66 = .ok (.iastore, 1) := by decide +kernel
theorem dX12_loan_67 : decode cX12_loan 67 = .ok (.aload_n 0, 1) := by decide +kernel
theorem dX12_loan_68 : decode cX12_loan 68 = .ok (.getfield 7, 3) := by decide +kernel
theorem dX12_loan_71 : decode cX12_loan 71 = .ok (.sipush 3166, 3) := by decide +kernel
theorem dX12_loan_74 : decode cX12_loan 74 = .ok (.iload 4, 2) := by decide +kernel
theorem dX12_loan_76 : decode cX12_loan 76 = .ok (.iadd, 1) := by decide +kernel
theorem dX12_loan_77 : decode cX12_loan 77 = .ok (.iload_n 2, 1) := by decide +kernel
theorem dX12_loan_78 : decode cX12_loan 78 = .ok (.iastore, 1) := by decide +kernel
theorem dX12_loan_79 : decode cX12_loan 79 = .ok (.aload_n 0, 1) := by decide +kernel
theorem dX12_loan_80 : decode cX12_loan 80 = .ok (.getfield 7, 3) := by decide +kernel
theorem dX12_loan_83 : decode cX12_loan 83 = .ok (.sipush 3172, 3) := by decide +kernel
theorem dX12_loan_86 : decode cX12_loan 86 = .ok (.iload 4, 2) := by decide +kernel
theorem dX12_loan_88 : decode cX12_loan 88 = .ok (.iadd, 1) := by decide +kernel
theorem dX12_loan_89 : decode cX12_loan 89 = .ok (.iload_n 3, 1) := by decide +kernel
theorem dX12_loan_90 : decode cX12_loan 90 = .ok (.iastore, 1) := by decide +kernel
theorem dX12_loan_91 : decode cX12_loan 91 = .ok (.aload_n 0, 1) := by decide +kernel
theorem dX12_loan_92 : decode cX12_loan 92 = .ok (.getfield 7, 3) := by decide +kernel
theorem dX12_loan_95 : decode cX12_loan 95 = .ok (.bipush 8, 2) := by decide +kernel
theorem dX12_loan_97 : decode cX12_loan 97 = .ok (.dup2, 1) := by decide +kernel
theorem dX12_loan_98 : decode cX12_loan 98 = .ok (.iaload, 1) := by decide +kernel
theorem dX12_loan_99 : decode cX12_loan 99 = .ok (.iconst 1, 1) := by decide +kernel
theorem dX12_loan_100 : decode cX12_loan 100 = .ok (.iadd, 1) := by decide +kernel
theorem dX12_loan_101 : decode cX12_loan 101 = .ok (.iastore, 1) := by decide +kernel
theorem dX12_loan_102 : decode cX12_loan 102 = .ok (.iload 4, 2) := by decide +kernel
theorem dX12_loan_104 : decode cX12_loan 104 = .ok (.ireturn, 1) := by decide +kernel
theorem dX12_paidOn_0 : decode cX12_paidOn 0 = .ok (.iconst 0, 1) := by decide +kernel
theorem dX12_paidOn_1 : decode cX12_paidOn 1 = .ok (.istore_n 3, 1) := by decide +kernel
theorem dX12_paidOn_2 : decode cX12_paidOn 2 = .ok (.iconst 0, 1) := by decide +kernel
theorem dX12_paidOn_3 : decode cX12_paidOn 3 = .ok (.istore 4, 2) := by decide +kernel
theorem dX12_paidOn_5 : decode cX12_paidOn 5 = .ok (.iload 4, 2) := by decide +kernel
theorem dX12_paidOn_7 : decode cX12_paidOn 7 = .ok (.aload_n 0, 1) := by decide +kernel
theorem dX12_paidOn_8 : decode cX12_paidOn 8 = .ok (.getfield 7, 3) := by decide +kernel
theorem dX12_paidOn_11 : decode cX12_paidOn 11 = .ok (.bipush 11, 2) := by decide +kernel
theorem dX12_paidOn_13 : decode cX12_paidOn 13 = .ok (.iaload, 1) := by decide +kernel
theorem dX12_paidOn_14 : decode cX12_paidOn 14 = .ok (.if_icmp .ge 57, 3) := by decide +kernel
theorem dX12_paidOn_17 : decode cX12_paidOn 17 = .ok (.iload_n 3, 1) := by decide +kernel
theorem dX12_paidOn_18 : decode cX12_paidOn 18 = .ok (.aload_n 0, 1) := by decide +kernel
theorem dX12_paidOn_19 : decode cX12_paidOn 19 = .ok (.getfield 7, 3) := by decide +kernel
theorem dX12_paidOn_22 : decode cX12_paidOn 22 = .ok (.sipush 3180, 3) := by decide +kernel
theorem dX12_paidOn_25 : decode cX12_paidOn 25 = .ok (.iload 4, 2) := by decide +kernel
theorem dX12_paidOn_27 : decode cX12_paidOn 27 = .ok (.iadd, 1) := by decide +kernel
theorem dX12_paidOn_28 : decode cX12_paidOn 28 = .ok (.iaload, 1) := by decide +kernel
theorem dX12_paidOn_29 : decode cX12_paidOn 29 = .ok (.iload_n 1, 1) := by decide +kernel
theorem dX12_paidOn_30 : decode cX12_paidOn 30 = .ok (.if_icmp .ne 32, 3) := by decide +kernel
theorem dX12_paidOn_33 : decode cX12_paidOn 33 = .ok (.aload_n 0, 1) := by decide +kernel
theorem dX12_paidOn_34 : decode cX12_paidOn 34 = .ok (.getfield 7, 3) := by decide +kernel
theorem dX12_paidOn_37 : decode cX12_paidOn 37 = .ok (.sipush 3200, 3) := by decide +kernel
theorem dX12_paidOn_40 : decode cX12_paidOn 40 = .ok (.iload 4, 2) := by decide +kernel
theorem dX12_paidOn_42 : decode cX12_paidOn 42 = .ok (.iadd, 1) := by decide +kernel
theorem dX12_paidOn_43 : decode cX12_paidOn 43 = .ok (.iaload, 1) := by decide +kernel
theorem dX12_paidOn_44 : decode cX12_paidOn 44 = .ok (.iload_n 2, 1) := by decide +kernel
theorem dX12_paidOn_45 : decode cX12_paidOn 45 = .ok (.if_icmp .ne 17, 3) := by decide +kernel
theorem dX12_paidOn_48 : decode cX12_paidOn 48 = .ok (.aload_n 0, 1) := by decide +kernel
theorem dX12_paidOn_49 : decode cX12_paidOn 49 = .ok (.getfield 7, 3) := by decide +kernel
theorem dX12_paidOn_52 : decode cX12_paidOn 52 = .ok (.sipush 3220, 3) := by decide +kernel
theorem dX12_paidOn_55 : decode cX12_paidOn 55 = .ok (.iload 4, 2) := by decide +kernel
theorem dX12_paidOn_57 : decode cX12_paidOn 57 = .ok (.iadd, 1) := by decide +kernel
theorem dX12_paidOn_58 : decode cX12_paidOn 58 = .ok (.iaload, 1) := by decide +kernel
theorem dX12_paidOn_59 : decode cX12_paidOn 59 = .ok (.goto 4, 3) := by decide +kernel
theorem dX12_paidOn_62 : decode cX12_paidOn 62 = .ok (.iconst 0, 1) := by decide +kernel
theorem dX12_paidOn_63 : decode cX12_paidOn 63 = .ok (.iadd, 1) := by decide +kernel
theorem dX12_paidOn_64 : decode cX12_paidOn 64 = .ok (.istore_n 3, 1) := by decide +kernel
theorem dX12_paidOn_65 : decode cX12_paidOn 65 = .ok (.iinc 4 1, 3) := by decide +kernel
theorem dX12_paidOn_68 : decode cX12_paidOn 68 = .ok (.goto (-63), 3) := by decide +kernel
theorem dX12_paidOn_71 : decode cX12_paidOn 71 = .ok (.iload_n 3, 1) := by decide +kernel
theorem dX12_paidOn_72 : decode cX12_paidOn 72 = .ok (.ireturn, 1) := by decide +kernel
theorem dX12_pay_0 : decode cX12_pay 0 = .ok (.iload_n 1, 1) := by decide +kernel
theorem dX12_pay_1 : decode cX12_pay 1 = .ok (.iconst 0, 1) := by decide +kernel
theorem dX12_pay_2 : decode cX12_pay 2 = .ok (.aload_n 0, 1) := by decide +kernel
theorem dX12_pay_3 : decode cX12_pay 3 = .ok (.getfield 7, 3) := by decide +kernel
theorem dX12_pay_6 : decode cX12_pay 6 = .ok (.bipush 8, 2) := by decide +kernel
theorem dX12_pay_8 : decode cX12_pay 8 = .ok (.iaload, 1) := by decide +kernel
theorem dX12_pay_9 : decode cX12_pay 9 = .ok (.iconst 1, 1) := by decide +kernel
theorem dX12_pay_10 : decode cX12_pay 10 = .ok (.isub, 1) := by decide +kernel
theorem dX12_pay_11 : decode cX12_pay 11 = .ok (.invokestatic 66, 3) := by decide +kernel
theorem dX12_pay_14 : decode cX12_pay 14 = .ok (.ifCond .ne 5, 3) := by decide +kernel
theorem dX12_pay_17 : decode cX12_pay 17 = .ok (.iconst (-1), 1) := by decide +kernel
theorem dX12_pay_18 : decode cX12_pay 18 = .ok (.ireturn, 1) := by decide +kernel
theorem dX12_pay_19 : decode cX12_pay 19 = .ok (.iload_n 2, 1) := by decide +kernel
theorem dX12_pay_20 : decode cX12_pay 20 = .ok (.aload_n 0, 1) := by decide +kernel
theorem dX12_pay_21 : decode cX12_pay 21 = .ok (.getfield 7, 3) := by decide +kernel
theorem dX12_pay_24 : decode cX12_pay 24 = .ok (.sipush 3166, 3) := by decide +kernel
theorem dX12_pay_27 : decode cX12_pay 27 = .ok (.iload_n 1, 1) := by decide +kernel
theorem dX12_pay_28 : decode cX12_pay 28 = .ok (.iadd, 1) := by decide +kernel
theorem dX12_pay_29 : decode cX12_pay 29 = .ok (.iaload, 1) := by decide +kernel
theorem dX12_pay_30 : decode cX12_pay 30 = .ok (.sipush 999, 3) := by decide +kernel
theorem dX12_pay_33 : decode cX12_pay 33 = .ok (.invokestatic 66, 3) := by decide +kernel
theorem dX12_pay_36 : decode cX12_pay 36 = .ok (.ifCond .eq 14, 3) := by decide +kernel
theorem dX12_pay_39 : decode cX12_pay 39 = .ok (.iload_n 3, 1) := by decide +kernel
theorem dX12_pay_40 : decode cX12_pay 40 = .ok (.iconst 1, 1) := by decide +kernel
theorem dX12_pay_41 : decode cX12_pay 41 = .ok (.sipush 9999, 3) := by decide +kernel
theorem dX12_pay_44 : decode cX12_pay 44 = .ok (.invokestatic 66, 3) := by decide +kernel
theorem dX12_pay_47 : decode cX12_pay 47 = .ok (.ifCond .ne 6, 3) := by decide +kernel
theorem dX12_pay_50 : decode cX12_pay 50 = .ok (.bipush (-2), 2) := by decide +kernel
theorem dX12_pay_52 : decode cX12_pay 52 = .ok (.ireturn, 1) := by decide +kernel
theorem dX12_pay_53 : decode cX12_pay 53 = .ok (.aload_n 0, 1) := by decide +kernel
theorem dX12_pay_54 : decode cX12_pay 54 = .ok (.getfield 7, 3) := by decide +kernel
theorem dX12_pay_57 : decode cX12_pay 57 = .ok (.bipush 11, 2) := by decide +kernel
theorem dX12_pay_59 : decode cX12_pay 59 = .ok (.iaload, 1) := by decide +kernel
theorem dX12_pay_60 : decode cX12_pay 60 = .ok (.bipush 20, 2) := by decide +kernel
theorem dX12_pay_62 : decode cX12_pay 62 = .ok (.if_icmp .ne 6, 3) := by decide +kernel
theorem dX12_pay_65 : decode cX12_pay 65 = .ok (.bipush (-4), 2) := by decide +kernel
theorem dX12_pay_67 : decode cX12_pay 67 = .ok (.ireturn, 1) := by decide +kernel
theorem dX12_pay_68 : decode cX12_pay 68 = .ok (.aload_n 0, 1) := by decide +kernel
theorem dX12_pay_69 : decode cX12_pay 69 = .ok (.getfield 7, 3) := by decide +kernel
theorem dX12_pay_72 : decode cX12_pay 72 = .ok (.sipush 3180, 3) := by decide +kernel
theorem dX12_pay_75 : decode cX12_pay 75 = .ok (.aload_n 0, 1) := by decide +kernel
theorem dX12_pay_76 : decode cX12_pay 76 = .ok (.getfield 7, 3) := by decide +kernel
theorem dX12_pay_79 : decode cX12_pay 79 = .ok (.bipush 11, 2) := by decide +kernel
theorem dX12_pay_81 : decode cX12_pay 81 = .ok (.iaload, 1) := by decide +kernel
theorem dX12_pay_82 : decode cX12_pay 82 = .ok (.iadd, 1) := by decide +kernel
theorem dX12_pay_83 : decode cX12_pay 83 = .ok (.iload_n 1, 1) := by decide +kernel
theorem dX12_pay_84 : decode cX12_pay 84 = .ok (.iastore, 1) := by decide +kernel
theorem dX12_pay_85 : decode cX12_pay 85 = .ok (.aload_n 0, 1) := by decide +kernel
theorem dX12_pay_86 : decode cX12_pay 86 = .ok (.getfield 7, 3) := by decide +kernel
theorem dX12_pay_89 : decode cX12_pay 89 = .ok (.sipush 3200, 3) := by decide +kernel
theorem dX12_pay_92 : decode cX12_pay 92 = .ok (.aload_n 0, 1) := by decide +kernel
theorem dX12_pay_93 : decode cX12_pay 93 = .ok (.getfield 7, 3) := by decide +kernel
theorem dX12_pay_96 : decode cX12_pay 96 = .ok (.bipush 11, 2) := by decide +kernel
theorem dX12_pay_98 : decode cX12_pay 98 = .ok (.iaload, 1) := by decide +kernel
theorem dX12_pay_99 : decode cX12_pay 99 = .ok (.iadd, 1) := by decide +kernel
theorem dX12_pay_100 : decode cX12_pay 100 = .ok (.iload_n 2, 1) := by decide +kernel
theorem dX12_pay_101 : decode cX12_pay 101 = .ok (.iastore, 1) := by decide +kernel
theorem dX12_pay_102 : decode cX12_pay 102 = .ok (.aload_n 0, 1) := by decide +kernel
theorem dX12_pay_103 : decode cX12_pay 103 = .ok (.getfield 7, 3) := by decide +kernel
theorem dX12_pay_106 : decode cX12_pay 106 = .ok (.sipush 3220, 3) := by decide +kernel
theorem dX12_pay_109 : decode cX12_pay 109 = .ok (.aload_n 0, 1) := by decide +kernel
theorem dX12_pay_110 : decode cX12_pay 110 = .ok (.getfield 7, 3) := by decide +kernel
theorem dX12_pay_113 : decode cX12_pay 113 = .ok (.bipush 11, 2) := by decide +kernel
theorem dX12_pay_115 : decode cX12_pay 115 = .ok (.iaload, 1) := by decide +kernel
theorem dX12_pay_116 : decode cX12_pay 116 = .ok (.iadd, 1) := by decide +kernel
theorem dX12_pay_117 : decode cX12_pay 117 = .ok (.iload_n 3, 1) := by decide +kernel
theorem dX12_pay_118 : decode cX12_pay 118 = .ok (.iastore, 1) := by decide +kernel
theorem dX12_pay_119 : decode cX12_pay 119 = .ok (.aload_n 0, 1) := by decide +kernel
theorem dX12_pay_120 : decode cX12_pay 120 = .ok (.getfield 7, 3) := by decide +kernel
theorem dX12_pay_123 : decode cX12_pay 123 = .ok (.bipush 11, 2) := by decide +kernel
theorem dX12_pay_125 : decode cX12_pay 125 = .ok (.dup2, 1) := by decide +kernel
theorem dX12_pay_126 : decode cX12_pay 126 = .ok (.iaload, 1) := by decide +kernel
theorem dX12_pay_127 : decode cX12_pay 127 = .ok (.iconst 1, 1) := by decide +kernel
theorem dX12_pay_128 : decode cX12_pay 128 = .ok (.iadd, 1) := by decide +kernel
theorem dX12_pay_129 : decode cX12_pay 129 = .ok (.iastore, 1) := by decide +kernel
theorem dX12_pay_130 : decode cX12_pay 130 = .ok (.aload_n 0, 1) := by decide +kernel
theorem dX12_pay_131 : decode cX12_pay 131 = .ok (.iload_n 1, 1) := by decide +kernel
theorem dX12_pay_132 : decode cX12_pay 132 = .ok (.iload_n 2, 1) := by decide +kernel
theorem dX12_pay_133 : decode cX12_pay 133 = .ok (.invokevirtual 263, 3) := by decide +kernel
theorem dX12_pay_136 : decode cX12_pay 136 = .ok (.ireturn, 1) := by decide +kernel
theorem dX12_owe_0 : decode cX12_owe 0 = .ok (.iload_n 1, 1) := by decide +kernel
theorem dX12_owe_1 : decode cX12_owe 1 = .ok (.iconst 0, 1) := by decide +kernel
theorem dX12_owe_2 : decode cX12_owe 2 = .ok (.aload_n 0, 1) := by decide +kernel
theorem dX12_owe_3 : decode cX12_owe 3 = .ok (.getfield 7, 3) := by decide +kernel
theorem dX12_owe_6 : decode cX12_owe 6 = .ok (.bipush 8, 2) := by decide +kernel
theorem dX12_owe_8 : decode cX12_owe 8 = .ok (.iaload, 1) := by decide +kernel
theorem dX12_owe_9 : decode cX12_owe 9 = .ok (.iconst 1, 1) := by decide +kernel
theorem dX12_owe_10 : decode cX12_owe 10 = .ok (.isub, 1) := by decide +kernel
theorem dX12_owe_11 : decode cX12_owe 11 = .ok (.invokestatic 66, 3) := by decide +kernel
theorem dX12_owe_14 : decode cX12_owe 14 = .ok (.ifCond .ne 5, 3) := by decide +kernel
theorem dX12_owe_17 : decode cX12_owe 17 = .ok (.iconst (-1), 1) := by decide +kernel
theorem dX12_owe_18 : decode cX12_owe 18 = .ok (.ireturn, 1) := by decide +kernel
theorem dX12_owe_19 : decode cX12_owe 19 = .ok (.iload_n 2, 1) := by decide +kernel
theorem dX12_owe_20 : decode cX12_owe 20 = .ok (.invokestatic 145, 3) := by decide +kernel
theorem dX12_owe_23 : decode cX12_owe 23 = .ok (.ifCond .ne 6, 3) := by decide +kernel
theorem dX12_owe_26 : decode cX12_owe 26 = .ok (.bipush (-2), 2) := by decide +kernel
theorem dX12_owe_28 : decode cX12_owe 28 = .ok (.ireturn, 1) := by decide +kernel
theorem dX12_owe_29 : decode cX12_owe 29 = .ok (.iload_n 2, 1) := by decide +kernel
theorem dX12_owe_30 : decode cX12_owe 30 = .ok (.aload_n 0, 1) := by decide +kernel
theorem dX12_owe_31 : decode cX12_owe 31 = .ok (.getfield 7, 3) := by decide +kernel
theorem dX12_owe_34 : decode cX12_owe 34 = .ok (.sipush 3166, 3) := by decide +kernel
theorem dX12_owe_37 : decode cX12_owe 37 = .ok (.iload_n 1, 1) := by decide +kernel
theorem dX12_owe_38 : decode cX12_owe 38 = .ok (.iadd, 1) := by decide +kernel
theorem dX12_owe_39 : decode cX12_owe 39 = .ok (.iaload, 1) := by decide +kernel
theorem dX12_owe_40 : decode cX12_owe 40 = .ok (.if_icmp .ge 7, 3) := by decide +kernel
theorem dX12_owe_43 : decode cX12_owe 43 = .ok (.iconst 0, 1) := by decide +kernel
theorem dX12_owe_44 : decode cX12_owe 44 = .ok (.goto 13, 3) := by decide +kernel
theorem dX12_owe_47 : decode cX12_owe 47 = .ok (.aload_n 0, 1) := by decide +kernel
theorem dX12_owe_48 : decode cX12_owe 48 = .ok (.getfield 7, 3) := by decide +kernel
theorem dX12_owe_51 : decode cX12_owe 51 = .ok (.sipush 3160, 3) := by decide +kernel
theorem dX12_owe_54 : decode cX12_owe 54 = .ok (.iload_n 1, 1) := by decide +kernel
theorem dX12_owe_55 : decode cX12_owe 55 = .ok (.iadd, 1) := by decide +kernel
theorem dX12_owe_56 : decode cX12_owe 56 = .ok (.iaload, 1) := by decide +kernel
theorem dX12_owe_57 : decode cX12_owe 57 = .ok (.istore_n 3, 1) := by decide +kernel
theorem dX12_owe_58 : decode cX12_owe 58 = .ok (.aload_n 0, 1) := by decide +kernel
theorem dX12_owe_59 : decode cX12_owe 59 = .ok (.getfield 7, 3) := by decide +kernel
theorem dX12_owe_62 : decode cX12_owe 62 = .ok (.sipush 3166, 3) := by decide +kernel
theorem dX12_owe_65 : decode cX12_owe 65 = .ok (.iload_n 1, 1) := by decide +kernel
theorem dX12_owe_66 : decode cX12_owe 66 = .ok (.iadd, 1) := by decide +kernel
theorem dX12_owe_67 : decode cX12_owe 67 = .ok (.iaload, 1) := by decide +kernel
theorem dX12_owe_68 : decode cX12_owe 68 = .ok (.istore 4, 2) := by decide +kernel
theorem dX12_owe_70 : decode cX12_owe 70 = .ok (.iload 4, 2) := by decide +kernel
theorem dX12_owe_72 : decode cX12_owe 72 = .ok (.iload_n 2, 1) := by decide +kernel
theorem dX12_owe_73 : decode cX12_owe 73 = .ok (.if_icmp .gt 98, 3) := by decide +kernel
theorem dX12_owe_76 : decode cX12_owe 76 = .ok (.iload_n 3, 1) := by decide +kernel
theorem dX12_owe_77 : decode cX12_owe 77 = .ok (.aload_n 0, 1) := by decide +kernel
theorem dX12_owe_78 : decode cX12_owe 78 = .ok (.iload_n 1, 1) := by decide +kernel
theorem dX12_owe_79 : decode cX12_owe 79 = .ok (.iload 4, 2) := by decide +kernel
theorem dX12_owe_81 : decode cX12_owe 81 = .ok (.invokevirtual 263, 3) := by decide +kernel
theorem dX12_owe_84 : decode cX12_owe 84 = .ok (.isub, 1) := by decide +kernel
theorem dX12_owe_85 : decode cX12_owe 85 = .ok (.istore_n 3, 1) := by decide +kernel
theorem dX12_owe_86 : decode cX12_owe 86 = .ok (.iload_n 3, 1) := by decide +kernel
theorem dX12_owe_87 : decode cX12_owe 87 = .ok (.ifCond .ge 7, 3) := by decide +kernel
theorem dX12_owe_90 : decode cX12_owe 90 = .ok (.iconst 0, 1) := by decide +kernel
theorem dX12_owe_91 : decode cX12_owe 91 = .ok (.goto 4, 3) := by decide +kernel
theorem dX12_owe_94 : decode cX12_owe 94 = .ok (.iload_n 3, 1) := by decide +kernel
theorem dX12_owe_95 : decode cX12_owe 95 = .ok (.istore_n 3, 1) := by decide +kernel
theorem dX12_owe_96 : decode cX12_owe 96 = .ok (.iload 4, 2) := by decide +kernel
theorem dX12_owe_98 : decode cX12_owe 98 = .ok (.aload_n 0, 1) := by decide +kernel
theorem dX12_owe_99 : decode cX12_owe 99 = .ok (.getfield 7, 3) := by decide +kernel
theorem dX12_owe_102 : decode cX12_owe 102 = .ok (.sipush 3166, 3) := by decide +kernel
theorem dX12_owe_105 : decode cX12_owe 105 = .ok (.iload_n 1, 1) := by decide +kernel
theorem dX12_owe_106 : decode cX12_owe 106 = .ok (.iadd, 1) := by decide +kernel
theorem dX12_owe_107 : decode cX12_owe 107 = .ok (.iaload, 1) := by decide +kernel
theorem dX12_owe_108 : decode cX12_owe 108 = .ok (.if_icmp .le 27, 3) := by decide +kernel
theorem dX12_owe_111 : decode cX12_owe 111 = .ok (.iload 4, 2) := by decide +kernel
theorem dX12_owe_113 : decode cX12_owe 113 = .ok (.aload_n 0, 1) := by decide +kernel
theorem dX12_owe_114 : decode cX12_owe 114 = .ok (.getfield 7, 3) := by decide +kernel
theorem dX12_owe_117 : decode cX12_owe 117 = .ok (.sipush 3166, 3) := by decide +kernel
theorem dX12_owe_120 : decode cX12_owe 120 = .ok (.iload_n 1, 1) := by decide +kernel
theorem dX12_owe_121 : decode cX12_owe 121 = .ok (.iadd, 1) := by decide +kernel
theorem dX12_owe_122 : decode cX12_owe 122 = .ok (.iaload, 1) := by decide +kernel
theorem dX12_owe_123 : decode cX12_owe 123 = .ok (.isub, 1) := by decide +kernel
theorem dX12_owe_124 : decode cX12_owe 124 = .ok (.sipush 360, 3) := by decide +kernel
theorem dX12_owe_127 : decode cX12_owe 127 = .ok (.irem, 1) := by decide +kernel
theorem dX12_owe_128 : decode cX12_owe 128 = .ok (.ifCond .ne 7, 3) := by decide +kernel
theorem dX12_owe_131 : decode cX12_owe 131 = .ok (.iconst 1, 1) := by decide +kernel
theorem dX12_owe_132 : decode cX12_owe 132 = .ok (.goto 4, 3) := by decide +kernel
theorem dX12_owe_135 : decode cX12_owe 135 = .ok (.iconst 0, 1) := by decide +kernel
theorem dX12_owe_136 : decode cX12_owe 136 = .ok (.istore 5, 2) := by decide +kernel
theorem dX12_owe_138 : decode cX12_owe 138 = .ok (.iload_n 3, 1) := by decide +kernel
theorem dX12_owe_139 : decode cX12_owe 139 = .ok (.iload 5, 2) := by decide +kernel
theorem dX12_owe_141 : decode cX12_owe 141 = .ok (.ifCond .eq 21, 3) := by decide +kernel
theorem dX12_owe_144 : decode cX12_owe 144 = .ok (.iload_n 3, 1) := by decide +kernel
theorem dX12_owe_145 : decode cX12_owe 145 = .ok (.aload_n 0, 1) := by decide +kernel
theorem dX12_owe_146 : decode cX12_owe 146 = .ok (.getfield 7, 3) := by decide +kernel
theorem dX12_owe_149 : decode cX12_owe 149 = .ok (.sipush 3172, 3) := by decide +kernel
theorem dX12_owe_152 : decode cX12_owe 152 = .ok (.iload_n 1, 1) := by decide +kernel
theorem dX12_owe_153 : decode cX12_owe 153 = .ok (.iadd, 1) := by decide +kernel
theorem dX12_owe_154 : decode cX12_owe 154 = .ok (.iaload, 1) := by decide +kernel
theorem dX12_owe_155 : decode cX12_owe 155 = .ok (.imul, 1) := by decide +kernel
theorem dX12_owe_156 : decode cX12_owe 156 = .ok (.bipush 100, 2) := by decide +kernel
theorem dX12_owe_158 : decode cX12_owe 158 = .ok (.idiv, 1) := by decide +kernel
theorem dX12_owe_159 : decode cX12_owe 159 = .ok (.goto 4, 3) := by decide +kernel
theorem dX12_owe_162 : decode cX12_owe 162 = .ok (.iconst 0, 1) := by decide +kernel
theorem dX12_owe_163 : decode cX12_owe 163 = .ok (.iadd, 1) := by decide +kernel
theorem dX12_owe_164 : decode cX12_owe 164 = .ok (.istore_n 3, 1) := by decide +kernel
theorem dX12_owe_165 : decode cX12_owe 165 = .ok (.iinc 4 1, 3) := by decide +kernel
theorem dX12_owe_168 : decode cX12_owe 168 = .ok (.goto (-98), 3) := by decide +kernel
theorem dX12_owe_171 : decode cX12_owe 171 = .ok (.iload_n 3, 1) := by decide +kernel
theorem dX12_owe_172 : decode cX12_owe 172 = .ok (.ireturn, 1) := by decide +kernel
theorem dX12_thing_0 : decode cX12_thing 0 = .ok (.iload_n 1, 1) := by decide +kernel
theorem dX12_thing_1 : decode cX12_thing 1 = .ok (.iconst 0, 1) := by decide +kernel
theorem dX12_thing_2 : decode cX12_thing 2 = .ok (.bipush 7, 2) := by decide +kernel
theorem dX12_thing_4 : decode cX12_thing 4 = .ok (.invokestatic 66, 3) := by decide +kernel
theorem dX12_thing_7 : decode cX12_thing 7 = .ok (.ifCond .ne 5, 3) := by decide +kernel
theorem dX12_thing_10 : decode cX12_thing 10 = .ok (.iconst (-1), 1) := by decide +kernel
theorem dX12_thing_11 : decode cX12_thing 11 = .ok (.ireturn, 1) := by decide +kernel
theorem dX12_thing_12 : decode cX12_thing 12 = .ok (.iload_n 2, 1) := by decide +kernel
theorem dX12_thing_13 : decode cX12_thing 13 = .ok (.iconst 0, 1) := by decide +kernel
theorem dX12_thing_14 : decode cX12_thing 14 = .ok (.sipush 9999, 3) := by decide +kernel
theorem dX12_thing_17 : decode cX12_thing 17 = .ok (.invokestatic 66, 3) := by decide +kernel
theorem dX12_thing_20 : decode cX12_thing 20 = .ok (.ifCond .ne 6, 3) := by decide +kernel
theorem dX12_thing_23 : decode cX12_thing 23 = .ok (.bipush (-2), 2) := by decide +kernel
theorem dX12_thing_25 : decode cX12_thing 25 = .ok (.ireturn, 1) := by decide +kernel
theorem dX12_thing_26 : decode cX12_thing 26 = .ok (.aload_n 0, 1) := by decide +kernel
theorem dX12_thing_27 : decode cX12_thing 27 = .ok (.getfield 7, 3) := by decide +kernel
theorem dX12_thing_30 : decode cX12_thing 30 = .ok (.sipush 3240, 3) := by decide +kernel
theorem dX12_thing_33 : decode cX12_thing 33 = .ok (.iload_n 1, 1) := by decide +kernel
theorem dX12_thing_34 : decode cX12_thing 34 = .ok (.iadd, 1) := by decide +kernel
theorem dX12_thing_35 : decode cX12_thing 35 = .ok (.iaload, 1) := by decide +kernel
theorem dX12_thing_36 : decode cX12_thing 36 = .ok (.istore_n 3, 1) := by decide +kernel
theorem dX12_thing_37 : decode cX12_thing 37 = .ok (.aload_n 0, 1) := by decide +kernel
theorem dX12_thing_38 : decode cX12_thing 38 = .ok (.getfield 7, 3) := by decide +kernel
theorem dX12_thing_41 : decode cX12_thing 41 = .ok (.sipush 3240, 3) := by decide +kernel
theorem dX12_thing_44 : decode cX12_thing 44 = .ok (.iload_n 1, 1) := by decide +kernel
theorem dX12_thing_45 : decode cX12_thing 45 = .ok (.iadd, 1) := by decide +kernel
theorem dX12_thing_46 : decode cX12_thing 46 = .ok (.iload_n 2, 1) := by decide +kernel
theorem dX12_thing_47 : decode cX12_thing 47 = .ok (.iastore, 1) := by decide +kernel
theorem dX12_thing_48 : decode cX12_thing 48 = .ok (.iload_n 3, 1) := by decide +kernel
theorem dX12_thing_49 : decode cX12_thing 49 = .ok (.ireturn, 1) := by decide +kernel
theorem dX12_count1_0 : decode cX12_count1 0 = .ok (.iconst 0, 1) := by decide +kernel
theorem dX12_count1_1 : decode cX12_count1 1 = .ok (.istore_n 1, 1) := by decide +kernel
theorem dX12_count1_2 : decode cX12_count1 2 = .ok (.iconst 0, 1) := by decide +kernel
theorem dX12_count1_3 : decode cX12_count1 3 = .ok (.istore_n 2, 1) := by decide +kernel
theorem dX12_count1_4 : decode cX12_count1 4 = .ok (.iload_n 2, 1) := by decide +kernel
theorem dX12_count1_5 : decode cX12_count1 5 = .ok (.bipush 10, 2) := by decide +kernel
theorem dX12_count1_7 : decode cX12_count1 7 = .ok (.if_icmp .ge 17, 3) := by decide +kernel
theorem dX12_count1_10 : decode cX12_count1 10 = .ok (.iload_n 1, 1) := by decide +kernel
theorem dX12_count1_11 : decode cX12_count1 11 = .ok (.iload_n 0, 1) := by decide +kernel
theorem dX12_count1_12 : decode cX12_count1 12 = .ok (.iload_n 2, 1) := by decide +kernel
theorem dX12_count1_13 : decode cX12_count1 13 = .ok (.ishr, 1) := by decide +kernel
theorem dX12_count1_14 : decode cX12_count1 14 = .ok (.iconst 1, 1) := by decide +kernel
theorem dX12_count1_15 : decode cX12_count1 15 = .ok (.iand, 1) := by decide +kernel
theorem dX12_count1_16 : decode cX12_count1 16 = .ok (.iadd, 1) := by decide +kernel
theorem dX12_count1_17 : decode cX12_count1 17 = .ok (.istore_n 1, 1) := by decide +kernel
theorem dX12_count1_18 : decode cX12_count1 18 = .ok (.iinc 2 1, 3) := by decide +kernel
theorem dX12_count1_21 : decode cX12_count1 21 = .ok (.goto (-17), 3) := by decide +kernel
theorem dX12_count1_24 : decode cX12_count1 24 = .ok (.iload_n 1, 1) := by decide +kernel
theorem dX12_count1_25 : decode cX12_count1 25 = .ok (.ireturn, 1) := by decide +kernel
theorem dX12_suit_0 : decode cX12_suit 0 = .ok (.iload_n 1, 1) := by decide +kernel
theorem dX12_suit_1 : decode cX12_suit 1 = .ok (.iconst 0, 1) := by decide +kernel
theorem dX12_suit_2 : decode cX12_suit 2 = .ok (.ldc_w 266, 3) := by decide +kernel
theorem dX12_suit_5 : decode cX12_suit 5 = .ok (.invokestatic 66, 3) := by decide +kernel
theorem dX12_suit_8 : decode cX12_suit 8 = .ok (.ifCond .ne 6, 3) := by decide +kernel
theorem dX12_suit_11 : decode cX12_suit 11 = .ok (.bipush (-2), 2) := by decide +kernel
theorem dX12_suit_13 : decode cX12_suit 13 = .ok (.ireturn, 1) := by decide +kernel
theorem dX12_suit_14 : decode cX12_suit 14 = .ok (.bipush (-5), 2) := by decide +kernel
theorem dX12_suit_16 : decode cX12_suit 16 = .ok (.istore_n 2, 1) := by decide +kernel
theorem dX12_suit_17 : decode cX12_suit 17 = .ok (.iconst 0, 1) := by decide +kernel
theorem dX12_suit_18 : decode cX12_suit 18 = .ok (.istore_n 3, 1) := by decide +kernel
theorem dX12_suit_19 : decode cX12_suit 19 = .ok (.iconst 0, 1) := by decide +kernel
theorem dX12_suit_20 : decode cX12_suit 20 = .ok (.istore 4, 2) := by decide +kernel
theorem dX12_suit_22 : decode cX12_suit 22 = .ok (.iload 4, 2) := by decide +kernel
theorem dX12_suit_24 : decode cX12_suit 24 = .ok (.sipush 256, 3) := by decide +kernel
theorem dX12_suit_27 : decode cX12_suit 27 = .ok (.if_icmp .ge 101, 3) := by decide +kernel
theorem dX12_suit_30 : decode cX12_suit 30 = .ok (.iconst 0, 1) := by decide +kernel
theorem dX12_suit_31 : decode cX12_suit 31 = .ok (.istore 5, 2) := by decide +kernel
theorem dX12_suit_33 : decode cX12_suit 33 = .ok (.iconst 0, 1) := by decide +kernel
theorem dX12_suit_34 : decode cX12_suit 34 = .ok (.istore 6, 2) := by decide +kernel
theorem dX12_suit_36 : decode cX12_suit 36 = .ok (.iload 6, 2) := by decide +kernel
theorem dX12_suit_38 : decode cX12_suit 38 = .ok (.bipush 8, 2) := by decide +kernel
theorem dX12_suit_40 : decode cX12_suit 40 = .ok (.if_icmp .ge 40, 3) := by decide +kernel
theorem dX12_suit_43 : decode cX12_suit 43 = .ok (.iload 5, 2) := by decide +kernel
theorem dX12_suit_45 : decode cX12_suit 45 = .ok (.iload 4, 2) := by decide +kernel
theorem dX12_suit_47 : decode cX12_suit 47 = .ok (.iload 6, 2) := by decide +kernel
theorem dX12_suit_49 : decode cX12_suit 49 = .ok (.ishr, 1) := by decide +kernel
theorem dX12_suit_50 : decode cX12_suit 50 = .ok (.iconst 1, 1) := by decide +kernel
theorem dX12_suit_51 : decode cX12_suit 51 = .ok (.iand, 1) := by decide +kernel
theorem dX12_suit_52 : decode cX12_suit 52 = .ok (.iconst 1, 1) := by decide +kernel
theorem dX12_suit_53 : decode cX12_suit 53 = .ok (.if_icmp .ne 17, 3) := by decide +kernel
theorem dX12_suit_56 : decode cX12_suit 56 = .ok (.aload_n 0, 1) := by decide +kernel
theorem dX12_suit_57 : decode cX12_suit 57 = .ok (.getfield 7, 3) := by decide +kernel
theorem dX12_suit_60 : decode cX12_suit 60 = .ok (.sipush 3240, 3) := by decide +kernel
theorem dX12_suit_63 : decode cX12_suit 63 = .ok (.iload 6, 2) := by decide +kernel
theorem dX12_suit_65 : decode cX12_suit 65 = .ok (.iadd, 1) := by decide +kernel
theorem dX12_suit_66 : decode cX12_suit 66 = .ok (.iaload, 1) := by decide +kernel
theorem dX12_suit_67 : decode cX12_suit 67 = .ok (.goto 4, 3) := by decide +kernel
theorem dX12_suit_70 : decode cX12_suit 70 = .ok (.iconst 0, 1) := by decide +kernel
theorem dX12_suit_71 : decode cX12_suit 71 = .ok (.iadd, 1) := by decide +kernel
theorem dX12_suit_72 : decode cX12_suit 72 = .ok (.istore 5, 2) := by decide +kernel
theorem dX12_suit_74 : decode cX12_suit 74 = .ok (.iinc 6 1, 3) := by decide +kernel
theorem dX12_suit_77 : decode cX12_suit 77 = .ok (.goto (-41), 3) := by decide +kernel
theorem dX12_suit_80 : decode cX12_suit 80 = .ok (.iload 5, 2) := by decide +kernel
theorem dX12_suit_82 : decode cX12_suit 82 = .ok (.iload_n 1, 1) := by decide +kernel
theorem dX12_suit_83 : decode cX12_suit 83 = .ok (.if_icmp .lt 39, 3) := by decide +kernel
theorem dX12_suit_86 : decode cX12_suit 86 = .ok (.iload_n 2, 1) := by decide +kernel
theorem dX12_suit_87 : decode cX12_suit 87 = .ok (.bipush (-5), 2) := by decide +kernel
theorem dX12_suit_89 : decode cX12_suit 89 = .ok (.if_icmp .eq 27, 3) := by decide +kernel
theorem dX12_suit_92 : decode cX12_suit 92 = .ok (.iload 5, 2) := by decide +kernel
theorem dX12_suit_94 : decode cX12_suit 94 = .ok (.iload_n 3, 1) := by decide +kernel
theorem dX12_suit_95 : decode cX12_suit 95 = .ok (.if_icmp .lt 21, 3) := by decide +kernel
theorem dX12_suit_98 : decode cX12_suit 98 = .ok (.iload 5, 2) := by decide +kernel
theorem dX12_suit_100 : decode cX12_suit 100 = .ok (.iload_n 3, 1) := by decide +kernel
theorem dX12_suit_101 : decode cX12_suit 101 = .ok (.if_icmp .ne 21, 3) := by decide +kernel
theorem dX12_suit_104 : decode cX12_suit 104 = .ok (.iload 4, 2) := by decide +kernel
theorem dX12_suit_106 : decode cX12_suit 106 = .ok (.invokestatic 267, 3) := by decide +kernel
theorem dX12_suit_109 : decode cX12_suit 109 = .ok (.iload_n 2, 1) := by decide +kernel
theorem dX12_suit_110 : decode cX12_suit 110 = .ok (.invokestatic 267, 3) := by decide +kernel
theorem dX12_suit_113 : decode cX12_suit 113 = .ok (.if_icmp .ge 9, 3) := by decide +kernel
theorem dX12_suit_116 : decode cX12_suit 116 = .ok (.iload 4, 2) := by decide +kernel
theorem dX12_suit_118 : decode cX12_suit 118 = .ok (.istore_n 2, 1) := by decide +kernel
theorem dX12_suit_119 : decode cX12_suit 119 = .ok (.iload 5, 2) := by decide +kernel
theorem dX12_suit_121 : decode cX12_suit 121 = .ok (.istore_n 3, 1) := by decide +kernel
theorem dX12_suit_122 : decode cX12_suit 122 = .ok (.iinc 4 1, 3) := by decide +kernel
theorem dX12_suit_125 : decode cX12_suit 125 = .ok (.goto (-103), 3) := by decide +kernel
theorem dX12_suit_128 : decode cX12_suit 128 = .ok (.iload_n 2, 1) := by decide +kernel
theorem dX12_suit_129 : decode cX12_suit 129 = .ok (.ireturn, 1) := by decide +kernel
theorem dX12_tried_0 : decode cX12_tried 0 = .ok (.aload_n 0, 1) := by decide +kernel
theorem dX12_tried_1 : decode cX12_tried 1 = .ok (.iload_n 1, 1) := by decide +kernel
theorem dX12_tried_2 : decode cX12_tried 2 = .ok (.invokevirtual 217, 3) := by decide +kernel
theorem dX12_tried_5 : decode cX12_tried 5 = .ok (.ifCond .eq 12, 3) := by decide +kernel
theorem dX12_tried_8 : decode cX12_tried 8 = .ok (.iload_n 2, 1) := by decide +kernel
theorem dX12_tried_9 : decode cX12_tried 9 = .ok (.iconst 0, 1) := by decide +kernel
theorem dX12_tried_10 : decode cX12_tried 10 = .ok (.iconst 1, 1) := by decide +kernel
theorem dX12_tried_11 : decode cX12_tried 11 = .ok (.invokestatic 66, 3) := by decide +kernel
theorem dX12_tried_14 : decode cX12_tried 14 = .ok (.ifCond .ne 5, 3) := by decide +kernel
theorem dX12_tried_17 : decode cX12_tried 17 = .ok (.iconst (-1), 1) := by decide +kernel
theorem dX12_tried_18 : decode cX12_tried 18 = .ok (.ireturn, 1) := by decide +kernel
theorem dX12_tried_19 : decode cX12_tried 19 = .ok (.aload_n 0, 1) := by decide +kernel
theorem dX12_tried_20 : decode cX12_tried 20 = .ok (.aload_n 0, 1) := by decide +kernel
theorem dX12_tried_21 : decode cX12_tried 21 = .ok (.getfield 7, 3) := by decide +kernel
theorem dX12_tried_24 : decode cX12_tried 24 = .ok (.iconst 1, 1) := by decide +kernel
theorem dX12_tried_25 : decode cX12_tried 25 = .ok (.iaload, 1) := by decide +kernel
theorem dX12_tried_26 : decode cX12_tried 26 = .ok (.aload_n 0, 1) := by decide +kernel
theorem dX12_tried_27 : decode cX12_tried 27 = .ok (.getfield 7, 3) := by decide +kernel
theorem dX12_tried_30 : decode cX12_tried 30 = .ok (.iconst 0, 1) := by decide +kernel
theorem dX12_tried_31 : decode cX12_tried 31 = .ok (.iaload, 1) := by decide +kernel
theorem dX12_tried_32 : decode cX12_tried 32 = .ok (.invokevirtual 148, 3) := by decide +kernel
theorem dX12_tried_35 : decode cX12_tried 35 = .ok (.ifCond .ne 11, 3) := by decide +kernel
theorem dX12_tried_38 : decode cX12_tried 38 = .ok (.bipush (-10), 2) := by decide +kernel
theorem dX12_tried_40 : decode cX12_tried 40 = .ok (.aload_n 0, 1) := by decide +kernel
theorem dX12_tried_41 : decode cX12_tried 41 = .ok (.getfield 80, 3) := by decide +kernel
theorem dX12_tried_44 : decode cX12_tried 44 = .ok (.isub, 1) := by decide +kernel
theorem dX12_tried_45 : decode cX12_tried 45 = .ok (.ireturn, 1) := by decide +kernel
theorem dX12_tried_46 : decode cX12_tried 46 = .ok (.aload_n 0, 1) := by decide +kernel
theorem dX12_tried_47 : decode cX12_tried 47 = .ok (.getfield 7, 3) := by decide +kernel
theorem dX12_tried_50 : decode cX12_tried 50 = .ok (.iconst 1, 1) := by decide +kernel
theorem dX12_tried_51 : decode cX12_tried 51 = .ok (.dup2, 1) := by decide +kernel
theorem dX12_tried_52 : decode cX12_tried 52 = .ok (.iaload, 1) := by decide +kernel
theorem dX12_tried_53 : decode cX12_tried 53 = .ok (.iconst 1, 1) := by decide +kernel
theorem dX12_tried_54 : decode cX12_tried 54 = .ok (.iadd, 1) := by decide +kernel
theorem dX12_tried_55 : decode cX12_tried 55 = .ok (.iastore, 1) := by decide +kernel
theorem dX12_tried_56 : decode cX12_tried 56 = .ok (.aload_n 0, 1) := by decide +kernel
theorem dX12_tried_57 : decode cX12_tried 57 = .ok (.iload_n 1, 1) := by decide +kernel
theorem dX12_tried_58 : decode cX12_tried 58 = .ok (.aload_n 0, 1) := by decide +kernel
theorem dX12_tried_59 : decode cX12_tried 59 = .ok (.getfield 7, 3) := by decide +kernel
theorem dX12_tried_62 : decode cX12_tried 62 = .ok (.iconst 0, 1) := by decide +kernel
theorem dX12_tried_63 : decode cX12_tried 63 = .ok (.iaload, 1) := by decide +kernel
theorem dX12_tried_64 : decode cX12_tried 64 = .ok (.invokevirtual 220, 3) := by decide +kernel
theorem dX12_tried_67 : decode cX12_tried 67 = .ok (.istore_n 3, 1) := by decide +kernel
theorem dX12_tried_68 : decode cX12_tried 68 = .ok (.aload_n 0, 1) := by decide +kernel
theorem dX12_tried_69 : decode cX12_tried 69 = .ok (.getfield 7, 3) := by decide +kernel
theorem dX12_tried_72 : decode cX12_tried 72 = .ok (.iconst 1, 1) := by decide +kernel
theorem dX12_tried_73 : decode cX12_tried 73 = .ok (.dup2, 1) := by decide +kernel
theorem dX12_tried_74 : decode cX12_tried 74 = .ok (.iaload, 1) := by decide +kernel
theorem dX12_tried_75 : decode cX12_tried 75 = .ok (.iconst 1, 1) := by decide +kernel
theorem dX12_tried_76 : decode cX12_tried 76 = .ok (.isub, 1) := by decide +kernel
theorem dX12_tried_77 : decode cX12_tried 77 = .ok (.iastore, 1) := by decide +kernel
theorem dX12_tried_78 : decode cX12_tried 78 = .ok (.iload_n 3, 1) := by decide +kernel
theorem dX12_tried_79 : decode cX12_tried 79 = .ok (.ifCond .eq 21, 3) := by decide +kernel
theorem dX12_tried_82 : decode cX12_tried 82 = .ok (.iload_n 2, 1) := by decide +kernel
theorem dX12_tried_83 : decode cX12_tried 83 = .ok (.ifCond .ne 10, 3) := by decide +kernel
theorem dX12_tried_86 : decode cX12_tried 86 = .ok (.aload_n 0, 1) := by decide +kernel
theorem dX12_tried_87 : decode cX12_tried 87 = .ok (.getfield 205, 3) := by decide +kernel
theorem dX12_tried_90 : decode cX12_tried 90 = .ok (.goto 12, 3) := by decide +kernel
theorem dX12_tried_93 : decode cX12_tried 93 = .ok (.aload_n 0, 1) := by decide +kernel
theorem dX12_tried_94 : decode cX12_tried 94 = .ok (.getfield 208, 3) := by decide +kernel
theorem dX12_tried_97 : decode cX12_tried 97 = .ok (.goto 5, 3) := by decide +kernel
theorem dX12_tried_100 : decode cX12_tried 100 = .ok (.bipush (-9), 2) := by decide +kernel
theorem dX12_tried_102 : decode cX12_tried 102 = .ok (.ireturn, 1) := by decide +kernel
theorem dX12_image_0 : decode cX12_image 0 = .ok (.iconst 0, 1) := by decide +kernel
theorem dX12_image_1 : decode cX12_image 1 = .ok (.istore_n 1, 1) := by decide +kernel
theorem dX12_image_2 : decode cX12_image 2 = .ok (.iload_n 1, 1) := by decide +kernel
theorem dX12_image_3 : decode cX12_image 3 = .ok (.sipush 3250, 3) := by decide +kernel
theorem dX12_image_6 : decode cX12_image 6 = .ok (.if_icmp .ge 21, 3) := by decide +kernel
theorem dX12_image_9 : decode cX12_image 9 = .ok (.aload_n 0, 1) := by decide +kernel
theorem dX12_image_10 : decode cX12_image 10 = .ok (.getfield 13, 3) := by decide +kernel
theorem dX12_image_13 : decode cX12_image 13 = .ok (.iload_n 1, 1) := by decide +kernel
theorem dX12_image_14 : decode cX12_image 14 = .ok (.aload_n 0, 1) := by decide +kernel
theorem dX12_image_15 : decode cX12_image 15 = .ok (.getfield 7, 3) := by decide +kernel
theorem dX12_image_18 : decode cX12_image 18 = .ok (.iload_n 1, 1) := by decide +kernel
theorem dX12_image_19 : decode cX12_image 19 = .ok (.iaload, 1) := by decide +kernel
theorem dX12_image_20 : decode cX12_image 20 = .ok (.iastore, 1) := by decide +kernel
theorem dX12_image_21 : decode cX12_image 21 = .ok (.iinc 1 1, 3) := by decide +kernel
theorem dX12_image_24 : decode cX12_image 24 = .ok (.goto (-22), 3) := by decide +kernel
theorem dX12_image_27 : decode cX12_image 27 = .ok (.aload_n 0, 1) := by decide +kernel
theorem dX12_image_28 : decode cX12_image 28 = .ok (.iconst 1, 1) := by decide +kernel
theorem dX12_image_29 : decode cX12_image 29 = .ok (.putfield 270, 3) := by decide +kernel
theorem dX12_image_32 : decode cX12_image 32 = .ok (.aload_n 0, 1) := by decide +kernel
theorem dX12_image_33 : decode cX12_image 33 = .ok (.getfield 7, 3) := by decide +kernel
theorem dX12_image_36 : decode cX12_image 36 = .ok (.iconst 0, 1) := by decide +kernel
theorem dX12_image_37 : decode cX12_image 37 = .ok (.iaload, 1) := by decide +kernel
theorem dX12_image_38 : decode cX12_image 38 = .ok (.ireturn, 1) := by decide +kernel
theorem dX12_undo_0 : decode cX12_undo 0 = .ok (.aload_n 0, 1) := by decide +kernel
theorem dX12_undo_1 : decode cX12_undo 1 = .ok (.getfield 270, 3) := by decide +kernel
theorem dX12_undo_4 : decode cX12_undo 4 = .ok (.ifCond .ne 6, 3) := by decide +kernel
theorem dX12_undo_7 : decode cX12_undo 7 = .ok (.bipush (-3), 2) := by decide +kernel
theorem dX12_undo_9 : decode cX12_undo 9 = .ok (.ireturn, 1) := by decide +kernel
theorem dX12_undo_10 : decode cX12_undo 10 = .ok (.iconst 0, 1) := by decide +kernel
theorem dX12_undo_11 : decode cX12_undo 11 = .ok (.istore_n 1, 1) := by decide +kernel
theorem dX12_undo_12 : decode cX12_undo 12 = .ok (.iload_n 1, 1) := by decide +kernel
theorem dX12_undo_13 : decode cX12_undo 13 = .ok (.sipush 3250, 3) := by decide +kernel
theorem dX12_undo_16 : decode cX12_undo 16 = .ok (.if_icmp .ge 21, 3) := by decide +kernel
theorem dX12_undo_19 : decode cX12_undo 19 = .ok (.aload_n 0, 1) := by decide +kernel
theorem dX12_undo_20 : decode cX12_undo 20 = .ok (.getfield 7, 3) := by decide +kernel
theorem dX12_undo_23 : decode cX12_undo 23 = .ok (.iload_n 1, 1) := by decide +kernel
theorem dX12_undo_24 : decode cX12_undo 24 = .ok (.aload_n 0, 1) := by decide +kernel
theorem dX12_undo_25 : decode cX12_undo 25 = .ok (.getfield 13, 3) := by decide +kernel
theorem dX12_undo_28 : decode cX12_undo 28 = .ok (.iload_n 1, 1) := by decide +kernel
theorem dX12_undo_29 : decode cX12_undo 29 = .ok (.iaload, 1) := by decide +kernel
theorem dX12_undo_30 : decode cX12_undo 30 = .ok (.iastore, 1) := by decide +kernel
theorem dX12_undo_31 : decode cX12_undo 31 = .ok (.iinc 1 1, 3) := by decide +kernel
theorem dX12_undo_34 : decode cX12_undo 34 = .ok (.goto (-22), 3) := by decide +kernel
theorem dX12_undo_37 : decode cX12_undo 37 = .ok (.aload_n 0, 1) := by decide +kernel
theorem dX12_undo_38 : decode cX12_undo 38 = .ok (.getfield 7, 3) := by decide +kernel
theorem dX12_undo_41 : decode cX12_undo 41 = .ok (.iconst 0, 1) := by decide +kernel
theorem dX12_undo_42 : decode cX12_undo 42 = .ok (.iaload, 1) := by decide +kernel
theorem dX12_undo_43 : decode cX12_undo 43 = .ok (.ireturn, 1) := by decide +kernel
theorem dX12_count_0 : decode cX12_count 0 = .ok (.iload_n 1, 1) := by decide +kernel
theorem dX12_count_1 : decode cX12_count 1 = .ok (.tableswitch 138 0 10 #[59, 66, 73, 80, 85, 92, 99, 107, 115, 123, 130], 59) := by decide +kernel
theorem dX12_count_60 : decode cX12_count 60 = .ok (.aload_n 0, 1) := by decide +kernel
theorem dX12_count_61 : decode cX12_count 61 = .ok (.getfield 7, 3) := by decide +kernel
theorem dX12_count_64 : decode cX12_count 64 = .ok (.iconst 1, 1) := by decide +kernel
theorem dX12_count_65 : decode cX12_count 65 = .ok (.iaload, 1) := by decide +kernel
theorem dX12_count_66 : decode cX12_count 66 = .ok (.ireturn, 1) := by decide +kernel
theorem dX12_count_67 : decode cX12_count 67 = .ok (.aload_n 0, 1) := by decide +kernel
theorem dX12_count_68 : decode cX12_count 68 = .ok (.getfield 7, 3) := by decide +kernel
theorem dX12_count_71 : decode cX12_count 71 = .ok (.iconst 2, 1) := by decide +kernel
theorem dX12_count_72 : decode cX12_count 72 = .ok (.iaload, 1) := by decide +kernel
theorem dX12_count_73 : decode cX12_count 73 = .ok (.ireturn, 1) := by decide +kernel
theorem dX12_count_74 : decode cX12_count 74 = .ok (.aload_n 0, 1) := by decide +kernel
theorem dX12_count_75 : decode cX12_count 75 = .ok (.getfield 7, 3) := by decide +kernel
theorem dX12_count_78 : decode cX12_count 78 = .ok (.iconst 3, 1) := by decide +kernel
theorem dX12_count_79 : decode cX12_count 79 = .ok (.iaload, 1) := by decide +kernel
theorem dX12_count_80 : decode cX12_count 80 = .ok (.ireturn, 1) := by decide +kernel
theorem dX12_count_81 : decode cX12_count 81 = .ok (.aload_n 0, 1) := by decide +kernel
theorem dX12_count_82 : decode cX12_count 82 = .ok (.invokevirtual 74, 3) := by decide +kernel
theorem dX12_count_85 : decode cX12_count 85 = .ok (.ireturn, 1) := by decide +kernel
theorem dX12_count_86 : decode cX12_count 86 = .ok (.aload_n 0, 1) := by decide +kernel
theorem dX12_count_87 : decode cX12_count 87 = .ok (.getfield 7, 3) := by decide +kernel
theorem dX12_count_90 : decode cX12_count 90 = .ok (.iconst 4, 1) := by decide +kernel
theorem dX12_count_91 : decode cX12_count 91 = .ok (.iaload, 1) := by decide +kernel
theorem dX12_count_92 : decode cX12_count 92 = .ok (.ireturn, 1) := by decide +kernel
theorem dX12_count_93 : decode cX12_count 93 = .ok (.aload_n 0, 1) := by decide +kernel
theorem dX12_count_94 : decode cX12_count 94 = .ok (.getfield 7, 3) := by decide +kernel
theorem dX12_count_97 : decode cX12_count 97 = .ok (.iconst 5, 1) := by decide +kernel
theorem dX12_count_98 : decode cX12_count 98 = .ok (.iaload, 1) := by decide +kernel
theorem dX12_count_99 : decode cX12_count 99 = .ok (.ireturn, 1) := by decide +kernel
theorem dX12_count_100 : decode cX12_count 100 = .ok (.aload_n 0, 1) := by decide +kernel
theorem dX12_count_101 : decode cX12_count 101 = .ok (.getfield 7, 3) := by decide +kernel
theorem dX12_count_104 : decode cX12_count 104 = .ok (.bipush 6, 2) := by decide +kernel
theorem dX12_count_106 : decode cX12_count 106 = .ok (.iaload, 1) := by decide +kernel
theorem dX12_count_107 : decode cX12_count 107 = .ok (.ireturn, 1) := by decide +kernel
theorem dX12_count_108 : decode cX12_count 108 = .ok (.aload_n 0, 1) := by decide +kernel
theorem dX12_count_109 : decode cX12_count 109 = .ok (.getfield 7, 3) := by decide +kernel
theorem dX12_count_112 : decode cX12_count 112 = .ok (.bipush 7, 2) := by decide +kernel
theorem dX12_count_114 : decode cX12_count 114 = .ok (.iaload, 1) := by decide +kernel
theorem dX12_count_115 : decode cX12_count 115 = .ok (.ireturn, 1) := by decide +kernel
theorem dX12_count_116 : decode cX12_count 116 = .ok (.aload_n 0, 1) := by decide +kernel
theorem dX12_count_117 : decode cX12_count 117 = .ok (.getfield 7, 3) := by decide +kernel
theorem dX12_count_120 : decode cX12_count 120 = .ok (.bipush 8, 2) := by decide +kernel
theorem dX12_count_122 : decode cX12_count 122 = .ok (.iaload, 1) := by decide +kernel
theorem dX12_count_123 : decode cX12_count 123 = .ok (.ireturn, 1) := by decide +kernel
theorem dX12_count_124 : decode cX12_count 124 = .ok (.aload_n 0, 1) := by decide +kernel
theorem dX12_count_125 : decode cX12_count 125 = .ok (.getfield 7, 3) := by decide +kernel
theorem dX12_count_128 : decode cX12_count 128 = .ok (.iconst 0, 1) := by decide +kernel
theorem dX12_count_129 : decode cX12_count 129 = .ok (.iaload, 1) := by decide +kernel
theorem dX12_count_130 : decode cX12_count 130 = .ok (.ireturn, 1) := by decide +kernel
theorem dX12_count_131 : decode cX12_count 131 = .ok (.aload_n 0, 1) := by decide +kernel
theorem dX12_count_132 : decode cX12_count 132 = .ok (.getfield 7, 3) := by decide +kernel
theorem dX12_count_135 : decode cX12_count 135 = .ok (.bipush 9, 2) := by decide +kernel
theorem dX12_count_137 : decode cX12_count 137 = .ok (.iaload, 1) := by decide +kernel
theorem dX12_count_138 : decode cX12_count 138 = .ok (.ireturn, 1) := by decide +kernel
theorem dX12_count_139 : decode cX12_count 139 = .ok (.iconst (-1), 1) := by decide +kernel
theorem dX12_count_140 : decode cX12_count 140 = .ok (.ireturn, 1) := by decide +kernel
