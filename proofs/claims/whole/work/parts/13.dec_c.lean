theorem dX0_init_0 : decode cX0_init 0 = .ok (.aload_n 0, 1) := by decide +kernel
theorem dX0_init_1 : decode cX0_init 1 = .ok (.invokespecial 3, 3) := by decide +kernel
theorem dX0_init_4 : decode cX0_init 4 = .ok (.aload_n 0, 1) := by decide +kernel
theorem dX0_init_5 : decode cX0_init 5 = .ok (.new 9, 3) := by decide +kernel
theorem dX0_init_8 : decode cX0_init 8 = .ok (.dup, 1) := by decide +kernel
theorem dX0_init_9 : decode cX0_init 9 = .ok (.bipush 72, 2) := by decide +kernel
theorem dX0_init_11 : decode cX0_init 11 = .ok (.invokespecial 13, 3) := by decide +kernel
theorem dX0_init_14 : decode cX0_init 14 = .ok (.putfield 16, 3) := by decide +kernel
theorem dX0_init_17 : decode cX0_init 17 = .ok (.aload_n 0, 1) := by decide +kernel
theorem dX0_init_18 : decode cX0_init 18 = .ok (.new 9, 3) := by decide +kernel
theorem dX0_init_21 : decode cX0_init 21 = .ok (.dup, 1) := by decide +kernel
theorem dX0_init_22 : decode cX0_init 22 = .ok (.bipush 72, 2) := by decide +kernel
theorem dX0_init_24 : decode cX0_init 24 = .ok (.invokespecial 13, 3) := by decide +kernel
theorem dX0_init_27 : decode cX0_init 27 = .ok (.putfield 20, 3) := by decide +kernel
theorem dX0_init_30 : decode cX0_init 30 = .ok (.aload_n 0, 1) := by decide +kernel
theorem dX0_init_31 : decode cX0_init 31 = .ok (.new 9, 3) := by decide +kernel
theorem dX0_init_34 : decode cX0_init 34 = .ok (.dup, 1) := by decide +kernel
theorem dX0_init_35 : decode cX0_init 35 = .ok (.bipush 72, 2) := by decide +kernel
theorem dX0_init_37 : decode cX0_init 37 = .ok (.invokespecial 13, 3) := by decide +kernel
theorem dX0_init_40 : decode cX0_init 40 = .ok (.putfield 23, 3) := by decide +kernel
theorem dX0_init_43 : decode cX0_init 43 = .ok (.return_, 1) := by decide +kernel
theorem dX0_gather_0 : decode cX0_gather 0 = .ok (.aload_n 0, 1) := by decide +kernel
theorem dX0_gather_1 : decode cX0_gather 1 = .ok (.bipush 12, 2) := by decide +kernel
theorem dX0_gather_3 : decode cX0_gather 3 = .ok (.putfield 26, 3) := by decide +kernel
theorem dX0_gather_6 : decode cX0_gather 6 = .ok (.aload_n 0, 1) := by decide +kernel
theorem dX0_gather_7 : decode cX0_gather 7 = .ok (.iconst 1, 1) := by decide +kernel
theorem dX0_gather_8 : decode cX0_gather 8 = .ok (.putfield 30, 3) := by decide +kernel
theorem dX0_gather_11 : decode cX0_gather 11 = .ok (.aload_n 0, 1) := by decide +kernel
theorem dX0_gather_12 : decode cX0_gather 12 = .ok (.iconst 3, 1) := by decide +kernel
theorem dX0_gather_13 : decode cX0_gather 13 = .ok (.putfield 33, 3) := by decide +kernel
theorem dX0_gather_16 : decode cX0_gather 16 = .ok (.aload_n 0, 1) := by decide +kernel
theorem dX0_gather_17 : decode cX0_gather 17 = .ok (.iconst 5, 1) := by decide +kernel
theorem dX0_gather_18 : decode cX0_gather 18 = .ok (.putfield 36, 3) := by decide +kernel
theorem dX0_gather_21 : decode cX0_gather 21 = .ok (.aload_n 0, 1) := by decide +kernel
theorem dX0_gather_22 : decode cX0_gather 22 = .ok (.iconst 1, 1) := by decide +kernel
theorem dX0_gather_23 : decode cX0_gather 23 = .ok (.putfield 39, 3) := by decide +kernel
theorem dX0_gather_26 : decode cX0_gather 26 = .ok (.aload_n 0, 1) := by decide +kernel
theorem dX0_gather_27 : decode cX0_gather 27 = .ok (.getfield 16, 3) := by decide +kernel
theorem dX0_gather_30 : decode cX0_gather 30 = .ok (.invokevirtual 42, 3) := by decide +kernel
theorem dX0_gather_33 : decode cX0_gather 33 = .ok (.iconst 0, 1) := by decide +kernel
theorem dX0_gather_34 : decode cX0_gather 34 = .ok (.istore 4, 2) := by decide +kernel
theorem dX0_gather_36 : decode cX0_gather 36 = .ok (.iload 4, 2) := by decide +kernel
theorem dX0_gather_38 : decode cX0_gather 38 = .ok (.aload_n 1, 1) := by decide +kernel
theorem dX0_gather_39 : decode cX0_gather 39 = .ok (.getfield 45, 3) := by decide +kernel
theorem dX0_gather_42 : decode cX0_gather 42 = .ok (.invokevirtual 48, 3) := by decide +kernel
theorem dX0_gather_45 : decode cX0_gather 45 = .ok (.if_icmp .ge 40, 3) := by decide +kernel
theorem dX0_gather_48 : decode cX0_gather 48 = .ok (.aload_n 1, 1) := by decide +kernel
theorem dX0_gather_49 : decode cX0_gather 49 = .ok (.getfield 45, 3) := by decide +kernel
theorem dX0_gather_52 : decode cX0_gather 52 = .ok (.iload 4, 2) := by decide +kernel
theorem dX0_gather_54 : decode cX0_gather 54 = .ok (.invokevirtual 52, 3) := by decide +kernel
theorem dX0_gather_57 : decode cX0_gather 57 = .ok (.istore 5, 2) := by decide +kernel
theorem dX0_gather_59 : decode cX0_gather 59 = .ok (.aload_n 1, 1) := by decide +kernel
theorem dX0_gather_60 : decode cX0_gather 60 = .ok (.getfield 56, 3) := by decide +kernel
theorem dX0_gather_63 : decode cX0_gather 63 = .ok (.iload 5, 2) := by decide +kernel
theorem dX0_gather_65 : decode cX0_gather 65 = .ok (.invokevirtual 52, 3) := by decide +kernel
theorem dX0_gather_68 : decode cX0_gather 68 = .ok (.iload_n 2, 1) := by decide +kernel
theorem dX0_gather_69 : decode cX0_gather 69 = .ok (.if_icmp .gt 10, 3) := by decide +kernel
theorem dX0_gather_72 : decode cX0_gather 72 = .ok (.aload_n 0, 1) := by decide +kernel
theorem dX0_gather_73 : decode cX0_gather 73 = .ok (.aload_n 1, 1) := by decide +kernel
theorem dX0_gather_74 : decode cX0_gather 74 = .ok (.iload 5, 2) := by decide +kernel
theorem dX0_gather_76 : decode cX0_gather 76 = .ok (.invokevirtual 59, 3) := by decide +kernel
theorem dX0_gather_79 : decode cX0_gather 79 = .ok (.iinc 4 1, 3) := by decide +kernel
theorem dX0_gather_82 : decode cX0_gather 82 = .ok (.goto (-46), 3) := by decide +kernel
theorem dX0_gather_85 : decode cX0_gather 85 = .ok (.iload_n 3, 1) := by decide +kernel
theorem dX0_gather_86 : decode cX0_gather 86 = .ok (.ifCond .eq 12, 3) := by decide +kernel
theorem dX0_gather_89 : decode cX0_gather 89 = .ok (.aload_n 0, 1) := by decide +kernel
theorem dX0_gather_90 : decode cX0_gather 90 = .ok (.aload_n 1, 1) := by decide +kernel
theorem dX0_gather_91 : decode cX0_gather 91 = .ok (.aload_n 1, 1) := by decide +kernel
theorem dX0_gather_92 : decode cX0_gather 92 = .ok (.invokevirtual 63, 3) := by decide +kernel
theorem dX0_gather_95 : decode cX0_gather 95 = .ok (.invokevirtual 59, 3) := by decide +kernel
theorem dX0_gather_98 : decode cX0_gather 98 = .ok (.aload_n 0, 1) := by decide +kernel
theorem dX0_gather_99 : decode cX0_gather 99 = .ok (.bipush 10, 2) := by decide +kernel
theorem dX0_gather_101 : decode cX0_gather 101 = .ok (.aload_n 0, 1) := by decide +kernel
theorem dX0_gather_102 : decode cX0_gather 102 = .ok (.getfield 26, 3) := by decide +kernel
theorem dX0_gather_105 : decode cX0_gather 105 = .ok (.bipush 40, 2) := by decide +kernel
theorem dX0_gather_107 : decode cX0_gather 107 = .ok (.invokestatic 66, 3) := by decide +kernel
theorem dX0_gather_110 : decode cX0_gather 110 = .ok (.putfield 26, 3) := by decide +kernel
theorem dX0_gather_113 : decode cX0_gather 113 = .ok (.aload_n 0, 1) := by decide +kernel
theorem dX0_gather_114 : decode cX0_gather 114 = .ok (.iconst 1, 1) := by decide +kernel
theorem dX0_gather_115 : decode cX0_gather 115 = .ok (.aload_n 0, 1) := by decide +kernel
theorem dX0_gather_116 : decode cX0_gather 116 = .ok (.getfield 30, 3) := by decide +kernel
theorem dX0_gather_119 : decode cX0_gather 119 = .ok (.bipush 9, 2) := by decide +kernel
theorem dX0_gather_121 : decode cX0_gather 121 = .ok (.invokestatic 66, 3) := by decide +kernel
theorem dX0_gather_124 : decode cX0_gather 124 = .ok (.putfield 30, 3) := by decide +kernel
theorem dX0_gather_127 : decode cX0_gather 127 = .ok (.aload_n 0, 1) := by decide +kernel
theorem dX0_gather_128 : decode cX0_gather 128 = .ok (.aload_n 0, 1) := by decide +kernel
theorem dX0_gather_129 : decode cX0_gather 129 = .ok (.getfield 30, 3) := by decide +kernel
theorem dX0_gather_132 : decode cX0_gather 132 = .ok (.iconst 1, 1) := by decide +kernel
theorem dX0_gather_133 : decode cX0_gather 133 = .ok (.aload_n 0, 1) := by decide +kernel
theorem dX0_gather_134 : decode cX0_gather 134 = .ok (.getfield 33, 3) := by decide +kernel
theorem dX0_gather_137 : decode cX0_gather 137 = .ok (.bipush 9, 2) := by decide +kernel
theorem dX0_gather_139 : decode cX0_gather 139 = .ok (.invokestatic 66, 3) := by decide +kernel
theorem dX0_gather_142 : decode cX0_gather 142 = .ok (.invokestatic 70, 3) := by decide +kernel
theorem dX0_gather_145 : decode cX0_gather 145 = .ok (.putfield 33, 3) := by decide +kernel
theorem dX0_gather_148 : decode cX0_gather 148 = .ok (.return_, 1) := by decide +kernel
theorem dX0_told_0 : decode cX0_told 0 = .ok (.iload_n 1, 1) := by decide +kernel
theorem dX0_told_1 : decode cX0_told 1 = .ok (.tableswitch 60 0 4 #[35, 40, 45, 50, 55], 35) := by decide +kernel
theorem dX0_told_36 : decode cX0_told 36 = .ok (.aload_n 0, 1) := by decide +kernel
theorem dX0_told_37 : decode cX0_told 37 = .ok (.getfield 26, 3) := by decide +kernel
theorem dX0_told_40 : decode cX0_told 40 = .ok (.ireturn, 1) := by decide +kernel
theorem dX0_told_41 : decode cX0_told 41 = .ok (.aload_n 0, 1) := by decide +kernel
theorem dX0_told_42 : decode cX0_told 42 = .ok (.getfield 30, 3) := by decide +kernel
theorem dX0_told_45 : decode cX0_told 45 = .ok (.ireturn, 1) := by decide +kernel
theorem dX0_told_46 : decode cX0_told 46 = .ok (.aload_n 0, 1) := by decide +kernel
theorem dX0_told_47 : decode cX0_told 47 = .ok (.getfield 33, 3) := by decide +kernel
theorem dX0_told_50 : decode cX0_told 50 = .ok (.ireturn, 1) := by decide +kernel
theorem dX0_told_51 : decode cX0_told 51 = .ok (.aload_n 0, 1) := by decide +kernel
theorem dX0_told_52 : decode cX0_told 52 = .ok (.getfield 36, 3) := by decide +kernel
theorem dX0_told_55 : decode cX0_told 55 = .ok (.ireturn, 1) := by decide +kernel
theorem dX0_told_56 : decode cX0_told 56 = .ok (.aload_n 0, 1) := by decide +kernel
theorem dX0_told_57 : decode cX0_told 57 = .ok (.getfield 39, 3) := by decide +kernel
theorem dX0_told_60 : decode cX0_told 60 = .ok (.ireturn, 1) := by decide +kernel
theorem dX0_told_61 : decode cX0_told 61 = .ok (.aload_n 0, 1) := by decide +kernel
theorem dX0_told_62 : decode cX0_told 62 = .ok (.getfield 16, 3) := by decide +kernel
theorem dX0_told_65 : decode cX0_told 65 = .ok (.invokevirtual 48, 3) := by decide +kernel
theorem dX0_told_68 : decode cX0_told 68 = .ok (.ireturn, 1) := by decide +kernel
theorem dX0_take_0 : decode cX0_take 0 = .ok (.iconst 0, 1) := by decide +kernel
theorem dX0_take_1 : decode cX0_take 1 = .ok (.istore_n 3, 1) := by decide +kernel
theorem dX0_take_2 : decode cX0_take 2 = .ok (.iload_n 3, 1) := by decide +kernel
theorem dX0_take_3 : decode cX0_take 3 = .ok (.aload_n 1, 1) := by decide +kernel
theorem dX0_take_4 : decode cX0_take 4 = .ok (.getfield 76, 3) := by decide +kernel
theorem dX0_take_7 : decode cX0_take 7 = .ok (.iload_n 2, 1) := by decide +kernel
theorem dX0_take_8 : decode cX0_take 8 = .ok (.invokevirtual 52, 3) := by decide +kernel
theorem dX0_take_11 : decode cX0_take 11 = .ok (.if_icmp .ge 20, 3) := by decide +kernel
theorem dX0_take_14 : decode cX0_take 14 = .ok (.aload_n 0, 1) := by decide +kernel
theorem dX0_take_15 : decode cX0_take 15 = .ok (.aload_n 1, 1) := by decide +kernel
theorem dX0_take_16 : decode cX0_take 16 = .ok (.iload_n 2, 1) := by decide +kernel
theorem dX0_take_17 : decode cX0_take 17 = .ok (.bipush 8, 2) := by decide +kernel
theorem dX0_take_19 : decode cX0_take 19 = .ok (.imul, 1) := by decide +kernel
theorem dX0_take_20 : decode cX0_take 20 = .ok (.iload_n 3, 1) := by decide +kernel
theorem dX0_take_21 : decode cX0_take 21 = .ok (.iadd, 1) := by decide +kernel
theorem dX0_take_22 : decode cX0_take 22 = .ok (.invokevirtual 79, 3) := by decide +kernel
theorem dX0_take_25 : decode cX0_take 25 = .ok (.iinc 3 1, 3) := by decide +kernel
theorem dX0_take_28 : decode cX0_take 28 = .ok (.goto (-26), 3) := by decide +kernel
theorem dX0_take_31 : decode cX0_take 31 = .ok (.return_, 1) := by decide +kernel
theorem dX0_takeClause_0 : decode cX0_takeClause 0 = .ok (.aload_n 1, 1) := by decide +kernel
theorem dX0_takeClause_1 : decode cX0_takeClause 1 = .ok (.getfield 82, 3) := by decide +kernel
theorem dX0_takeClause_4 : decode cX0_takeClause 4 = .ok (.iload_n 2, 1) := by decide +kernel
theorem dX0_takeClause_5 : decode cX0_takeClause 5 = .ok (.invokevirtual 52, 3) := by decide +kernel
theorem dX0_takeClause_8 : decode cX0_takeClause 8 = .ok (.istore_n 3, 1) := by decide +kernel
theorem dX0_takeClause_9 : decode cX0_takeClause 9 = .ok (.aload_n 1, 1) := by decide +kernel
theorem dX0_takeClause_10 : decode cX0_takeClause 10 = .ok (.getfield 85, 3) := by decide +kernel
theorem dX0_takeClause_13 : decode cX0_takeClause 13 = .ok (.iload_n 2, 1) := by decide +kernel
theorem dX0_takeClause_14 : decode cX0_takeClause 14 = .ok (.invokevirtual 52, 3) := by decide +kernel
theorem dX0_takeClause_17 : decode cX0_takeClause 17 = .ok (.tableswitch 126 0 7 #[47, 55, 63, 71, 79, 126, 87, 111], 47) := by decide +kernel
theorem dX0_takeClause_64 : decode cX0_takeClause 64 = .ok (.aload_n 0, 1) := by decide +kernel
theorem dX0_takeClause_65 : decode cX0_takeClause 65 = .ok (.iload_n 3, 1) := by decide +kernel
theorem dX0_takeClause_66 : decode cX0_takeClause 66 = .ok (.putfield 26, 3) := by decide +kernel
theorem dX0_takeClause_69 : decode cX0_takeClause 69 = .ok (.goto 74, 3) := by decide +kernel
theorem dX0_takeClause_72 : decode cX0_takeClause 72 = .ok (.aload_n 0, 1) := by decide +kernel
theorem dX0_takeClause_73 : decode cX0_takeClause 73 = .ok (.iload_n 3, 1) := by decide +kernel
theorem dX0_takeClause_74 : decode cX0_takeClause 74 = .ok (.putfield 30, 3) := by decide +kernel
theorem dX0_takeClause_77 : decode cX0_takeClause 77 = .ok (.goto 66, 3) := by decide +kernel
theorem dX0_takeClause_80 : decode cX0_takeClause 80 = .ok (.aload_n 0, 1) := by decide +kernel
theorem dX0_takeClause_81 : decode cX0_takeClause 81 = .ok (.iload_n 3, 1) := by decide +kernel
theorem dX0_takeClause_82 : decode cX0_takeClause 82 = .ok (.putfield 33, 3) := by decide +kernel
theorem dX0_takeClause_85 : decode cX0_takeClause 85 = .ok (.goto 58, 3) := by decide +kernel
theorem dX0_takeClause_88 : decode cX0_takeClause 88 = .ok (.aload_n 0, 1) := by decide +kernel
theorem dX0_takeClause_89 : decode cX0_takeClause 89 = .ok (.iload_n 3, 1) := by decide +kernel
theorem dX0_takeClause_90 : decode cX0_takeClause 90 = .ok (.putfield 36, 3) := by decide +kernel
theorem dX0_takeClause_93 : decode cX0_takeClause 93 = .ok (.goto 50, 3) := by decide +kernel
theorem dX0_takeClause_96 : decode cX0_takeClause 96 = .ok (.aload_n 0, 1) := by decide +kernel
theorem dX0_takeClause_97 : decode cX0_takeClause 97 = .ok (.iload_n 3, 1) := by decide +kernel
theorem dX0_takeClause_98 : decode cX0_takeClause 98 = .ok (.putfield 39, 3) := by decide +kernel
theorem dX0_takeClause_101 : decode cX0_takeClause 101 = .ok (.goto 42, 3) := by decide +kernel
theorem dX0_takeClause_104 : decode cX0_takeClause 104 = .ok (.aload_n 0, 1) := by decide +kernel
theorem dX0_takeClause_105 : decode cX0_takeClause 105 = .ok (.aload_n 1, 1) := by decide +kernel
theorem dX0_takeClause_106 : decode cX0_takeClause 106 = .ok (.getfield 88, 3) := by decide +kernel
theorem dX0_takeClause_109 : decode cX0_takeClause 109 = .ok (.iload_n 2, 1) := by decide +kernel
theorem dX0_takeClause_110 : decode cX0_takeClause 110 = .ok (.invokevirtual 52, 3) := by decide +kernel
theorem dX0_takeClause_113 : decode cX0_takeClause 113 = .ok (.iload_n 3, 1) := by decide +kernel
theorem dX0_takeClause_114 : decode cX0_takeClause 114 = .ok (.aload_n 1, 1) := by decide +kernel
theorem dX0_takeClause_115 : decode cX0_takeClause 115 = .ok (.getfield 91, 3) := by decide +kernel
theorem dX0_takeClause_118 : decode cX0_takeClause 118 = .ok (.iload_n 2, 1) := by decide +kernel
theorem dX0_takeClause_119 : decode cX0_takeClause 119 = .ok (.invokevirtual 52, 3) := by decide +kernel
theorem dX0_takeClause_122 : decode cX0_takeClause 122 = .ok (.invokevirtual 94, 3) := by decide +kernel
theorem dX0_takeClause_125 : decode cX0_takeClause 125 = .ok (.goto 18, 3) := by decide +kernel
theorem dX0_takeClause_128 : decode cX0_takeClause 128 = .ok (.aload_n 0, 1) := by decide +kernel
theorem dX0_takeClause_129 : decode cX0_takeClause 129 = .ok (.aload_n 1, 1) := by decide +kernel
theorem dX0_takeClause_130 : decode cX0_takeClause 130 = .ok (.getfield 88, 3) := by decide +kernel
theorem dX0_takeClause_133 : decode cX0_takeClause 133 = .ok (.iload_n 2, 1) := by decide +kernel
theorem dX0_takeClause_134 : decode cX0_takeClause 134 = .ok (.invokevirtual 52, 3) := by decide +kernel
theorem dX0_takeClause_137 : decode cX0_takeClause 137 = .ok (.invokevirtual 98, 3) := by decide +kernel
theorem dX0_takeClause_140 : decode cX0_takeClause 140 = .ok (.goto 3, 3) := by decide +kernel
theorem dX0_takeClause_143 : decode cX0_takeClause 143 = .ok (.return_, 1) := by decide +kernel
theorem dX0_putForm_0 : decode cX0_putForm 0 = .ok (.aload_n 0, 1) := by decide +kernel
theorem dX0_putForm_1 : decode cX0_putForm 1 = .ok (.getfield 16, 3) := by decide +kernel
theorem dX0_putForm_4 : decode cX0_putForm 4 = .ok (.iload_n 1, 1) := by decide +kernel
theorem dX0_putForm_5 : decode cX0_putForm 5 = .ok (.invokevirtual 101, 3) := by decide +kernel
theorem dX0_putForm_8 : decode cX0_putForm 8 = .ok (.istore 4, 2) := by decide +kernel
theorem dX0_putForm_10 : decode cX0_putForm 10 = .ok (.iload 4, 2) := by decide +kernel
theorem dX0_putForm_12 : decode cX0_putForm 12 = .ok (.ifCond .ge 13, 3) := by decide +kernel
theorem dX0_putForm_15 : decode cX0_putForm 15 = .ok (.aload_n 0, 1) := by decide +kernel
theorem dX0_putForm_16 : decode cX0_putForm 16 = .ok (.getfield 16, 3) := by decide +kernel
theorem dX0_putForm_19 : decode cX0_putForm 19 = .ok (.iload_n 1, 1) := by decide +kernel
theorem dX0_putForm_20 : decode cX0_putForm 20 = .ok (.invokevirtual 104, 3) := by decide +kernel
theorem dX0_putForm_23 : decode cX0_putForm 23 = .ok (.istore 4, 2) := by decide +kernel
theorem dX0_putForm_25 : decode cX0_putForm 25 = .ok (.aload_n 0, 1) := by decide +kernel
theorem dX0_putForm_26 : decode cX0_putForm 26 = .ok (.getfield 20, 3) := by decide +kernel
theorem dX0_putForm_29 : decode cX0_putForm 29 = .ok (.iload 4, 2) := by decide +kernel
theorem dX0_putForm_31 : decode cX0_putForm 31 = .ok (.iload_n 2, 1) := by decide +kernel
theorem dX0_putForm_32 : decode cX0_putForm 32 = .ok (.invokevirtual 107, 3) := by decide +kernel
theorem dX0_putForm_35 : decode cX0_putForm 35 = .ok (.aload_n 0, 1) := by decide +kernel
theorem dX0_putForm_36 : decode cX0_putForm 36 = .ok (.getfield 23, 3) := by decide +kernel
theorem dX0_putForm_39 : decode cX0_putForm 39 = .ok (.iload 4, 2) := by decide +kernel
theorem dX0_putForm_41 : decode cX0_putForm 41 = .ok (.iload_n 3, 1) := by decide +kernel
theorem dX0_putForm_42 : decode cX0_putForm 42 = .ok (.invokevirtual 107, 3) := by decide +kernel
theorem dX0_putForm_45 : decode cX0_putForm 45 = .ok (.return_, 1) := by decide +kernel
theorem dX0_barForm_0 : decode cX0_barForm 0 = .ok (.aload_n 0, 1) := by decide +kernel
theorem dX0_barForm_1 : decode cX0_barForm 1 = .ok (.getfield 16, 3) := by decide +kernel
theorem dX0_barForm_4 : decode cX0_barForm 4 = .ok (.iload_n 1, 1) := by decide +kernel
theorem dX0_barForm_5 : decode cX0_barForm 5 = .ok (.invokevirtual 101, 3) := by decide +kernel
theorem dX0_barForm_8 : decode cX0_barForm 8 = .ok (.istore_n 2, 1) := by decide +kernel
theorem dX0_barForm_9 : decode cX0_barForm 9 = .ok (.iload_n 2, 1) := by decide +kernel
theorem dX0_barForm_10 : decode cX0_barForm 10 = .ok (.ifCond .ge 4, 3) := by decide +kernel
theorem dX0_barForm_13 : decode cX0_barForm 13 = .ok (.return_, 1) := by decide +kernel
theorem dX0_barForm_14 : decode cX0_barForm 14 = .ok (.aload_n 0, 1) := by decide +kernel
theorem dX0_barForm_15 : decode cX0_barForm 15 = .ok (.getfield 16, 3) := by decide +kernel
theorem dX0_barForm_18 : decode cX0_barForm 18 = .ok (.invokevirtual 48, 3) := by decide +kernel
theorem dX0_barForm_21 : decode cX0_barForm 21 = .ok (.iconst 1, 1) := by decide +kernel
theorem dX0_barForm_22 : decode cX0_barForm 22 = .ok (.isub, 1) := by decide +kernel
theorem dX0_barForm_23 : decode cX0_barForm 23 = .ok (.istore_n 3, 1) := by decide +kernel
theorem dX0_barForm_24 : decode cX0_barForm 24 = .ok (.aload_n 0, 1) := by decide +kernel
theorem dX0_barForm_25 : decode cX0_barForm 25 = .ok (.getfield 16, 3) := by decide +kernel
theorem dX0_barForm_28 : decode cX0_barForm 28 = .ok (.iload_n 2, 1) := by decide +kernel
theorem dX0_barForm_29 : decode cX0_barForm 29 = .ok (.aload_n 0, 1) := by decide +kernel
theorem dX0_barForm_30 : decode cX0_barForm 30 = .ok (.getfield 16, 3) := by decide +kernel
theorem dX0_barForm_33 : decode cX0_barForm 33 = .ok (.iload_n 3, 1) := by decide +kernel
theorem dX0_barForm_34 : decode cX0_barForm 34 = .ok (.invokevirtual 52, 3) := by decide +kernel
theorem dX0_barForm_37 : decode cX0_barForm 37 = .ok (.invokevirtual 107, 3) := by decide +kernel
theorem dX0_barForm_40 : decode cX0_barForm 40 = .ok (.aload_n 0, 1) := by decide +kernel
theorem dX0_barForm_41 : decode cX0_barForm 41 = .ok (.getfield 20, 3) := by decide +kernel
theorem dX0_barForm_44 : decode cX0_barForm 44 = .ok (.iload_n 2, 1) := by decide +kernel
theorem dX0_barForm_45 : decode cX0_barForm 45 = .ok (.aload_n 0, 1) := by decide +kernel
theorem dX0_barForm_46 : decode cX0_barForm 46 = .ok (.getfield 20, 3) := by decide +kernel
theorem dX0_barForm_49 : decode cX0_barForm 49 = .ok (.iload_n 3, 1) := by decide +kernel
theorem dX0_barForm_50 : decode cX0_barForm 50 = .ok (.invokevirtual 52, 3) := by decide +kernel
theorem dX0_barForm_53 : decode cX0_barForm 53 = .ok (.invokevirtual 107, 3) := by decide +kernel
theorem dX0_barForm_56 : decode cX0_barForm 56 = .ok (.aload_n 0, 1) := by decide +kernel
theorem dX0_barForm_57 : decode cX0_barForm 57 = .ok (.getfield 23, 3) := by decide +kernel
theorem dX0_barForm_60 : decode cX0_barForm 60 = .ok (.iload_n 2, 1) := by decide +kernel
theorem dX0_barForm_61 : decode cX0_barForm 61 = .ok (.aload_n 0, 1) := by decide +kernel
theorem dX0_barForm_62 : decode cX0_barForm 62 = .ok (.getfield 23, 3) := by decide +kernel
theorem dX0_barForm_65 : decode cX0_barForm 65 = .ok (.iload_n 3, 1) := by decide +kernel
theorem dX0_barForm_66 : decode cX0_barForm 66 = .ok (.invokevirtual 52, 3) := by decide +kernel
theorem dX0_barForm_69 : decode cX0_barForm 69 = .ok (.invokevirtual 107, 3) := by decide +kernel
theorem dX0_barForm_72 : decode cX0_barForm 72 = .ok (.aload_n 0, 1) := by decide +kernel
theorem dX0_barForm_73 : decode cX0_barForm 73 = .ok (.getfield 16, 3) := by decide +kernel
theorem dX0_barForm_76 : decode cX0_barForm 76 = .ok (.invokevirtual 111, 3) := by decide +kernel
theorem dX0_barForm_79 : decode cX0_barForm 79 = .ok (.return_, 1) := by decide +kernel
theorem dX0_formOf_0 : decode cX0_formOf 0 = .ok (.aload_n 0, 1) := by decide +kernel
theorem dX0_formOf_1 : decode cX0_formOf 1 = .ok (.getfield 16, 3) := by decide +kernel
theorem dX0_formOf_4 : decode cX0_formOf 4 = .ok (.iload_n 1, 1) := by decide +kernel
theorem dX0_formOf_5 : decode cX0_formOf 5 = .ok (.invokevirtual 101, 3) := by decide +kernel
theorem dX0_formOf_8 : decode cX0_formOf 8 = .ok (.ireturn, 1) := by decide +kernel
theorem dX0_within_0 : decode cX0_within 0 = .ok (.iload_n 0, 1) := by decide +kernel
theorem dX0_within_1 : decode cX0_within 1 = .ok (.iload_n 1, 1) := by decide +kernel
theorem dX0_within_2 : decode cX0_within 2 = .ok (.iload_n 2, 1) := by decide +kernel
theorem dX0_within_3 : decode cX0_within 3 = .ok (.invokestatic 114, 3) := by decide +kernel
theorem dX0_within_6 : decode cX0_within 6 = .ok (.invokestatic 70, 3) := by decide +kernel
theorem dX0_within_9 : decode cX0_within 9 = .ok (.ireturn, 1) := by decide +kernel
theorem dX1_init_0 : decode cX1_init 0 = .ok (.aload_n 0, 1) := by decide +kernel
theorem dX1_init_1 : decode cX1_init 1 = .ok (.invokespecial 3, 3) := by decide +kernel
theorem dX1_init_4 : decode cX1_init 4 = .ok (.aload_n 0, 1) := by decide +kernel
theorem dX1_init_5 : decode cX1_init 5 = .ok (.aload_n 1, 1) := by decide +kernel
theorem dX1_init_6 : decode cX1_init 6 = .ok (.bipush 7, 2) := by decide +kernel
theorem dX1_init_8 : decode cX1_init 8 = .ok (.invokevirtual 11, 3) := by decide +kernel
theorem dX1_init_11 : decode cX1_init 11 = .ok (.putfield 17, 3) := by decide +kernel
theorem dX1_init_14 : decode cX1_init 14 = .ok (.aload_n 0, 1) := by decide +kernel
theorem dX1_init_15 : decode cX1_init 15 = .ok (.aload_n 1, 1) := by decide +kernel
theorem dX1_init_16 : decode cX1_init 16 = .ok (.bipush 10, 2) := by decide +kernel
theorem dX1_init_18 : decode cX1_init 18 = .ok (.invokevirtual 11, 3) := by decide +kernel
theorem dX1_init_21 : decode cX1_init 21 = .ok (.putfield 21, 3) := by decide +kernel
theorem dX1_init_24 : decode cX1_init 24 = .ok (.aload_n 0, 1) := by decide +kernel
theorem dX1_init_25 : decode cX1_init 25 = .ok (.aload_n 1, 1) := by decide +kernel
theorem dX1_init_26 : decode cX1_init 26 = .ok (.bipush 30, 2) := by decide +kernel
theorem dX1_init_28 : decode cX1_init 28 = .ok (.invokevirtual 11, 3) := by decide +kernel
theorem dX1_init_31 : decode cX1_init 31 = .ok (.putfield 24, 3) := by decide +kernel
theorem dX1_init_34 : decode cX1_init 34 = .ok (.aload_n 0, 1) := by decide +kernel
theorem dX1_init_35 : decode cX1_init 35 = .ok (.new 27, 3) := by decide +kernel
theorem dX1_init_38 : decode cX1_init 38 = .ok (.dup, 1) := by decide +kernel
theorem dX1_init_39 : decode cX1_init 39 = .ok (.bipush 7, 2) := by decide +kernel
theorem dX1_init_41 : decode cX1_init 41 = .ok (.invokespecial 29, 3) := by decide +kernel
theorem dX1_init_44 : decode cX1_init 44 = .ok (.putfield 32, 3) := by decide +kernel
theorem dX1_init_47 : decode cX1_init 47 = .ok (.aload_n 0, 1) := by decide +kernel
theorem dX1_init_48 : decode cX1_init 48 = .ok (.new 27, 3) := by decide +kernel
theorem dX1_init_51 : decode cX1_init 51 = .ok (.dup, 1) := by decide +kernel
theorem dX1_init_52 : decode cX1_init 52 = .ok (.bipush 7, 2) := by decide +kernel
theorem dX1_init_54 : decode cX1_init 54 = .ok (.invokespecial 29, 3) := by decide +kernel
theorem dX1_init_57 : decode cX1_init 57 = .ok (.putfield 35, 3) := by decide +kernel
theorem dX1_init_60 : decode cX1_init 60 = .ok (.aload_n 0, 1) := by decide +kernel
theorem dX1_init_61 : decode cX1_init 61 = .ok (.new 27, 3) := by decide +kernel
theorem dX1_init_64 : decode cX1_init 64 = .ok (.dup, 1) := by decide +kernel
theorem dX1_init_65 : decode cX1_init 65 = .ok (.bipush 10, 2) := by decide +kernel
theorem dX1_init_67 : decode cX1_init 67 = .ok (.invokespecial 29, 3) := by decide +kernel
theorem dX1_init_70 : decode cX1_init 70 = .ok (.putfield 38, 3) := by decide +kernel
theorem dX1_init_73 : decode cX1_init 73 = .ok (.aload_n 0, 1) := by decide +kernel
theorem dX1_init_74 : decode cX1_init 74 = .ok (.new 27, 3) := by decide +kernel
theorem dX1_init_77 : decode cX1_init 77 = .ok (.dup, 1) := by decide +kernel
theorem dX1_init_78 : decode cX1_init 78 = .ok (.bipush 10, 2) := by decide +kernel
theorem dX1_init_80 : decode cX1_init 80 = .ok (.invokespecial 29, 3) := by decide +kernel
theorem dX1_init_83 : decode cX1_init 83 = .ok (.putfield 41, 3) := by decide +kernel
theorem dX1_init_86 : decode cX1_init 86 = .ok (.aload_n 0, 1) := by decide +kernel
theorem dX1_init_87 : decode cX1_init 87 = .ok (.new 27, 3) := by decide +kernel
theorem dX1_init_90 : decode cX1_init 90 = .ok (.dup, 1) := by decide +kernel
theorem dX1_init_91 : decode cX1_init 91 = .ok (.sipush 1024, 3) := by decide +kernel
theorem dX1_init_94 : decode cX1_init 94 = .ok (.invokespecial 29, 3) := by decide +kernel
theorem dX1_init_97 : decode cX1_init 97 = .ok (.putfield 44, 3) := by decide +kernel
theorem dX1_init_100 : decode cX1_init 100 = .ok (.aload_n 0, 1) := by decide +kernel
theorem dX1_init_101 : decode cX1_init 101 = .ok (.new 27, 3) := by decide +kernel
theorem dX1_init_104 : decode cX1_init 104 = .ok (.dup, 1) := by decide +kernel
theorem dX1_init_105 : decode cX1_init 105 = .ok (.sipush 1024, 3) := by decide +kernel
theorem dX1_init_108 : decode cX1_init 108 = .ok (.invokespecial 29, 3) := by decide +kernel
theorem dX1_init_111 : decode cX1_init 111 = .ok (.putfield 47, 3) := by decide +kernel
theorem dX1_init_114 : decode cX1_init 114 = .ok (.aload_n 0, 1) := by decide +kernel
theorem dX1_init_115 : decode cX1_init 115 = .ok (.new 27, 3) := by decide +kernel
theorem dX1_init_118 : decode cX1_init 118 = .ok (.dup, 1) := by decide +kernel
theorem dX1_init_119 : decode cX1_init 119 = .ok (.sipush 1024, 3) := by decide +kernel
theorem dX1_init_122 : decode cX1_init 122 = .ok (.invokespecial 29, 3) := by decide +kernel
theorem dX1_init_125 : decode cX1_init 125 = .ok (.putfield 50, 3) := by decide +kernel
theorem dX1_init_128 : decode cX1_init 128 = .ok (.return_, 1) := by decide +kernel
theorem dX1_countStateOrders_0 : decode cX1_countStateOrders 0 = .ok (.aload_n 0, 1) := by decide +kernel
theorem dX1_countStateOrders_1 : decode cX1_countStateOrders 1 = .ok (.getfield 35, 3) := by decide +kernel
theorem dX1_countStateOrders_4 : decode cX1_countStateOrders 4 = .ok (.invokevirtual 53, 3) := by decide +kernel
theorem dX1_countStateOrders_7 : decode cX1_countStateOrders 7 = .ok (.aload_n 0, 1) := by decide +kernel
theorem dX1_countStateOrders_8 : decode cX1_countStateOrders 8 = .ok (.iconst 0, 1) := by decide +kernel
theorem dX1_countStateOrders_9 : decode cX1_countStateOrders 9 = .ok (.iconst 0, 1) := by decide +kernel
theorem dX1_countStateOrders_10 : decode cX1_countStateOrders 10 = .ok (.iconst 0, 1) := by decide +kernel
theorem dX1_countStateOrders_11 : decode cX1_countStateOrders 11 = .ok (.invokestatic 56, 3) := by decide +kernel
theorem dX1_countStateOrders_14 : decode cX1_countStateOrders 14 = .ok (.ireturn, 1) := by decide +kernel
theorem dX1_follow_0 : decode cX1_follow 0 = .ok (.aload_n 0, 1) := by decide +kernel
theorem dX1_follow_1 : decode cX1_follow 1 = .ok (.getfield 17, 3) := by decide +kernel
theorem dX1_follow_4 : decode cX1_follow 4 = .ok (.invokevirtual 60, 3) := by decide +kernel
theorem dX1_follow_7 : decode cX1_follow 7 = .ok (.istore 4, 2) := by decide +kernel
theorem dX1_follow_9 : decode cX1_follow 9 = .ok (.iload_n 1, 1) := by decide +kernel
theorem dX1_follow_10 : decode cX1_follow 10 = .ok (.iload 4, 2) := by decide +kernel
theorem dX1_follow_12 : decode cX1_follow 12 = .ok (.if_icmp .ge 9, 3) := by decide +kernel
theorem dX1_follow_15 : decode cX1_follow 15 = .ok (.iload_n 1, 1) := by decide +kernel
theorem dX1_follow_16 : decode cX1_follow 16 = .ok (.bipush 7, 2) := by decide +kernel
theorem dX1_follow_18 : decode cX1_follow 18 = .ok (.if_icmp .lt 11, 3) := by decide +kernel
theorem dX1_follow_21 : decode cX1_follow 21 = .ok (.aload_n 0, 1) := by decide +kernel
theorem dX1_follow_22 : decode cX1_follow 22 = .ok (.iload 4, 2) := by decide +kernel
theorem dX1_follow_24 : decode cX1_follow 24 = .ok (.invokevirtual 64, 3) := by decide +kernel
theorem dX1_follow_27 : decode cX1_follow 27 = .ok (.iconst 1, 1) := by decide +kernel
theorem dX1_follow_28 : decode cX1_follow 28 = .ok (.ireturn, 1) := by decide +kernel
theorem dX1_follow_29 : decode cX1_follow 29 = .ok (.iconst 0, 1) := by decide +kernel
theorem dX1_follow_30 : decode cX1_follow 30 = .ok (.istore 5, 2) := by decide +kernel
theorem dX1_follow_32 : decode cX1_follow 32 = .ok (.iconst 0, 1) := by decide +kernel
theorem dX1_follow_33 : decode cX1_follow 33 = .ok (.istore 6, 2) := by decide +kernel
theorem dX1_follow_35 : decode cX1_follow 35 = .ok (.iload 6, 2) := by decide +kernel
theorem dX1_follow_37 : decode cX1_follow 37 = .ok (.iload 4, 2) := by decide +kernel
theorem dX1_follow_39 : decode cX1_follow 39 = .ok (.if_icmp .ge 94, 3) := by decide +kernel
theorem dX1_follow_42 : decode cX1_follow 42 = .ok (.iload_n 1, 1) := by decide +kernel
theorem dX1_follow_43 : decode cX1_follow 43 = .ok (.ifCond .ne 7, 3) := by decide +kernel
theorem dX1_follow_46 : decode cX1_follow 46 = .ok (.iconst 0, 1) := by decide +kernel
theorem dX1_follow_47 : decode cX1_follow 47 = .ok (.goto 30, 3) := by decide +kernel
theorem dX1_follow_50 : decode cX1_follow 50 = .ok (.aload_n 0, 1) := by decide +kernel
theorem dX1_follow_51 : decode cX1_follow 51 = .ok (.getfield 17, 3) := by decide +kernel
theorem dX1_follow_54 : decode cX1_follow 54 = .ok (.iload 6, 2) := by decide +kernel
theorem dX1_follow_56 : decode cX1_follow 56 = .ok (.invokevirtual 67, 3) := by decide +kernel
theorem dX1_follow_59 : decode cX1_follow 59 = .ok (.aload_n 0, 1) := by decide +kernel
theorem dX1_follow_60 : decode cX1_follow 60 = .ok (.getfield 17, 3) := by decide +kernel
theorem dX1_follow_63 : decode cX1_follow 63 = .ok (.aload_n 0, 1) := by decide +kernel
theorem dX1_follow_64 : decode cX1_follow 64 = .ok (.getfield 32, 3) := by decide +kernel
theorem dX1_follow_67 : decode cX1_follow 67 = .ok (.iload_n 1, 1) := by decide +kernel
theorem dX1_follow_68 : decode cX1_follow 68 = .ok (.iconst 1, 1) := by decide +kernel
theorem dX1_follow_69 : decode cX1_follow 69 = .ok (.isub, 1) := by decide +kernel
theorem dX1_follow_70 : decode cX1_follow 70 = .ok (.invokevirtual 67, 3) := by decide +kernel
theorem dX1_follow_73 : decode cX1_follow 73 = .ok (.invokevirtual 67, 3) := by decide +kernel
theorem dX1_follow_76 : decode cX1_follow 76 = .ok (.ixor, 1) := by decide +kernel
theorem dX1_follow_77 : decode cX1_follow 77 = .ok (.istore 7, 2) := by decide +kernel
theorem dX1_follow_79 : decode cX1_follow 79 = .ok (.iload_n 2, 1) := by decide +kernel
theorem dX1_follow_80 : decode cX1_follow 80 = .ok (.iload 6, 2) := by decide +kernel
theorem dX1_follow_82 : decode cX1_follow 82 = .ok (.ishr, 1) := by decide +kernel
theorem dX1_follow_83 : decode cX1_follow 83 = .ok (.iconst 1, 1) := by decide +kernel
theorem dX1_follow_84 : decode cX1_follow 84 = .ok (.iand, 1) := by decide +kernel
theorem dX1_follow_85 : decode cX1_follow 85 = .ok (.ifCond .ne 42, 3) := by decide +kernel
theorem dX1_follow_88 : decode cX1_follow 88 = .ok (.iload 7, 2) := by decide +kernel
theorem dX1_follow_90 : decode cX1_follow 90 = .ok (.iload_n 3, 1) := by decide +kernel
theorem dX1_follow_91 : decode cX1_follow 91 = .ok (.iand, 1) := by decide +kernel
theorem dX1_follow_92 : decode cX1_follow 92 = .ok (.ifCond .ne 35, 3) := by decide +kernel
theorem dX1_follow_95 : decode cX1_follow 95 = .ok (.aload_n 0, 1) := by decide +kernel
theorem dX1_follow_96 : decode cX1_follow 96 = .ok (.getfield 32, 3) := by decide +kernel
theorem dX1_follow_99 : decode cX1_follow 99 = .ok (.iload_n 1, 1) := by decide +kernel
theorem dX1_follow_100 : decode cX1_follow 100 = .ok (.iload 6, 2) := by decide +kernel
theorem dX1_follow_102 : decode cX1_follow 102 = .ok (.invokevirtual 71, 3) := by decide +kernel
theorem dX1_follow_105 : decode cX1_follow 105 = .ok (.iload 5, 2) := by decide +kernel
theorem dX1_follow_107 : decode cX1_follow 107 = .ok (.aload_n 0, 1) := by decide +kernel
theorem dX1_follow_108 : decode cX1_follow 108 = .ok (.iload_n 1, 1) := by decide +kernel
theorem dX1_follow_109 : decode cX1_follow 109 = .ok (.iconst 1, 1) := by decide +kernel
theorem dX1_follow_110 : decode cX1_follow 110 = .ok (.iadd, 1) := by decide +kernel
theorem dX1_follow_111 : decode cX1_follow 111 = .ok (.iload_n 2, 1) := by decide +kernel
theorem dX1_follow_112 : decode cX1_follow 112 = .ok (.iconst 1, 1) := by decide +kernel
theorem dX1_follow_113 : decode cX1_follow 113 = .ok (.iload 6, 2) := by decide +kernel
theorem dX1_follow_115 : decode cX1_follow 115 = .ok (.ishl, 1) := by decide +kernel
theorem dX1_follow_116 : decode cX1_follow 116 = .ok (.ior, 1) := by decide +kernel
theorem dX1_follow_117 : decode cX1_follow 117 = .ok (.iload_n 3, 1) := by decide +kernel
theorem dX1_follow_118 : decode cX1_follow 118 = .ok (.iload 7, 2) := by decide +kernel
theorem dX1_follow_120 : decode cX1_follow 120 = .ok (.ior, 1) := by decide +kernel
theorem dX1_follow_121 : decode cX1_follow 121 = .ok (.invokestatic 56, 3) := by decide +kernel
theorem dX1_follow_124 : decode cX1_follow 124 = .ok (.iadd, 1) := by decide +kernel
theorem dX1_follow_125 : decode cX1_follow 125 = .ok (.istore 5, 2) := by decide +kernel
theorem dX1_follow_127 : decode cX1_follow 127 = .ok (.iinc 6 1, 3) := by decide +kernel
theorem dX1_follow_130 : decode cX1_follow 130 = .ok (.goto (-95), 3) := by decide +kernel
theorem dX1_follow_133 : decode cX1_follow 133 = .ok (.iload 5, 2) := by decide +kernel
theorem dX1_follow_135 : decode cX1_follow 135 = .ok (.ireturn, 1) := by decide +kernel
theorem dX1_keepFirst_0 : decode cX1_keepFirst 0 = .ok (.aload_n 0, 1) := by decide +kernel
theorem dX1_keepFirst_1 : decode cX1_keepFirst 1 = .ok (.getfield 35, 3) := by decide +kernel
theorem dX1_keepFirst_4 : decode cX1_keepFirst 4 = .ok (.invokevirtual 60, 3) := by decide +kernel
theorem dX1_keepFirst_7 : decode cX1_keepFirst 7 = .ok (.ifCond .le 4, 3) := by decide +kernel
theorem dX1_keepFirst_10 : decode cX1_keepFirst 10 = .ok (.return_, 1) := by decide +kernel
theorem dX1_keepFirst_11 : decode cX1_keepFirst 11 = .ok (.iconst 0, 1) := by decide +kernel
theorem dX1_keepFirst_12 : decode cX1_keepFirst 12 = .ok (.istore_n 2, 1) := by decide +kernel
theorem dX1_keepFirst_13 : decode cX1_keepFirst 13 = .ok (.iload_n 2, 1) := by decide +kernel
theorem dX1_keepFirst_14 : decode cX1_keepFirst 14 = .ok (.iload_n 1, 1) := by decide +kernel
theorem dX1_keepFirst_15 : decode cX1_keepFirst 15 = .ok (.if_icmp .ge 24, 3) := by decide +kernel
theorem dX1_keepFirst_18 : decode cX1_keepFirst 18 = .ok (.aload_n 0, 1) := by decide +kernel
theorem dX1_keepFirst_19 : decode cX1_keepFirst 19 = .ok (.getfield 35, 3) := by decide +kernel
theorem dX1_keepFirst_22 : decode cX1_keepFirst 22 = .ok (.aload_n 0, 1) := by decide +kernel
theorem dX1_keepFirst_23 : decode cX1_keepFirst 23 = .ok (.getfield 32, 3) := by decide +kernel
theorem dX1_keepFirst_26 : decode cX1_keepFirst 26 = .ok (.iload_n 2, 1) := by decide +kernel
theorem dX1_keepFirst_27 : decode cX1_keepFirst 27 = .ok (.invokevirtual 67, 3) := by decide +kernel
theorem dX1_keepFirst_30 : decode cX1_keepFirst 30 = .ok (.invokevirtual 75, 3) := by decide +kernel
theorem dX1_keepFirst_33 : decode cX1_keepFirst 33 = .ok (.iinc 2 1, 3) := by decide +kernel
theorem dX1_keepFirst_36 : decode cX1_keepFirst 36 = .ok (.goto (-23), 3) := by decide +kernel
theorem dX1_keepFirst_39 : decode cX1_keepFirst 39 = .ok (.return_, 1) := by decide +kernel
theorem dX1_findHands_0 : decode cX1_findHands 0 = .ok (.aload_n 0, 1) := by decide +kernel
theorem dX1_findHands_1 : decode cX1_findHands 1 = .ok (.iload_n 1, 1) := by decide +kernel
theorem dX1_findHands_2 : decode cX1_findHands 2 = .ok (.invokevirtual 78, 3) := by decide +kernel
theorem dX1_findHands_5 : decode cX1_findHands 5 = .ok (.iconst 1, 1) := by decide +kernel
theorem dX1_findHands_6 : decode cX1_findHands 6 = .ok (.aload_n 0, 1) := by decide +kernel
theorem dX1_findHands_7 : decode cX1_findHands 7 = .ok (.getfield 21, 3) := by decide +kernel
theorem dX1_findHands_10 : decode cX1_findHands 10 = .ok (.invokevirtual 60, 3) := by decide +kernel
theorem dX1_findHands_13 : decode cX1_findHands 13 = .ok (.bipush 10, 2) := by decide +kernel
theorem dX1_findHands_15 : decode cX1_findHands 15 = .ok (.invokestatic 81, 3) := by decide +kernel
theorem dX1_findHands_18 : decode cX1_findHands 18 = .ok (.ishl, 1) := by decide +kernel
theorem dX1_findHands_19 : decode cX1_findHands 19 = .ok (.istore_n 2, 1) := by decide +kernel
theorem dX1_findHands_20 : decode cX1_findHands 20 = .ok (.aload_n 0, 1) := by decide +kernel
theorem dX1_findHands_21 : decode cX1_findHands 21 = .ok (.getfield 44, 3) := by decide +kernel
theorem dX1_findHands_24 : decode cX1_findHands 24 = .ok (.iconst 0, 1) := by decide +kernel
theorem dX1_findHands_25 : decode cX1_findHands 25 = .ok (.iconst 1, 1) := by decide +kernel
theorem dX1_findHands_26 : decode cX1_findHands 26 = .ok (.invokevirtual 71, 3) := by decide +kernel
theorem dX1_findHands_29 : decode cX1_findHands 29 = .ok (.aload_n 0, 1) := by decide +kernel
theorem dX1_findHands_30 : decode cX1_findHands 30 = .ok (.getfield 47, 3) := by decide +kernel
theorem dX1_findHands_33 : decode cX1_findHands 33 = .ok (.iconst 0, 1) := by decide +kernel
theorem dX1_findHands_34 : decode cX1_findHands 34 = .ok (.iconst 0, 1) := by decide +kernel
theorem dX1_findHands_35 : decode cX1_findHands 35 = .ok (.invokevirtual 71, 3) := by decide +kernel
theorem dX1_findHands_38 : decode cX1_findHands 38 = .ok (.aload_n 0, 1) := by decide +kernel
theorem dX1_findHands_39 : decode cX1_findHands 39 = .ok (.getfield 50, 3) := by decide +kernel
theorem dX1_findHands_42 : decode cX1_findHands 42 = .ok (.iconst 0, 1) := by decide +kernel
theorem dX1_findHands_43 : decode cX1_findHands 43 = .ok (.iconst 1, 1) := by decide +kernel
theorem dX1_findHands_44 : decode cX1_findHands 44 = .ok (.invokevirtual 71, 3) := by decide +kernel
theorem dX1_findHands_47 : decode cX1_findHands 47 = .ok (.iconst 1, 1) := by decide +kernel
theorem dX1_findHands_48 : decode cX1_findHands 48 = .ok (.istore_n 3, 1) := by decide +kernel
theorem dX1_findHands_49 : decode cX1_findHands 49 = .ok (.iload_n 3, 1) := by decide +kernel
theorem dX1_findHands_50 : decode cX1_findHands 50 = .ok (.iload_n 2, 1) := by decide +kernel
theorem dX1_findHands_51 : decode cX1_findHands 51 = .ok (.if_icmp .ge 88, 3) := by decide +kernel
theorem dX1_findHands_54 : decode cX1_findHands 54 = .ok (.iload_n 3, 1) := by decide +kernel
theorem dX1_findHands_55 : decode cX1_findHands 55 = .ok (.invokestatic 87, 3) := by decide +kernel
theorem dX1_findHands_58 : decode cX1_findHands 58 = .ok (.istore 4, 2) := by decide +kernel
theorem dX1_findHands_60 : decode cX1_findHands 60 = .ok (.iload_n 3, 1) := by decide +kernel
theorem dX1_findHands_61 : decode cX1_findHands 61 = .ok (.iload_n 3, 1) := by decide +kernel
theorem dX1_findHands_62 : decode cX1_findHands 62 = .ok (.iconst 1, 1) := by decide +kernel
theorem dX1_findHands_63 : decode cX1_findHands 63 = .ok (.isub, 1) := by decide +kernel
theorem dX1_findHands_64 : decode cX1_findHands 64 = .ok (.iand, 1) := by decide +kernel
theorem dX1_findHands_65 : decode cX1_findHands 65 = .ok (.istore 5, 2) := by decide +kernel
theorem dX1_findHands_67 : decode cX1_findHands 67 = .ok (.aload_n 0, 1) := by decide +kernel
theorem dX1_findHands_68 : decode cX1_findHands 68 = .ok (.getfield 44, 3) := by decide +kernel
theorem dX1_findHands_71 : decode cX1_findHands 71 = .ok (.iload 5, 2) := by decide +kernel
theorem dX1_findHands_73 : decode cX1_findHands 73 = .ok (.invokevirtual 67, 3) := by decide +kernel
theorem dX1_findHands_76 : decode cX1_findHands 76 = .ok (.iconst 1, 1) := by decide +kernel
theorem dX1_findHands_77 : decode cX1_findHands 77 = .ok (.if_icmp .ne 24, 3) := by decide +kernel
theorem dX1_findHands_80 : decode cX1_findHands 80 = .ok (.iload 5, 2) := by decide +kernel
theorem dX1_findHands_82 : decode cX1_findHands 82 = .ok (.aload_n 0, 1) := by decide +kernel
theorem dX1_findHands_83 : decode cX1_findHands 83 = .ok (.getfield 38, 3) := by decide +kernel
theorem dX1_findHands_86 : decode cX1_findHands 86 = .ok (.iload 4, 2) := by decide +kernel
theorem dX1_findHands_88 : decode cX1_findHands 88 = .ok (.invokevirtual 67, 3) := by decide +kernel
theorem dX1_findHands_91 : decode cX1_findHands 91 = .ok (.iconst (-1), 1) := by decide +kernel
theorem dX1_findHands_92 : decode cX1_findHands 92 = .ok (.ixor, 1) := by decide +kernel
theorem dX1_findHands_93 : decode cX1_findHands 93 = .ok (.iand, 1) := by decide +kernel
theorem dX1_findHands_94 : decode cX1_findHands 94 = .ok (.ifCond .ne 7, 3) := by decide +kernel
theorem dX1_findHands_97 : decode cX1_findHands 97 = .ok (.iconst 1, 1) := by decide +kernel
theorem dX1_findHands_98 : decode cX1_findHands 98 = .ok (.goto 4, 3) := by decide +kernel
theorem dX1_findHands_101 : decode cX1_findHands 101 = .ok (.iconst 0, 1) := by decide +kernel
theorem dX1_findHands_102 : decode cX1_findHands 102 = .ok (.istore 6, 2) := by decide +kernel
theorem dX1_findHands_104 : decode cX1_findHands 104 = .ok (.aload_n 0, 1) := by decide +kernel
theorem dX1_findHands_105 : decode cX1_findHands 105 = .ok (.getfield 44, 3) := by decide +kernel
theorem dX1_findHands_108 : decode cX1_findHands 108 = .ok (.iload_n 3, 1) := by decide +kernel
theorem dX1_findHands_109 : decode cX1_findHands 109 = .ok (.iload 6, 2) := by decide +kernel
theorem dX1_findHands_111 : decode cX1_findHands 111 = .ok (.ifCond .eq 7, 3) := by decide +kernel
theorem dX1_findHands_114 : decode cX1_findHands 114 = .ok (.iconst 1, 1) := by decide +kernel
theorem dX1_findHands_115 : decode cX1_findHands 115 = .ok (.goto 4, 3) := by decide +kernel
theorem dX1_findHands_118 : decode cX1_findHands 118 = .ok (.iconst 0, 1) := by decide +kernel
theorem dX1_findHands_119 : decode cX1_findHands 119 = .ok (.invokevirtual 71, 3) := by decide +kernel
theorem dX1_findHands_122 : decode cX1_findHands 122 = .ok (.aload_n 0, 1) := by decide +kernel
theorem dX1_findHands_123 : decode cX1_findHands 123 = .ok (.iload_n 3, 1) := by decide +kernel
theorem dX1_findHands_124 : decode cX1_findHands 124 = .ok (.iconst 1, 1) := by decide +kernel
theorem dX1_findHands_125 : decode cX1_findHands 125 = .ok (.iload 4, 2) := by decide +kernel
theorem dX1_findHands_127 : decode cX1_findHands 127 = .ok (.ishl, 1) := by decide +kernel
theorem dX1_findHands_128 : decode cX1_findHands 128 = .ok (.iload 5, 2) := by decide +kernel
theorem dX1_findHands_130 : decode cX1_findHands 130 = .ok (.invokevirtual 92, 3) := by decide +kernel
theorem dX1_findHands_133 : decode cX1_findHands 133 = .ok (.iinc 3 1, 3) := by decide +kernel
theorem dX1_findHands_136 : decode cX1_findHands 136 = .ok (.goto (-87), 3) := by decide +kernel
theorem dX1_findHands_139 : decode cX1_findHands 139 = .ok (.return_, 1) := by decide +kernel
theorem dX1_findPartners_0 : decode cX1_findPartners 0 = .ok (.iconst 0, 1) := by decide +kernel
theorem dX1_findPartners_1 : decode cX1_findPartners 1 = .ok (.istore_n 2, 1) := by decide +kernel
theorem dX1_findPartners_2 : decode cX1_findPartners 2 = .ok (.iload_n 2, 1) := by decide +kernel
theorem dX1_findPartners_3 : decode cX1_findPartners 3 = .ok (.aload_n 0, 1) := by decide +kernel
theorem dX1_findPartners_4 : decode cX1_findPartners 4 = .ok (.getfield 21, 3) := by decide +kernel
theorem dX1_findPartners_7 : decode cX1_findPartners 7 = .ok (.invokevirtual 60, 3) := by decide +kernel
theorem dX1_findPartners_10 : decode cX1_findPartners 10 = .ok (.if_icmp .ge 76, 3) := by decide +kernel
theorem dX1_findPartners_13 : decode cX1_findPartners 13 = .ok (.iconst 0, 1) := by decide +kernel
theorem dX1_findPartners_14 : decode cX1_findPartners 14 = .ok (.istore_n 3, 1) := by decide +kernel
theorem dX1_findPartners_15 : decode cX1_findPartners 15 = .ok (.iconst 0, 1) := by decide +kernel
theorem dX1_findPartners_16 : decode cX1_findPartners 16 = .ok (.istore 4, 2) := by decide +kernel
theorem dX1_findPartners_18 : decode cX1_findPartners 18 = .ok (.iload 4, 2) := by decide +kernel
theorem dX1_findPartners_20 : decode cX1_findPartners 20 = .ok (.aload_n 0, 1) := by decide +kernel
theorem dX1_findPartners_21 : decode cX1_findPartners 21 = .ok (.getfield 21, 3) := by decide +kernel
theorem dX1_findPartners_24 : decode cX1_findPartners 24 = .ok (.invokevirtual 60, 3) := by decide +kernel
theorem dX1_findPartners_27 : decode cX1_findPartners 27 = .ok (.if_icmp .ge 44, 3) := by decide +kernel
theorem dX1_findPartners_30 : decode cX1_findPartners 30 = .ok (.iload_n 3, 1) := by decide +kernel
theorem dX1_findPartners_31 : decode cX1_findPartners 31 = .ok (.aload_n 0, 1) := by decide +kernel
theorem dX1_findPartners_32 : decode cX1_findPartners 32 = .ok (.getfield 21, 3) := by decide +kernel
theorem dX1_findPartners_35 : decode cX1_findPartners 35 = .ok (.iload_n 2, 1) := by decide +kernel
theorem dX1_findPartners_36 : decode cX1_findPartners 36 = .ok (.invokevirtual 67, 3) := by decide +kernel
theorem dX1_findPartners_39 : decode cX1_findPartners 39 = .ok (.aload_n 0, 1) := by decide +kernel
theorem dX1_findPartners_40 : decode cX1_findPartners 40 = .ok (.getfield 21, 3) := by decide +kernel
theorem dX1_findPartners_43 : decode cX1_findPartners 43 = .ok (.iload 4, 2) := by decide +kernel
theorem dX1_findPartners_45 : decode cX1_findPartners 45 = .ok (.invokevirtual 67, 3) := by decide +kernel
theorem dX1_findPartners_48 : decode cX1_findPartners 48 = .ok (.invokestatic 96, 3) := by decide +kernel
theorem dX1_findPartners_51 : decode cX1_findPartners 51 = .ok (.iload_n 1, 1) := by decide +kernel
theorem dX1_findPartners_52 : decode cX1_findPartners 52 = .ok (.if_icmp .gt 10, 3) := by decide +kernel
theorem dX1_findPartners_55 : decode cX1_findPartners 55 = .ok (.iconst 1, 1) := by decide +kernel
theorem dX1_findPartners_56 : decode cX1_findPartners 56 = .ok (.iload 4, 2) := by decide +kernel
theorem dX1_findPartners_58 : decode cX1_findPartners 58 = .ok (.ishl, 1) := by decide +kernel
theorem dX1_findPartners_59 : decode cX1_findPartners 59 = .ok (.goto 4, 3) := by decide +kernel
theorem dX1_findPartners_62 : decode cX1_findPartners 62 = .ok (.iconst 0, 1) := by decide +kernel
theorem dX1_findPartners_63 : decode cX1_findPartners 63 = .ok (.ior, 1) := by decide +kernel
theorem dX1_findPartners_64 : decode cX1_findPartners 64 = .ok (.istore_n 3, 1) := by decide +kernel
theorem dX1_findPartners_65 : decode cX1_findPartners 65 = .ok (.iinc 4 1, 3) := by decide +kernel
theorem dX1_findPartners_68 : decode cX1_findPartners 68 = .ok (.goto (-50), 3) := by decide +kernel
theorem dX1_findPartners_71 : decode cX1_findPartners 71 = .ok (.aload_n 0, 1) := by decide +kernel
theorem dX1_findPartners_72 : decode cX1_findPartners 72 = .ok (.getfield 38, 3) := by decide +kernel
theorem dX1_findPartners_75 : decode cX1_findPartners 75 = .ok (.iload_n 2, 1) := by decide +kernel
theorem dX1_findPartners_76 : decode cX1_findPartners 76 = .ok (.iload_n 3, 1) := by decide +kernel
theorem dX1_findPartners_77 : decode cX1_findPartners 77 = .ok (.invokevirtual 71, 3) := by decide +kernel
theorem dX1_findPartners_80 : decode cX1_findPartners 80 = .ok (.iinc 2 1, 3) := by decide +kernel
theorem dX1_findPartners_83 : decode cX1_findPartners 83 = .ok (.goto (-81), 3) := by decide +kernel
theorem dX1_findPartners_86 : decode cX1_findPartners 86 = .ok (.return_, 1) := by decide +kernel
theorem dX1_distance_0 : decode cX1_distance 0 = .ok (.iconst 0, 1) := by decide +kernel
theorem dX1_distance_1 : decode cX1_distance 1 = .ok (.istore_n 2, 1) := by decide +kernel
theorem dX1_distance_2 : decode cX1_distance 2 = .ok (.iload_n 0, 1) := by decide +kernel
theorem dX1_distance_3 : decode cX1_distance 3 = .ok (.istore_n 3, 1) := by decide +kernel
theorem dX1_distance_4 : decode cX1_distance 4 = .ok (.iload_n 1, 1) := by decide +kernel
theorem dX1_distance_5 : decode cX1_distance 5 = .ok (.istore 4, 2) := by decide +kernel
theorem dX1_distance_7 : decode cX1_distance 7 = .ok (.iconst 0, 1) := by decide +kernel
theorem dX1_distance_8 : decode cX1_distance 8 = .ok (.istore 5, 2) := by decide +kernel
theorem dX1_distance_10 : decode cX1_distance 10 = .ok (.iload 5, 2) := by decide +kernel
theorem dX1_distance_12 : decode cX1_distance 12 = .ok (.iconst 4, 1) := by decide +kernel
theorem dX1_distance_13 : decode cX1_distance 13 = .ok (.if_icmp .ge 37, 3) := by decide +kernel
theorem dX1_distance_16 : decode cX1_distance 16 = .ok (.iload_n 2, 1) := by decide +kernel
theorem dX1_distance_17 : decode cX1_distance 17 = .ok (.iload_n 3, 1) := by decide +kernel
theorem dX1_distance_18 : decode cX1_distance 18 = .ok (.bipush 10, 2) := by decide +kernel
theorem dX1_distance_20 : decode cX1_distance 20 = .ok (.irem, 1) := by decide +kernel
theorem dX1_distance_21 : decode cX1_distance 21 = .ok (.iload 4, 2) := by decide +kernel
theorem dX1_distance_23 : decode cX1_distance 23 = .ok (.bipush 10, 2) := by decide +kernel
theorem dX1_distance_25 : decode cX1_distance 25 = .ok (.irem, 1) := by decide +kernel
theorem dX1_distance_26 : decode cX1_distance 26 = .ok (.isub, 1) := by decide +kernel
theorem dX1_distance_27 : decode cX1_distance 27 = .ok (.invokestatic 99, 3) := by decide +kernel
theorem dX1_distance_30 : decode cX1_distance 30 = .ok (.iadd, 1) := by decide +kernel
theorem dX1_distance_31 : decode cX1_distance 31 = .ok (.istore_n 2, 1) := by decide +kernel
theorem dX1_distance_32 : decode cX1_distance 32 = .ok (.iload_n 3, 1) := by decide +kernel
theorem dX1_distance_33 : decode cX1_distance 33 = .ok (.bipush 10, 2) := by decide +kernel
theorem dX1_distance_35 : decode cX1_distance 35 = .ok (.idiv, 1) := by decide +kernel
theorem dX1_distance_36 : decode cX1_distance 36 = .ok (.istore_n 3, 1) := by decide +kernel
theorem dX1_distance_37 : decode cX1_distance 37 = .ok (.iload 4, 2) := by decide +kernel
theorem dX1_distance_39 : decode cX1_distance 39 = .ok (.bipush 10, 2) := by decide +kernel
theorem dX1_distance_41 : decode cX1_distance 41 = .ok (.idiv, 1) := by decide +kernel
theorem dX1_distance_42 : decode cX1_distance 42 = .ok (.istore 4, 2) := by decide +kernel
theorem dX1_distance_44 : decode cX1_distance 44 = .ok (.iinc 5 1, 3) := by decide +kernel
theorem dX1_distance_47 : decode cX1_distance 47 = .ok (.goto (-37), 3) := by decide +kernel
theorem dX1_distance_50 : decode cX1_distance 50 = .ok (.iload_n 2, 1) := by decide +kernel
theorem dX1_distance_51 : decode cX1_distance 51 = .ok (.ireturn, 1) := by decide +kernel
theorem dX1_explain_0 : decode cX1_explain 0 = .ok (.aload_n 0, 1) := by decide +kernel
theorem dX1_explain_1 : decode cX1_explain 1 = .ok (.getfield 47, 3) := by decide +kernel
theorem dX1_explain_4 : decode cX1_explain 4 = .ok (.iload_n 1, 1) := by decide +kernel
theorem dX1_explain_5 : decode cX1_explain 5 = .ok (.bipush 11, 2) := by decide +kernel
theorem dX1_explain_7 : decode cX1_explain 7 = .ok (.invokevirtual 71, 3) := by decide +kernel
theorem dX1_explain_10 : decode cX1_explain 10 = .ok (.iload_n 3, 1) := by decide +kernel
theorem dX1_explain_11 : decode cX1_explain 11 = .ok (.istore 4, 2) := by decide +kernel
theorem dX1_explain_13 : decode cX1_explain 13 = .ok (.iload 4, 2) := by decide +kernel
theorem dX1_explain_15 : decode cX1_explain 15 = .ok (.ifCond .le 23, 3) := by decide +kernel
theorem dX1_explain_18 : decode cX1_explain 18 = .ok (.aload_n 0, 1) := by decide +kernel
theorem dX1_explain_19 : decode cX1_explain 19 = .ok (.iload_n 1, 1) := by decide +kernel
theorem dX1_explain_20 : decode cX1_explain 20 = .ok (.iload_n 2, 1) := by decide +kernel
theorem dX1_explain_21 : decode cX1_explain 21 = .ok (.iload 4, 2) := by decide +kernel
theorem dX1_explain_23 : decode cX1_explain 23 = .ok (.ior, 1) := by decide +kernel
theorem dX1_explain_24 : decode cX1_explain 24 = .ok (.invokevirtual 102, 3) := by decide +kernel
theorem dX1_explain_27 : decode cX1_explain 27 = .ok (.iload 4, 2) := by decide +kernel
theorem dX1_explain_29 : decode cX1_explain 29 = .ok (.iconst 1, 1) := by decide +kernel
theorem dX1_explain_30 : decode cX1_explain 30 = .ok (.isub, 1) := by decide +kernel
theorem dX1_explain_31 : decode cX1_explain 31 = .ok (.iload_n 3, 1) := by decide +kernel
theorem dX1_explain_32 : decode cX1_explain 32 = .ok (.iand, 1) := by decide +kernel
theorem dX1_explain_33 : decode cX1_explain 33 = .ok (.istore 4, 2) := by decide +kernel
theorem dX1_explain_35 : decode cX1_explain 35 = .ok (.goto (-22), 3) := by decide +kernel
theorem dX1_explain_38 : decode cX1_explain 38 = .ok (.aload_n 0, 1) := by decide +kernel
theorem dX1_explain_39 : decode cX1_explain 39 = .ok (.iload_n 1, 1) := by decide +kernel
theorem dX1_explain_40 : decode cX1_explain 40 = .ok (.iload_n 2, 1) := by decide +kernel
theorem dX1_explain_41 : decode cX1_explain 41 = .ok (.invokevirtual 102, 3) := by decide +kernel
theorem dX1_explain_44 : decode cX1_explain 44 = .ok (.return_, 1) := by decide +kernel
theorem dX1_tryHand_0 : decode cX1_tryHand 0 = .ok (.aload_n 0, 1) := by decide +kernel
theorem dX1_tryHand_1 : decode cX1_tryHand 1 = .ok (.getfield 44, 3) := by decide +kernel
theorem dX1_tryHand_4 : decode cX1_tryHand 4 = .ok (.iload_n 2, 1) := by decide +kernel
theorem dX1_tryHand_5 : decode cX1_tryHand 5 = .ok (.invokevirtual 67, 3) := by decide +kernel
theorem dX1_tryHand_8 : decode cX1_tryHand 8 = .ok (.ifCond .ne 4, 3) := by decide +kernel
theorem dX1_tryHand_11 : decode cX1_tryHand 11 = .ok (.return_, 1) := by decide +kernel
theorem dX1_tryHand_12 : decode cX1_tryHand 12 = .ok (.iconst 1, 1) := by decide +kernel
theorem dX1_tryHand_13 : decode cX1_tryHand 13 = .ok (.aload_n 0, 1) := by decide +kernel
theorem dX1_tryHand_14 : decode cX1_tryHand 14 = .ok (.getfield 47, 3) := by decide +kernel
theorem dX1_tryHand_17 : decode cX1_tryHand 17 = .ok (.iload_n 1, 1) := by decide +kernel
theorem dX1_tryHand_18 : decode cX1_tryHand 18 = .ok (.iload_n 2, 1) := by decide +kernel
theorem dX1_tryHand_19 : decode cX1_tryHand 19 = .ok (.iconst (-1), 1) := by decide +kernel
theorem dX1_tryHand_20 : decode cX1_tryHand 20 = .ok (.ixor, 1) := by decide +kernel
theorem dX1_tryHand_21 : decode cX1_tryHand 21 = .ok (.iand, 1) := by decide +kernel
theorem dX1_tryHand_22 : decode cX1_tryHand 22 = .ok (.invokevirtual 67, 3) := by decide +kernel
theorem dX1_tryHand_25 : decode cX1_tryHand 25 = .ok (.iadd, 1) := by decide +kernel
theorem dX1_tryHand_26 : decode cX1_tryHand 26 = .ok (.istore_n 3, 1) := by decide +kernel
theorem dX1_tryHand_27 : decode cX1_tryHand 27 = .ok (.iload_n 3, 1) := by decide +kernel
theorem dX1_tryHand_28 : decode cX1_tryHand 28 = .ok (.aload_n 0, 1) := by decide +kernel
theorem dX1_tryHand_29 : decode cX1_tryHand 29 = .ok (.getfield 47, 3) := by decide +kernel
theorem dX1_tryHand_32 : decode cX1_tryHand 32 = .ok (.iload_n 1, 1) := by decide +kernel
theorem dX1_tryHand_33 : decode cX1_tryHand 33 = .ok (.invokevirtual 67, 3) := by decide +kernel
theorem dX1_tryHand_36 : decode cX1_tryHand 36 = .ok (.if_icmp .ge 21, 3) := by decide +kernel
theorem dX1_tryHand_39 : decode cX1_tryHand 39 = .ok (.aload_n 0, 1) := by decide +kernel
theorem dX1_tryHand_40 : decode cX1_tryHand 40 = .ok (.getfield 47, 3) := by decide +kernel
theorem dX1_tryHand_43 : decode cX1_tryHand 43 = .ok (.iload_n 1, 1) := by decide +kernel
theorem dX1_tryHand_44 : decode cX1_tryHand 44 = .ok (.iload_n 3, 1) := by decide +kernel
theorem dX1_tryHand_45 : decode cX1_tryHand 45 = .ok (.invokevirtual 71, 3) := by decide +kernel
theorem dX1_tryHand_48 : decode cX1_tryHand 48 = .ok (.aload_n 0, 1) := by decide +kernel
theorem dX1_tryHand_49 : decode cX1_tryHand 49 = .ok (.getfield 50, 3) := by decide +kernel
theorem dX1_tryHand_52 : decode cX1_tryHand 52 = .ok (.iload_n 1, 1) := by decide +kernel
theorem dX1_tryHand_53 : decode cX1_tryHand 53 = .ok (.iconst 0, 1) := by decide +kernel
theorem dX1_tryHand_54 : decode cX1_tryHand 54 = .ok (.invokevirtual 71, 3) := by decide +kernel
theorem dX1_tryHand_57 : decode cX1_tryHand 57 = .ok (.iload_n 3, 1) := by decide +kernel
theorem dX1_tryHand_58 : decode cX1_tryHand 58 = .ok (.aload_n 0, 1) := by decide +kernel
theorem dX1_tryHand_59 : decode cX1_tryHand 59 = .ok (.getfield 47, 3) := by decide +kernel
theorem dX1_tryHand_62 : decode cX1_tryHand 62 = .ok (.iload_n 1, 1) := by decide +kernel
theorem dX1_tryHand_63 : decode cX1_tryHand 63 = .ok (.invokevirtual 67, 3) := by decide +kernel
theorem dX1_tryHand_66 : decode cX1_tryHand 66 = .ok (.if_icmp .ne 23, 3) := by decide +kernel
theorem dX1_tryHand_69 : decode cX1_tryHand 69 = .ok (.aload_n 0, 1) := by decide +kernel
theorem dX1_tryHand_70 : decode cX1_tryHand 70 = .ok (.getfield 50, 3) := by decide +kernel
theorem dX1_tryHand_73 : decode cX1_tryHand 73 = .ok (.iload_n 1, 1) := by decide +kernel
theorem dX1_tryHand_74 : decode cX1_tryHand 74 = .ok (.aload_n 0, 1) := by decide +kernel
theorem dX1_tryHand_75 : decode cX1_tryHand 75 = .ok (.getfield 50, 3) := by decide +kernel
theorem dX1_tryHand_78 : decode cX1_tryHand 78 = .ok (.iload_n 1, 1) := by decide +kernel
theorem dX1_tryHand_79 : decode cX1_tryHand 79 = .ok (.iload_n 2, 1) := by decide +kernel
theorem dX1_tryHand_80 : decode cX1_tryHand 80 = .ok (.iconst (-1), 1) := by decide +kernel
theorem dX1_tryHand_81 : decode cX1_tryHand 81 = .ok (.ixor, 1) := by decide +kernel
theorem dX1_tryHand_82 : decode cX1_tryHand 82 = .ok (.iand, 1) := by decide +kernel
theorem dX1_tryHand_83 : decode cX1_tryHand 83 = .ok (.invokevirtual 67, 3) := by decide +kernel
theorem dX1_tryHand_86 : decode cX1_tryHand 86 = .ok (.invokevirtual 105, 3) := by decide +kernel
theorem dX1_tryHand_89 : decode cX1_tryHand 89 = .ok (.return_, 1) := by decide +kernel
theorem dX1_hands_0 : decode cX1_hands 0 = .ok (.aload_n 0, 1) := by decide +kernel
theorem dX1_hands_1 : decode cX1_hands 1 = .ok (.getfield 47, 3) := by decide +kernel
theorem dX1_hands_4 : decode cX1_hands 4 = .ok (.iconst 1, 1) := by decide +kernel
theorem dX1_hands_5 : decode cX1_hands 5 = .ok (.aload_n 0, 1) := by decide +kernel
theorem dX1_hands_6 : decode cX1_hands 6 = .ok (.getfield 21, 3) := by decide +kernel
theorem dX1_hands_9 : decode cX1_hands 9 = .ok (.invokevirtual 60, 3) := by decide +kernel
theorem dX1_hands_12 : decode cX1_hands 12 = .ok (.ishl, 1) := by decide +kernel
theorem dX1_hands_13 : decode cX1_hands 13 = .ok (.iconst 1, 1) := by decide +kernel
theorem dX1_hands_14 : decode cX1_hands 14 = .ok (.isub, 1) := by decide +kernel
theorem dX1_hands_15 : decode cX1_hands 15 = .ok (.invokevirtual 67, 3) := by decide +kernel
theorem dX1_hands_18 : decode cX1_hands 18 = .ok (.ireturn, 1) := by decide +kernel
theorem dX1_rivals_0 : decode cX1_rivals 0 = .ok (.aload_n 0, 1) := by decide +kernel
theorem dX1_rivals_1 : decode cX1_rivals 1 = .ok (.getfield 50, 3) := by decide +kernel
theorem dX1_rivals_4 : decode cX1_rivals 4 = .ok (.iconst 1, 1) := by decide +kernel
theorem dX1_rivals_5 : decode cX1_rivals 5 = .ok (.aload_n 0, 1) := by decide +kernel
theorem dX1_rivals_6 : decode cX1_rivals 6 = .ok (.getfield 21, 3) := by decide +kernel
theorem dX1_rivals_9 : decode cX1_rivals 9 = .ok (.invokevirtual 60, 3) := by decide +kernel
theorem dX1_rivals_12 : decode cX1_rivals 12 = .ok (.ishl, 1) := by decide +kernel
theorem dX1_rivals_13 : decode cX1_rivals 13 = .ok (.iconst 1, 1) := by decide +kernel
theorem dX1_rivals_14 : decode cX1_rivals 14 = .ok (.isub, 1) := by decide +kernel
theorem dX1_rivals_15 : decode cX1_rivals 15 = .ok (.invokevirtual 67, 3) := by decide +kernel
theorem dX1_rivals_18 : decode cX1_rivals 18 = .ok (.ireturn, 1) := by decide +kernel
theorem dX1_isPrinted_0 : decode cX1_isPrinted 0 = .ok (.iload_n 0, 1) := by decide +kernel
theorem dX1_isPrinted_1 : decode cX1_isPrinted 1 = .ok (.ifCond .lt 13, 3) := by decide +kernel
theorem dX1_isPrinted_4 : decode cX1_isPrinted 4 = .ok (.iload_n 0, 1) := by decide +kernel
theorem dX1_isPrinted_5 : decode cX1_isPrinted 5 = .ok (.bipush 10, 2) := by decide +kernel
theorem dX1_isPrinted_7 : decode cX1_isPrinted 7 = .ok (.if_icmp .ge 7, 3) := by decide +kernel
theorem dX1_isPrinted_10 : decode cX1_isPrinted 10 = .ok (.iconst 1, 1) := by decide +kernel
theorem dX1_isPrinted_11 : decode cX1_isPrinted 11 = .ok (.goto 4, 3) := by decide +kernel
theorem dX1_isPrinted_14 : decode cX1_isPrinted 14 = .ok (.iconst 0, 1) := by decide +kernel
theorem dX1_isPrinted_15 : decode cX1_isPrinted 15 = .ok (.ireturn, 1) := by decide +kernel
theorem dX1_rule_0 : decode cX1_rule 0 = .ok (.iload_n 0, 1) := by decide +kernel
theorem dX1_rule_1 : decode cX1_rule 1 = .ok (.bipush 10, 2) := by decide +kernel
theorem dX1_rule_3 : decode cX1_rule 3 = .ok (.imul, 1) := by decide +kernel
theorem dX1_rule_4 : decode cX1_rule 4 = .ok (.iload_n 1, 1) := by decide +kernel
theorem dX1_rule_5 : decode cX1_rule 5 = .ok (.iadd, 1) := by decide +kernel
theorem dX1_rule_6 : decode cX1_rule 6 = .ok (.ireturn, 1) := by decide +kernel
theorem dX1_countRuns_0 : decode cX1_countRuns 0 = .ok (.aload_n 0, 1) := by decide +kernel
theorem dX1_countRuns_1 : decode cX1_countRuns 1 = .ok (.iload_n 1, 1) := by decide +kernel
theorem dX1_countRuns_2 : decode cX1_countRuns 2 = .ok (.invokevirtual 108, 3) := by decide +kernel
theorem dX1_countRuns_5 : decode cX1_countRuns 5 = .ok (.iconst 1, 1) := by decide +kernel
theorem dX1_countRuns_6 : decode cX1_countRuns 6 = .ok (.iconst 0, 1) := by decide +kernel
theorem dX1_countRuns_7 : decode cX1_countRuns 7 = .ok (.iload_n 1, 1) := by decide +kernel
theorem dX1_countRuns_8 : decode cX1_countRuns 8 = .ok (.bipush 10, 2) := by decide +kernel
theorem dX1_countRuns_10 : decode cX1_countRuns 10 = .ok (.invokestatic 81, 3) := by decide +kernel
theorem dX1_countRuns_13 : decode cX1_countRuns 13 = .ok (.invokestatic 111, 3) := by decide +kernel
theorem dX1_countRuns_16 : decode cX1_countRuns 16 = .ok (.ishl, 1) := by decide +kernel
theorem dX1_countRuns_17 : decode cX1_countRuns 17 = .ok (.istore_n 2, 1) := by decide +kernel
theorem dX1_countRuns_18 : decode cX1_countRuns 18 = .ok (.aload_n 0, 1) := by decide +kernel
theorem dX1_countRuns_19 : decode cX1_countRuns 19 = .ok (.getfield 50, 3) := by decide +kernel
theorem dX1_countRuns_22 : decode cX1_countRuns 22 = .ok (.iconst 0, 1) := by decide +kernel
theorem dX1_countRuns_23 : decode cX1_countRuns 23 = .ok (.invokevirtual 114, 3) := by decide +kernel
theorem dX1_countRuns_26 : decode cX1_countRuns 26 = .ok (.aload_n 0, 1) := by decide +kernel
theorem dX1_countRuns_27 : decode cX1_countRuns 27 = .ok (.getfield 50, 3) := by decide +kernel
theorem dX1_countRuns_30 : decode cX1_countRuns 30 = .ok (.iconst 0, 1) := by decide +kernel
theorem dX1_countRuns_31 : decode cX1_countRuns 31 = .ok (.iconst 1, 1) := by decide +kernel
theorem dX1_countRuns_32 : decode cX1_countRuns 32 = .ok (.invokevirtual 71, 3) := by decide +kernel
theorem dX1_countRuns_35 : decode cX1_countRuns 35 = .ok (.iconst 0, 1) := by decide +kernel
theorem dX1_countRuns_36 : decode cX1_countRuns 36 = .ok (.istore_n 3, 1) := by decide +kernel
theorem dX1_countRuns_37 : decode cX1_countRuns 37 = .ok (.iload_n 3, 1) := by decide +kernel
theorem dX1_countRuns_38 : decode cX1_countRuns 38 = .ok (.iload_n 2, 1) := by decide +kernel
theorem dX1_countRuns_39 : decode cX1_countRuns 39 = .ok (.if_icmp .ge 66, 3) := by decide +kernel
theorem dX1_countRuns_42 : decode cX1_countRuns 42 = .ok (.iconst 0, 1) := by decide +kernel
theorem dX1_countRuns_43 : decode cX1_countRuns 43 = .ok (.istore 4, 2) := by decide +kernel
theorem dX1_countRuns_45 : decode cX1_countRuns 45 = .ok (.iload 4, 2) := by decide +kernel
theorem dX1_countRuns_47 : decode cX1_countRuns 47 = .ok (.iload_n 1, 1) := by decide +kernel
theorem dX1_countRuns_48 : decode cX1_countRuns 48 = .ok (.if_icmp .ge 51, 3) := by decide +kernel
theorem dX1_countRuns_51 : decode cX1_countRuns 51 = .ok (.aload_n 0, 1) := by decide +kernel
theorem dX1_countRuns_52 : decode cX1_countRuns 52 = .ok (.getfield 50, 3) := by decide +kernel
theorem dX1_countRuns_55 : decode cX1_countRuns 55 = .ok (.iload_n 3, 1) := by decide +kernel
theorem dX1_countRuns_56 : decode cX1_countRuns 56 = .ok (.invokevirtual 67, 3) := by decide +kernel
theorem dX1_countRuns_59 : decode cX1_countRuns 59 = .ok (.ifCond .le 40, 3) := by decide +kernel
theorem dX1_countRuns_62 : decode cX1_countRuns 62 = .ok (.aload_n 0, 1) := by decide +kernel
theorem dX1_countRuns_63 : decode cX1_countRuns 63 = .ok (.iload 4, 2) := by decide +kernel
theorem dX1_countRuns_65 : decode cX1_countRuns 65 = .ok (.iload_n 3, 1) := by decide +kernel
theorem dX1_countRuns_66 : decode cX1_countRuns 66 = .ok (.invokevirtual 117, 3) := by decide +kernel
theorem dX1_countRuns_69 : decode cX1_countRuns 69 = .ok (.ifCond .eq 24, 3) := by decide +kernel
theorem dX1_countRuns_72 : decode cX1_countRuns 72 = .ok (.aload_n 0, 1) := by decide +kernel
theorem dX1_countRuns_73 : decode cX1_countRuns 73 = .ok (.getfield 50, 3) := by decide +kernel
theorem dX1_countRuns_76 : decode cX1_countRuns 76 = .ok (.iload_n 3, 1) := by decide +kernel
theorem dX1_countRuns_77 : decode cX1_countRuns 77 = .ok (.iconst 1, 1) := by decide +kernel
theorem dX1_countRuns_78 : decode cX1_countRuns 78 = .ok (.iload 4, 2) := by decide +kernel
theorem dX1_countRuns_80 : decode cX1_countRuns 80 = .ok (.ishl, 1) := by decide +kernel
theorem dX1_countRuns_81 : decode cX1_countRuns 81 = .ok (.ior, 1) := by decide +kernel
theorem dX1_countRuns_82 : decode cX1_countRuns 82 = .ok (.aload_n 0, 1) := by decide +kernel
theorem dX1_countRuns_83 : decode cX1_countRuns 83 = .ok (.getfield 50, 3) := by decide +kernel
theorem dX1_countRuns_86 : decode cX1_countRuns 86 = .ok (.iload_n 3, 1) := by decide +kernel
theorem dX1_countRuns_87 : decode cX1_countRuns 87 = .ok (.invokevirtual 67, 3) := by decide +kernel
theorem dX1_countRuns_90 : decode cX1_countRuns 90 = .ok (.invokevirtual 105, 3) := by decide +kernel
theorem dX1_countRuns_93 : decode cX1_countRuns 93 = .ok (.iinc 4 1, 3) := by decide +kernel
theorem dX1_countRuns_96 : decode cX1_countRuns 96 = .ok (.goto (-51), 3) := by decide +kernel
theorem dX1_countRuns_99 : decode cX1_countRuns 99 = .ok (.iinc 3 1, 3) := by decide +kernel
theorem dX1_countRuns_102 : decode cX1_countRuns 102 = .ok (.goto (-65), 3) := by decide +kernel
theorem dX1_countRuns_105 : decode cX1_countRuns 105 = .ok (.aload_n 0, 1) := by decide +kernel
theorem dX1_countRuns_106 : decode cX1_countRuns 106 = .ok (.getfield 50, 3) := by decide +kernel
theorem dX1_countRuns_109 : decode cX1_countRuns 109 = .ok (.iload_n 2, 1) := by decide +kernel
theorem dX1_countRuns_110 : decode cX1_countRuns 110 = .ok (.iconst 1, 1) := by decide +kernel
theorem dX1_countRuns_111 : decode cX1_countRuns 111 = .ok (.isub, 1) := by decide +kernel
theorem dX1_countRuns_112 : decode cX1_countRuns 112 = .ok (.invokevirtual 67, 3) := by decide +kernel
theorem dX1_countRuns_115 : decode cX1_countRuns 115 = .ok (.ireturn, 1) := by decide +kernel
theorem dX1_findForerunners_0 : decode cX1_findForerunners 0 = .ok (.aload_n 0, 1) := by decide +kernel
theorem dX1_findForerunners_1 : decode cX1_findForerunners 1 = .ok (.getfield 41, 3) := by decide +kernel
theorem dX1_findForerunners_4 : decode cX1_findForerunners 4 = .ok (.iconst 0, 1) := by decide +kernel
theorem dX1_findForerunners_5 : decode cX1_findForerunners 5 = .ok (.invokevirtual 114, 3) := by decide +kernel
theorem dX1_findForerunners_8 : decode cX1_findForerunners 8 = .ok (.iconst 0, 1) := by decide +kernel
theorem dX1_findForerunners_9 : decode cX1_findForerunners 9 = .ok (.istore_n 2, 1) := by decide +kernel
theorem dX1_findForerunners_10 : decode cX1_findForerunners 10 = .ok (.iload_n 2, 1) := by decide +kernel
theorem dX1_findForerunners_11 : decode cX1_findForerunners 11 = .ok (.aload_n 0, 1) := by decide +kernel
theorem dX1_findForerunners_12 : decode cX1_findForerunners 12 = .ok (.getfield 24, 3) := by decide +kernel
theorem dX1_findForerunners_15 : decode cX1_findForerunners 15 = .ok (.invokevirtual 60, 3) := by decide +kernel
theorem dX1_findForerunners_18 : decode cX1_findForerunners 18 = .ok (.if_icmp .ge 67, 3) := by decide +kernel
theorem dX1_findForerunners_21 : decode cX1_findForerunners 21 = .ok (.aload_n 0, 1) := by decide +kernel
theorem dX1_findForerunners_22 : decode cX1_findForerunners 22 = .ok (.getfield 24, 3) := by decide +kernel
theorem dX1_findForerunners_25 : decode cX1_findForerunners 25 = .ok (.iload_n 2, 1) := by decide +kernel
theorem dX1_findForerunners_26 : decode cX1_findForerunners 26 = .ok (.invokevirtual 67, 3) := by decide +kernel
theorem dX1_findForerunners_29 : decode cX1_findForerunners 29 = .ok (.bipush 10, 2) := by decide +kernel
theorem dX1_findForerunners_31 : decode cX1_findForerunners 31 = .ok (.idiv, 1) := by decide +kernel
theorem dX1_findForerunners_32 : decode cX1_findForerunners 32 = .ok (.istore_n 3, 1) := by decide +kernel
theorem dX1_findForerunners_33 : decode cX1_findForerunners 33 = .ok (.aload_n 0, 1) := by decide +kernel
theorem dX1_findForerunners_34 : decode cX1_findForerunners 34 = .ok (.getfield 24, 3) := by decide +kernel
theorem dX1_findForerunners_37 : decode cX1_findForerunners 37 = .ok (.iload_n 2, 1) := by decide +kernel
theorem dX1_findForerunners_38 : decode cX1_findForerunners 38 = .ok (.invokevirtual 67, 3) := by decide +kernel
theorem dX1_findForerunners_41 : decode cX1_findForerunners 41 = .ok (.bipush 10, 2) := by decide +kernel
theorem dX1_findForerunners_43 : decode cX1_findForerunners 43 = .ok (.irem, 1) := by decide +kernel
theorem dX1_findForerunners_44 : decode cX1_findForerunners 44 = .ok (.istore 4, 2) := by decide +kernel
theorem dX1_findForerunners_46 : decode cX1_findForerunners 46 = .ok (.iload_n 3, 1) := by decide +kernel
theorem dX1_findForerunners_47 : decode cX1_findForerunners 47 = .ok (.iload_n 1, 1) := by decide +kernel
theorem dX1_findForerunners_48 : decode cX1_findForerunners 48 = .ok (.if_icmp .ge 31, 3) := by decide +kernel
theorem dX1_findForerunners_51 : decode cX1_findForerunners 51 = .ok (.iload 4, 2) := by decide +kernel
theorem dX1_findForerunners_53 : decode cX1_findForerunners 53 = .ok (.iload_n 1, 1) := by decide +kernel
theorem dX1_findForerunners_54 : decode cX1_findForerunners 54 = .ok (.if_icmp .ge 25, 3) := by decide +kernel
theorem dX1_findForerunners_57 : decode cX1_findForerunners 57 = .ok (.aload_n 0, 1) := by decide +kernel
theorem dX1_findForerunners_58 : decode cX1_findForerunners 58 = .ok (.getfield 41, 3) := by decide +kernel
theorem dX1_findForerunners_61 : decode cX1_findForerunners 61 = .ok (.iload 4, 2) := by decide +kernel
theorem dX1_findForerunners_63 : decode cX1_findForerunners 63 = .ok (.aload_n 0, 1) := by decide +kernel
theorem dX1_findForerunners_64 : decode cX1_findForerunners 64 = .ok (.getfield 41, 3) := by decide +kernel
theorem dX1_findForerunners_67 : decode cX1_findForerunners 67 = .ok (.iload 4, 2) := by decide +kernel
theorem dX1_findForerunners_69 : decode cX1_findForerunners 69 = .ok (.invokevirtual 67, 3) := by decide +kernel
theorem dX1_findForerunners_72 : decode cX1_findForerunners 72 = .ok (.iconst 1, 1) := by decide +kernel
theorem dX1_findForerunners_73 : decode cX1_findForerunners 73 = .ok (.iload_n 3, 1) := by decide +kernel
theorem dX1_findForerunners_74 : decode cX1_findForerunners 74 = .ok (.ishl, 1) := by decide +kernel
theorem dX1_findForerunners_75 : decode cX1_findForerunners 75 = .ok (.ior, 1) := by decide +kernel
theorem dX1_findForerunners_76 : decode cX1_findForerunners 76 = .ok (.invokevirtual 71, 3) := by decide +kernel
theorem dX1_findForerunners_79 : decode cX1_findForerunners 79 = .ok (.iinc 2 1, 3) := by decide +kernel
theorem dX1_findForerunners_82 : decode cX1_findForerunners 82 = .ok (.goto (-72), 3) := by decide +kernel
theorem dX1_findForerunners_85 : decode cX1_findForerunners 85 = .ok (.return_, 1) := by decide +kernel
theorem dX1_canFollow_0 : decode cX1_canFollow 0 = .ok (.iload_n 2, 1) := by decide +kernel
theorem dX1_canFollow_1 : decode cX1_canFollow 1 = .ok (.iload_n 1, 1) := by decide +kernel
theorem dX1_canFollow_2 : decode cX1_canFollow 2 = .ok (.ishr, 1) := by decide +kernel
theorem dX1_canFollow_3 : decode cX1_canFollow 3 = .ok (.iconst 1, 1) := by decide +kernel
theorem dX1_canFollow_4 : decode cX1_canFollow 4 = .ok (.iand, 1) := by decide +kernel
theorem dX1_canFollow_5 : decode cX1_canFollow 5 = .ok (.ifCond .ne 22, 3) := by decide +kernel
theorem dX1_canFollow_8 : decode cX1_canFollow 8 = .ok (.aload_n 0, 1) := by decide +kernel
theorem dX1_canFollow_9 : decode cX1_canFollow 9 = .ok (.getfield 41, 3) := by decide +kernel
theorem dX1_canFollow_12 : decode cX1_canFollow 12 = .ok (.iload_n 1, 1) := by decide +kernel
theorem dX1_canFollow_13 : decode cX1_canFollow 13 = .ok (.invokevirtual 67, 3) := by decide +kernel
theorem dX1_canFollow_16 : decode cX1_canFollow 16 = .ok (.iload_n 2, 1) := by decide +kernel
theorem dX1_canFollow_17 : decode cX1_canFollow 17 = .ok (.iconst (-1), 1) := by decide +kernel
theorem dX1_canFollow_18 : decode cX1_canFollow 18 = .ok (.ixor, 1) := by decide +kernel
theorem dX1_canFollow_19 : decode cX1_canFollow 19 = .ok (.iand, 1) := by decide +kernel
theorem dX1_canFollow_20 : decode cX1_canFollow 20 = .ok (.ifCond .ne 7, 3) := by decide +kernel
theorem dX1_canFollow_23 : decode cX1_canFollow 23 = .ok (.iconst 1, 1) := by decide +kernel
theorem dX1_canFollow_24 : decode cX1_canFollow 24 = .ok (.goto 4, 3) := by decide +kernel
theorem dX1_canFollow_27 : decode cX1_canFollow 27 = .ok (.iconst 0, 1) := by decide +kernel
theorem dX1_canFollow_28 : decode cX1_canFollow 28 = .ok (.ireturn, 1) := by decide +kernel
theorem dX1_beginnings_0 : decode cX1_beginnings 0 = .ok (.iconst 0, 1) := by decide +kernel
theorem dX1_beginnings_1 : decode cX1_beginnings 1 = .ok (.istore_n 2, 1) := by decide +kernel
theorem dX1_beginnings_2 : decode cX1_beginnings 2 = .ok (.iconst 0, 1) := by decide +kernel
theorem dX1_beginnings_3 : decode cX1_beginnings 3 = .ok (.istore_n 3, 1) := by decide +kernel
theorem dX1_beginnings_4 : decode cX1_beginnings 4 = .ok (.iload_n 3, 1) := by decide +kernel
theorem dX1_beginnings_5 : decode cX1_beginnings 5 = .ok (.iload_n 1, 1) := by decide +kernel
theorem dX1_beginnings_6 : decode cX1_beginnings 6 = .ok (.if_icmp .ge 28, 3) := by decide +kernel
theorem dX1_beginnings_9 : decode cX1_beginnings 9 = .ok (.iload_n 2, 1) := by decide +kernel
theorem dX1_beginnings_10 : decode cX1_beginnings 10 = .ok (.aload_n 0, 1) := by decide +kernel
theorem dX1_beginnings_11 : decode cX1_beginnings 11 = .ok (.iload_n 3, 1) := by decide +kernel
theorem dX1_beginnings_12 : decode cX1_beginnings 12 = .ok (.iconst 0, 1) := by decide +kernel
theorem dX1_beginnings_13 : decode cX1_beginnings 13 = .ok (.invokevirtual 117, 3) := by decide +kernel
theorem dX1_beginnings_16 : decode cX1_beginnings 16 = .ok (.ifCond .eq 9, 3) := by decide +kernel
theorem dX1_beginnings_19 : decode cX1_beginnings 19 = .ok (.iconst 1, 1) := by decide +kernel
theorem dX1_beginnings_20 : decode cX1_beginnings 20 = .ok (.iload_n 3, 1) := by decide +kernel
theorem dX1_beginnings_21 : decode cX1_beginnings 21 = .ok (.ishl, 1) := by decide +kernel
theorem dX1_beginnings_22 : decode cX1_beginnings 22 = .ok (.goto 4, 3) := by decide +kernel
theorem dX1_beginnings_25 : decode cX1_beginnings 25 = .ok (.iconst 0, 1) := by decide +kernel
theorem dX1_beginnings_26 : decode cX1_beginnings 26 = .ok (.ior, 1) := by decide +kernel
theorem dX1_beginnings_27 : decode cX1_beginnings 27 = .ok (.istore_n 2, 1) := by decide +kernel
theorem dX1_beginnings_28 : decode cX1_beginnings 28 = .ok (.iinc 3 1, 3) := by decide +kernel
theorem dX1_beginnings_31 : decode cX1_beginnings 31 = .ok (.goto (-27), 3) := by decide +kernel
theorem dX1_beginnings_34 : decode cX1_beginnings 34 = .ok (.iload_n 2, 1) := by decide +kernel
theorem dX1_beginnings_35 : decode cX1_beginnings 35 = .ok (.ireturn, 1) := by decide +kernel
theorem dX1_lastOne_0 : decode cX1_lastOne 0 = .ok (.iconst 0, 1) := by decide +kernel
theorem dX1_lastOne_1 : decode cX1_lastOne 1 = .ok (.istore_n 3, 1) := by decide +kernel
theorem dX1_lastOne_2 : decode cX1_lastOne 2 = .ok (.iconst (-1), 1) := by decide +kernel
theorem dX1_lastOne_3 : decode cX1_lastOne 3 = .ok (.istore 4, 2) := by decide +kernel
theorem dX1_lastOne_5 : decode cX1_lastOne 5 = .ok (.iconst 0, 1) := by decide +kernel
theorem dX1_lastOne_6 : decode cX1_lastOne 6 = .ok (.istore 5, 2) := by decide +kernel
theorem dX1_lastOne_8 : decode cX1_lastOne 8 = .ok (.iload 5, 2) := by decide +kernel
theorem dX1_lastOne_10 : decode cX1_lastOne 10 = .ok (.iload_n 2, 1) := by decide +kernel
theorem dX1_lastOne_11 : decode cX1_lastOne 11 = .ok (.if_icmp .gt 35, 3) := by decide +kernel
theorem dX1_lastOne_14 : decode cX1_lastOne 14 = .ok (.iload 5, 2) := by decide +kernel
theorem dX1_lastOne_16 : decode cX1_lastOne 16 = .ok (.bipush 10, 2) := by decide +kernel
theorem dX1_lastOne_18 : decode cX1_lastOne 18 = .ok (.if_icmp .ge 28, 3) := by decide +kernel
theorem dX1_lastOne_21 : decode cX1_lastOne 21 = .ok (.aload_n 0, 1) := by decide +kernel
theorem dX1_lastOne_22 : decode cX1_lastOne 22 = .ok (.iload_n 1, 1) := by decide +kernel
theorem dX1_lastOne_23 : decode cX1_lastOne 23 = .ok (.iload_n 3, 1) := by decide +kernel
theorem dX1_lastOne_24 : decode cX1_lastOne 24 = .ok (.invokevirtual 121, 3) := by decide +kernel
theorem dX1_lastOne_27 : decode cX1_lastOne 27 = .ok (.istore 4, 2) := by decide +kernel
theorem dX1_lastOne_29 : decode cX1_lastOne 29 = .ok (.iload_n 3, 1) := by decide +kernel
theorem dX1_lastOne_30 : decode cX1_lastOne 30 = .ok (.iconst 1, 1) := by decide +kernel
theorem dX1_lastOne_31 : decode cX1_lastOne 31 = .ok (.iload 4, 2) := by decide +kernel
theorem dX1_lastOne_33 : decode cX1_lastOne 33 = .ok (.iconst 0, 1) := by decide +kernel
theorem dX1_lastOne_34 : decode cX1_lastOne 34 = .ok (.invokestatic 111, 3) := by decide +kernel
theorem dX1_lastOne_37 : decode cX1_lastOne 37 = .ok (.ishl, 1) := by decide +kernel
theorem dX1_lastOne_38 : decode cX1_lastOne 38 = .ok (.ior, 1) := by decide +kernel
theorem dX1_lastOne_39 : decode cX1_lastOne 39 = .ok (.istore_n 3, 1) := by decide +kernel
theorem dX1_lastOne_40 : decode cX1_lastOne 40 = .ok (.iinc 5 1, 3) := by decide +kernel
theorem dX1_lastOne_43 : decode cX1_lastOne 43 = .ok (.goto (-35), 3) := by decide +kernel
theorem dX1_lastOne_46 : decode cX1_lastOne 46 = .ok (.iload 4, 2) := by decide +kernel
theorem dX1_lastOne_48 : decode cX1_lastOne 48 = .ok (.ireturn, 1) := by decide +kernel
theorem dX1_greatestNext_0 : decode cX1_greatestNext 0 = .ok (.iload_n 1, 1) := by decide +kernel
theorem dX1_greatestNext_1 : decode cX1_greatestNext 1 = .ok (.iconst 1, 1) := by decide +kernel
theorem dX1_greatestNext_2 : decode cX1_greatestNext 2 = .ok (.isub, 1) := by decide +kernel
theorem dX1_greatestNext_3 : decode cX1_greatestNext 3 = .ok (.istore_n 3, 1) := by decide +kernel
theorem dX1_greatestNext_4 : decode cX1_greatestNext 4 = .ok (.iload_n 3, 1) := by decide +kernel
theorem dX1_greatestNext_5 : decode cX1_greatestNext 5 = .ok (.ifCond .lt 20, 3) := by decide +kernel
theorem dX1_greatestNext_8 : decode cX1_greatestNext 8 = .ok (.aload_n 0, 1) := by decide +kernel
theorem dX1_greatestNext_9 : decode cX1_greatestNext 9 = .ok (.iload_n 3, 1) := by decide +kernel
theorem dX1_greatestNext_10 : decode cX1_greatestNext 10 = .ok (.iload_n 2, 1) := by decide +kernel
theorem dX1_greatestNext_11 : decode cX1_greatestNext 11 = .ok (.invokevirtual 117, 3) := by decide +kernel
theorem dX1_greatestNext_14 : decode cX1_greatestNext 14 = .ok (.ifCond .eq 5, 3) := by decide +kernel
theorem dX1_greatestNext_17 : decode cX1_greatestNext 17 = .ok (.iload_n 3, 1) := by decide +kernel
theorem dX1_greatestNext_18 : decode cX1_greatestNext 18 = .ok (.ireturn, 1) := by decide +kernel
theorem dX1_greatestNext_19 : decode cX1_greatestNext 19 = .ok (.iinc 3 (-1), 3) := by decide +kernel
theorem dX1_greatestNext_22 : decode cX1_greatestNext 22 = .ok (.goto (-18), 3) := by decide +kernel
theorem dX1_greatestNext_25 : decode cX1_greatestNext 25 = .ok (.iconst (-1), 1) := by decide +kernel
theorem dX1_greatestNext_26 : decode cX1_greatestNext 26 = .ok (.ireturn, 1) := by decide +kernel
theorem dX2_init_0 : decode cX2_init 0 = .ok (.aload_n 0, 1) := by decide +kernel
theorem dX2_init_1 : decode cX2_init 1 = .ok (.invokespecial 3, 3) := by decide +kernel
theorem dX2_init_4 : decode cX2_init 4 = .ok (.aload_n 0, 1) := by decide +kernel
theorem dX2_init_5 : decode cX2_init 5 = .ok (.aload_n 1, 1) := by decide +kernel
theorem dX2_init_6 : decode cX2_init 6 = .ok (.bipush 40, 2) := by decide +kernel
theorem dX2_init_8 : decode cX2_init 8 = .ok (.invokevirtual 9, 3) := by decide +kernel
theorem dX2_init_11 : decode cX2_init 11 = .ok (.putfield 15, 3) := by decide +kernel
theorem dX2_init_14 : decode cX2_init 14 = .ok (.aload_n 0, 1) := by decide +kernel
theorem dX2_init_15 : decode cX2_init 15 = .ok (.aload_n 1, 1) := by decide +kernel
theorem dX2_init_16 : decode cX2_init 16 = .ok (.bipush 40, 2) := by decide +kernel
theorem dX2_init_18 : decode cX2_init 18 = .ok (.invokevirtual 9, 3) := by decide +kernel
theorem dX2_init_21 : decode cX2_init 21 = .ok (.putfield 19, 3) := by decide +kernel
theorem dX2_init_24 : decode cX2_init 24 = .ok (.aload_n 0, 1) := by decide +kernel
theorem dX2_init_25 : decode cX2_init 25 = .ok (.aload_n 1, 1) := by decide +kernel
theorem dX2_init_26 : decode cX2_init 26 = .ok (.bipush 40, 2) := by decide +kernel
theorem dX2_init_28 : decode cX2_init 28 = .ok (.invokevirtual 9, 3) := by decide +kernel
theorem dX2_init_31 : decode cX2_init 31 = .ok (.putfield 22, 3) := by decide +kernel
theorem dX2_init_34 : decode cX2_init 34 = .ok (.aload_n 0, 1) := by decide +kernel
theorem dX2_init_35 : decode cX2_init 35 = .ok (.aload_n 1, 1) := by decide +kernel
theorem dX2_init_36 : decode cX2_init 36 = .ok (.bipush 40, 2) := by decide +kernel
theorem dX2_init_38 : decode cX2_init 38 = .ok (.invokevirtual 9, 3) := by decide +kernel
theorem dX2_init_41 : decode cX2_init 41 = .ok (.putfield 25, 3) := by decide +kernel
theorem dX2_init_44 : decode cX2_init 44 = .ok (.aload_n 0, 1) := by decide +kernel
theorem dX2_init_45 : decode cX2_init 45 = .ok (.new 28, 3) := by decide +kernel
theorem dX2_init_48 : decode cX2_init 48 = .ok (.dup, 1) := by decide +kernel
theorem dX2_init_49 : decode cX2_init 49 = .ok (.bipush 40, 2) := by decide +kernel
theorem dX2_init_51 : decode cX2_init 51 = .ok (.invokespecial 30, 3) := by decide +kernel
theorem dX2_init_54 : decode cX2_init 54 = .ok (.putfield 33, 3) := by decide +kernel
theorem dX2_init_57 : decode cX2_init 57 = .ok (.return_, 1) := by decide +kernel
theorem dX2_isKind_0 : decode cX2_isKind 0 = .ok (.iload_n 0, 1) := by decide +kernel
theorem dX2_isKind_1 : decode cX2_isKind 1 = .ok (.ifCond .lt 13, 3) := by decide +kernel
theorem dX2_isKind_4 : decode cX2_isKind 4 = .ok (.iload_n 0, 1) := by decide +kernel
theorem dX2_isKind_5 : decode cX2_isKind 5 = .ok (.bipush 6, 2) := by decide +kernel
theorem dX2_isKind_7 : decode cX2_isKind 7 = .ok (.if_icmp .gt 7, 3) := by decide +kernel
theorem dX2_isKind_10 : decode cX2_isKind 10 = .ok (.iconst 1, 1) := by decide +kernel
theorem dX2_isKind_11 : decode cX2_isKind 11 = .ok (.goto 4, 3) := by decide +kernel
theorem dX2_isKind_14 : decode cX2_isKind 14 = .ok (.iconst 0, 1) := by decide +kernel
theorem dX2_isKind_15 : decode cX2_isKind 15 = .ok (.ireturn, 1) := by decide +kernel
theorem dX2_isUnder_0 : decode cX2_isUnder 0 = .ok (.iload_n 0, 1) := by decide +kernel
theorem dX2_isUnder_1 : decode cX2_isUnder 1 = .ok (.iload_n 1, 1) := by decide +kernel
theorem dX2_isUnder_2 : decode cX2_isUnder 2 = .ok (.if_icmp .eq 28, 3) := by decide +kernel
theorem dX2_isUnder_5 : decode cX2_isUnder 5 = .ok (.iload_n 1, 1) := by decide +kernel
theorem dX2_isUnder_6 : decode cX2_isUnder 6 = .ok (.ifCond .eq 24, 3) := by decide +kernel
theorem dX2_isUnder_9 : decode cX2_isUnder 9 = .ok (.iload_n 0, 1) := by decide +kernel
theorem dX2_isUnder_10 : decode cX2_isUnder 10 = .ok (.iconst 5, 1) := by decide +kernel
theorem dX2_isUnder_11 : decode cX2_isUnder 11 = .ok (.if_icmp .ne 8, 3) := by decide +kernel
theorem dX2_isUnder_14 : decode cX2_isUnder 14 = .ok (.iload_n 1, 1) := by decide +kernel
theorem dX2_isUnder_15 : decode cX2_isUnder 15 = .ok (.iconst 2, 1) := by decide +kernel
theorem dX2_isUnder_16 : decode cX2_isUnder 16 = .ok (.if_icmp .eq 14, 3) := by decide +kernel
theorem dX2_isUnder_19 : decode cX2_isUnder 19 = .ok (.iload_n 0, 1) := by decide +kernel
theorem dX2_isUnder_20 : decode cX2_isUnder 20 = .ok (.bipush 6, 2) := by decide +kernel
theorem dX2_isUnder_22 : decode cX2_isUnder 22 = .ok (.if_icmp .ne 12, 3) := by decide +kernel
theorem dX2_isUnder_25 : decode cX2_isUnder 25 = .ok (.iload_n 1, 1) := by decide +kernel
theorem dX2_isUnder_26 : decode cX2_isUnder 26 = .ok (.iconst 1, 1) := by decide +kernel
theorem dX2_isUnder_27 : decode cX2_isUnder 27 = .ok (.if_icmp .ne 7, 3) := by decide +kernel
theorem dX2_isUnder_30 : decode cX2_isUnder 30 = .ok (.iconst 1, 1) := by decide +kernel
theorem dX2_isUnder_31 : decode cX2_isUnder 31 = .ok (.goto 4, 3) := by decide +kernel
theorem dX2_isUnder_34 : decode cX2_isUnder 34 = .ok (.iconst 0, 1) := by decide +kernel
theorem dX2_isUnder_35 : decode cX2_isUnder 35 = .ok (.ireturn, 1) := by decide +kernel
theorem dX2_has_0 : decode cX2_has 0 = .ok (.iload_n 1, 1) := by decide +kernel
theorem dX2_has_1 : decode cX2_has 1 = .ok (.ifCond .lt 18, 3) := by decide +kernel
theorem dX2_has_4 : decode cX2_has 4 = .ok (.iload_n 1, 1) := by decide +kernel
theorem dX2_has_5 : decode cX2_has 5 = .ok (.aload_n 0, 1) := by decide +kernel
theorem dX2_has_6 : decode cX2_has 6 = .ok (.getfield 15, 3) := by decide +kernel
theorem dX2_has_9 : decode cX2_has 9 = .ok (.invokevirtual 36, 3) := by decide +kernel
theorem dX2_has_12 : decode cX2_has 12 = .ok (.if_icmp .ge 7, 3) := by decide +kernel
theorem dX2_has_15 : decode cX2_has 15 = .ok (.iconst 1, 1) := by decide +kernel
theorem dX2_has_16 : decode cX2_has 16 = .ok (.goto 4, 3) := by decide +kernel
theorem dX2_has_19 : decode cX2_has 19 = .ok (.iconst 0, 1) := by decide +kernel
theorem dX2_has_20 : decode cX2_has 20 = .ok (.ireturn, 1) := by decide +kernel
theorem dX2_lay_0 : decode cX2_lay 0 = .ok (.aload_n 0, 1) := by decide +kernel
theorem dX2_lay_1 : decode cX2_lay 1 = .ok (.getfield 19, 3) := by decide +kernel
theorem dX2_lay_4 : decode cX2_lay 4 = .ok (.iload_n 2, 1) := by decide +kernel
theorem dX2_lay_5 : decode cX2_lay 5 = .ok (.invokevirtual 40, 3) := by decide +kernel
theorem dX2_lay_8 : decode cX2_lay 8 = .ok (.aload_n 0, 1) := by decide +kernel
theorem dX2_lay_9 : decode cX2_lay 9 = .ok (.getfield 22, 3) := by decide +kernel
theorem dX2_lay_12 : decode cX2_lay 12 = .ok (.iload_n 3, 1) := by decide +kernel
theorem dX2_lay_13 : decode cX2_lay 13 = .ok (.invokevirtual 40, 3) := by decide +kernel
theorem dX2_lay_16 : decode cX2_lay 16 = .ok (.aload_n 0, 1) := by decide +kernel
theorem dX2_lay_17 : decode cX2_lay 17 = .ok (.getfield 25, 3) := by decide +kernel
theorem dX2_lay_20 : decode cX2_lay 20 = .ok (.iload 4, 2) := by decide +kernel
theorem dX2_lay_22 : decode cX2_lay 22 = .ok (.invokevirtual 40, 3) := by decide +kernel
theorem dX2_lay_25 : decode cX2_lay 25 = .ok (.aload_n 0, 1) := by decide +kernel
theorem dX2_lay_26 : decode cX2_lay 26 = .ok (.getfield 15, 3) := by decide +kernel
theorem dX2_lay_29 : decode cX2_lay 29 = .ok (.iload_n 1, 1) := by decide +kernel
theorem dX2_lay_30 : decode cX2_lay 30 = .ok (.invokevirtual 43, 3) := by decide +kernel
theorem dX2_lay_33 : decode cX2_lay 33 = .ok (.ireturn, 1) := by decide +kernel
theorem dX2_costOf_0 : decode cX2_costOf 0 = .ok (.aload_n 0, 1) := by decide +kernel
theorem dX2_costOf_1 : decode cX2_costOf 1 = .ok (.getfield 15, 3) := by decide +kernel
theorem dX2_costOf_4 : decode cX2_costOf 4 = .ok (.iload_n 1, 1) := by decide +kernel
theorem dX2_costOf_5 : decode cX2_costOf 5 = .ok (.invokevirtual 47, 3) := by decide +kernel
theorem dX2_costOf_8 : decode cX2_costOf 8 = .ok (.tableswitch 82 1 6 #[40, 43, 46, 63, 65, 79], 40) := by decide +kernel
theorem dX2_costOf_48 : decode cX2_costOf 48 = .ok (.bipush 20, 2) := by decide +kernel
theorem dX2_costOf_50 : decode cX2_costOf 50 = .ok (.ireturn, 1) := by decide +kernel
theorem dX2_costOf_51 : decode cX2_costOf 51 = .ok (.bipush 60, 2) := by decide +kernel
theorem dX2_costOf_53 : decode cX2_costOf 53 = .ok (.ireturn, 1) := by decide +kernel
theorem dX2_costOf_54 : decode cX2_costOf 54 = .ok (.bipush 10, 2) := by decide +kernel
theorem dX2_costOf_56 : decode cX2_costOf 56 = .ok (.aload_n 0, 1) := by decide +kernel
theorem dX2_costOf_57 : decode cX2_costOf 57 = .ok (.getfield 22, 3) := by decide +kernel
theorem dX2_costOf_60 : decode cX2_costOf 60 = .ok (.iload_n 1, 1) := by decide +kernel
theorem dX2_costOf_61 : decode cX2_costOf 61 = .ok (.invokevirtual 47, 3) := by decide +kernel
theorem dX2_costOf_64 : decode cX2_costOf 64 = .ok (.bipush 7, 2) := by decide +kernel
theorem dX2_costOf_66 : decode cX2_costOf 66 = .ok (.invokestatic 50, 3) := by decide +kernel
theorem dX2_costOf_69 : decode cX2_costOf 69 = .ok (.iadd, 1) := by decide +kernel
theorem dX2_costOf_70 : decode cX2_costOf 70 = .ok (.ireturn, 1) := by decide +kernel
theorem dX2_costOf_71 : decode cX2_costOf 71 = .ok (.iconst 0, 1) := by decide +kernel
theorem dX2_costOf_72 : decode cX2_costOf 72 = .ok (.ireturn, 1) := by decide +kernel
theorem dX2_costOf_73 : decode cX2_costOf 73 = .ok (.bipush 60, 2) := by decide +kernel
theorem dX2_costOf_75 : decode cX2_costOf 75 = .ok (.iconst 3, 1) := by decide +kernel
theorem dX2_costOf_76 : decode cX2_costOf 76 = .ok (.aload_n 0, 1) := by decide +kernel
theorem dX2_costOf_77 : decode cX2_costOf 77 = .ok (.getfield 19, 3) := by decide +kernel
theorem dX2_costOf_80 : decode cX2_costOf 80 = .ok (.iload_n 1, 1) := by decide +kernel
theorem dX2_costOf_81 : decode cX2_costOf 81 = .ok (.invokevirtual 47, 3) := by decide +kernel
theorem dX2_costOf_84 : decode cX2_costOf 84 = .ok (.imul, 1) := by decide +kernel
theorem dX2_costOf_85 : decode cX2_costOf 85 = .ok (.iadd, 1) := by decide +kernel
theorem dX2_costOf_86 : decode cX2_costOf 86 = .ok (.ireturn, 1) := by decide +kernel
theorem dX2_costOf_87 : decode cX2_costOf 87 = .ok (.bipush 15, 2) := by decide +kernel
theorem dX2_costOf_89 : decode cX2_costOf 89 = .ok (.ireturn, 1) := by decide +kernel
theorem dX2_costOf_90 : decode cX2_costOf 90 = .ok (.bipush 10, 2) := by decide +kernel
theorem dX2_costOf_92 : decode cX2_costOf 92 = .ok (.ireturn, 1) := by decide +kernel
theorem dX2_faceOf_0 : decode cX2_faceOf 0 = .ok (.aload_n 0, 1) := by decide +kernel
theorem dX2_faceOf_1 : decode cX2_faceOf 1 = .ok (.getfield 15, 3) := by decide +kernel
theorem dX2_faceOf_4 : decode cX2_faceOf 4 = .ok (.iload_n 1, 1) := by decide +kernel
theorem dX2_faceOf_5 : decode cX2_faceOf 5 = .ok (.invokevirtual 47, 3) := by decide +kernel
theorem dX2_faceOf_8 : decode cX2_faceOf 8 = .ok (.tableswitch 65 2 6 #[36, 65, 51, 36, 53], 36) := by decide +kernel
theorem dX2_faceOf_44 : decode cX2_faceOf 44 = .ok (.aload_n 0, 1) := by decide +kernel
theorem dX2_faceOf_45 : decode cX2_faceOf 45 = .ok (.iload_n 1, 1) := by decide +kernel
theorem dX2_faceOf_46 : decode cX2_faceOf 46 = .ok (.invokevirtual 56, 3) := by decide +kernel
theorem dX2_faceOf_49 : decode cX2_faceOf 49 = .ok (.aload_n 0, 1) := by decide +kernel
theorem dX2_faceOf_50 : decode cX2_faceOf 50 = .ok (.getfield 19, 3) := by decide +kernel
theorem dX2_faceOf_53 : decode cX2_faceOf 53 = .ok (.iload_n 1, 1) := by decide +kernel
theorem dX2_faceOf_54 : decode cX2_faceOf 54 = .ok (.invokevirtual 47, 3) := by decide +kernel
theorem dX2_faceOf_57 : decode cX2_faceOf 57 = .ok (.isub, 1) := by decide +kernel
theorem dX2_faceOf_58 : decode cX2_faceOf 58 = .ok (.ireturn, 1) := by decide +kernel
theorem dX2_faceOf_59 : decode cX2_faceOf 59 = .ok (.iconst (-1), 1) := by decide +kernel
theorem dX2_faceOf_60 : decode cX2_faceOf 60 = .ok (.ireturn, 1) := by decide +kernel
theorem dX2_faceOf_61 : decode cX2_faceOf 61 = .ok (.bipush 100, 2) := by decide +kernel
theorem dX2_faceOf_63 : decode cX2_faceOf 63 = .ok (.aload_n 0, 1) := by decide +kernel
theorem dX2_faceOf_64 : decode cX2_faceOf 64 = .ok (.getfield 19, 3) := by decide +kernel
theorem dX2_faceOf_67 : decode cX2_faceOf 67 = .ok (.iload_n 1, 1) := by decide +kernel
theorem dX2_faceOf_68 : decode cX2_faceOf 68 = .ok (.invokevirtual 47, 3) := by decide +kernel
theorem dX2_faceOf_71 : decode cX2_faceOf 71 = .ok (.iadd, 1) := by decide +kernel
theorem dX2_faceOf_72 : decode cX2_faceOf 72 = .ok (.ireturn, 1) := by decide +kernel
theorem dX2_faceOf_73 : decode cX2_faceOf 73 = .ok (.aload_n 0, 1) := by decide +kernel
theorem dX2_faceOf_74 : decode cX2_faceOf 74 = .ok (.getfield 19, 3) := by decide +kernel
theorem dX2_faceOf_77 : decode cX2_faceOf 77 = .ok (.iload_n 1, 1) := by decide +kernel
theorem dX2_faceOf_78 : decode cX2_faceOf 78 = .ok (.invokevirtual 47, 3) := by decide +kernel
theorem dX2_faceOf_81 : decode cX2_faceOf 81 = .ok (.ireturn, 1) := by decide +kernel
theorem dX2_fewestCopies_0 : decode cX2_fewestCopies 0 = .ok (.iconst 0, 1) := by decide +kernel
theorem dX2_fewestCopies_1 : decode cX2_fewestCopies 1 = .ok (.istore_n 2, 1) := by decide +kernel
theorem dX2_fewestCopies_2 : decode cX2_fewestCopies 2 = .ok (.iconst 0, 1) := by decide +kernel
theorem dX2_fewestCopies_3 : decode cX2_fewestCopies 3 = .ok (.istore_n 3, 1) := by decide +kernel
theorem dX2_fewestCopies_4 : decode cX2_fewestCopies 4 = .ok (.iload_n 3, 1) := by decide +kernel
theorem dX2_fewestCopies_5 : decode cX2_fewestCopies 5 = .ok (.aload_n 0, 1) := by decide +kernel
theorem dX2_fewestCopies_6 : decode cX2_fewestCopies 6 = .ok (.getfield 15, 3) := by decide +kernel
theorem dX2_fewestCopies_9 : decode cX2_fewestCopies 9 = .ok (.invokevirtual 36, 3) := by decide +kernel
theorem dX2_fewestCopies_12 : decode cX2_fewestCopies 12 = .ok (.if_icmp .ge 62, 3) := by decide +kernel
theorem dX2_fewestCopies_15 : decode cX2_fewestCopies 15 = .ok (.aload_n 0, 1) := by decide +kernel
theorem dX2_fewestCopies_16 : decode cX2_fewestCopies 16 = .ok (.getfield 33, 3) := by decide +kernel
theorem dX2_fewestCopies_19 : decode cX2_fewestCopies 19 = .ok (.iload_n 3, 1) := by decide +kernel
theorem dX2_fewestCopies_20 : decode cX2_fewestCopies 20 = .ok (.aload_n 0, 1) := by decide +kernel
theorem dX2_fewestCopies_21 : decode cX2_fewestCopies 21 = .ok (.iload_n 3, 1) := by decide +kernel
theorem dX2_fewestCopies_22 : decode cX2_fewestCopies 22 = .ok (.iload_n 1, 1) := by decide +kernel
theorem dX2_fewestCopies_23 : decode cX2_fewestCopies 23 = .ok (.invokevirtual 59, 3) := by decide +kernel
theorem dX2_fewestCopies_26 : decode cX2_fewestCopies 26 = .ok (.ifCond .eq 11, 3) := by decide +kernel
theorem dX2_fewestCopies_29 : decode cX2_fewestCopies 29 = .ok (.aload_n 0, 1) := by decide +kernel
theorem dX2_fewestCopies_30 : decode cX2_fewestCopies 30 = .ok (.iload_n 3, 1) := by decide +kernel
theorem dX2_fewestCopies_31 : decode cX2_fewestCopies 31 = .ok (.invokevirtual 63, 3) := by decide +kernel
theorem dX2_fewestCopies_34 : decode cX2_fewestCopies 34 = .ok (.goto 4, 3) := by decide +kernel
theorem dX2_fewestCopies_37 : decode cX2_fewestCopies 37 = .ok (.iconst 0, 1) := by decide +kernel
theorem dX2_fewestCopies_38 : decode cX2_fewestCopies 38 = .ok (.invokevirtual 66, 3) := by decide +kernel
theorem dX2_fewestCopies_41 : decode cX2_fewestCopies 41 = .ok (.iload_n 2, 1) := by decide +kernel
theorem dX2_fewestCopies_42 : decode cX2_fewestCopies 42 = .ok (.aload_n 0, 1) := by decide +kernel
theorem dX2_fewestCopies_43 : decode cX2_fewestCopies 43 = .ok (.getfield 33, 3) := by decide +kernel
theorem dX2_fewestCopies_46 : decode cX2_fewestCopies 46 = .ok (.iload_n 3, 1) := by decide +kernel
theorem dX2_fewestCopies_47 : decode cX2_fewestCopies 47 = .ok (.invokevirtual 47, 3) := by decide +kernel
theorem dX2_fewestCopies_50 : decode cX2_fewestCopies 50 = .ok (.ifCond .le 15, 3) := by decide +kernel
theorem dX2_fewestCopies_53 : decode cX2_fewestCopies 53 = .ok (.aload_n 0, 1) := by decide +kernel
theorem dX2_fewestCopies_54 : decode cX2_fewestCopies 54 = .ok (.iload_n 3, 1) := by decide +kernel
theorem dX2_fewestCopies_55 : decode cX2_fewestCopies 55 = .ok (.invokevirtual 70, 3) := by decide +kernel
theorem dX2_fewestCopies_58 : decode cX2_fewestCopies 58 = .ok (.ifCond .eq 7, 3) := by decide +kernel
theorem dX2_fewestCopies_61 : decode cX2_fewestCopies 61 = .ok (.iconst 1, 1) := by decide +kernel
theorem dX2_fewestCopies_62 : decode cX2_fewestCopies 62 = .ok (.goto 4, 3) := by decide +kernel
theorem dX2_fewestCopies_65 : decode cX2_fewestCopies 65 = .ok (.iconst 0, 1) := by decide +kernel
theorem dX2_fewestCopies_66 : decode cX2_fewestCopies 66 = .ok (.iadd, 1) := by decide +kernel
theorem dX2_fewestCopies_67 : decode cX2_fewestCopies 67 = .ok (.istore_n 2, 1) := by decide +kernel
theorem dX2_fewestCopies_68 : decode cX2_fewestCopies 68 = .ok (.iinc 3 1, 3) := by decide +kernel
theorem dX2_fewestCopies_71 : decode cX2_fewestCopies 71 = .ok (.goto (-67), 3) := by decide +kernel
theorem dX2_fewestCopies_74 : decode cX2_fewestCopies 74 = .ok (.iload_n 2, 1) := by decide +kernel
theorem dX2_fewestCopies_75 : decode cX2_fewestCopies 75 = .ok (.ireturn, 1) := by decide +kernel
theorem dX2_counts_0 : decode cX2_counts 0 = .ok (.aload_n 0, 1) := by decide +kernel
theorem dX2_counts_1 : decode cX2_counts 1 = .ok (.getfield 15, 3) := by decide +kernel
theorem dX2_counts_4 : decode cX2_counts 4 = .ok (.iload_n 1, 1) := by decide +kernel
theorem dX2_counts_5 : decode cX2_counts 5 = .ok (.invokevirtual 47, 3) := by decide +kernel
theorem dX2_counts_8 : decode cX2_counts 8 = .ok (.iconst 4, 1) := by decide +kernel
theorem dX2_counts_9 : decode cX2_counts 9 = .ok (.if_icmp .eq 22, 3) := by decide +kernel
theorem dX2_counts_12 : decode cX2_counts 12 = .ok (.iload_n 2, 1) := by decide +kernel
theorem dX2_counts_13 : decode cX2_counts 13 = .ok (.aload_n 0, 1) := by decide +kernel
theorem dX2_counts_14 : decode cX2_counts 14 = .ok (.getfield 25, 3) := by decide +kernel
theorem dX2_counts_17 : decode cX2_counts 17 = .ok (.iload_n 1, 1) := by decide +kernel
theorem dX2_counts_18 : decode cX2_counts 18 = .ok (.invokevirtual 47, 3) := by decide +kernel
theorem dX2_counts_21 : decode cX2_counts 21 = .ok (.ishr, 1) := by decide +kernel
theorem dX2_counts_22 : decode cX2_counts 22 = .ok (.iconst 1, 1) := by decide +kernel
theorem dX2_counts_23 : decode cX2_counts 23 = .ok (.iand, 1) := by decide +kernel
theorem dX2_counts_24 : decode cX2_counts 24 = .ok (.ifCond .eq 7, 3) := by decide +kernel
theorem dX2_counts_27 : decode cX2_counts 27 = .ok (.iconst 1, 1) := by decide +kernel
theorem dX2_counts_28 : decode cX2_counts 28 = .ok (.goto 4, 3) := by decide +kernel
theorem dX2_counts_31 : decode cX2_counts 31 = .ok (.iconst 0, 1) := by decide +kernel
theorem dX2_counts_32 : decode cX2_counts 32 = .ok (.ireturn, 1) := by decide +kernel
theorem dX2_rankOf_0 : decode cX2_rankOf 0 = .ok (.iconst 1, 1) := by decide +kernel
theorem dX2_rankOf_1 : decode cX2_rankOf 1 = .ok (.istore_n 2, 1) := by decide +kernel
theorem dX2_rankOf_2 : decode cX2_rankOf 2 = .ok (.iconst 0, 1) := by decide +kernel
theorem dX2_rankOf_3 : decode cX2_rankOf 3 = .ok (.istore_n 3, 1) := by decide +kernel
theorem dX2_rankOf_4 : decode cX2_rankOf 4 = .ok (.iload_n 3, 1) := by decide +kernel
theorem dX2_rankOf_5 : decode cX2_rankOf 5 = .ok (.iload_n 1, 1) := by decide +kernel
theorem dX2_rankOf_6 : decode cX2_rankOf 6 = .ok (.if_icmp .ge 78, 3) := by decide +kernel
theorem dX2_rankOf_9 : decode cX2_rankOf 9 = .ok (.aload_n 0, 1) := by decide +kernel
theorem dX2_rankOf_10 : decode cX2_rankOf 10 = .ok (.getfield 19, 3) := by decide +kernel
theorem dX2_rankOf_13 : decode cX2_rankOf 13 = .ok (.iload_n 3, 1) := by decide +kernel
theorem dX2_rankOf_14 : decode cX2_rankOf 14 = .ok (.invokevirtual 47, 3) := by decide +kernel
theorem dX2_rankOf_17 : decode cX2_rankOf 17 = .ok (.aload_n 0, 1) := by decide +kernel
theorem dX2_rankOf_18 : decode cX2_rankOf 18 = .ok (.getfield 19, 3) := by decide +kernel
theorem dX2_rankOf_21 : decode cX2_rankOf 21 = .ok (.iload_n 1, 1) := by decide +kernel
theorem dX2_rankOf_22 : decode cX2_rankOf 22 = .ok (.invokevirtual 47, 3) := by decide +kernel
theorem dX2_rankOf_25 : decode cX2_rankOf 25 = .ok (.if_icmp .ne 26, 3) := by decide +kernel
theorem dX2_rankOf_28 : decode cX2_rankOf 28 = .ok (.aload_n 0, 1) := by decide +kernel
theorem dX2_rankOf_29 : decode cX2_rankOf 29 = .ok (.getfield 22, 3) := by decide +kernel
theorem dX2_rankOf_32 : decode cX2_rankOf 32 = .ok (.iload_n 3, 1) := by decide +kernel
theorem dX2_rankOf_33 : decode cX2_rankOf 33 = .ok (.invokevirtual 47, 3) := by decide +kernel
theorem dX2_rankOf_36 : decode cX2_rankOf 36 = .ok (.aload_n 0, 1) := by decide +kernel
theorem dX2_rankOf_37 : decode cX2_rankOf 37 = .ok (.getfield 22, 3) := by decide +kernel
theorem dX2_rankOf_40 : decode cX2_rankOf 40 = .ok (.iload_n 1, 1) := by decide +kernel
theorem dX2_rankOf_41 : decode cX2_rankOf 41 = .ok (.invokevirtual 47, 3) := by decide +kernel
theorem dX2_rankOf_44 : decode cX2_rankOf 44 = .ok (.if_icmp .ne 7, 3) := by decide +kernel
theorem dX2_rankOf_47 : decode cX2_rankOf 47 = .ok (.iconst 1, 1) := by decide +kernel
theorem dX2_rankOf_48 : decode cX2_rankOf 48 = .ok (.goto 4, 3) := by decide +kernel
theorem dX2_rankOf_51 : decode cX2_rankOf 51 = .ok (.iconst 0, 1) := by decide +kernel
theorem dX2_rankOf_52 : decode cX2_rankOf 52 = .ok (.istore 4, 2) := by decide +kernel
theorem dX2_rankOf_54 : decode cX2_rankOf 54 = .ok (.iload_n 2, 1) := by decide +kernel
theorem dX2_rankOf_55 : decode cX2_rankOf 55 = .ok (.iload 4, 2) := by decide +kernel
theorem dX2_rankOf_57 : decode cX2_rankOf 57 = .ok (.ifCond .eq 18, 3) := by decide +kernel
theorem dX2_rankOf_60 : decode cX2_rankOf 60 = .ok (.aload_n 0, 1) := by decide +kernel
theorem dX2_rankOf_61 : decode cX2_rankOf 61 = .ok (.getfield 33, 3) := by decide +kernel
theorem dX2_rankOf_64 : decode cX2_rankOf 64 = .ok (.iload_n 3, 1) := by decide +kernel
theorem dX2_rankOf_65 : decode cX2_rankOf 65 = .ok (.invokevirtual 47, 3) := by decide +kernel
theorem dX2_rankOf_68 : decode cX2_rankOf 68 = .ok (.ifCond .le 7, 3) := by decide +kernel
theorem dX2_rankOf_71 : decode cX2_rankOf 71 = .ok (.iconst 1, 1) := by decide +kernel
theorem dX2_rankOf_72 : decode cX2_rankOf 72 = .ok (.goto 4, 3) := by decide +kernel
theorem dX2_rankOf_75 : decode cX2_rankOf 75 = .ok (.iconst 0, 1) := by decide +kernel
theorem dX2_rankOf_76 : decode cX2_rankOf 76 = .ok (.iadd, 1) := by decide +kernel
theorem dX2_rankOf_77 : decode cX2_rankOf 77 = .ok (.istore_n 2, 1) := by decide +kernel
theorem dX2_rankOf_78 : decode cX2_rankOf 78 = .ok (.iinc 3 1, 3) := by decide +kernel
theorem dX2_rankOf_81 : decode cX2_rankOf 81 = .ok (.goto (-77), 3) := by decide +kernel
theorem dX2_rankOf_84 : decode cX2_rankOf 84 = .ok (.iload_n 2, 1) := by decide +kernel
theorem dX2_rankOf_85 : decode cX2_rankOf 85 = .ok (.ireturn, 1) := by decide +kernel
theorem dX2_isFirstOfRank_0 : decode cX2_isFirstOfRank 0 = .ok (.iconst 0, 1) := by decide +kernel
theorem dX2_isFirstOfRank_1 : decode cX2_isFirstOfRank 1 = .ok (.istore_n 2, 1) := by decide +kernel
theorem dX2_isFirstOfRank_2 : decode cX2_isFirstOfRank 2 = .ok (.iload_n 2, 1) := by decide +kernel
theorem dX2_isFirstOfRank_3 : decode cX2_isFirstOfRank 3 = .ok (.iload_n 1, 1) := by decide +kernel
theorem dX2_isFirstOfRank_4 : decode cX2_isFirstOfRank 4 = .ok (.if_icmp .ge 49, 3) := by decide +kernel
theorem dX2_isFirstOfRank_7 : decode cX2_isFirstOfRank 7 = .ok (.aload_n 0, 1) := by decide +kernel
theorem dX2_isFirstOfRank_8 : decode cX2_isFirstOfRank 8 = .ok (.getfield 22, 3) := by decide +kernel
theorem dX2_isFirstOfRank_11 : decode cX2_isFirstOfRank 11 = .ok (.iload_n 2, 1) := by decide +kernel
theorem dX2_isFirstOfRank_12 : decode cX2_isFirstOfRank 12 = .ok (.invokevirtual 47, 3) := by decide +kernel
theorem dX2_isFirstOfRank_15 : decode cX2_isFirstOfRank 15 = .ok (.aload_n 0, 1) := by decide +kernel
theorem dX2_isFirstOfRank_16 : decode cX2_isFirstOfRank 16 = .ok (.getfield 22, 3) := by decide +kernel
theorem dX2_isFirstOfRank_19 : decode cX2_isFirstOfRank 19 = .ok (.iload_n 1, 1) := by decide +kernel
theorem dX2_isFirstOfRank_20 : decode cX2_isFirstOfRank 20 = .ok (.invokevirtual 47, 3) := by decide +kernel
theorem dX2_isFirstOfRank_23 : decode cX2_isFirstOfRank 23 = .ok (.if_icmp .ne 24, 3) := by decide +kernel
theorem dX2_isFirstOfRank_26 : decode cX2_isFirstOfRank 26 = .ok (.aload_n 0, 1) := by decide +kernel
theorem dX2_isFirstOfRank_27 : decode cX2_isFirstOfRank 27 = .ok (.getfield 33, 3) := by decide +kernel
theorem dX2_isFirstOfRank_30 : decode cX2_isFirstOfRank 30 = .ok (.iload_n 2, 1) := by decide +kernel
theorem dX2_isFirstOfRank_31 : decode cX2_isFirstOfRank 31 = .ok (.invokevirtual 47, 3) := by decide +kernel
theorem dX2_isFirstOfRank_34 : decode cX2_isFirstOfRank 34 = .ok (.aload_n 0, 1) := by decide +kernel
theorem dX2_isFirstOfRank_35 : decode cX2_isFirstOfRank 35 = .ok (.getfield 33, 3) := by decide +kernel
theorem dX2_isFirstOfRank_38 : decode cX2_isFirstOfRank 38 = .ok (.iload_n 1, 1) := by decide +kernel
theorem dX2_isFirstOfRank_39 : decode cX2_isFirstOfRank 39 = .ok (.invokevirtual 47, 3) := by decide +kernel
theorem dX2_isFirstOfRank_42 : decode cX2_isFirstOfRank 42 = .ok (.if_icmp .ne 5, 3) := by decide +kernel
theorem dX2_isFirstOfRank_45 : decode cX2_isFirstOfRank 45 = .ok (.iconst 0, 1) := by decide +kernel
theorem dX2_isFirstOfRank_46 : decode cX2_isFirstOfRank 46 = .ok (.ireturn, 1) := by decide +kernel
theorem dX2_isFirstOfRank_47 : decode cX2_isFirstOfRank 47 = .ok (.iinc 2 1, 3) := by decide +kernel
theorem dX2_isFirstOfRank_50 : decode cX2_isFirstOfRank 50 = .ok (.goto (-48), 3) := by decide +kernel
theorem dX2_isFirstOfRank_53 : decode cX2_isFirstOfRank 53 = .ok (.iconst 1, 1) := by decide +kernel
theorem dX2_isFirstOfRank_54 : decode cX2_isFirstOfRank 54 = .ok (.ireturn, 1) := by decide +kernel
theorem dX3_init_0 : decode cX3_init 0 = .ok (.aload_n 0, 1) := by decide +kernel
theorem dX3_init_1 : decode cX3_init 1 = .ok (.invokespecial 3, 3) := by decide +kernel
theorem dX3_init_4 : decode cX3_init 4 = .ok (.aload_n 0, 1) := by decide +kernel
theorem dX3_init_5 : decode cX3_init 5 = .ok (.aload_n 1, 1) := by decide +kernel
theorem dX3_init_6 : decode cX3_init 6 = .ok (.bipush 6, 2) := by decide +kernel
theorem dX3_init_8 : decode cX3_init 8 = .ok (.invokevirtual 11, 3) := by decide +kernel
theorem dX3_init_11 : decode cX3_init 11 = .ok (.putfield 17, 3) := by decide +kernel
theorem dX3_init_14 : decode cX3_init 14 = .ok (.aload_n 0, 1) := by decide +kernel
theorem dX3_init_15 : decode cX3_init 15 = .ok (.aload_n 1, 1) := by decide +kernel
theorem dX3_init_16 : decode cX3_init 16 = .ok (.bipush 6, 2) := by decide +kernel
theorem dX3_init_18 : decode cX3_init 18 = .ok (.invokevirtual 11, 3) := by decide +kernel
theorem dX3_init_21 : decode cX3_init 21 = .ok (.putfield 21, 3) := by decide +kernel
theorem dX3_init_24 : decode cX3_init 24 = .ok (.aload_n 0, 1) := by decide +kernel
theorem dX3_init_25 : decode cX3_init 25 = .ok (.aload_n 1, 1) := by decide +kernel
theorem dX3_init_26 : decode cX3_init 26 = .ok (.bipush 6, 2) := by decide +kernel
theorem dX3_init_28 : decode cX3_init 28 = .ok (.invokevirtual 11, 3) := by decide +kernel
theorem dX3_init_31 : decode cX3_init 31 = .ok (.putfield 24, 3) := by decide +kernel
theorem dX3_init_34 : decode cX3_init 34 = .ok (.aload_n 0, 1) := by decide +kernel
theorem dX3_init_35 : decode cX3_init 35 = .ok (.aload_n 1, 1) := by decide +kernel
theorem dX3_init_36 : decode cX3_init 36 = .ok (.bipush 20, 2) := by decide +kernel
theorem dX3_init_38 : decode cX3_init 38 = .ok (.invokevirtual 11, 3) := by decide +kernel
theorem dX3_init_41 : decode cX3_init 41 = .ok (.putfield 27, 3) := by decide +kernel
theorem dX3_init_44 : decode cX3_init 44 = .ok (.aload_n 0, 1) := by decide +kernel
theorem dX3_init_45 : decode cX3_init 45 = .ok (.aload_n 1, 1) := by decide +kernel
theorem dX3_init_46 : decode cX3_init 46 = .ok (.bipush 20, 2) := by decide +kernel
theorem dX3_init_48 : decode cX3_init 48 = .ok (.invokevirtual 11, 3) := by decide +kernel
theorem dX3_init_51 : decode cX3_init 51 = .ok (.putfield 30, 3) := by decide +kernel
theorem dX3_init_54 : decode cX3_init 54 = .ok (.aload_n 0, 1) := by decide +kernel
theorem dX3_init_55 : decode cX3_init 55 = .ok (.aload_n 1, 1) := by decide +kernel
theorem dX3_init_56 : decode cX3_init 56 = .ok (.bipush 20, 2) := by decide +kernel
theorem dX3_init_58 : decode cX3_init 58 = .ok (.invokevirtual 11, 3) := by decide +kernel
theorem dX3_init_61 : decode cX3_init 61 = .ok (.putfield 33, 3) := by decide +kernel
theorem dX3_init_64 : decode cX3_init 64 = .ok (.aload_n 0, 1) := by decide +kernel
theorem dX3_init_65 : decode cX3_init 65 = .ok (.aload_n 1, 1) := by decide +kernel
theorem dX3_init_66 : decode cX3_init 66 = .ok (.bipush 8, 2) := by decide +kernel
theorem dX3_init_68 : decode cX3_init 68 = .ok (.invokevirtual 11, 3) := by decide +kernel
theorem dX3_init_71 : decode cX3_init 71 = .ok (.putfield 36, 3) := by decide +kernel
theorem dX3_init_74 : decode cX3_init 74 = .ok (.return_, 1) := by decide +kernel
theorem dX3_has_0 : decode cX3_has 0 = .ok (.iload_n 1, 1) := by decide +kernel
theorem dX3_has_1 : decode cX3_has 1 = .ok (.ifCond .lt 18, 3) := by decide +kernel
theorem dX3_has_4 : decode cX3_has 4 = .ok (.iload_n 1, 1) := by decide +kernel
theorem dX3_has_5 : decode cX3_has 5 = .ok (.aload_n 0, 1) := by decide +kernel
theorem dX3_has_6 : decode cX3_has 6 = .ok (.getfield 17, 3) := by decide +kernel
theorem dX3_has_9 : decode cX3_has 9 = .ok (.invokevirtual 39, 3) := by decide +kernel
theorem dX3_has_12 : decode cX3_has 12 = .ok (.if_icmp .ge 7, 3) := by decide +kernel
theorem dX3_has_15 : decode cX3_has 15 = .ok (.iconst 1, 1) := by decide +kernel
theorem dX3_has_16 : decode cX3_has 16 = .ok (.goto 4, 3) := by decide +kernel
theorem dX3_has_19 : decode cX3_has 19 = .ok (.iconst 0, 1) := by decide +kernel
theorem dX3_has_20 : decode cX3_has 20 = .ok (.ireturn, 1) := by decide +kernel
theorem dX3_lend_0 : decode cX3_lend 0 = .ok (.aload_n 0, 1) := by decide +kernel
theorem dX3_lend_1 : decode cX3_lend 1 = .ok (.getfield 21, 3) := by decide +kernel
theorem dX3_lend_4 : decode cX3_lend 4 = .ok (.iload_n 2, 1) := by decide +kernel
theorem dX3_lend_5 : decode cX3_lend 5 = .ok (.invokevirtual 45, 3) := by decide +kernel
theorem dX3_lend_8 : decode cX3_lend 8 = .ok (.aload_n 0, 1) := by decide +kernel
theorem dX3_lend_9 : decode cX3_lend 9 = .ok (.getfield 24, 3) := by decide +kernel
theorem dX3_lend_12 : decode cX3_lend 12 = .ok (.iload_n 3, 1) := by decide +kernel
theorem dX3_lend_13 : decode cX3_lend 13 = .ok (.invokevirtual 45, 3) := by decide +kernel
theorem dX3_lend_16 : decode cX3_lend 16 = .ok (.aload_n 0, 1) := by decide +kernel
theorem dX3_lend_17 : decode cX3_lend 17 = .ok (.getfield 17, 3) := by decide +kernel
theorem dX3_lend_20 : decode cX3_lend 20 = .ok (.iload_n 1, 1) := by decide +kernel
theorem dX3_lend_21 : decode cX3_lend 21 = .ok (.invokevirtual 49, 3) := by decide +kernel
theorem dX3_lend_24 : decode cX3_lend 24 = .ok (.ireturn, 1) := by decide +kernel
theorem dX3_payBack_0 : decode cX3_payBack 0 = .ok (.aload_n 0, 1) := by decide +kernel
theorem dX3_payBack_1 : decode cX3_payBack 1 = .ok (.getfield 27, 3) := by decide +kernel
theorem dX3_payBack_4 : decode cX3_payBack 4 = .ok (.iload_n 1, 1) := by decide +kernel
theorem dX3_payBack_5 : decode cX3_payBack 5 = .ok (.invokevirtual 45, 3) := by decide +kernel
theorem dX3_payBack_8 : decode cX3_payBack 8 = .ok (.aload_n 0, 1) := by decide +kernel
theorem dX3_payBack_9 : decode cX3_payBack 9 = .ok (.getfield 30, 3) := by decide +kernel
theorem dX3_payBack_12 : decode cX3_payBack 12 = .ok (.iload_n 2, 1) := by decide +kernel
theorem dX3_payBack_13 : decode cX3_payBack 13 = .ok (.invokevirtual 45, 3) := by decide +kernel
theorem dX3_payBack_16 : decode cX3_payBack 16 = .ok (.aload_n 0, 1) := by decide +kernel
theorem dX3_payBack_17 : decode cX3_payBack 17 = .ok (.getfield 33, 3) := by decide +kernel
theorem dX3_payBack_20 : decode cX3_payBack 20 = .ok (.iload_n 3, 1) := by decide +kernel
theorem dX3_payBack_21 : decode cX3_payBack 21 = .ok (.invokevirtual 45, 3) := by decide +kernel
theorem dX3_payBack_24 : decode cX3_payBack 24 = .ok (.aload_n 0, 1) := by decide +kernel
theorem dX3_payBack_25 : decode cX3_payBack 25 = .ok (.iload_n 1, 1) := by decide +kernel
theorem dX3_payBack_26 : decode cX3_payBack 26 = .ok (.iload_n 2, 1) := by decide +kernel
theorem dX3_payBack_27 : decode cX3_payBack 27 = .ok (.iload_n 2, 1) := by decide +kernel
theorem dX3_payBack_28 : decode cX3_payBack 28 = .ok (.invokevirtual 53, 3) := by decide +kernel
theorem dX3_payBack_31 : decode cX3_payBack 31 = .ok (.ireturn, 1) := by decide +kernel
theorem dX3_paid_0 : decode cX3_paid 0 = .ok (.iconst 0, 1) := by decide +kernel
theorem dX3_paid_1 : decode cX3_paid 1 = .ok (.istore 4, 2) := by decide +kernel
theorem dX3_paid_3 : decode cX3_paid 3 = .ok (.iconst 0, 1) := by decide +kernel
theorem dX3_paid_4 : decode cX3_paid 4 = .ok (.istore 5, 2) := by decide +kernel
theorem dX3_paid_6 : decode cX3_paid 6 = .ok (.iload 5, 2) := by decide +kernel
theorem dX3_paid_8 : decode cX3_paid 8 = .ok (.aload_n 0, 1) := by decide +kernel
theorem dX3_paid_9 : decode cX3_paid 9 = .ok (.getfield 33, 3) := by decide +kernel
theorem dX3_paid_12 : decode cX3_paid 12 = .ok (.invokevirtual 39, 3) := by decide +kernel
theorem dX3_paid_15 : decode cX3_paid 15 = .ok (.if_icmp .ge 78, 3) := by decide +kernel
theorem dX3_paid_18 : decode cX3_paid 18 = .ok (.aload_n 0, 1) := by decide +kernel
theorem dX3_paid_19 : decode cX3_paid 19 = .ok (.getfield 27, 3) := by decide +kernel
theorem dX3_paid_22 : decode cX3_paid 22 = .ok (.iload 5, 2) := by decide +kernel
theorem dX3_paid_24 : decode cX3_paid 24 = .ok (.invokevirtual 57, 3) := by decide +kernel
theorem dX3_paid_27 : decode cX3_paid 27 = .ok (.iload_n 1, 1) := by decide +kernel
theorem dX3_paid_28 : decode cX3_paid 28 = .ok (.if_icmp .ne 33, 3) := by decide +kernel
theorem dX3_paid_31 : decode cX3_paid 31 = .ok (.aload_n 0, 1) := by decide +kernel
theorem dX3_paid_32 : decode cX3_paid 32 = .ok (.getfield 30, 3) := by decide +kernel
theorem dX3_paid_35 : decode cX3_paid 35 = .ok (.iload 5, 2) := by decide +kernel
theorem dX3_paid_37 : decode cX3_paid 37 = .ok (.invokevirtual 57, 3) := by decide +kernel
theorem dX3_paid_40 : decode cX3_paid 40 = .ok (.iload_n 2, 1) := by decide +kernel
theorem dX3_paid_41 : decode cX3_paid 41 = .ok (.if_icmp .lt 20, 3) := by decide +kernel
theorem dX3_paid_44 : decode cX3_paid 44 = .ok (.aload_n 0, 1) := by decide +kernel
theorem dX3_paid_45 : decode cX3_paid 45 = .ok (.getfield 30, 3) := by decide +kernel
theorem dX3_paid_48 : decode cX3_paid 48 = .ok (.iload 5, 2) := by decide +kernel
theorem dX3_paid_50 : decode cX3_paid 50 = .ok (.invokevirtual 57, 3) := by decide +kernel
theorem dX3_paid_53 : decode cX3_paid 53 = .ok (.iload_n 3, 1) := by decide +kernel
theorem dX3_paid_54 : decode cX3_paid 54 = .ok (.if_icmp .gt 7, 3) := by decide +kernel
theorem dX3_paid_57 : decode cX3_paid 57 = .ok (.iconst 1, 1) := by decide +kernel
theorem dX3_paid_58 : decode cX3_paid 58 = .ok (.goto 4, 3) := by decide +kernel
theorem dX3_paid_61 : decode cX3_paid 61 = .ok (.iconst 0, 1) := by decide +kernel
theorem dX3_paid_62 : decode cX3_paid 62 = .ok (.istore 6, 2) := by decide +kernel
theorem dX3_paid_64 : decode cX3_paid 64 = .ok (.iload 4, 2) := by decide +kernel
theorem dX3_paid_66 : decode cX3_paid 66 = .ok (.iload 6, 2) := by decide +kernel
theorem dX3_paid_68 : decode cX3_paid 68 = .ok (.ifCond .eq 15, 3) := by decide +kernel
theorem dX3_paid_71 : decode cX3_paid 71 = .ok (.aload_n 0, 1) := by decide +kernel
theorem dX3_paid_72 : decode cX3_paid 72 = .ok (.getfield 33, 3) := by decide +kernel
theorem dX3_paid_75 : decode cX3_paid 75 = .ok (.iload 5, 2) := by decide +kernel
theorem dX3_paid_77 : decode cX3_paid 77 = .ok (.invokevirtual 57, 3) := by decide +kernel
theorem dX3_paid_80 : decode cX3_paid 80 = .ok (.goto 4, 3) := by decide +kernel
theorem dX3_paid_83 : decode cX3_paid 83 = .ok (.iconst 0, 1) := by decide +kernel
theorem dX3_paid_84 : decode cX3_paid 84 = .ok (.iadd, 1) := by decide +kernel
theorem dX3_paid_85 : decode cX3_paid 85 = .ok (.istore 4, 2) := by decide +kernel
theorem dX3_paid_87 : decode cX3_paid 87 = .ok (.iinc 5 1, 3) := by decide +kernel
theorem dX3_paid_90 : decode cX3_paid 90 = .ok (.goto (-84), 3) := by decide +kernel
theorem dX3_paid_93 : decode cX3_paid 93 = .ok (.iload 4, 2) := by decide +kernel
theorem dX3_paid_95 : decode cX3_paid 95 = .ok (.ireturn, 1) := by decide +kernel
theorem dX3_owed_0 : decode cX3_owed 0 = .ok (.aload_n 0, 1) := by decide +kernel
theorem dX3_owed_1 : decode cX3_owed 1 = .ok (.getfield 21, 3) := by decide +kernel
theorem dX3_owed_4 : decode cX3_owed 4 = .ok (.iload_n 1, 1) := by decide +kernel
theorem dX3_owed_5 : decode cX3_owed 5 = .ok (.invokevirtual 57, 3) := by decide +kernel
theorem dX3_owed_8 : decode cX3_owed 8 = .ok (.istore_n 3, 1) := by decide +kernel
theorem dX3_owed_9 : decode cX3_owed 9 = .ok (.iload_n 2, 1) := by decide +kernel
theorem dX3_owed_10 : decode cX3_owed 10 = .ok (.iload_n 3, 1) := by decide +kernel
theorem dX3_owed_11 : decode cX3_owed 11 = .ok (.if_icmp .ge 5, 3) := by decide +kernel
theorem dX3_owed_14 : decode cX3_owed 14 = .ok (.iconst 0, 1) := by decide +kernel
theorem dX3_owed_15 : decode cX3_owed 15 = .ok (.ireturn, 1) := by decide +kernel
theorem dX3_owed_16 : decode cX3_owed 16 = .ok (.aload_n 0, 1) := by decide +kernel
theorem dX3_owed_17 : decode cX3_owed 17 = .ok (.getfield 17, 3) := by decide +kernel
theorem dX3_owed_20 : decode cX3_owed 20 = .ok (.iload_n 1, 1) := by decide +kernel
theorem dX3_owed_21 : decode cX3_owed 21 = .ok (.invokevirtual 57, 3) := by decide +kernel
theorem dX3_owed_24 : decode cX3_owed 24 = .ok (.istore 4, 2) := by decide +kernel
theorem dX3_owed_26 : decode cX3_owed 26 = .ok (.iload_n 3, 1) := by decide +kernel
theorem dX3_owed_27 : decode cX3_owed 27 = .ok (.sipush 360, 3) := by decide +kernel
theorem dX3_owed_30 : decode cX3_owed 30 = .ok (.iadd, 1) := by decide +kernel
theorem dX3_owed_31 : decode cX3_owed 31 = .ok (.istore 5, 2) := by decide +kernel
theorem dX3_owed_33 : decode cX3_owed 33 = .ok (.iload 5, 2) := by decide +kernel
theorem dX3_owed_35 : decode cX3_owed 35 = .ok (.iload_n 2, 1) := by decide +kernel
theorem dX3_owed_36 : decode cX3_owed 36 = .ok (.if_icmp .gt 61, 3) := by decide +kernel
theorem dX3_owed_39 : decode cX3_owed 39 = .ok (.iload 5, 2) := by decide +kernel
theorem dX3_owed_41 : decode cX3_owed 41 = .ok (.sipush 999, 3) := by decide +kernel
theorem dX3_owed_44 : decode cX3_owed 44 = .ok (.if_icmp .gt 53, 3) := by decide +kernel
theorem dX3_owed_47 : decode cX3_owed 47 = .ok (.iconst 0, 1) := by decide +kernel
theorem dX3_owed_48 : decode cX3_owed 48 = .ok (.iload 4, 2) := by decide +kernel
theorem dX3_owed_50 : decode cX3_owed 50 = .ok (.aload_n 0, 1) := by decide +kernel
theorem dX3_owed_51 : decode cX3_owed 51 = .ok (.iload_n 1, 1) := by decide +kernel
theorem dX3_owed_52 : decode cX3_owed 52 = .ok (.iload_n 3, 1) := by decide +kernel
theorem dX3_owed_53 : decode cX3_owed 53 = .ok (.iload 5, 2) := by decide +kernel
theorem dX3_owed_55 : decode cX3_owed 55 = .ok (.invokevirtual 53, 3) := by decide +kernel
theorem dX3_owed_58 : decode cX3_owed 58 = .ok (.isub, 1) := by decide +kernel
theorem dX3_owed_59 : decode cX3_owed 59 = .ok (.invokestatic 60, 3) := by decide +kernel
theorem dX3_owed_62 : decode cX3_owed 62 = .ok (.istore 4, 2) := by decide +kernel
theorem dX3_owed_64 : decode cX3_owed 64 = .ok (.iload 4, 2) := by decide +kernel
theorem dX3_owed_66 : decode cX3_owed 66 = .ok (.iload 4, 2) := by decide +kernel
theorem dX3_owed_68 : decode cX3_owed 68 = .ok (.aload_n 0, 1) := by decide +kernel
theorem dX3_owed_69 : decode cX3_owed 69 = .ok (.getfield 24, 3) := by decide +kernel
theorem dX3_owed_72 : decode cX3_owed 72 = .ok (.iload_n 1, 1) := by decide +kernel
theorem dX3_owed_73 : decode cX3_owed 73 = .ok (.invokevirtual 57, 3) := by decide +kernel
theorem dX3_owed_76 : decode cX3_owed 76 = .ok (.imul, 1) := by decide +kernel
theorem dX3_owed_77 : decode cX3_owed 77 = .ok (.bipush 100, 2) := by decide +kernel
theorem dX3_owed_79 : decode cX3_owed 79 = .ok (.idiv, 1) := by decide +kernel
theorem dX3_owed_80 : decode cX3_owed 80 = .ok (.iadd, 1) := by decide +kernel
theorem dX3_owed_81 : decode cX3_owed 81 = .ok (.istore 4, 2) := by decide +kernel
theorem dX3_owed_83 : decode cX3_owed 83 = .ok (.iload 5, 2) := by decide +kernel
theorem dX3_owed_85 : decode cX3_owed 85 = .ok (.iconst 1, 1) := by decide +kernel
theorem dX3_owed_86 : decode cX3_owed 86 = .ok (.iadd, 1) := by decide +kernel
theorem dX3_owed_87 : decode cX3_owed 87 = .ok (.istore_n 3, 1) := by decide +kernel
theorem dX3_owed_88 : decode cX3_owed 88 = .ok (.iinc 5 360, 6) := by decide +kernel
theorem dX3_owed_94 : decode cX3_owed 94 = .ok (.goto (-61), 3) := by decide +kernel
theorem dX3_owed_97 : decode cX3_owed 97 = .ok (.iconst 0, 1) := by decide +kernel
theorem dX3_owed_98 : decode cX3_owed 98 = .ok (.iload 4, 2) := by decide +kernel
theorem dX3_owed_100 : decode cX3_owed 100 = .ok (.aload_n 0, 1) := by decide +kernel
theorem dX3_owed_101 : decode cX3_owed 101 = .ok (.iload_n 1, 1) := by decide +kernel
theorem dX3_owed_102 : decode cX3_owed 102 = .ok (.iload_n 3, 1) := by decide +kernel
theorem dX3_owed_103 : decode cX3_owed 103 = .ok (.iload_n 2, 1) := by decide +kernel
theorem dX3_owed_104 : decode cX3_owed 104 = .ok (.invokevirtual 53, 3) := by decide +kernel
theorem dX3_owed_107 : decode cX3_owed 107 = .ok (.isub, 1) := by decide +kernel
theorem dX3_owed_108 : decode cX3_owed 108 = .ok (.invokestatic 60, 3) := by decide +kernel
theorem dX3_owed_111 : decode cX3_owed 111 = .ok (.ireturn, 1) := by decide +kernel
theorem dX3_leastSet_0 : decode cX3_leastSet 0 = .ok (.bipush (-5), 2) := by decide +kernel
theorem dX3_leastSet_2 : decode cX3_leastSet 2 = .ok (.istore_n 2, 1) := by decide +kernel
theorem dX3_leastSet_3 : decode cX3_leastSet 3 = .ok (.iconst 0, 1) := by decide +kernel
theorem dX3_leastSet_4 : decode cX3_leastSet 4 = .ok (.istore_n 3, 1) := by decide +kernel
theorem dX3_leastSet_5 : decode cX3_leastSet 5 = .ok (.iload_n 3, 1) := by decide +kernel
theorem dX3_leastSet_6 : decode cX3_leastSet 6 = .ok (.sipush 256, 3) := by decide +kernel
theorem dX3_leastSet_9 : decode cX3_leastSet 9 = .ok (.if_icmp .ge 35, 3) := by decide +kernel
theorem dX3_leastSet_12 : decode cX3_leastSet 12 = .ok (.aload_n 0, 1) := by decide +kernel
theorem dX3_leastSet_13 : decode cX3_leastSet 13 = .ok (.iload_n 3, 1) := by decide +kernel
theorem dX3_leastSet_14 : decode cX3_leastSet 14 = .ok (.invokevirtual 66, 3) := by decide +kernel
theorem dX3_leastSet_17 : decode cX3_leastSet 17 = .ok (.iload_n 1, 1) := by decide +kernel
theorem dX3_leastSet_18 : decode cX3_leastSet 18 = .ok (.if_icmp .lt 20, 3) := by decide +kernel
theorem dX3_leastSet_21 : decode cX3_leastSet 21 = .ok (.iload_n 2, 1) := by decide +kernel
theorem dX3_leastSet_22 : decode cX3_leastSet 22 = .ok (.bipush (-5), 2) := by decide +kernel
theorem dX3_leastSet_24 : decode cX3_leastSet 24 = .ok (.if_icmp .eq 12, 3) := by decide +kernel
theorem dX3_leastSet_27 : decode cX3_leastSet 27 = .ok (.aload_n 0, 1) := by decide +kernel
theorem dX3_leastSet_28 : decode cX3_leastSet 28 = .ok (.iload_n 3, 1) := by decide +kernel
theorem dX3_leastSet_29 : decode cX3_leastSet 29 = .ok (.iload_n 2, 1) := by decide +kernel
theorem dX3_leastSet_30 : decode cX3_leastSet 30 = .ok (.invokevirtual 69, 3) := by decide +kernel
theorem dX3_leastSet_33 : decode cX3_leastSet 33 = .ok (.ifCond .eq 5, 3) := by decide +kernel
theorem dX3_leastSet_36 : decode cX3_leastSet 36 = .ok (.iload_n 3, 1) := by decide +kernel
theorem dX3_leastSet_37 : decode cX3_leastSet 37 = .ok (.istore_n 2, 1) := by decide +kernel
theorem dX3_leastSet_38 : decode cX3_leastSet 38 = .ok (.iinc 3 1, 3) := by decide +kernel
theorem dX3_leastSet_41 : decode cX3_leastSet 41 = .ok (.goto (-36), 3) := by decide +kernel
theorem dX3_leastSet_44 : decode cX3_leastSet 44 = .ok (.iload_n 2, 1) := by decide +kernel
theorem dX3_leastSet_45 : decode cX3_leastSet 45 = .ok (.ireturn, 1) := by decide +kernel
theorem dX3_isBetter_0 : decode cX3_isBetter 0 = .ok (.aload_n 0, 1) := by decide +kernel
theorem dX3_isBetter_1 : decode cX3_isBetter 1 = .ok (.iload_n 1, 1) := by decide +kernel
theorem dX3_isBetter_2 : decode cX3_isBetter 2 = .ok (.invokevirtual 66, 3) := by decide +kernel
theorem dX3_isBetter_5 : decode cX3_isBetter 5 = .ok (.aload_n 0, 1) := by decide +kernel
theorem dX3_isBetter_6 : decode cX3_isBetter 6 = .ok (.iload_n 2, 1) := by decide +kernel
theorem dX3_isBetter_7 : decode cX3_isBetter 7 = .ok (.invokevirtual 66, 3) := by decide +kernel
theorem dX3_isBetter_10 : decode cX3_isBetter 10 = .ok (.invokestatic 73, 3) := by decide +kernel
theorem dX3_isBetter_13 : decode cX3_isBetter 13 = .ok (.istore_n 3, 1) := by decide +kernel
theorem dX3_isBetter_14 : decode cX3_isBetter 14 = .ok (.iload_n 3, 1) := by decide +kernel
theorem dX3_isBetter_15 : decode cX3_isBetter 15 = .ok (.ifCond .lt 18, 3) := by decide +kernel
theorem dX3_isBetter_18 : decode cX3_isBetter 18 = .ok (.iload_n 3, 1) := by decide +kernel
theorem dX3_isBetter_19 : decode cX3_isBetter 19 = .ok (.ifCond .ne 18, 3) := by decide +kernel
theorem dX3_isBetter_22 : decode cX3_isBetter 22 = .ok (.iload_n 1, 1) := by decide +kernel
theorem dX3_isBetter_23 : decode cX3_isBetter 23 = .ok (.invokestatic 78, 3) := by decide +kernel
theorem dX3_isBetter_26 : decode cX3_isBetter 26 = .ok (.iload_n 2, 1) := by decide +kernel
theorem dX3_isBetter_27 : decode cX3_isBetter 27 = .ok (.invokestatic 78, 3) := by decide +kernel
theorem dX3_isBetter_30 : decode cX3_isBetter 30 = .ok (.if_icmp .ge 7, 3) := by decide +kernel
theorem dX3_isBetter_33 : decode cX3_isBetter 33 = .ok (.iconst 1, 1) := by decide +kernel
theorem dX3_isBetter_34 : decode cX3_isBetter 34 = .ok (.goto 4, 3) := by decide +kernel
theorem dX3_isBetter_37 : decode cX3_isBetter 37 = .ok (.iconst 0, 1) := by decide +kernel
theorem dX3_isBetter_38 : decode cX3_isBetter 38 = .ok (.ireturn, 1) := by decide +kernel
theorem dX3_worthOf_0 : decode cX3_worthOf 0 = .ok (.iconst 0, 1) := by decide +kernel
theorem dX3_worthOf_1 : decode cX3_worthOf 1 = .ok (.istore_n 2, 1) := by decide +kernel
theorem dX3_worthOf_2 : decode cX3_worthOf 2 = .ok (.iconst 0, 1) := by decide +kernel
theorem dX3_worthOf_3 : decode cX3_worthOf 3 = .ok (.istore_n 3, 1) := by decide +kernel
theorem dX3_worthOf_4 : decode cX3_worthOf 4 = .ok (.iload_n 3, 1) := by decide +kernel
theorem dX3_worthOf_5 : decode cX3_worthOf 5 = .ok (.bipush 8, 2) := by decide +kernel
theorem dX3_worthOf_7 : decode cX3_worthOf 7 = .ok (.if_icmp .ge 32, 3) := by decide +kernel
theorem dX3_worthOf_10 : decode cX3_worthOf 10 = .ok (.iload_n 2, 1) := by decide +kernel
theorem dX3_worthOf_11 : decode cX3_worthOf 11 = .ok (.iload_n 1, 1) := by decide +kernel
theorem dX3_worthOf_12 : decode cX3_worthOf 12 = .ok (.iload_n 3, 1) := by decide +kernel
theorem dX3_worthOf_13 : decode cX3_worthOf 13 = .ok (.ishr, 1) := by decide +kernel
theorem dX3_worthOf_14 : decode cX3_worthOf 14 = .ok (.iconst 1, 1) := by decide +kernel
theorem dX3_worthOf_15 : decode cX3_worthOf 15 = .ok (.iand, 1) := by decide +kernel
theorem dX3_worthOf_16 : decode cX3_worthOf 16 = .ok (.ifCond .eq 14, 3) := by decide +kernel
theorem dX3_worthOf_19 : decode cX3_worthOf 19 = .ok (.aload_n 0, 1) := by decide +kernel
theorem dX3_worthOf_20 : decode cX3_worthOf 20 = .ok (.getfield 36, 3) := by decide +kernel
theorem dX3_worthOf_23 : decode cX3_worthOf 23 = .ok (.iload_n 3, 1) := by decide +kernel
theorem dX3_worthOf_24 : decode cX3_worthOf 24 = .ok (.invokevirtual 57, 3) := by decide +kernel
theorem dX3_worthOf_27 : decode cX3_worthOf 27 = .ok (.goto 4, 3) := by decide +kernel
theorem dX3_worthOf_30 : decode cX3_worthOf 30 = .ok (.iconst 0, 1) := by decide +kernel
theorem dX3_worthOf_31 : decode cX3_worthOf 31 = .ok (.iadd, 1) := by decide +kernel
theorem dX3_worthOf_32 : decode cX3_worthOf 32 = .ok (.istore_n 2, 1) := by decide +kernel
theorem dX3_worthOf_33 : decode cX3_worthOf 33 = .ok (.iinc 3 1, 3) := by decide +kernel
theorem dX3_worthOf_36 : decode cX3_worthOf 36 = .ok (.goto (-32), 3) := by decide +kernel
theorem dX3_worthOf_39 : decode cX3_worthOf 39 = .ok (.iload_n 2, 1) := by decide +kernel
theorem dX3_worthOf_40 : decode cX3_worthOf 40 = .ok (.ireturn, 1) := by decide +kernel
theorem dX4_init_0 : decode cX4_init 0 = .ok (.aload_n 0, 1) := by decide +kernel
theorem dX4_init_1 : decode cX4_init 1 = .ok (.invokespecial 3, 3) := by decide +kernel
theorem dX4_init_4 : decode cX4_init 4 = .ok (.aload_n 0, 1) := by decide +kernel
theorem dX4_init_5 : decode cX4_init 5 = .ok (.aload_n 1, 1) := by decide +kernel
theorem dX4_init_6 : decode cX4_init 6 = .ok (.iconst 4, 1) := by decide +kernel
theorem dX4_init_7 : decode cX4_init 7 = .ok (.invokevirtual 11, 3) := by decide +kernel
theorem dX4_init_10 : decode cX4_init 10 = .ok (.putfield 17, 3) := by decide +kernel
theorem dX4_init_13 : decode cX4_init 13 = .ok (.aload_n 0, 1) := by decide +kernel
theorem dX4_init_14 : decode cX4_init 14 = .ok (.aload_n 1, 1) := by decide +kernel
theorem dX4_init_15 : decode cX4_init 15 = .ok (.iconst 4, 1) := by decide +kernel
theorem dX4_init_16 : decode cX4_init 16 = .ok (.invokevirtual 11, 3) := by decide +kernel
theorem dX4_init_19 : decode cX4_init 19 = .ok (.putfield 21, 3) := by decide +kernel
theorem dX4_init_22 : decode cX4_init 22 = .ok (.aload_n 0, 1) := by decide +kernel
theorem dX4_init_23 : decode cX4_init 23 = .ok (.aload_n 1, 1) := by decide +kernel
theorem dX4_init_24 : decode cX4_init 24 = .ok (.bipush 12, 2) := by decide +kernel
theorem dX4_init_26 : decode cX4_init 26 = .ok (.invokevirtual 11, 3) := by decide +kernel
theorem dX4_init_29 : decode cX4_init 29 = .ok (.putfield 24, 3) := by decide +kernel
theorem dX4_init_32 : decode cX4_init 32 = .ok (.aload_n 0, 1) := by decide +kernel
theorem dX4_init_33 : decode cX4_init 33 = .ok (.aload_n 1, 1) := by decide +kernel
theorem dX4_init_34 : decode cX4_init 34 = .ok (.bipush 12, 2) := by decide +kernel
theorem dX4_init_36 : decode cX4_init 36 = .ok (.invokevirtual 11, 3) := by decide +kernel
theorem dX4_init_39 : decode cX4_init 39 = .ok (.putfield 27, 3) := by decide +kernel
theorem dX4_init_42 : decode cX4_init 42 = .ok (.aload_n 0, 1) := by decide +kernel
theorem dX4_init_43 : decode cX4_init 43 = .ok (.aload_n 1, 1) := by decide +kernel
theorem dX4_init_44 : decode cX4_init 44 = .ok (.bipush 12, 2) := by decide +kernel
theorem dX4_init_46 : decode cX4_init 46 = .ok (.invokevirtual 11, 3) := by decide +kernel
theorem dX4_init_49 : decode cX4_init 49 = .ok (.putfield 30, 3) := by decide +kernel
theorem dX4_init_52 : decode cX4_init 52 = .ok (.return_, 1) := by decide +kernel
theorem dX4_firstFree_0 : decode cX4_firstFree 0 = .ok (.iconst (-1), 1) := by decide +kernel
theorem dX4_firstFree_1 : decode cX4_firstFree 1 = .ok (.istore_n 2, 1) := by decide +kernel
theorem dX4_firstFree_2 : decode cX4_firstFree 2 = .ok (.iconst 0, 1) := by decide +kernel
theorem dX4_firstFree_3 : decode cX4_firstFree 3 = .ok (.istore_n 3, 1) := by decide +kernel
theorem dX4_firstFree_4 : decode cX4_firstFree 4 = .ok (.iload_n 3, 1) := by decide +kernel
theorem dX4_firstFree_5 : decode cX4_firstFree 5 = .ok (.iconst 4, 1) := by decide +kernel
theorem dX4_firstFree_6 : decode cX4_firstFree 6 = .ok (.if_icmp .ge 41, 3) := by decide +kernel
theorem dX4_firstFree_9 : decode cX4_firstFree 9 = .ok (.aload_n 0, 1) := by decide +kernel
theorem dX4_firstFree_10 : decode cX4_firstFree 10 = .ok (.getfield 17, 3) := by decide +kernel
theorem dX4_firstFree_13 : decode cX4_firstFree 13 = .ok (.iload_n 3, 1) := by decide +kernel
theorem dX4_firstFree_14 : decode cX4_firstFree 14 = .ok (.invokevirtual 33, 3) := by decide +kernel
theorem dX4_firstFree_17 : decode cX4_firstFree 17 = .ok (.ifCond .le 24, 3) := by decide +kernel
theorem dX4_firstFree_20 : decode cX4_firstFree 20 = .ok (.iload_n 2, 1) := by decide +kernel
theorem dX4_firstFree_21 : decode cX4_firstFree 21 = .ok (.ifCond .lt 18, 3) := by decide +kernel
theorem dX4_firstFree_24 : decode cX4_firstFree 24 = .ok (.aload_n 0, 1) := by decide +kernel
theorem dX4_firstFree_25 : decode cX4_firstFree 25 = .ok (.iload_n 3, 1) := by decide +kernel
theorem dX4_firstFree_26 : decode cX4_firstFree 26 = .ok (.iload_n 1, 1) := by decide +kernel
theorem dX4_firstFree_27 : decode cX4_firstFree 27 = .ok (.invokevirtual 39, 3) := by decide +kernel
theorem dX4_firstFree_30 : decode cX4_firstFree 30 = .ok (.aload_n 0, 1) := by decide +kernel
theorem dX4_firstFree_31 : decode cX4_firstFree 31 = .ok (.iload_n 2, 1) := by decide +kernel
theorem dX4_firstFree_32 : decode cX4_firstFree 32 = .ok (.iload_n 1, 1) := by decide +kernel
theorem dX4_firstFree_33 : decode cX4_firstFree 33 = .ok (.invokevirtual 39, 3) := by decide +kernel
theorem dX4_firstFree_36 : decode cX4_firstFree 36 = .ok (.if_icmp .ge 5, 3) := by decide +kernel
theorem dX4_firstFree_39 : decode cX4_firstFree 39 = .ok (.iload_n 3, 1) := by decide +kernel
theorem dX4_firstFree_40 : decode cX4_firstFree 40 = .ok (.istore_n 2, 1) := by decide +kernel
theorem dX4_firstFree_41 : decode cX4_firstFree 41 = .ok (.iinc 3 1, 3) := by decide +kernel
theorem dX4_firstFree_44 : decode cX4_firstFree 44 = .ok (.goto (-40), 3) := by decide +kernel
theorem dX4_firstFree_47 : decode cX4_firstFree 47 = .ok (.iload_n 2, 1) := by decide +kernel
theorem dX4_firstFree_48 : decode cX4_firstFree 48 = .ok (.ireturn, 1) := by decide +kernel
theorem dX4_freeFrom_0 : decode cX4_freeFrom 0 = .ok (.aload_n 0, 1) := by decide +kernel
theorem dX4_freeFrom_1 : decode cX4_freeFrom 1 = .ok (.getfield 21, 3) := by decide +kernel
theorem dX4_freeFrom_4 : decode cX4_freeFrom 4 = .ok (.iload_n 1, 1) := by decide +kernel
theorem dX4_freeFrom_5 : decode cX4_freeFrom 5 = .ok (.invokevirtual 33, 3) := by decide +kernel
theorem dX4_freeFrom_8 : decode cX4_freeFrom 8 = .ok (.iload_n 2, 1) := by decide +kernel
theorem dX4_freeFrom_9 : decode cX4_freeFrom 9 = .ok (.invokestatic 43, 3) := by decide +kernel
theorem dX4_freeFrom_12 : decode cX4_freeFrom 12 = .ok (.ireturn, 1) := by decide +kernel
theorem dX4_give_0 : decode cX4_give 0 = .ok (.bipush (-5), 2) := by decide +kernel
theorem dX4_give_2 : decode cX4_give 2 = .ok (.istore 5, 2) := by decide +kernel
theorem dX4_give_4 : decode cX4_give 4 = .ok (.bipush (-5), 2) := by decide +kernel
theorem dX4_give_6 : decode cX4_give 6 = .ok (.istore 6, 2) := by decide +kernel
theorem dX4_give_8 : decode cX4_give 8 = .ok (.iload_n 2, 1) := by decide +kernel
theorem dX4_give_9 : decode cX4_give 9 = .ok (.istore 7, 2) := by decide +kernel
theorem dX4_give_11 : decode cX4_give 11 = .ok (.aload_n 0, 1) := by decide +kernel
theorem dX4_give_12 : decode cX4_give 12 = .ok (.iload_n 1, 1) := by decide +kernel
theorem dX4_give_13 : decode cX4_give 13 = .ok (.iload_n 3, 1) := by decide +kernel
theorem dX4_give_14 : decode cX4_give 14 = .ok (.invokevirtual 39, 3) := by decide +kernel
theorem dX4_give_17 : decode cX4_give 17 = .ok (.istore 8, 2) := by decide +kernel
theorem dX4_give_19 : decode cX4_give 19 = .ok (.iload 8, 2) := by decide +kernel
theorem dX4_give_21 : decode cX4_give 21 = .ok (.sipush 999, 3) := by decide +kernel
theorem dX4_give_24 : decode cX4_give 24 = .ok (.if_icmp .gt 72, 3) := by decide +kernel
theorem dX4_give_27 : decode cX4_give 27 = .ok (.iload 7, 2) := by decide +kernel
theorem dX4_give_29 : decode cX4_give 29 = .ok (.ifCond .le 67, 3) := by decide +kernel
theorem dX4_give_32 : decode cX4_give 32 = .ok (.aload 4, 2) := by decide +kernel
theorem dX4_give_34 : decode cX4_give 34 = .ok (.iload 8, 2) := by decide +kernel
theorem dX4_give_36 : decode cX4_give 36 = .ok (.invokevirtual 48, 3) := by decide +kernel
theorem dX4_give_39 : decode cX4_give 39 = .ok (.ifCond .eq 6, 3) := by decide +kernel
theorem dX4_give_42 : decode cX4_give 42 = .ok (.goto 48, 3) := by decide +kernel
theorem dX4_give_45 : decode cX4_give 45 = .ok (.iload 5, 2) := by decide +kernel
theorem dX4_give_47 : decode cX4_give 47 = .ok (.bipush (-5), 2) := by decide +kernel
theorem dX4_give_49 : decode cX4_give 49 = .ok (.if_icmp .ne 8, 3) := by decide +kernel
theorem dX4_give_52 : decode cX4_give 52 = .ok (.iload 8, 2) := by decide +kernel
theorem dX4_give_54 : decode cX4_give 54 = .ok (.goto 5, 3) := by decide +kernel
theorem dX4_give_57 : decode cX4_give 57 = .ok (.iload 5, 2) := by decide +kernel
theorem dX4_give_59 : decode cX4_give 59 = .ok (.istore 5, 2) := by decide +kernel
theorem dX4_give_61 : decode cX4_give 61 = .ok (.iload 7, 2) := by decide +kernel
theorem dX4_give_63 : decode cX4_give 63 = .ok (.aload_n 0, 1) := by decide +kernel
theorem dX4_give_64 : decode cX4_give 64 = .ok (.getfield 17, 3) := by decide +kernel
theorem dX4_give_67 : decode cX4_give 67 = .ok (.iload_n 1, 1) := by decide +kernel
theorem dX4_give_68 : decode cX4_give 68 = .ok (.invokevirtual 33, 3) := by decide +kernel
theorem dX4_give_71 : decode cX4_give 71 = .ok (.isub, 1) := by decide +kernel
theorem dX4_give_72 : decode cX4_give 72 = .ok (.istore 7, 2) := by decide +kernel
theorem dX4_give_74 : decode cX4_give 74 = .ok (.iload 7, 2) := by decide +kernel
theorem dX4_give_76 : decode cX4_give 76 = .ok (.ifCond .le 8, 3) := by decide +kernel
theorem dX4_give_79 : decode cX4_give 79 = .ok (.bipush (-5), 2) := by decide +kernel
theorem dX4_give_81 : decode cX4_give 81 = .ok (.goto 7, 3) := by decide +kernel
theorem dX4_give_84 : decode cX4_give 84 = .ok (.iload 8, 2) := by decide +kernel
theorem dX4_give_86 : decode cX4_give 86 = .ok (.iconst 1, 1) := by decide +kernel
theorem dX4_give_87 : decode cX4_give 87 = .ok (.iadd, 1) := by decide +kernel
theorem dX4_give_88 : decode cX4_give 88 = .ok (.istore 6, 2) := by decide +kernel
theorem dX4_give_90 : decode cX4_give 90 = .ok (.iinc 8 1, 3) := by decide +kernel
theorem dX4_give_93 : decode cX4_give 93 = .ok (.goto (-74), 3) := by decide +kernel
theorem dX4_give_96 : decode cX4_give 96 = .ok (.aload_n 0, 1) := by decide +kernel
theorem dX4_give_97 : decode cX4_give 97 = .ok (.getfield 21, 3) := by decide +kernel
theorem dX4_give_100 : decode cX4_give 100 = .ok (.iload_n 1, 1) := by decide +kernel
theorem dX4_give_101 : decode cX4_give 101 = .ok (.iload 6, 2) := by decide +kernel
theorem dX4_give_103 : decode cX4_give 103 = .ok (.bipush (-5), 2) := by decide +kernel
theorem dX4_give_105 : decode cX4_give 105 = .ok (.if_icmp .ne 9, 3) := by decide +kernel
theorem dX4_give_108 : decode cX4_give 108 = .ok (.sipush 9999, 3) := by decide +kernel
theorem dX4_give_111 : decode cX4_give 111 = .ok (.goto 5, 3) := by decide +kernel
theorem dX4_give_114 : decode cX4_give 114 = .ok (.iload 6, 2) := by decide +kernel
theorem dX4_give_116 : decode cX4_give 116 = .ok (.invokevirtual 54, 3) := by decide +kernel
theorem dX4_give_119 : decode cX4_give 119 = .ok (.aload_n 0, 1) := by decide +kernel
theorem dX4_give_120 : decode cX4_give 120 = .ok (.getfield 27, 3) := by decide +kernel
theorem dX4_give_123 : decode cX4_give 123 = .ok (.iload 5, 2) := by decide +kernel
theorem dX4_give_125 : decode cX4_give 125 = .ok (.invokevirtual 58, 3) := by decide +kernel
theorem dX4_give_128 : decode cX4_give 128 = .ok (.aload_n 0, 1) := by decide +kernel
theorem dX4_give_129 : decode cX4_give 129 = .ok (.getfield 30, 3) := by decide +kernel
theorem dX4_give_132 : decode cX4_give 132 = .ok (.iload 6, 2) := by decide +kernel
theorem dX4_give_134 : decode cX4_give 134 = .ok (.invokevirtual 58, 3) := by decide +kernel
theorem dX4_give_137 : decode cX4_give 137 = .ok (.aload_n 0, 1) := by decide +kernel
theorem dX4_give_138 : decode cX4_give 138 = .ok (.getfield 24, 3) := by decide +kernel
theorem dX4_give_141 : decode cX4_give 141 = .ok (.iload_n 1, 1) := by decide +kernel
theorem dX4_give_142 : decode cX4_give 142 = .ok (.invokevirtual 62, 3) := by decide +kernel
theorem dX4_give_145 : decode cX4_give 145 = .ok (.ireturn, 1) := by decide +kernel
theorem dX6_init_0 : decode cX6_init 0 = .ok (.aload_n 0, 1) := by decide +kernel
theorem dX6_init_1 : decode cX6_init 1 = .ok (.invokespecial 3, 3) := by decide +kernel
theorem dX6_init_4 : decode cX6_init 4 = .ok (.aload_n 0, 1) := by decide +kernel
theorem dX6_init_5 : decode cX6_init 5 = .ok (.aload_n 1, 1) := by decide +kernel
theorem dX6_init_6 : decode cX6_init 6 = .ok (.putfield 9, 3) := by decide +kernel
theorem dX6_init_9 : decode cX6_init 9 = .ok (.aload_n 0, 1) := by decide +kernel
theorem dX6_init_10 : decode cX6_init 10 = .ok (.aload_n 2, 1) := by decide +kernel
theorem dX6_init_11 : decode cX6_init 11 = .ok (.putfield 15, 3) := by decide +kernel
theorem dX6_init_14 : decode cX6_init 14 = .ok (.aload_n 0, 1) := by decide +kernel
theorem dX6_init_15 : decode cX6_init 15 = .ok (.new 19, 3) := by decide +kernel
theorem dX6_init_18 : decode cX6_init 18 = .ok (.dup, 1) := by decide +kernel
theorem dX6_init_19 : decode cX6_init 19 = .ok (.bipush 60, 2) := by decide +kernel
theorem dX6_init_21 : decode cX6_init 21 = .ok (.invokespecial 23, 3) := by decide +kernel
theorem dX6_init_24 : decode cX6_init 24 = .ok (.putfield 26, 3) := by decide +kernel
theorem dX6_init_27 : decode cX6_init 27 = .ok (.aload_n 0, 1) := by decide +kernel
theorem dX6_init_28 : decode cX6_init 28 = .ok (.new 19, 3) := by decide +kernel
theorem dX6_init_31 : decode cX6_init 31 = .ok (.dup, 1) := by decide +kernel
theorem dX6_init_32 : decode cX6_init 32 = .ok (.bipush 60, 2) := by decide +kernel
theorem dX6_init_34 : decode cX6_init 34 = .ok (.invokespecial 23, 3) := by decide +kernel
theorem dX6_init_37 : decode cX6_init 37 = .ok (.putfield 29, 3) := by decide +kernel
theorem dX6_init_40 : decode cX6_init 40 = .ok (.aload_n 0, 1) := by decide +kernel
theorem dX6_init_41 : decode cX6_init 41 = .ok (.new 19, 3) := by decide +kernel
theorem dX6_init_44 : decode cX6_init 44 = .ok (.dup, 1) := by decide +kernel
theorem dX6_init_45 : decode cX6_init 45 = .ok (.bipush 60, 2) := by decide +kernel
theorem dX6_init_47 : decode cX6_init 47 = .ok (.invokespecial 23, 3) := by decide +kernel
theorem dX6_init_50 : decode cX6_init 50 = .ok (.putfield 32, 3) := by decide +kernel
theorem dX6_init_53 : decode cX6_init 53 = .ok (.aload_n 0, 1) := by decide +kernel
theorem dX6_init_54 : decode cX6_init 54 = .ok (.new 19, 3) := by decide +kernel
theorem dX6_init_57 : decode cX6_init 57 = .ok (.dup, 1) := by decide +kernel
theorem dX6_init_58 : decode cX6_init 58 = .ok (.bipush 9, 2) := by decide +kernel
theorem dX6_init_60 : decode cX6_init 60 = .ok (.invokespecial 23, 3) := by decide +kernel
theorem dX6_init_63 : decode cX6_init 63 = .ok (.putfield 35, 3) := by decide +kernel
theorem dX6_init_66 : decode cX6_init 66 = .ok (.aload_n 0, 1) := by decide +kernel
theorem dX6_init_67 : decode cX6_init 67 = .ok (.new 19, 3) := by decide +kernel
theorem dX6_init_70 : decode cX6_init 70 = .ok (.dup, 1) := by decide +kernel
theorem dX6_init_71 : decode cX6_init 71 = .ok (.bipush 9, 2) := by decide +kernel
theorem dX6_init_73 : decode cX6_init 73 = .ok (.invokespecial 23, 3) := by decide +kernel
theorem dX6_init_76 : decode cX6_init 76 = .ok (.putfield 38, 3) := by decide +kernel
theorem dX6_init_79 : decode cX6_init 79 = .ok (.aload_n 0, 1) := by decide +kernel
theorem dX6_init_80 : decode cX6_init 80 = .ok (.new 19, 3) := by decide +kernel
theorem dX6_init_83 : decode cX6_init 83 = .ok (.dup, 1) := by decide +kernel
theorem dX6_init_84 : decode cX6_init 84 = .ok (.bipush 9, 2) := by decide +kernel
theorem dX6_init_86 : decode cX6_init 86 = .ok (.invokespecial 23, 3) := by decide +kernel
theorem dX6_init_89 : decode cX6_init 89 = .ok (.putfield 41, 3) := by decide +kernel
theorem dX6_init_92 : decode cX6_init 92 = .ok (.aload_n 0, 1) := by decide +kernel
theorem dX6_init_93 : decode cX6_init 93 = .ok (.new 19, 3) := by decide +kernel
theorem dX6_init_96 : decode cX6_init 96 = .ok (.dup, 1) := by decide +kernel
theorem dX6_init_97 : decode cX6_init 97 = .ok (.sipush 7503, 3) := by decide +kernel
theorem dX6_init_100 : decode cX6_init 100 = .ok (.invokespecial 23, 3) := by decide +kernel
theorem dX6_init_103 : decode cX6_init 103 = .ok (.putfield 44, 3) := by decide +kernel
theorem dX6_init_106 : decode cX6_init 106 = .ok (.aload_n 0, 1) := by decide +kernel
theorem dX6_init_107 : decode cX6_init 107 = .ok (.new 19, 3) := by decide +kernel
theorem dX6_init_110 : decode cX6_init 110 = .ok (.dup, 1) := by decide +kernel
theorem dX6_init_111 : decode cX6_init 111 = .ok (.bipush 61, 2) := by decide +kernel
theorem dX6_init_113 : decode cX6_init 113 = .ok (.invokespecial 23, 3) := by decide +kernel
theorem dX6_init_116 : decode cX6_init 116 = .ok (.putfield 47, 3) := by decide +kernel
theorem dX6_init_119 : decode cX6_init 119 = .ok (.aload_n 0, 1) := by decide +kernel
theorem dX6_init_120 : decode cX6_init 120 = .ok (.new 19, 3) := by decide +kernel
theorem dX6_init_123 : decode cX6_init 123 = .ok (.dup, 1) := by decide +kernel
theorem dX6_init_124 : decode cX6_init 124 = .ok (.bipush 27, 2) := by decide +kernel
theorem dX6_init_126 : decode cX6_init 126 = .ok (.invokespecial 23, 3) := by decide +kernel
theorem dX6_init_129 : decode cX6_init 129 = .ok (.putfield 50, 3) := by decide +kernel
theorem dX6_init_132 : decode cX6_init 132 = .ok (.aload_n 0, 1) := by decide +kernel
theorem dX6_init_133 : decode cX6_init 133 = .ok (.new 19, 3) := by decide +kernel
theorem dX6_init_136 : decode cX6_init 136 = .ok (.dup, 1) := by decide +kernel
theorem dX6_init_137 : decode cX6_init 137 = .ok (.bipush 60, 2) := by decide +kernel
theorem dX6_init_139 : decode cX6_init 139 = .ok (.invokespecial 23, 3) := by decide +kernel
theorem dX6_init_142 : decode cX6_init 142 = .ok (.putfield 53, 3) := by decide +kernel
theorem dX6_init_145 : decode cX6_init 145 = .ok (.return_, 1) := by decide +kernel
theorem dX6_find_0 : decode cX6_find 0 = .ok (.aload_n 0, 1) := by decide +kernel
theorem dX6_find_1 : decode cX6_find 1 = .ok (.invokevirtual 56, 3) := by decide +kernel
theorem dX6_find_4 : decode cX6_find 4 = .ok (.aload_n 0, 1) := by decide +kernel
theorem dX6_find_5 : decode cX6_find 5 = .ok (.getfield 26, 3) := by decide +kernel
theorem dX6_find_8 : decode cX6_find 8 = .ok (.invokevirtual 59, 3) := by decide +kernel
theorem dX6_find_11 : decode cX6_find 11 = .ok (.istore_n 1, 1) := by decide +kernel
theorem dX6_find_12 : decode cX6_find 12 = .ok (.iload_n 1, 1) := by decide +kernel
theorem dX6_find_13 : decode cX6_find 13 = .ok (.ifCond .lt 14, 3) := by decide +kernel
theorem dX6_find_16 : decode cX6_find 16 = .ok (.aload_n 0, 1) := by decide +kernel
theorem dX6_find_17 : decode cX6_find 17 = .ok (.iload_n 1, 1) := by decide +kernel
theorem dX6_find_18 : decode cX6_find 18 = .ok (.invokevirtual 63, 3) := by decide +kernel
theorem dX6_find_21 : decode cX6_find 21 = .ok (.iinc 1 (-1), 3) := by decide +kernel
theorem dX6_find_24 : decode cX6_find 24 = .ok (.goto (-12), 3) := by decide +kernel
theorem dX6_find_27 : decode cX6_find 27 = .ok (.aload_n 0, 1) := by decide +kernel
theorem dX6_find_28 : decode cX6_find 28 = .ok (.aload_n 0, 1) := by decide +kernel
theorem dX6_find_29 : decode cX6_find 29 = .ok (.getfield 44, 3) := by decide +kernel
theorem dX6_find_32 : decode cX6_find 32 = .ok (.iconst 0, 1) := by decide +kernel
theorem dX6_find_33 : decode cX6_find 33 = .ok (.invokevirtual 66, 3) := by decide +kernel
theorem dX6_find_36 : decode cX6_find 36 = .ok (.putfield 70, 3) := by decide +kernel
theorem dX6_find_39 : decode cX6_find 39 = .ok (.aload_n 0, 1) := by decide +kernel
theorem dX6_find_40 : decode cX6_find 40 = .ok (.getfield 70, 3) := by decide +kernel
theorem dX6_find_43 : decode cX6_find 43 = .ok (.ldc 74, 2) := by decide +kernel
theorem dX6_find_45 : decode cX6_find 45 = .ok (.if_icmp .lt 5, 3) := by decide +kernel
theorem dX6_find_48 : decode cX6_find 48 = .ok (.iconst 0, 1) := by decide +kernel
theorem dX6_find_49 : decode cX6_find 49 = .ok (.ireturn, 1) := by decide +kernel
theorem dX6_find_50 : decode cX6_find 50 = .ok (.aload_n 0, 1) := by decide +kernel
theorem dX6_find_51 : decode cX6_find 51 = .ok (.invokevirtual 75, 3) := by decide +kernel
theorem dX6_find_54 : decode cX6_find 54 = .ok (.iconst 1, 1) := by decide +kernel
theorem dX6_find_55 : decode cX6_find 55 = .ok (.ireturn, 1) := by decide +kernel
theorem dX6_findForms_0 : decode cX6_findForms 0 = .ok (.iconst 0, 1) := by decide +kernel
theorem dX6_findForms_1 : decode cX6_findForms 1 = .ok (.istore_n 1, 1) := by decide +kernel
theorem dX6_findForms_2 : decode cX6_findForms 2 = .ok (.iload_n 1, 1) := by decide +kernel
theorem dX6_findForms_3 : decode cX6_findForms 3 = .ok (.aload_n 0, 1) := by decide +kernel
theorem dX6_findForms_4 : decode cX6_findForms 4 = .ok (.getfield 26, 3) := by decide +kernel
theorem dX6_findForms_7 : decode cX6_findForms 7 = .ok (.invokevirtual 59, 3) := by decide +kernel
theorem dX6_findForms_10 : decode cX6_findForms 10 = .ok (.if_icmp .ge 110, 3) := by decide +kernel
theorem dX6_findForms_13 : decode cX6_findForms 13 = .ok (.aload_n 0, 1) := by decide +kernel
theorem dX6_findForms_14 : decode cX6_findForms 14 = .ok (.getfield 26, 3) := by decide +kernel
theorem dX6_findForms_17 : decode cX6_findForms 17 = .ok (.iload_n 1, 1) := by decide +kernel
theorem dX6_findForms_18 : decode cX6_findForms 18 = .ok (.invokevirtual 66, 3) := by decide +kernel
theorem dX6_findForms_21 : decode cX6_findForms 21 = .ok (.bipush 100, 2) := by decide +kernel
theorem dX6_findForms_23 : decode cX6_findForms 23 = .ok (.imul, 1) := by decide +kernel
theorem dX6_findForms_24 : decode cX6_findForms 24 = .ok (.aload_n 0, 1) := by decide +kernel
theorem dX6_findForms_25 : decode cX6_findForms 25 = .ok (.getfield 26, 3) := by decide +kernel
theorem dX6_findForms_28 : decode cX6_findForms 28 = .ok (.iload_n 1, 1) := by decide +kernel
theorem dX6_findForms_29 : decode cX6_findForms 29 = .ok (.iconst 1, 1) := by decide +kernel
theorem dX6_findForms_30 : decode cX6_findForms 30 = .ok (.iadd, 1) := by decide +kernel
theorem dX6_findForms_31 : decode cX6_findForms 31 = .ok (.invokevirtual 66, 3) := by decide +kernel
theorem dX6_findForms_34 : decode cX6_findForms 34 = .ok (.iadd, 1) := by decide +kernel
theorem dX6_findForms_35 : decode cX6_findForms 35 = .ok (.istore_n 2, 1) := by decide +kernel
theorem dX6_findForms_36 : decode cX6_findForms 36 = .ok (.aload_n 0, 1) := by decide +kernel
theorem dX6_findForms_37 : decode cX6_findForms 37 = .ok (.getfield 32, 3) := by decide +kernel
theorem dX6_findForms_40 : decode cX6_findForms 40 = .ok (.iload_n 1, 1) := by decide +kernel
theorem dX6_findForms_41 : decode cX6_findForms 41 = .ok (.aload_n 0, 1) := by decide +kernel
theorem dX6_findForms_42 : decode cX6_findForms 42 = .ok (.iload_n 1, 1) := by decide +kernel
theorem dX6_findForms_43 : decode cX6_findForms 43 = .ok (.iconst 2, 1) := by decide +kernel
theorem dX6_findForms_44 : decode cX6_findForms 44 = .ok (.invokevirtual 78, 3) := by decide +kernel
theorem dX6_findForms_47 : decode cX6_findForms 47 = .ok (.ifCond .eq 20, 3) := by decide +kernel
theorem dX6_findForms_50 : decode cX6_findForms 50 = .ok (.aload_n 0, 1) := by decide +kernel
theorem dX6_findForms_51 : decode cX6_findForms 51 = .ok (.getfield 9, 3) := by decide +kernel
theorem dX6_findForms_54 : decode cX6_findForms 54 = .ok (.iload_n 2, 1) := by decide +kernel
theorem dX6_findForms_55 : decode cX6_findForms 55 = .ok (.bipush 100, 2) := by decide +kernel
theorem dX6_findForms_57 : decode cX6_findForms 57 = .ok (.imul, 1) := by decide +kernel
theorem dX6_findForms_58 : decode cX6_findForms 58 = .ok (.bipush 99, 2) := by decide +kernel
theorem dX6_findForms_60 : decode cX6_findForms 60 = .ok (.iadd, 1) := by decide +kernel
theorem dX6_findForms_61 : decode cX6_findForms 61 = .ok (.invokevirtual 82, 3) := by decide +kernel
theorem dX6_findForms_64 : decode cX6_findForms 64 = .ok (.goto 4, 3) := by decide +kernel
theorem dX6_findForms_67 : decode cX6_findForms 67 = .ok (.iconst (-1), 1) := by decide +kernel
theorem dX6_findForms_68 : decode cX6_findForms 68 = .ok (.invokevirtual 87, 3) := by decide +kernel
theorem dX6_findForms_71 : decode cX6_findForms 71 = .ok (.aload_n 0, 1) := by decide +kernel
theorem dX6_findForms_72 : decode cX6_findForms 72 = .ok (.getfield 29, 3) := by decide +kernel
theorem dX6_findForms_75 : decode cX6_findForms 75 = .ok (.iload_n 1, 1) := by decide +kernel
theorem dX6_findForms_76 : decode cX6_findForms 76 = .ok (.aload_n 0, 1) := by decide +kernel
theorem dX6_findForms_77 : decode cX6_findForms 77 = .ok (.iload_n 1, 1) := by decide +kernel
theorem dX6_findForms_78 : decode cX6_findForms 78 = .ok (.iconst 3, 1) := by decide +kernel
theorem dX6_findForms_79 : decode cX6_findForms 79 = .ok (.invokevirtual 78, 3) := by decide +kernel
theorem dX6_findForms_82 : decode cX6_findForms 82 = .ok (.ifCond .eq 28, 3) := by decide +kernel
theorem dX6_findForms_85 : decode cX6_findForms 85 = .ok (.aload_n 0, 1) := by decide +kernel
theorem dX6_findForms_86 : decode cX6_findForms 86 = .ok (.getfield 9, 3) := by decide +kernel
theorem dX6_findForms_89 : decode cX6_findForms 89 = .ok (.iload_n 2, 1) := by decide +kernel
theorem dX6_findForms_90 : decode cX6_findForms 90 = .ok (.bipush 100, 2) := by decide +kernel
theorem dX6_findForms_92 : decode cX6_findForms 92 = .ok (.imul, 1) := by decide +kernel
theorem dX6_findForms_93 : decode cX6_findForms 93 = .ok (.aload_n 0, 1) := by decide +kernel
theorem dX6_findForms_94 : decode cX6_findForms 94 = .ok (.getfield 26, 3) := by decide +kernel
theorem dX6_findForms_97 : decode cX6_findForms 97 = .ok (.iload_n 1, 1) := by decide +kernel
theorem dX6_findForms_98 : decode cX6_findForms 98 = .ok (.iconst 2, 1) := by decide +kernel
theorem dX6_findForms_99 : decode cX6_findForms 99 = .ok (.iadd, 1) := by decide +kernel
theorem dX6_findForms_100 : decode cX6_findForms 100 = .ok (.invokevirtual 66, 3) := by decide +kernel
theorem dX6_findForms_103 : decode cX6_findForms 103 = .ok (.iadd, 1) := by decide +kernel
theorem dX6_findForms_104 : decode cX6_findForms 104 = .ok (.invokevirtual 82, 3) := by decide +kernel
theorem dX6_findForms_107 : decode cX6_findForms 107 = .ok (.goto 4, 3) := by decide +kernel
theorem dX6_findForms_110 : decode cX6_findForms 110 = .ok (.iconst (-1), 1) := by decide +kernel
theorem dX6_findForms_111 : decode cX6_findForms 111 = .ok (.invokevirtual 87, 3) := by decide +kernel
theorem dX6_findForms_114 : decode cX6_findForms 114 = .ok (.iinc 1 1, 3) := by decide +kernel
theorem dX6_findForms_117 : decode cX6_findForms 117 = .ok (.goto (-115), 3) := by decide +kernel
theorem dX6_findForms_120 : decode cX6_findForms 120 = .ok (.return_, 1) := by decide +kernel
theorem dX6_joined_0 : decode cX6_joined 0 = .ok (.iload_n 1, 1) := by decide +kernel
theorem dX6_joined_1 : decode cX6_joined 1 = .ok (.istore_n 3, 1) := by decide +kernel
theorem dX6_joined_2 : decode cX6_joined 2 = .ok (.iload_n 3, 1) := by decide +kernel
theorem dX6_joined_3 : decode cX6_joined 3 = .ok (.iload_n 1, 1) := by decide +kernel
theorem dX6_joined_4 : decode cX6_joined 4 = .ok (.iload_n 2, 1) := by decide +kernel
theorem dX6_joined_5 : decode cX6_joined 5 = .ok (.iadd, 1) := by decide +kernel
theorem dX6_joined_6 : decode cX6_joined 6 = .ok (.if_icmp .ge 30, 3) := by decide +kernel
theorem dX6_joined_9 : decode cX6_joined 9 = .ok (.iload_n 3, 1) := by decide +kernel
theorem dX6_joined_10 : decode cX6_joined 10 = .ok (.aload_n 0, 1) := by decide +kernel
theorem dX6_joined_11 : decode cX6_joined 11 = .ok (.getfield 26, 3) := by decide +kernel
theorem dX6_joined_14 : decode cX6_joined 14 = .ok (.invokevirtual 59, 3) := by decide +kernel
theorem dX6_joined_17 : decode cX6_joined 17 = .ok (.if_icmp .ge 11, 3) := by decide +kernel
theorem dX6_joined_20 : decode cX6_joined 20 = .ok (.aload_n 0, 1) := by decide +kernel
theorem dX6_joined_21 : decode cX6_joined 21 = .ok (.iload_n 3, 1) := by decide +kernel
theorem dX6_joined_22 : decode cX6_joined 22 = .ok (.invokevirtual 91, 3) := by decide +kernel
theorem dX6_joined_25 : decode cX6_joined 25 = .ok (.ifCond .eq 5, 3) := by decide +kernel
theorem dX6_joined_28 : decode cX6_joined 28 = .ok (.iconst 0, 1) := by decide +kernel
theorem dX6_joined_29 : decode cX6_joined 29 = .ok (.ireturn, 1) := by decide +kernel
theorem dX6_joined_30 : decode cX6_joined 30 = .ok (.iinc 3 1, 3) := by decide +kernel
theorem dX6_joined_33 : decode cX6_joined 33 = .ok (.goto (-31), 3) := by decide +kernel
theorem dX6_joined_36 : decode cX6_joined 36 = .ok (.iconst 1, 1) := by decide +kernel
theorem dX6_joined_37 : decode cX6_joined 37 = .ok (.ireturn, 1) := by decide +kernel
theorem dX6_isBlank_0 : decode cX6_isBlank 0 = .ok (.aload_n 0, 1) := by decide +kernel
theorem dX6_isBlank_1 : decode cX6_isBlank 1 = .ok (.getfield 26, 3) := by decide +kernel
theorem dX6_isBlank_4 : decode cX6_isBlank 4 = .ok (.iload_n 1, 1) := by decide +kernel
theorem dX6_isBlank_5 : decode cX6_isBlank 5 = .ok (.invokevirtual 66, 3) := by decide +kernel
theorem dX6_isBlank_8 : decode cX6_isBlank 8 = .ok (.iconst (-1), 1) := by decide +kernel
theorem dX6_isBlank_9 : decode cX6_isBlank 9 = .ok (.if_icmp .ne 7, 3) := by decide +kernel
theorem dX6_isBlank_12 : decode cX6_isBlank 12 = .ok (.iconst 1, 1) := by decide +kernel
theorem dX6_isBlank_13 : decode cX6_isBlank 13 = .ok (.goto 4, 3) := by decide +kernel
theorem dX6_isBlank_16 : decode cX6_isBlank 16 = .ok (.iconst 0, 1) := by decide +kernel
theorem dX6_isBlank_17 : decode cX6_isBlank 17 = .ok (.ireturn, 1) := by decide +kernel
theorem dX6_reckonPlace_0 : decode cX6_reckonPlace 0 = .ok (.iload_n 1, 1) := by decide +kernel
theorem dX6_reckonPlace_1 : decode cX6_reckonPlace 1 = .ok (.aload_n 0, 1) := by decide +kernel
theorem dX6_reckonPlace_2 : decode cX6_reckonPlace 2 = .ok (.getfield 26, 3) := by decide +kernel
theorem dX6_reckonPlace_5 : decode cX6_reckonPlace 5 = .ok (.invokevirtual 59, 3) := by decide +kernel
theorem dX6_reckonPlace_8 : decode cX6_reckonPlace 8 = .ok (.if_icmp .lt 7, 3) := by decide +kernel
theorem dX6_reckonPlace_11 : decode cX6_reckonPlace 11 = .ok (.iconst 1, 1) := by decide +kernel
theorem dX6_reckonPlace_12 : decode cX6_reckonPlace 12 = .ok (.goto 4, 3) := by decide +kernel
theorem dX6_reckonPlace_15 : decode cX6_reckonPlace 15 = .ok (.iconst 0, 1) := by decide +kernel
theorem dX6_reckonPlace_16 : decode cX6_reckonPlace 16 = .ok (.istore_n 2, 1) := by decide +kernel
theorem dX6_reckonPlace_17 : decode cX6_reckonPlace 17 = .ok (.aload_n 0, 1) := by decide +kernel
theorem dX6_reckonPlace_18 : decode cX6_reckonPlace 18 = .ok (.iload_n 1, 1) := by decide +kernel
theorem dX6_reckonPlace_19 : decode cX6_reckonPlace 19 = .ok (.invokevirtual 95, 3) := by decide +kernel
theorem dX6_reckonPlace_22 : decode cX6_reckonPlace 22 = .ok (.iconst 0, 1) := by decide +kernel
theorem dX6_reckonPlace_23 : decode cX6_reckonPlace 23 = .ok (.istore_n 3, 1) := by decide +kernel
theorem dX6_reckonPlace_24 : decode cX6_reckonPlace 24 = .ok (.iload_n 3, 1) := by decide +kernel
theorem dX6_reckonPlace_25 : decode cX6_reckonPlace 25 = .ok (.iconst 3, 1) := by decide +kernel
theorem dX6_reckonPlace_26 : decode cX6_reckonPlace 26 = .ok (.if_icmp .ge 60, 3) := by decide +kernel
theorem dX6_reckonPlace_29 : decode cX6_reckonPlace 29 = .ok (.iconst 0, 1) := by decide +kernel
theorem dX6_reckonPlace_30 : decode cX6_reckonPlace 30 = .ok (.istore 4, 2) := by decide +kernel
theorem dX6_reckonPlace_32 : decode cX6_reckonPlace 32 = .ok (.iload 4, 2) := by decide +kernel
theorem dX6_reckonPlace_34 : decode cX6_reckonPlace 34 = .ok (.aload_n 0, 1) := by decide +kernel
theorem dX6_reckonPlace_35 : decode cX6_reckonPlace 35 = .ok (.getfield 9, 3) := by decide +kernel
theorem dX6_reckonPlace_38 : decode cX6_reckonPlace 38 = .ok (.getfield 98, 3) := by decide +kernel
theorem dX6_reckonPlace_41 : decode cX6_reckonPlace 41 = .ok (.if_icmp .gt 39, 3) := by decide +kernel
theorem dX6_reckonPlace_44 : decode cX6_reckonPlace 44 = .ok (.aload_n 0, 1) := by decide +kernel
theorem dX6_reckonPlace_45 : decode cX6_reckonPlace 45 = .ok (.getfield 44, 3) := by decide +kernel
theorem dX6_reckonPlace_48 : decode cX6_reckonPlace 48 = .ok (.iload_n 1, 1) := by decide +kernel
theorem dX6_reckonPlace_49 : decode cX6_reckonPlace 49 = .ok (.iload 4, 2) := by decide +kernel
theorem dX6_reckonPlace_51 : decode cX6_reckonPlace 51 = .ok (.iload_n 3, 1) := by decide +kernel
theorem dX6_reckonPlace_52 : decode cX6_reckonPlace 52 = .ok (.invokestatic 101, 3) := by decide +kernel
theorem dX6_reckonPlace_55 : decode cX6_reckonPlace 55 = .ok (.iload_n 2, 1) := by decide +kernel
theorem dX6_reckonPlace_56 : decode cX6_reckonPlace 56 = .ok (.ifCond .eq 7, 3) := by decide +kernel
theorem dX6_reckonPlace_59 : decode cX6_reckonPlace 59 = .ok (.iconst 0, 1) := by decide +kernel
theorem dX6_reckonPlace_60 : decode cX6_reckonPlace 60 = .ok (.goto 11, 3) := by decide +kernel
theorem dX6_reckonPlace_63 : decode cX6_reckonPlace 63 = .ok (.aload_n 0, 1) := by decide +kernel
theorem dX6_reckonPlace_64 : decode cX6_reckonPlace 64 = .ok (.iload_n 1, 1) := by decide +kernel
theorem dX6_reckonPlace_65 : decode cX6_reckonPlace 65 = .ok (.iload 4, 2) := by decide +kernel
theorem dX6_reckonPlace_67 : decode cX6_reckonPlace 67 = .ok (.iload_n 3, 1) := by decide +kernel
theorem dX6_reckonPlace_68 : decode cX6_reckonPlace 68 = .ok (.invokevirtual 105, 3) := by decide +kernel
theorem dX6_reckonPlace_71 : decode cX6_reckonPlace 71 = .ok (.invokevirtual 87, 3) := by decide +kernel
theorem dX6_reckonPlace_74 : decode cX6_reckonPlace 74 = .ok (.iinc 4 1, 3) := by decide +kernel
theorem dX6_reckonPlace_77 : decode cX6_reckonPlace 77 = .ok (.goto (-45), 3) := by decide +kernel
theorem dX6_reckonPlace_80 : decode cX6_reckonPlace 80 = .ok (.iinc 3 1, 3) := by decide +kernel
theorem dX6_reckonPlace_83 : decode cX6_reckonPlace 83 = .ok (.goto (-59), 3) := by decide +kernel
theorem dX6_reckonPlace_86 : decode cX6_reckonPlace 86 = .ok (.return_, 1) := by decide +kernel
theorem dX6_listChoices_0 : decode cX6_listChoices 0 = .ok (.aload_n 0, 1) := by decide +kernel
theorem dX6_listChoices_1 : decode cX6_listChoices 1 = .ok (.getfield 35, 3) := by decide +kernel
theorem dX6_listChoices_4 : decode cX6_listChoices 4 = .ok (.invokevirtual 108, 3) := by decide +kernel
theorem dX6_listChoices_7 : decode cX6_listChoices 7 = .ok (.aload_n 0, 1) := by decide +kernel
theorem dX6_listChoices_8 : decode cX6_listChoices 8 = .ok (.getfield 38, 3) := by decide +kernel
theorem dX6_listChoices_11 : decode cX6_listChoices 11 = .ok (.invokevirtual 108, 3) := by decide +kernel
theorem dX6_listChoices_14 : decode cX6_listChoices 14 = .ok (.aload_n 0, 1) := by decide +kernel
theorem dX6_listChoices_15 : decode cX6_listChoices 15 = .ok (.getfield 41, 3) := by decide +kernel
theorem dX6_listChoices_18 : decode cX6_listChoices 18 = .ok (.invokevirtual 108, 3) := by decide +kernel
theorem dX6_listChoices_21 : decode cX6_listChoices 21 = .ok (.aload_n 0, 1) := by decide +kernel
theorem dX6_listChoices_22 : decode cX6_listChoices 22 = .ok (.aload_n 0, 1) := by decide +kernel
theorem dX6_listChoices_23 : decode cX6_listChoices 23 = .ok (.iload_n 1, 1) := by decide +kernel
theorem dX6_listChoices_24 : decode cX6_listChoices 24 = .ok (.invokevirtual 91, 3) := by decide +kernel
theorem dX6_listChoices_27 : decode cX6_listChoices 27 = .ok (.putfield 111, 3) := by decide +kernel
theorem dX6_listChoices_30 : decode cX6_listChoices 30 = .ok (.aload_n 0, 1) := by decide +kernel
theorem dX6_listChoices_31 : decode cX6_listChoices 31 = .ok (.getfield 111, 3) := by decide +kernel
theorem dX6_listChoices_34 : decode cX6_listChoices 34 = .ok (.ifCond .eq 52, 3) := by decide +kernel
theorem dX6_listChoices_37 : decode cX6_listChoices 37 = .ok (.aload_n 0, 1) := by decide +kernel
theorem dX6_listChoices_38 : decode cX6_listChoices 38 = .ok (.getfield 9, 3) := by decide +kernel
theorem dX6_listChoices_41 : decode cX6_listChoices 41 = .ok (.getfield 115, 3) := by decide +kernel
theorem dX6_listChoices_44 : decode cX6_listChoices 44 = .ok (.istore_n 2, 1) := by decide +kernel
theorem dX6_listChoices_45 : decode cX6_listChoices 45 = .ok (.iload_n 2, 1) := by decide +kernel
theorem dX6_listChoices_46 : decode cX6_listChoices 46 = .ok (.aload_n 0, 1) := by decide +kernel
theorem dX6_listChoices_47 : decode cX6_listChoices 47 = .ok (.getfield 9, 3) := by decide +kernel
theorem dX6_listChoices_50 : decode cX6_listChoices 50 = .ok (.getfield 118, 3) := by decide +kernel
theorem dX6_listChoices_53 : decode cX6_listChoices 53 = .ok (.if_icmp .gt 32, 3) := by decide +kernel
theorem dX6_listChoices_56 : decode cX6_listChoices 56 = .ok (.aload_n 0, 1) := by decide +kernel
theorem dX6_listChoices_57 : decode cX6_listChoices 57 = .ok (.iconst 1, 1) := by decide +kernel
theorem dX6_listChoices_58 : decode cX6_listChoices 58 = .ok (.iload_n 2, 1) := by decide +kernel
theorem dX6_listChoices_59 : decode cX6_listChoices 59 = .ok (.aload_n 0, 1) := by decide +kernel
theorem dX6_listChoices_60 : decode cX6_listChoices 60 = .ok (.getfield 9, 3) := by decide +kernel
theorem dX6_listChoices_63 : decode cX6_listChoices 63 = .ok (.getfield 121, 3) := by decide +kernel
theorem dX6_listChoices_66 : decode cX6_listChoices 66 = .ok (.iload_n 2, 1) := by decide +kernel
theorem dX6_listChoices_67 : decode cX6_listChoices 67 = .ok (.aload_n 0, 1) := by decide +kernel
theorem dX6_listChoices_68 : decode cX6_listChoices 68 = .ok (.getfield 9, 3) := by decide +kernel
theorem dX6_listChoices_71 : decode cX6_listChoices 71 = .ok (.getfield 115, 3) := by decide +kernel
theorem dX6_listChoices_74 : decode cX6_listChoices 74 = .ok (.isub, 1) := by decide +kernel
theorem dX6_listChoices_75 : decode cX6_listChoices 75 = .ok (.imul, 1) := by decide +kernel
theorem dX6_listChoices_76 : decode cX6_listChoices 76 = .ok (.invokevirtual 124, 3) := by decide +kernel
theorem dX6_listChoices_79 : decode cX6_listChoices 79 = .ok (.iinc 2 1, 3) := by decide +kernel
theorem dX6_listChoices_82 : decode cX6_listChoices 82 = .ok (.goto (-37), 3) := by decide +kernel
theorem dX6_listChoices_85 : decode cX6_listChoices 85 = .ok (.return_, 1) := by decide +kernel
theorem dX6_listChoices_86 : decode cX6_listChoices 86 = .ok (.aload_n 0, 1) := by decide +kernel
theorem dX6_listChoices_87 : decode cX6_listChoices 87 = .ok (.getfield 29, 3) := by decide +kernel
theorem dX6_listChoices_90 : decode cX6_listChoices 90 = .ok (.iload_n 1, 1) := by decide +kernel
theorem dX6_listChoices_91 : decode cX6_listChoices 91 = .ok (.invokevirtual 66, 3) := by decide +kernel
theorem dX6_listChoices_94 : decode cX6_listChoices 94 = .ok (.istore_n 2, 1) := by decide +kernel
theorem dX6_listChoices_95 : decode cX6_listChoices 95 = .ok (.aload_n 0, 1) := by decide +kernel
theorem dX6_listChoices_96 : decode cX6_listChoices 96 = .ok (.getfield 32, 3) := by decide +kernel
theorem dX6_listChoices_99 : decode cX6_listChoices 99 = .ok (.iload_n 1, 1) := by decide +kernel
theorem dX6_listChoices_100 : decode cX6_listChoices 100 = .ok (.invokevirtual 66, 3) := by decide +kernel
theorem dX6_listChoices_103 : decode cX6_listChoices 103 = .ok (.istore_n 3, 1) := by decide +kernel
theorem dX6_listChoices_104 : decode cX6_listChoices 104 = .ok (.aload_n 0, 1) := by decide +kernel
theorem dX6_listChoices_105 : decode cX6_listChoices 105 = .ok (.iconst 3, 1) := by decide +kernel
theorem dX6_listChoices_106 : decode cX6_listChoices 106 = .ok (.aload_n 0, 1) := by decide +kernel
theorem dX6_listChoices_107 : decode cX6_listChoices 107 = .ok (.getfield 9, 3) := by decide +kernel
theorem dX6_listChoices_110 : decode cX6_listChoices 110 = .ok (.getfield 128, 3) := by decide +kernel
theorem dX6_listChoices_113 : decode cX6_listChoices 113 = .ok (.iload_n 2, 1) := by decide +kernel
theorem dX6_listChoices_114 : decode cX6_listChoices 114 = .ok (.invokevirtual 66, 3) := by decide +kernel
theorem dX6_listChoices_117 : decode cX6_listChoices 117 = .ok (.aload_n 0, 1) := by decide +kernel
theorem dX6_listChoices_118 : decode cX6_listChoices 118 = .ok (.getfield 9, 3) := by decide +kernel
theorem dX6_listChoices_121 : decode cX6_listChoices 121 = .ok (.getfield 131, 3) := by decide +kernel
theorem dX6_listChoices_124 : decode cX6_listChoices 124 = .ok (.iload_n 2, 1) := by decide +kernel
theorem dX6_listChoices_125 : decode cX6_listChoices 125 = .ok (.invokevirtual 66, 3) := by decide +kernel
theorem dX6_listChoices_128 : decode cX6_listChoices 128 = .ok (.invokevirtual 124, 3) := by decide +kernel
theorem dX6_listChoices_131 : decode cX6_listChoices 131 = .ok (.aload_n 0, 1) := by decide +kernel
theorem dX6_listChoices_132 : decode cX6_listChoices 132 = .ok (.iconst 2, 1) := by decide +kernel
theorem dX6_listChoices_133 : decode cX6_listChoices 133 = .ok (.aload_n 0, 1) := by decide +kernel
theorem dX6_listChoices_134 : decode cX6_listChoices 134 = .ok (.getfield 9, 3) := by decide +kernel
theorem dX6_listChoices_137 : decode cX6_listChoices 137 = .ok (.getfield 128, 3) := by decide +kernel
theorem dX6_listChoices_140 : decode cX6_listChoices 140 = .ok (.iload_n 3, 1) := by decide +kernel
theorem dX6_listChoices_141 : decode cX6_listChoices 141 = .ok (.invokevirtual 66, 3) := by decide +kernel
theorem dX6_listChoices_144 : decode cX6_listChoices 144 = .ok (.aload_n 0, 1) := by decide +kernel
theorem dX6_listChoices_145 : decode cX6_listChoices 145 = .ok (.getfield 9, 3) := by decide +kernel
theorem dX6_listChoices_148 : decode cX6_listChoices 148 = .ok (.getfield 131, 3) := by decide +kernel
theorem dX6_listChoices_151 : decode cX6_listChoices 151 = .ok (.iload_n 3, 1) := by decide +kernel
theorem dX6_listChoices_152 : decode cX6_listChoices 152 = .ok (.invokevirtual 66, 3) := by decide +kernel
theorem dX6_listChoices_155 : decode cX6_listChoices 155 = .ok (.invokevirtual 124, 3) := by decide +kernel
theorem dX6_listChoices_158 : decode cX6_listChoices 158 = .ok (.aload_n 0, 1) := by decide +kernel
theorem dX6_listChoices_159 : decode cX6_listChoices 159 = .ok (.iconst 1, 1) := by decide +kernel
theorem dX6_listChoices_160 : decode cX6_listChoices 160 = .ok (.aload_n 0, 1) := by decide +kernel
theorem dX6_listChoices_161 : decode cX6_listChoices 161 = .ok (.getfield 15, 3) := by decide +kernel
theorem dX6_listChoices_164 : decode cX6_listChoices 164 = .ok (.aload_n 0, 1) := by decide +kernel
theorem dX6_listChoices_165 : decode cX6_listChoices 165 = .ok (.getfield 26, 3) := by decide +kernel
theorem dX6_listChoices_168 : decode cX6_listChoices 168 = .ok (.iload_n 1, 1) := by decide +kernel
theorem dX6_listChoices_169 : decode cX6_listChoices 169 = .ok (.invokevirtual 66, 3) := by decide +kernel
theorem dX6_listChoices_172 : decode cX6_listChoices 172 = .ok (.invokevirtual 66, 3) := by decide +kernel
theorem dX6_listChoices_175 : decode cX6_listChoices 175 = .ok (.iconst 0, 1) := by decide +kernel
theorem dX6_listChoices_176 : decode cX6_listChoices 176 = .ok (.invokevirtual 124, 3) := by decide +kernel
theorem dX6_listChoices_179 : decode cX6_listChoices 179 = .ok (.return_, 1) := by decide +kernel
theorem dX6_addChoice_0 : decode cX6_addChoice 0 = .ok (.iload_n 2, 1) := by decide +kernel
theorem dX6_addChoice_1 : decode cX6_addChoice 1 = .ok (.ifCond .le 27, 3) := by decide +kernel
theorem dX6_addChoice_4 : decode cX6_addChoice 4 = .ok (.aload_n 0, 1) := by decide +kernel
theorem dX6_addChoice_5 : decode cX6_addChoice 5 = .ok (.getfield 35, 3) := by decide +kernel
theorem dX6_addChoice_8 : decode cX6_addChoice 8 = .ok (.iload_n 1, 1) := by decide +kernel
theorem dX6_addChoice_9 : decode cX6_addChoice 9 = .ok (.invokevirtual 134, 3) := by decide +kernel
theorem dX6_addChoice_12 : decode cX6_addChoice 12 = .ok (.aload_n 0, 1) := by decide +kernel
theorem dX6_addChoice_13 : decode cX6_addChoice 13 = .ok (.getfield 38, 3) := by decide +kernel
theorem dX6_addChoice_16 : decode cX6_addChoice 16 = .ok (.iload_n 2, 1) := by decide +kernel
theorem dX6_addChoice_17 : decode cX6_addChoice 17 = .ok (.invokevirtual 134, 3) := by decide +kernel
theorem dX6_addChoice_20 : decode cX6_addChoice 20 = .ok (.aload_n 0, 1) := by decide +kernel
theorem dX6_addChoice_21 : decode cX6_addChoice 21 = .ok (.getfield 41, 3) := by decide +kernel
theorem dX6_addChoice_24 : decode cX6_addChoice 24 = .ok (.iload_n 3, 1) := by decide +kernel
theorem dX6_addChoice_25 : decode cX6_addChoice 25 = .ok (.invokevirtual 134, 3) := by decide +kernel
theorem dX6_addChoice_28 : decode cX6_addChoice 28 = .ok (.return_, 1) := by decide +kernel
theorem dX6_leastUgly_0 : decode cX6_leastUgly 0 = .ok (.aload_n 0, 1) := by decide +kernel
theorem dX6_leastUgly_1 : decode cX6_leastUgly 1 = .ok (.iload_n 1, 1) := by decide +kernel
theorem dX6_leastUgly_2 : decode cX6_leastUgly 2 = .ok (.iload_n 2, 1) := by decide +kernel
theorem dX6_leastUgly_3 : decode cX6_leastUgly 3 = .ok (.iload_n 3, 1) := by decide +kernel
theorem dX6_leastUgly_4 : decode cX6_leastUgly 4 = .ok (.invokevirtual 137, 3) := by decide +kernel
theorem dX6_leastUgly_7 : decode cX6_leastUgly 7 = .ok (.istore 4, 2) := by decide +kernel
theorem dX6_leastUgly_9 : decode cX6_leastUgly 9 = .ok (.iconst 0, 1) := by decide +kernel
theorem dX6_leastUgly_10 : decode cX6_leastUgly 10 = .ok (.istore 5, 2) := by decide +kernel
theorem dX6_leastUgly_12 : decode cX6_leastUgly 12 = .ok (.iload 5, 2) := by decide +kernel
theorem dX6_leastUgly_14 : decode cX6_leastUgly 14 = .ok (.aload_n 0, 1) := by decide +kernel
theorem dX6_leastUgly_15 : decode cX6_leastUgly 15 = .ok (.getfield 35, 3) := by decide +kernel
theorem dX6_leastUgly_18 : decode cX6_leastUgly 18 = .ok (.invokevirtual 59, 3) := by decide +kernel
theorem dX6_leastUgly_21 : decode cX6_leastUgly 21 = .ok (.if_icmp .ge 25, 3) := by decide +kernel
theorem dX6_leastUgly_24 : decode cX6_leastUgly 24 = .ok (.iload 4, 2) := by decide +kernel
theorem dX6_leastUgly_26 : decode cX6_leastUgly 26 = .ok (.aload_n 0, 1) := by decide +kernel
theorem dX6_leastUgly_27 : decode cX6_leastUgly 27 = .ok (.iload_n 1, 1) := by decide +kernel
theorem dX6_leastUgly_28 : decode cX6_leastUgly 28 = .ok (.iload_n 2, 1) := by decide +kernel
theorem dX6_leastUgly_29 : decode cX6_leastUgly 29 = .ok (.iload_n 3, 1) := by decide +kernel
theorem dX6_leastUgly_30 : decode cX6_leastUgly 30 = .ok (.iload 5, 2) := by decide +kernel
theorem dX6_leastUgly_32 : decode cX6_leastUgly 32 = .ok (.invokevirtual 140, 3) := by decide +kernel
theorem dX6_leastUgly_35 : decode cX6_leastUgly 35 = .ok (.invokestatic 144, 3) := by decide +kernel
theorem dX6_leastUgly_38 : decode cX6_leastUgly 38 = .ok (.istore 4, 2) := by decide +kernel
theorem dX6_leastUgly_40 : decode cX6_leastUgly 40 = .ok (.iinc 5 1, 3) := by decide +kernel
theorem dX6_leastUgly_43 : decode cX6_leastUgly 43 = .ok (.goto (-31), 3) := by decide +kernel
theorem dX6_leastUgly_46 : decode cX6_leastUgly 46 = .ok (.iload 4, 2) := by decide +kernel
theorem dX6_leastUgly_48 : decode cX6_leastUgly 48 = .ok (.ireturn, 1) := by decide +kernel
theorem dX6_uglyBy_0 : decode cX6_uglyBy 0 = .ok (.iload_n 2, 1) := by decide +kernel
theorem dX6_uglyBy_1 : decode cX6_uglyBy 1 = .ok (.aload_n 0, 1) := by decide +kernel
theorem dX6_uglyBy_2 : decode cX6_uglyBy 2 = .ok (.getfield 38, 3) := by decide +kernel
theorem dX6_uglyBy_5 : decode cX6_uglyBy 5 = .ok (.iload 4, 2) := by decide +kernel
theorem dX6_uglyBy_7 : decode cX6_uglyBy 7 = .ok (.invokevirtual 66, 3) := by decide +kernel
theorem dX6_uglyBy_10 : decode cX6_uglyBy 10 = .ok (.iadd, 1) := by decide +kernel
theorem dX6_uglyBy_11 : decode cX6_uglyBy 11 = .ok (.istore 5, 2) := by decide +kernel
theorem dX6_uglyBy_13 : decode cX6_uglyBy 13 = .ok (.iload 5, 2) := by decide +kernel
theorem dX6_uglyBy_15 : decode cX6_uglyBy 15 = .ok (.aload_n 0, 1) := by decide +kernel
theorem dX6_uglyBy_16 : decode cX6_uglyBy 16 = .ok (.getfield 9, 3) := by decide +kernel
theorem dX6_uglyBy_19 : decode cX6_uglyBy 19 = .ok (.getfield 98, 3) := by decide +kernel
theorem dX6_uglyBy_22 : decode cX6_uglyBy 22 = .ok (.if_icmp .le 6, 3) := by decide +kernel
theorem dX6_uglyBy_25 : decode cX6_uglyBy 25 = .ok (.ldc 74, 2) := by decide +kernel
theorem dX6_uglyBy_27 : decode cX6_uglyBy 27 = .ok (.ireturn, 1) := by decide +kernel
theorem dX6_uglyBy_28 : decode cX6_uglyBy 28 = .ok (.iload_n 1, 1) := by decide +kernel
theorem dX6_uglyBy_29 : decode cX6_uglyBy 29 = .ok (.aload_n 0, 1) := by decide +kernel
theorem dX6_uglyBy_30 : decode cX6_uglyBy 30 = .ok (.getfield 35, 3) := by decide +kernel
theorem dX6_uglyBy_33 : decode cX6_uglyBy 33 = .ok (.iload 4, 2) := by decide +kernel
theorem dX6_uglyBy_35 : decode cX6_uglyBy 35 = .ok (.invokevirtual 66, 3) := by decide +kernel
theorem dX6_uglyBy_38 : decode cX6_uglyBy 38 = .ok (.iadd, 1) := by decide +kernel
theorem dX6_uglyBy_39 : decode cX6_uglyBy 39 = .ok (.istore 6, 2) := by decide +kernel
theorem dX6_uglyBy_41 : decode cX6_uglyBy 41 = .ok (.aload_n 0, 1) := by decide +kernel
theorem dX6_uglyBy_42 : decode cX6_uglyBy 42 = .ok (.getfield 41, 3) := by decide +kernel
theorem dX6_uglyBy_45 : decode cX6_uglyBy 45 = .ok (.iload 4, 2) := by decide +kernel
theorem dX6_uglyBy_47 : decode cX6_uglyBy 47 = .ok (.invokevirtual 66, 3) := by decide +kernel
theorem dX6_uglyBy_50 : decode cX6_uglyBy 50 = .ok (.aload_n 0, 1) := by decide +kernel
theorem dX6_uglyBy_51 : decode cX6_uglyBy 51 = .ok (.getfield 44, 3) := by decide +kernel
theorem dX6_uglyBy_54 : decode cX6_uglyBy 54 = .ok (.iload 6, 2) := by decide +kernel
theorem dX6_uglyBy_56 : decode cX6_uglyBy 56 = .ok (.iload 5, 2) := by decide +kernel
theorem dX6_uglyBy_58 : decode cX6_uglyBy 58 = .ok (.aload_n 0, 1) := by decide +kernel
theorem dX6_uglyBy_59 : decode cX6_uglyBy 59 = .ok (.iload_n 3, 1) := by decide +kernel
theorem dX6_uglyBy_60 : decode cX6_uglyBy 60 = .ok (.invokevirtual 150, 3) := by decide +kernel
theorem dX6_uglyBy_63 : decode cX6_uglyBy 63 = .ok (.invokestatic 101, 3) := by decide +kernel
theorem dX6_uglyBy_66 : decode cX6_uglyBy 66 = .ok (.invokevirtual 66, 3) := by decide +kernel
theorem dX6_uglyBy_69 : decode cX6_uglyBy 69 = .ok (.iadd, 1) := by decide +kernel
theorem dX6_uglyBy_70 : decode cX6_uglyBy 70 = .ok (.ireturn, 1) := by decide +kernel
theorem dX6_uglyByEnd_0 : decode cX6_uglyByEnd 0 = .ok (.aload_n 0, 1) := by decide +kernel
theorem dX6_uglyByEnd_1 : decode cX6_uglyByEnd 1 = .ok (.getfield 111, 3) := by decide +kernel
theorem dX6_uglyByEnd_4 : decode cX6_uglyByEnd 4 = .ok (.ifCond .eq 35, 3) := by decide +kernel
theorem dX6_uglyByEnd_7 : decode cX6_uglyByEnd 7 = .ok (.iload_n 2, 1) := by decide +kernel
theorem dX6_uglyByEnd_8 : decode cX6_uglyByEnd 8 = .ok (.aload_n 0, 1) := by decide +kernel
theorem dX6_uglyByEnd_9 : decode cX6_uglyByEnd 9 = .ok (.getfield 9, 3) := by decide +kernel
theorem dX6_uglyByEnd_12 : decode cX6_uglyByEnd 12 = .ok (.getfield 98, 3) := by decide +kernel
theorem dX6_uglyByEnd_15 : decode cX6_uglyByEnd 15 = .ok (.if_icmp .ne 21, 3) := by decide +kernel
theorem dX6_uglyByEnd_18 : decode cX6_uglyByEnd 18 = .ok (.aload_n 0, 1) := by decide +kernel
theorem dX6_uglyByEnd_19 : decode cX6_uglyByEnd 19 = .ok (.getfield 44, 3) := by decide +kernel
theorem dX6_uglyByEnd_22 : decode cX6_uglyByEnd 22 = .ok (.iload_n 1, 1) := by decide +kernel
theorem dX6_uglyByEnd_23 : decode cX6_uglyByEnd 23 = .ok (.iconst 1, 1) := by decide +kernel
theorem dX6_uglyByEnd_24 : decode cX6_uglyByEnd 24 = .ok (.iadd, 1) := by decide +kernel
theorem dX6_uglyByEnd_25 : decode cX6_uglyByEnd 25 = .ok (.iconst 0, 1) := by decide +kernel
theorem dX6_uglyByEnd_26 : decode cX6_uglyByEnd 26 = .ok (.iconst 0, 1) := by decide +kernel
theorem dX6_uglyByEnd_27 : decode cX6_uglyByEnd 27 = .ok (.invokestatic 101, 3) := by decide +kernel
theorem dX6_uglyByEnd_30 : decode cX6_uglyByEnd 30 = .ok (.invokevirtual 66, 3) := by decide +kernel
theorem dX6_uglyByEnd_33 : decode cX6_uglyByEnd 33 = .ok (.goto 5, 3) := by decide +kernel
theorem dX6_uglyByEnd_36 : decode cX6_uglyByEnd 36 = .ok (.ldc 74, 2) := by decide +kernel
theorem dX6_uglyByEnd_38 : decode cX6_uglyByEnd 38 = .ok (.ireturn, 1) := by decide +kernel
theorem dX6_uglyByEnd_39 : decode cX6_uglyByEnd 39 = .ok (.iload_n 3, 1) := by decide +kernel
theorem dX6_uglyByEnd_40 : decode cX6_uglyByEnd 40 = .ok (.iconst 2, 1) := by decide +kernel
theorem dX6_uglyByEnd_41 : decode cX6_uglyByEnd 41 = .ok (.if_icmp .ne 28, 3) := by decide +kernel
theorem dX6_uglyByEnd_44 : decode cX6_uglyByEnd 44 = .ok (.iload_n 2, 1) := by decide +kernel
theorem dX6_uglyByEnd_45 : decode cX6_uglyByEnd 45 = .ok (.aload_n 0, 1) := by decide +kernel
theorem dX6_uglyByEnd_46 : decode cX6_uglyByEnd 46 = .ok (.getfield 15, 3) := by decide +kernel
theorem dX6_uglyByEnd_49 : decode cX6_uglyByEnd 49 = .ok (.bipush 26, 2) := by decide +kernel
theorem dX6_uglyByEnd_51 : decode cX6_uglyByEnd 51 = .ok (.invokevirtual 66, 3) := by decide +kernel
theorem dX6_uglyByEnd_54 : decode cX6_uglyByEnd 54 = .ok (.iadd, 1) := by decide +kernel
theorem dX6_uglyByEnd_55 : decode cX6_uglyByEnd 55 = .ok (.aload_n 0, 1) := by decide +kernel
theorem dX6_uglyByEnd_56 : decode cX6_uglyByEnd 56 = .ok (.getfield 9, 3) := by decide +kernel
theorem dX6_uglyByEnd_59 : decode cX6_uglyByEnd 59 = .ok (.getfield 98, 3) := by decide +kernel
theorem dX6_uglyByEnd_62 : decode cX6_uglyByEnd 62 = .ok (.if_icmp .ne 7, 3) := by decide +kernel
theorem dX6_uglyByEnd_65 : decode cX6_uglyByEnd 65 = .ok (.iconst 1, 1) := by decide +kernel
theorem dX6_uglyByEnd_66 : decode cX6_uglyByEnd 66 = .ok (.goto 4, 3) := by decide +kernel
theorem dX6_uglyByEnd_69 : decode cX6_uglyByEnd 69 = .ok (.iconst 0, 1) := by decide +kernel
theorem dX6_uglyByEnd_70 : decode cX6_uglyByEnd 70 = .ok (.istore 4, 2) := by decide +kernel
theorem dX6_uglyByEnd_72 : decode cX6_uglyByEnd 72 = .ok (.iload 4, 2) := by decide +kernel
theorem dX6_uglyByEnd_74 : decode cX6_uglyByEnd 74 = .ok (.ifCond .eq 27, 3) := by decide +kernel
theorem dX6_uglyByEnd_77 : decode cX6_uglyByEnd 77 = .ok (.aload_n 0, 1) := by decide +kernel
theorem dX6_uglyByEnd_78 : decode cX6_uglyByEnd 78 = .ok (.getfield 9, 3) := by decide +kernel
theorem dX6_uglyByEnd_81 : decode cX6_uglyByEnd 81 = .ok (.getfield 153, 3) := by decide +kernel
theorem dX6_uglyByEnd_84 : decode cX6_uglyByEnd 84 = .ok (.aload_n 0, 1) := by decide +kernel
theorem dX6_uglyByEnd_85 : decode cX6_uglyByEnd 85 = .ok (.getfield 44, 3) := by decide +kernel
theorem dX6_uglyByEnd_88 : decode cX6_uglyByEnd 88 = .ok (.iload_n 1, 1) := by decide +kernel
theorem dX6_uglyByEnd_89 : decode cX6_uglyByEnd 89 = .ok (.iconst 0, 1) := by decide +kernel
theorem dX6_uglyByEnd_90 : decode cX6_uglyByEnd 90 = .ok (.iconst 0, 1) := by decide +kernel
theorem dX6_uglyByEnd_91 : decode cX6_uglyByEnd 91 = .ok (.invokestatic 101, 3) := by decide +kernel
theorem dX6_uglyByEnd_94 : decode cX6_uglyByEnd 94 = .ok (.invokevirtual 66, 3) := by decide +kernel
theorem dX6_uglyByEnd_97 : decode cX6_uglyByEnd 97 = .ok (.iadd, 1) := by decide +kernel
theorem dX6_uglyByEnd_98 : decode cX6_uglyByEnd 98 = .ok (.goto 5, 3) := by decide +kernel
theorem dX6_uglyByEnd_101 : decode cX6_uglyByEnd 101 = .ok (.ldc 74, 2) := by decide +kernel
theorem dX6_uglyByEnd_103 : decode cX6_uglyByEnd 103 = .ok (.ireturn, 1) := by decide +kernel
theorem dX6_piecesBehind_0 : decode cX6_piecesBehind 0 = .ok (.aload_n 0, 1) := by decide +kernel
theorem dX6_piecesBehind_1 : decode cX6_piecesBehind 1 = .ok (.getfield 111, 3) := by decide +kernel
theorem dX6_piecesBehind_4 : decode cX6_piecesBehind 4 = .ok (.ifCond .eq 7, 3) := by decide +kernel
theorem dX6_piecesBehind_7 : decode cX6_piecesBehind 7 = .ok (.iconst 0, 1) := by decide +kernel
theorem dX6_piecesBehind_8 : decode cX6_piecesBehind 8 = .ok (.goto 10, 3) := by decide +kernel
theorem dX6_piecesBehind_11 : decode cX6_piecesBehind 11 = .ok (.iload_n 1, 1) := by decide +kernel
theorem dX6_piecesBehind_12 : decode cX6_piecesBehind 12 = .ok (.iconst 1, 1) := by decide +kernel
theorem dX6_piecesBehind_13 : decode cX6_piecesBehind 13 = .ok (.iadd, 1) := by decide +kernel
theorem dX6_piecesBehind_14 : decode cX6_piecesBehind 14 = .ok (.iconst 2, 1) := by decide +kernel
theorem dX6_piecesBehind_15 : decode cX6_piecesBehind 15 = .ok (.invokestatic 144, 3) := by decide +kernel
theorem dX6_piecesBehind_18 : decode cX6_piecesBehind 18 = .ok (.ireturn, 1) := by decide +kernel
theorem dX6_index_0 : decode cX6_index 0 = .ok (.iload_n 0, 1) := by decide +kernel
theorem dX6_index_1 : decode cX6_index 1 = .ok (.bipush 41, 2) := by decide +kernel
theorem dX6_index_3 : decode cX6_index 3 = .ok (.imul, 1) := by decide +kernel
theorem dX6_index_4 : decode cX6_index 4 = .ok (.iload_n 1, 1) := by decide +kernel
theorem dX6_index_5 : decode cX6_index 5 = .ok (.iadd, 1) := by decide +kernel
theorem dX6_index_6 : decode cX6_index 6 = .ok (.iconst 3, 1) := by decide +kernel
theorem dX6_index_7 : decode cX6_index 7 = .ok (.imul, 1) := by decide +kernel
theorem dX6_index_8 : decode cX6_index 8 = .ok (.iload_n 2, 1) := by decide +kernel
theorem dX6_index_9 : decode cX6_index 9 = .ok (.iadd, 1) := by decide +kernel
theorem dX6_index_10 : decode cX6_index 10 = .ok (.ireturn, 1) := by decide +kernel
theorem dX6_setOut_0 : decode cX6_setOut 0 = .ok (.aload_n 0, 1) := by decide +kernel
theorem dX6_setOut_1 : decode cX6_setOut 1 = .ok (.invokevirtual 156, 3) := by decide +kernel
theorem dX6_setOut_4 : decode cX6_setOut 4 = .ok (.iconst 0, 1) := by decide +kernel
theorem dX6_setOut_5 : decode cX6_setOut 5 = .ok (.istore_n 1, 1) := by decide +kernel
theorem dX6_setOut_6 : decode cX6_setOut 6 = .ok (.iconst 0, 1) := by decide +kernel
theorem dX6_setOut_7 : decode cX6_setOut 7 = .ok (.istore_n 2, 1) := by decide +kernel
theorem dX6_setOut_8 : decode cX6_setOut 8 = .ok (.iconst 0, 1) := by decide +kernel
theorem dX6_setOut_9 : decode cX6_setOut 9 = .ok (.istore_n 3, 1) := by decide +kernel
theorem dX6_setOut_10 : decode cX6_setOut 10 = .ok (.iconst 0, 1) := by decide +kernel
theorem dX6_setOut_11 : decode cX6_setOut 11 = .ok (.istore 4, 2) := by decide +kernel
theorem dX6_setOut_13 : decode cX6_setOut 13 = .ok (.iload 4, 2) := by decide +kernel
theorem dX6_setOut_15 : decode cX6_setOut 15 = .ok (.bipush 120, 2) := by decide +kernel
theorem dX6_setOut_17 : decode cX6_setOut 17 = .ok (.if_icmp .ge 85, 3) := by decide +kernel
theorem dX6_setOut_20 : decode cX6_setOut 20 = .ok (.iload_n 1, 1) := by decide +kernel
theorem dX6_setOut_21 : decode cX6_setOut 21 = .ok (.aload_n 0, 1) := by decide +kernel
theorem dX6_setOut_22 : decode cX6_setOut 22 = .ok (.getfield 26, 3) := by decide +kernel
theorem dX6_setOut_25 : decode cX6_setOut 25 = .ok (.invokevirtual 59, 3) := by decide +kernel
theorem dX6_setOut_28 : decode cX6_setOut 28 = .ok (.if_icmp .ge 74, 3) := by decide +kernel
theorem dX6_setOut_31 : decode cX6_setOut 31 = .ok (.aload_n 0, 1) := by decide +kernel
theorem dX6_setOut_32 : decode cX6_setOut 32 = .ok (.iload_n 1, 1) := by decide +kernel
theorem dX6_setOut_33 : decode cX6_setOut 33 = .ok (.invokevirtual 95, 3) := by decide +kernel
theorem dX6_setOut_36 : decode cX6_setOut 36 = .ok (.aload_n 0, 1) := by decide +kernel
theorem dX6_setOut_37 : decode cX6_setOut 37 = .ok (.iload_n 1, 1) := by decide +kernel
theorem dX6_setOut_38 : decode cX6_setOut 38 = .ok (.iload_n 2, 1) := by decide +kernel
theorem dX6_setOut_39 : decode cX6_setOut 39 = .ok (.iload_n 3, 1) := by decide +kernel
theorem dX6_setOut_40 : decode cX6_setOut 40 = .ok (.invokevirtual 159, 3) := by decide +kernel
theorem dX6_setOut_43 : decode cX6_setOut 43 = .ok (.istore 5, 2) := by decide +kernel
theorem dX6_setOut_45 : decode cX6_setOut 45 = .ok (.iload 5, 2) := by decide +kernel
theorem dX6_setOut_47 : decode cX6_setOut 47 = .ok (.ifCond .ge 16, 3) := by decide +kernel
theorem dX6_setOut_50 : decode cX6_setOut 50 = .ok (.aload_n 0, 1) := by decide +kernel
theorem dX6_setOut_51 : decode cX6_setOut 51 = .ok (.iload_n 1, 1) := by decide +kernel
theorem dX6_setOut_52 : decode cX6_setOut 52 = .ok (.invokevirtual 162, 3) := by decide +kernel
theorem dX6_setOut_55 : decode cX6_setOut 55 = .ok (.istore_n 1, 1) := by decide +kernel
theorem dX6_setOut_56 : decode cX6_setOut 56 = .ok (.iconst 0, 1) := by decide +kernel
theorem dX6_setOut_57 : decode cX6_setOut 57 = .ok (.istore_n 2, 1) := by decide +kernel
theorem dX6_setOut_58 : decode cX6_setOut 58 = .ok (.iconst 0, 1) := by decide +kernel
theorem dX6_setOut_59 : decode cX6_setOut 59 = .ok (.istore_n 3, 1) := by decide +kernel
theorem dX6_setOut_60 : decode cX6_setOut 60 = .ok (.goto 36, 3) := by decide +kernel
theorem dX6_setOut_63 : decode cX6_setOut 63 = .ok (.iload_n 2, 1) := by decide +kernel
theorem dX6_setOut_64 : decode cX6_setOut 64 = .ok (.aload_n 0, 1) := by decide +kernel
theorem dX6_setOut_65 : decode cX6_setOut 65 = .ok (.getfield 38, 3) := by decide +kernel
theorem dX6_setOut_68 : decode cX6_setOut 68 = .ok (.iload 5, 2) := by decide +kernel
theorem dX6_setOut_70 : decode cX6_setOut 70 = .ok (.invokevirtual 66, 3) := by decide +kernel
theorem dX6_setOut_73 : decode cX6_setOut 73 = .ok (.iadd, 1) := by decide +kernel
theorem dX6_setOut_74 : decode cX6_setOut 74 = .ok (.istore_n 2, 1) := by decide +kernel
theorem dX6_setOut_75 : decode cX6_setOut 75 = .ok (.aload_n 0, 1) := by decide +kernel
theorem dX6_setOut_76 : decode cX6_setOut 76 = .ok (.iload_n 3, 1) := by decide +kernel
theorem dX6_setOut_77 : decode cX6_setOut 77 = .ok (.invokevirtual 150, 3) := by decide +kernel
theorem dX6_setOut_80 : decode cX6_setOut 80 = .ok (.istore_n 3, 1) := by decide +kernel
theorem dX6_setOut_81 : decode cX6_setOut 81 = .ok (.aload_n 0, 1) := by decide +kernel
theorem dX6_setOut_82 : decode cX6_setOut 82 = .ok (.iload_n 1, 1) := by decide +kernel
theorem dX6_setOut_83 : decode cX6_setOut 83 = .ok (.aload_n 0, 1) := by decide +kernel
theorem dX6_setOut_84 : decode cX6_setOut 84 = .ok (.getfield 35, 3) := by decide +kernel
theorem dX6_setOut_87 : decode cX6_setOut 87 = .ok (.iload 5, 2) := by decide +kernel
theorem dX6_setOut_89 : decode cX6_setOut 89 = .ok (.invokevirtual 66, 3) := by decide +kernel
theorem dX6_setOut_92 : decode cX6_setOut 92 = .ok (.invokevirtual 165, 3) := by decide +kernel
theorem dX6_setOut_95 : decode cX6_setOut 95 = .ok (.istore_n 1, 1) := by decide +kernel
theorem dX6_setOut_96 : decode cX6_setOut 96 = .ok (.iinc 4 1, 3) := by decide +kernel
theorem dX6_setOut_99 : decode cX6_setOut 99 = .ok (.goto (-86), 3) := by decide +kernel
theorem dX6_setOut_102 : decode cX6_setOut 102 = .ok (.return_, 1) := by decide +kernel
theorem dX6_startAnew_0 : decode cX6_startAnew 0 = .ok (.aload_n 0, 1) := by decide +kernel
theorem dX6_startAnew_1 : decode cX6_startAnew 1 = .ok (.getfield 50, 3) := by decide +kernel
theorem dX6_startAnew_4 : decode cX6_startAnew 4 = .ok (.iconst 0, 1) := by decide +kernel
theorem dX6_startAnew_5 : decode cX6_startAnew 5 = .ok (.invokevirtual 168, 3) := by decide +kernel
theorem dX6_startAnew_8 : decode cX6_startAnew 8 = .ok (.aload_n 0, 1) := by decide +kernel
theorem dX6_startAnew_9 : decode cX6_startAnew 9 = .ok (.getfield 53, 3) := by decide +kernel
theorem dX6_startAnew_12 : decode cX6_startAnew 12 = .ok (.iconst 0, 1) := by decide +kernel
theorem dX6_startAnew_13 : decode cX6_startAnew 13 = .ok (.invokevirtual 168, 3) := by decide +kernel
theorem dX6_startAnew_16 : decode cX6_startAnew 16 = .ok (.aload_n 0, 1) := by decide +kernel
theorem dX6_startAnew_17 : decode cX6_startAnew 17 = .ok (.getfield 47, 3) := by decide +kernel
theorem dX6_startAnew_20 : decode cX6_startAnew 20 = .ok (.iconst 0, 1) := by decide +kernel
theorem dX6_startAnew_21 : decode cX6_startAnew 21 = .ok (.iconst 0, 1) := by decide +kernel
theorem dX6_startAnew_22 : decode cX6_startAnew 22 = .ok (.invokevirtual 87, 3) := by decide +kernel
theorem dX6_startAnew_25 : decode cX6_startAnew 25 = .ok (.aload_n 0, 1) := by decide +kernel
theorem dX6_startAnew_26 : decode cX6_startAnew 26 = .ok (.iconst 1, 1) := by decide +kernel
theorem dX6_startAnew_27 : decode cX6_startAnew 27 = .ok (.putfield 171, 3) := by decide +kernel
theorem dX6_startAnew_30 : decode cX6_startAnew 30 = .ok (.aload_n 0, 1) := by decide +kernel
theorem dX6_startAnew_31 : decode cX6_startAnew 31 = .ok (.iconst 0, 1) := by decide +kernel
theorem dX6_startAnew_32 : decode cX6_startAnew 32 = .ok (.putfield 174, 3) := by decide +kernel
theorem dX6_startAnew_35 : decode cX6_startAnew 35 = .ok (.return_, 1) := by decide +kernel
theorem dX6_bestChoice_0 : decode cX6_bestChoice 0 = .ok (.aload_n 0, 1) := by decide +kernel
theorem dX6_bestChoice_1 : decode cX6_bestChoice 1 = .ok (.getfield 44, 3) := by decide +kernel
theorem dX6_bestChoice_4 : decode cX6_bestChoice 4 = .ok (.iload_n 1, 1) := by decide +kernel
theorem dX6_bestChoice_5 : decode cX6_bestChoice 5 = .ok (.iload_n 2, 1) := by decide +kernel
theorem dX6_bestChoice_6 : decode cX6_bestChoice 6 = .ok (.iload_n 3, 1) := by decide +kernel
theorem dX6_bestChoice_7 : decode cX6_bestChoice 7 = .ok (.invokestatic 101, 3) := by decide +kernel
theorem dX6_bestChoice_10 : decode cX6_bestChoice 10 = .ok (.invokevirtual 66, 3) := by decide +kernel
theorem dX6_bestChoice_13 : decode cX6_bestChoice 13 = .ok (.istore 4, 2) := by decide +kernel
theorem dX6_bestChoice_15 : decode cX6_bestChoice 15 = .ok (.iconst 0, 1) := by decide +kernel
theorem dX6_bestChoice_16 : decode cX6_bestChoice 16 = .ok (.istore 5, 2) := by decide +kernel
theorem dX6_bestChoice_18 : decode cX6_bestChoice 18 = .ok (.iload 5, 2) := by decide +kernel
theorem dX6_bestChoice_20 : decode cX6_bestChoice 20 = .ok (.aload_n 0, 1) := by decide +kernel
theorem dX6_bestChoice_21 : decode cX6_bestChoice 21 = .ok (.getfield 35, 3) := by decide +kernel
theorem dX6_bestChoice_24 : decode cX6_bestChoice 24 = .ok (.invokevirtual 59, 3) := by decide +kernel
theorem dX6_bestChoice_27 : decode cX6_bestChoice 27 = .ok (.if_icmp .ge 26, 3) := by decide +kernel
theorem dX6_bestChoice_30 : decode cX6_bestChoice 30 = .ok (.aload_n 0, 1) := by decide +kernel
theorem dX6_bestChoice_31 : decode cX6_bestChoice 31 = .ok (.iload_n 1, 1) := by decide +kernel
theorem dX6_bestChoice_32 : decode cX6_bestChoice 32 = .ok (.iload_n 2, 1) := by decide +kernel
theorem dX6_bestChoice_33 : decode cX6_bestChoice 33 = .ok (.iload_n 3, 1) := by decide +kernel
theorem dX6_bestChoice_34 : decode cX6_bestChoice 34 = .ok (.iload 5, 2) := by decide +kernel
theorem dX6_bestChoice_36 : decode cX6_bestChoice 36 = .ok (.invokevirtual 140, 3) := by decide +kernel
theorem dX6_bestChoice_39 : decode cX6_bestChoice 39 = .ok (.iload 4, 2) := by decide +kernel
theorem dX6_bestChoice_41 : decode cX6_bestChoice 41 = .ok (.if_icmp .ne 6, 3) := by decide +kernel
theorem dX6_bestChoice_44 : decode cX6_bestChoice 44 = .ok (.iload 5, 2) := by decide +kernel
theorem dX6_bestChoice_46 : decode cX6_bestChoice 46 = .ok (.ireturn, 1) := by decide +kernel
theorem dX6_bestChoice_47 : decode cX6_bestChoice 47 = .ok (.iinc 5 1, 3) := by decide +kernel
theorem dX6_bestChoice_50 : decode cX6_bestChoice 50 = .ok (.goto (-32), 3) := by decide +kernel
theorem dX6_bestChoice_53 : decode cX6_bestChoice 53 = .ok (.iconst (-1), 1) := by decide +kernel
theorem dX6_bestChoice_54 : decode cX6_bestChoice 54 = .ok (.ireturn, 1) := by decide +kernel
theorem dX6_endLine_0 : decode cX6_endLine 0 = .ok (.iload_n 1, 1) := by decide +kernel
theorem dX6_endLine_1 : decode cX6_endLine 1 = .ok (.iconst 1, 1) := by decide +kernel
theorem dX6_endLine_2 : decode cX6_endLine 2 = .ok (.iadd, 1) := by decide +kernel
theorem dX6_endLine_3 : decode cX6_endLine 3 = .ok (.istore_n 2, 1) := by decide +kernel
theorem dX6_endLine_4 : decode cX6_endLine 4 = .ok (.aload_n 0, 1) := by decide +kernel
theorem dX6_endLine_5 : decode cX6_endLine 5 = .ok (.getfield 111, 3) := by decide +kernel
theorem dX6_endLine_8 : decode cX6_endLine 8 = .ok (.ifCond .ne 15, 3) := by decide +kernel
theorem dX6_endLine_11 : decode cX6_endLine 11 = .ok (.aload_n 0, 1) := by decide +kernel
theorem dX6_endLine_12 : decode cX6_endLine 12 = .ok (.getfield 50, 3) := by decide +kernel
theorem dX6_endLine_15 : decode cX6_endLine 15 = .ok (.bipush 26, 2) := by decide +kernel
theorem dX6_endLine_17 : decode cX6_endLine 17 = .ok (.iconst 1, 1) := by decide +kernel
theorem dX6_endLine_18 : decode cX6_endLine 18 = .ok (.invokevirtual 177, 3) := by decide +kernel
theorem dX6_endLine_21 : decode cX6_endLine 21 = .ok (.iload_n 1, 1) := by decide +kernel
theorem dX6_endLine_22 : decode cX6_endLine 22 = .ok (.istore_n 2, 1) := by decide +kernel
theorem dX6_endLine_23 : decode cX6_endLine 23 = .ok (.aload_n 0, 1) := by decide +kernel
theorem dX6_endLine_24 : decode cX6_endLine 24 = .ok (.getfield 47, 3) := by decide +kernel
theorem dX6_endLine_27 : decode cX6_endLine 27 = .ok (.aload_n 0, 1) := by decide +kernel
theorem dX6_endLine_28 : decode cX6_endLine 28 = .ok (.getfield 171, 3) := by decide +kernel
theorem dX6_endLine_31 : decode cX6_endLine 31 = .ok (.iload_n 2, 1) := by decide +kernel
theorem dX6_endLine_32 : decode cX6_endLine 32 = .ok (.invokevirtual 87, 3) := by decide +kernel
theorem dX6_endLine_35 : decode cX6_endLine 35 = .ok (.aload_n 0, 1) := by decide +kernel
theorem dX6_endLine_36 : decode cX6_endLine 36 = .ok (.dup, 1) := by decide +kernel
theorem dX6_endLine_37 : decode cX6_endLine 37 = .ok (.getfield 171, 3) := by decide +kernel
theorem dX6_endLine_40 : decode cX6_endLine 40 = .ok (.iconst 1, 1) := by decide +kernel
theorem dX6_endLine_41 : decode cX6_endLine 41 = .ok (.iadd, 1) := by decide +kernel
theorem dX6_endLine_42 : decode cX6_endLine 42 = .ok (.putfield 171, 3) := by decide +kernel
theorem dX6_endLine_45 : decode cX6_endLine 45 = .ok (.iload_n 2, 1) := by decide +kernel
theorem dX6_endLine_46 : decode cX6_endLine 46 = .ok (.ireturn, 1) := by decide +kernel
theorem dX6_setPiece_0 : decode cX6_setPiece 0 = .ok (.iload_n 2, 1) := by decide +kernel
theorem dX6_setPiece_1 : decode cX6_setPiece 1 = .ok (.iconst 1, 1) := by decide +kernel
theorem dX6_setPiece_2 : decode cX6_setPiece 2 = .ok (.if_icmp .le 16, 3) := by decide +kernel
theorem dX6_setPiece_5 : decode cX6_setPiece 5 = .ok (.aload_n 0, 1) := by decide +kernel
theorem dX6_setPiece_6 : decode cX6_setPiece 6 = .ok (.dup, 1) := by decide +kernel
theorem dX6_setPiece_7 : decode cX6_setPiece 7 = .ok (.getfield 174, 3) := by decide +kernel
theorem dX6_setPiece_10 : decode cX6_setPiece 10 = .ok (.iconst 1, 1) := by decide +kernel
theorem dX6_setPiece_11 : decode cX6_setPiece 11 = .ok (.iadd, 1) := by decide +kernel
theorem dX6_setPiece_12 : decode cX6_setPiece 12 = .ok (.putfield 174, 3) := by decide +kernel
theorem dX6_setPiece_15 : decode cX6_setPiece 15 = .ok (.goto 35, 3) := by decide +kernel
theorem dX6_setPiece_18 : decode cX6_setPiece 18 = .ok (.aload_n 0, 1) := by decide +kernel
theorem dX6_setPiece_19 : decode cX6_setPiece 19 = .ok (.getfield 111, 3) := by decide +kernel
theorem dX6_setPiece_22 : decode cX6_setPiece 22 = .ok (.ifCond .ne 28, 3) := by decide +kernel
theorem dX6_setPiece_25 : decode cX6_setPiece 25 = .ok (.aload_n 0, 1) := by decide +kernel
theorem dX6_setPiece_26 : decode cX6_setPiece 26 = .ok (.getfield 50, 3) := by decide +kernel
theorem dX6_setPiece_29 : decode cX6_setPiece 29 = .ok (.aload_n 0, 1) := by decide +kernel
theorem dX6_setPiece_30 : decode cX6_setPiece 30 = .ok (.getfield 26, 3) := by decide +kernel
theorem dX6_setPiece_33 : decode cX6_setPiece 33 = .ok (.iload_n 1, 1) := by decide +kernel
theorem dX6_setPiece_34 : decode cX6_setPiece 34 = .ok (.invokevirtual 66, 3) := by decide +kernel
theorem dX6_setPiece_37 : decode cX6_setPiece 37 = .ok (.iconst 1, 1) := by decide +kernel
theorem dX6_setPiece_38 : decode cX6_setPiece 38 = .ok (.invokevirtual 177, 3) := by decide +kernel
theorem dX6_setPiece_41 : decode cX6_setPiece 41 = .ok (.aload_n 0, 1) := by decide +kernel
theorem dX6_setPiece_42 : decode cX6_setPiece 42 = .ok (.getfield 53, 3) := by decide +kernel
theorem dX6_setPiece_45 : decode cX6_setPiece 45 = .ok (.iload_n 1, 1) := by decide +kernel
theorem dX6_setPiece_46 : decode cX6_setPiece 46 = .ok (.iconst 1, 1) := by decide +kernel
theorem dX6_setPiece_47 : decode cX6_setPiece 47 = .ok (.invokevirtual 87, 3) := by decide +kernel
theorem dX6_setPiece_50 : decode cX6_setPiece 50 = .ok (.iload_n 1, 1) := by decide +kernel
theorem dX6_setPiece_51 : decode cX6_setPiece 51 = .ok (.iload_n 2, 1) := by decide +kernel
theorem dX6_setPiece_52 : decode cX6_setPiece 52 = .ok (.iadd, 1) := by decide +kernel
theorem dX6_setPiece_53 : decode cX6_setPiece 53 = .ok (.ireturn, 1) := by decide +kernel
theorem dX6_sparing_0 : decode cX6_sparing 0 = .ok (.bipush (-5), 2) := by decide +kernel
theorem dX6_sparing_2 : decode cX6_sparing 2 = .ok (.istore_n 2, 1) := by decide +kernel
theorem dX6_sparing_3 : decode cX6_sparing 3 = .ok (.iconst 0, 1) := by decide +kernel
theorem dX6_sparing_4 : decode cX6_sparing 4 = .ok (.istore_n 3, 1) := by decide +kernel
theorem dX6_sparing_5 : decode cX6_sparing 5 = .ok (.iload_n 3, 1) := by decide +kernel
theorem dX6_sparing_6 : decode cX6_sparing 6 = .ok (.aload_n 0, 1) := by decide +kernel
theorem dX6_sparing_7 : decode cX6_sparing 7 = .ok (.getfield 26, 3) := by decide +kernel
theorem dX6_sparing_10 : decode cX6_sparing 10 = .ok (.invokevirtual 59, 3) := by decide +kernel
theorem dX6_sparing_13 : decode cX6_sparing 13 = .ok (.if_icmp .ge 65, 3) := by decide +kernel
theorem dX6_sparing_16 : decode cX6_sparing 16 = .ok (.aload_n 0, 1) := by decide +kernel
theorem dX6_sparing_17 : decode cX6_sparing 17 = .ok (.iload_n 2, 1) := by decide +kernel
theorem dX6_sparing_18 : decode cX6_sparing 18 = .ok (.aload_n 0, 1) := by decide +kernel
theorem dX6_sparing_19 : decode cX6_sparing 19 = .ok (.iload_n 3, 1) := by decide +kernel
theorem dX6_sparing_20 : decode cX6_sparing 20 = .ok (.iconst 3, 1) := by decide +kernel
theorem dX6_sparing_21 : decode cX6_sparing 21 = .ok (.iload_n 1, 1) := by decide +kernel
theorem dX6_sparing_22 : decode cX6_sparing 22 = .ok (.invokevirtual 180, 3) := by decide +kernel
theorem dX6_sparing_25 : decode cX6_sparing 25 = .ok (.ifCond .eq 14, 3) := by decide +kernel
theorem dX6_sparing_28 : decode cX6_sparing 28 = .ok (.aload_n 0, 1) := by decide +kernel
theorem dX6_sparing_29 : decode cX6_sparing 29 = .ok (.getfield 29, 3) := by decide +kernel
theorem dX6_sparing_32 : decode cX6_sparing 32 = .ok (.iload_n 3, 1) := by decide +kernel
theorem dX6_sparing_33 : decode cX6_sparing 33 = .ok (.invokevirtual 66, 3) := by decide +kernel
theorem dX6_sparing_36 : decode cX6_sparing 36 = .ok (.goto 4, 3) := by decide +kernel
theorem dX6_sparing_39 : decode cX6_sparing 39 = .ok (.iconst (-1), 1) := by decide +kernel
theorem dX6_sparing_40 : decode cX6_sparing 40 = .ok (.invokevirtual 184, 3) := by decide +kernel
theorem dX6_sparing_43 : decode cX6_sparing 43 = .ok (.istore_n 2, 1) := by decide +kernel
theorem dX6_sparing_44 : decode cX6_sparing 44 = .ok (.aload_n 0, 1) := by decide +kernel
theorem dX6_sparing_45 : decode cX6_sparing 45 = .ok (.iload_n 2, 1) := by decide +kernel
theorem dX6_sparing_46 : decode cX6_sparing 46 = .ok (.aload_n 0, 1) := by decide +kernel
theorem dX6_sparing_47 : decode cX6_sparing 47 = .ok (.iload_n 3, 1) := by decide +kernel
theorem dX6_sparing_48 : decode cX6_sparing 48 = .ok (.iconst 2, 1) := by decide +kernel
theorem dX6_sparing_49 : decode cX6_sparing 49 = .ok (.iload_n 1, 1) := by decide +kernel
theorem dX6_sparing_50 : decode cX6_sparing 50 = .ok (.invokevirtual 180, 3) := by decide +kernel
theorem dX6_sparing_53 : decode cX6_sparing 53 = .ok (.ifCond .eq 14, 3) := by decide +kernel
theorem dX6_sparing_56 : decode cX6_sparing 56 = .ok (.aload_n 0, 1) := by decide +kernel
theorem dX6_sparing_57 : decode cX6_sparing 57 = .ok (.getfield 32, 3) := by decide +kernel
theorem dX6_sparing_60 : decode cX6_sparing 60 = .ok (.iload_n 3, 1) := by decide +kernel
theorem dX6_sparing_61 : decode cX6_sparing 61 = .ok (.invokevirtual 66, 3) := by decide +kernel
theorem dX6_sparing_64 : decode cX6_sparing 64 = .ok (.goto 4, 3) := by decide +kernel
theorem dX6_sparing_67 : decode cX6_sparing 67 = .ok (.iconst (-1), 1) := by decide +kernel
theorem dX6_sparing_68 : decode cX6_sparing 68 = .ok (.invokevirtual 184, 3) := by decide +kernel
theorem dX6_sparing_71 : decode cX6_sparing 71 = .ok (.istore_n 2, 1) := by decide +kernel
theorem dX6_sparing_72 : decode cX6_sparing 72 = .ok (.iinc 3 1, 3) := by decide +kernel
theorem dX6_sparing_75 : decode cX6_sparing 75 = .ok (.goto (-70), 3) := by decide +kernel
theorem dX6_sparing_78 : decode cX6_sparing 78 = .ok (.iload_n 2, 1) := by decide +kernel
theorem dX6_sparing_79 : decode cX6_sparing 79 = .ok (.ireturn, 1) := by decide +kernel
theorem dX6_lesser_0 : decode cX6_lesser 0 = .ok (.iload_n 2, 1) := by decide +kernel
theorem dX6_lesser_1 : decode cX6_lesser 1 = .ok (.ifCond .ge 7, 3) := by decide +kernel
theorem dX6_lesser_4 : decode cX6_lesser 4 = .ok (.iload_n 1, 1) := by decide +kernel
theorem dX6_lesser_5 : decode cX6_lesser 5 = .ok (.goto 14, 3) := by decide +kernel
theorem dX6_lesser_8 : decode cX6_lesser 8 = .ok (.aload_n 0, 1) := by decide +kernel
theorem dX6_lesser_9 : decode cX6_lesser 9 = .ok (.getfield 9, 3) := by decide +kernel
theorem dX6_lesser_12 : decode cX6_lesser 12 = .ok (.getfield 187, 3) := by decide +kernel
theorem dX6_lesser_15 : decode cX6_lesser 15 = .ok (.iload_n 2, 1) := by decide +kernel
theorem dX6_lesser_16 : decode cX6_lesser 16 = .ok (.invokevirtual 66, 3) := by decide +kernel
theorem dX6_lesser_19 : decode cX6_lesser 19 = .ok (.istore_n 3, 1) := by decide +kernel
theorem dX6_lesser_20 : decode cX6_lesser 20 = .ok (.iload_n 1, 1) := by decide +kernel
theorem dX6_lesser_21 : decode cX6_lesser 21 = .ok (.bipush (-5), 2) := by decide +kernel
theorem dX6_lesser_23 : decode cX6_lesser 23 = .ok (.if_icmp .ne 7, 3) := by decide +kernel
theorem dX6_lesser_26 : decode cX6_lesser 26 = .ok (.iload_n 3, 1) := by decide +kernel
theorem dX6_lesser_27 : decode cX6_lesser 27 = .ok (.goto 8, 3) := by decide +kernel
theorem dX6_lesser_30 : decode cX6_lesser 30 = .ok (.iload_n 1, 1) := by decide +kernel
theorem dX6_lesser_31 : decode cX6_lesser 31 = .ok (.iload_n 3, 1) := by decide +kernel
theorem dX6_lesser_32 : decode cX6_lesser 32 = .ok (.invokestatic 144, 3) := by decide +kernel
theorem dX6_lesser_35 : decode cX6_lesser 35 = .ok (.ireturn, 1) := by decide +kernel
theorem dX6_standsAlone_0 : decode cX6_standsAlone 0 = .ok (.iconst 0, 1) := by decide +kernel
theorem dX6_standsAlone_1 : decode cX6_standsAlone 1 = .ok (.istore 4, 2) := by decide +kernel
theorem dX6_standsAlone_3 : decode cX6_standsAlone 3 = .ok (.iload_n 1, 1) := by decide +kernel
theorem dX6_standsAlone_4 : decode cX6_standsAlone 4 = .ok (.istore 5, 2) := by decide +kernel
theorem dX6_standsAlone_6 : decode cX6_standsAlone 6 = .ok (.iload 5, 2) := by decide +kernel
theorem dX6_standsAlone_8 : decode cX6_standsAlone 8 = .ok (.iload_n 1, 1) := by decide +kernel
theorem dX6_standsAlone_9 : decode cX6_standsAlone 9 = .ok (.iload_n 2, 1) := by decide +kernel
theorem dX6_standsAlone_10 : decode cX6_standsAlone 10 = .ok (.iadd, 1) := by decide +kernel
theorem dX6_standsAlone_11 : decode cX6_standsAlone 11 = .ok (.if_icmp .ge 48, 3) := by decide +kernel
theorem dX6_standsAlone_14 : decode cX6_standsAlone 14 = .ok (.aload_n 0, 1) := by decide +kernel
theorem dX6_standsAlone_15 : decode cX6_standsAlone 15 = .ok (.getfield 53, 3) := by decide +kernel
theorem dX6_standsAlone_18 : decode cX6_standsAlone 18 = .ok (.iload 5, 2) := by decide +kernel
theorem dX6_standsAlone_20 : decode cX6_standsAlone 20 = .ok (.invokevirtual 66, 3) := by decide +kernel
theorem dX6_standsAlone_23 : decode cX6_standsAlone 23 = .ok (.ifCond .ne 5, 3) := by decide +kernel
theorem dX6_standsAlone_26 : decode cX6_standsAlone 26 = .ok (.iconst 0, 1) := by decide +kernel
theorem dX6_standsAlone_27 : decode cX6_standsAlone 27 = .ok (.ireturn, 1) := by decide +kernel
theorem dX6_standsAlone_28 : decode cX6_standsAlone 28 = .ok (.iload 4, 2) := by decide +kernel
theorem dX6_standsAlone_30 : decode cX6_standsAlone 30 = .ok (.ifCond .ne 16, 3) := by decide +kernel
theorem dX6_standsAlone_33 : decode cX6_standsAlone 33 = .ok (.aload_n 0, 1) := by decide +kernel
theorem dX6_standsAlone_34 : decode cX6_standsAlone 34 = .ok (.getfield 26, 3) := by decide +kernel
theorem dX6_standsAlone_37 : decode cX6_standsAlone 37 = .ok (.iload 5, 2) := by decide +kernel
theorem dX6_standsAlone_39 : decode cX6_standsAlone 39 = .ok (.invokevirtual 66, 3) := by decide +kernel
theorem dX6_standsAlone_42 : decode cX6_standsAlone 42 = .ok (.iload_n 3, 1) := by decide +kernel
theorem dX6_standsAlone_43 : decode cX6_standsAlone 43 = .ok (.if_icmp .ne 7, 3) := by decide +kernel
theorem dX6_standsAlone_46 : decode cX6_standsAlone 46 = .ok (.iconst 1, 1) := by decide +kernel
theorem dX6_standsAlone_47 : decode cX6_standsAlone 47 = .ok (.goto 4, 3) := by decide +kernel
theorem dX6_standsAlone_50 : decode cX6_standsAlone 50 = .ok (.iconst 0, 1) := by decide +kernel
theorem dX6_standsAlone_51 : decode cX6_standsAlone 51 = .ok (.istore 4, 2) := by decide +kernel
theorem dX6_standsAlone_53 : decode cX6_standsAlone 53 = .ok (.iinc 5 1, 3) := by decide +kernel
theorem dX6_standsAlone_56 : decode cX6_standsAlone 56 = .ok (.goto (-50), 3) := by decide +kernel
theorem dX6_standsAlone_59 : decode cX6_standsAlone 59 = .ok (.iload 4, 2) := by decide +kernel
theorem dX6_standsAlone_61 : decode cX6_standsAlone 61 = .ok (.ireturn, 1) := by decide +kernel
theorem dX7_init_0 : decode cX7_init 0 = .ok (.aload_n 0, 1) := by decide +kernel
theorem dX7_init_1 : decode cX7_init 1 = .ok (.invokespecial 1, 3) := by decide +kernel
theorem dX7_init_4 : decode cX7_init 4 = .ok (.aload_n 0, 1) := by decide +kernel
theorem dX7_init_5 : decode cX7_init 5 = .ok (.new 7, 3) := by decide +kernel
theorem dX7_init_8 : decode cX7_init 8 = .ok (.dup, 1) := by decide +kernel
theorem dX7_init_9 : decode cX7_init 9 = .ok (.invokespecial 9, 3) := by decide +kernel
theorem dX7_init_12 : decode cX7_init 12 = .ok (.putfield 10, 3) := by decide +kernel
theorem dX7_init_15 : decode cX7_init 15 = .ok (.aload_n 0, 1) := by decide +kernel
theorem dX7_init_16 : decode cX7_init 16 = .ok (.new 7, 3) := by decide +kernel
theorem dX7_init_19 : decode cX7_init 19 = .ok (.dup, 1) := by decide +kernel
theorem dX7_init_20 : decode cX7_init 20 = .ok (.invokespecial 9, 3) := by decide +kernel
theorem dX7_init_23 : decode cX7_init 23 = .ok (.putfield 16, 3) := by decide +kernel
theorem dX7_init_26 : decode cX7_init 26 = .ok (.return_, 1) := by decide +kernel
theorem dX7_place_0 : decode cX7_place 0 = .ok (.new 19, 3) := by decide +kernel
theorem dX7_place_3 : decode cX7_place 3 = .ok (.dup, 1) := by decide +kernel
theorem dX7_place_4 : decode cX7_place 4 = .ok (.iload_n 1, 1) := by decide +kernel
theorem dX7_place_5 : decode cX7_place 5 = .ok (.invokespecial 21, 3) := by decide +kernel
theorem dX7_place_8 : decode cX7_place 8 = .ok (.astore_n 2, 1) := by decide +kernel
theorem dX7_place_9 : decode cX7_place 9 = .ok (.aload_n 0, 1) := by decide +kernel
theorem dX7_place_10 : decode cX7_place 10 = .ok (.getfield 10, 3) := by decide +kernel
theorem dX7_place_13 : decode cX7_place 13 = .ok (.aload_n 2, 1) := by decide +kernel
theorem dX7_place_14 : decode cX7_place 14 = .ok (.invokevirtual 24, 3) := by decide +kernel
theorem dX7_place_17 : decode cX7_place 17 = .ok (.pop, 1) := by decide +kernel
theorem dX7_place_18 : decode cX7_place 18 = .ok (.aload_n 0, 1) := by decide +kernel
theorem dX7_place_19 : decode cX7_place 19 = .ok (.getfield 16, 3) := by decide +kernel
theorem dX7_place_22 : decode cX7_place 22 = .ok (.new 19, 3) := by decide +kernel
theorem dX7_place_25 : decode cX7_place 25 = .ok (.dup, 1) := by decide +kernel
theorem dX7_place_26 : decode cX7_place 26 = .ok (.iload_n 1, 1) := by decide +kernel
theorem dX7_place_27 : decode cX7_place 27 = .ok (.invokespecial 21, 3) := by decide +kernel
theorem dX7_place_30 : decode cX7_place 30 = .ok (.invokevirtual 24, 3) := by decide +kernel
theorem dX7_place_33 : decode cX7_place 33 = .ok (.pop, 1) := by decide +kernel
theorem dX7_place_34 : decode cX7_place 34 = .ok (.aload_n 2, 1) := by decide +kernel
theorem dX7_place_35 : decode cX7_place 35 = .ok (.areturn, 1) := by decide +kernel
theorem dX7_keep_0 : decode cX7_keep 0 = .ok (.iconst 0, 1) := by decide +kernel
theorem dX7_keep_1 : decode cX7_keep 1 = .ok (.istore_n 1, 1) := by decide +kernel
theorem dX7_keep_2 : decode cX7_keep 2 = .ok (.iload_n 1, 1) := by decide +kernel
theorem dX7_keep_3 : decode cX7_keep 3 = .ok (.aload_n 0, 1) := by decide +kernel
theorem dX7_keep_4 : decode cX7_keep 4 = .ok (.getfield 10, 3) := by decide +kernel
theorem dX7_keep_7 : decode cX7_keep 7 = .ok (.invokevirtual 28, 3) := by decide +kernel
theorem dX7_keep_10 : decode cX7_keep 10 = .ok (.if_icmp .ge 45, 3) := by decide +kernel
theorem dX7_keep_13 : decode cX7_keep 13 = .ok (.iload_n 1, 1) := by decide +kernel
theorem dX7_keep_14 : decode cX7_keep 14 = .ok (.aload_n 0, 1) := by decide +kernel
theorem dX7_keep_15 : decode cX7_keep 15 = .ok (.getfield 16, 3) := by decide +kernel
theorem dX7_keep_18 : decode cX7_keep 18 = .ok (.invokevirtual 28, 3) := by decide +kernel
theorem dX7_keep_21 : decode cX7_keep 21 = .ok (.if_icmp .ge 34, 3) := by decide +kernel
theorem dX7_keep_24 : decode cX7_keep 24 = .ok (.aload_n 0, 1) := by decide +kernel
theorem dX7_keep_25 : decode cX7_keep 25 = .ok (.getfield 10, 3) := by decide +kernel
theorem dX7_keep_28 : decode cX7_keep 28 = .ok (.iload_n 1, 1) := by decide +kernel
theorem dX7_keep_29 : decode cX7_keep 29 = .ok (.invokevirtual 32, 3) := by decide +kernel
theorem dX7_keep_32 : decode cX7_keep 32 = .ok (.checkcast 19, 3) := by decide +kernel
theorem dX7_keep_35 : decode cX7_keep 35 = .ok (.aload_n 0, 1) := by decide +kernel
theorem dX7_keep_36 : decode cX7_keep 36 = .ok (.getfield 16, 3) := by decide +kernel
theorem dX7_keep_39 : decode cX7_keep 39 = .ok (.iload_n 1, 1) := by decide +kernel
theorem dX7_keep_40 : decode cX7_keep 40 = .ok (.invokevirtual 32, 3) := by decide +kernel
theorem dX7_keep_43 : decode cX7_keep 43 = .ok (.checkcast 19, 3) := by decide +kernel
theorem dX7_keep_46 : decode cX7_keep 46 = .ok (.invokestatic 36, 3) := by decide +kernel
theorem dX7_keep_49 : decode cX7_keep 49 = .ok (.iinc 1 1, 3) := by decide +kernel
theorem dX7_keep_52 : decode cX7_keep 52 = .ok (.goto (-50), 3) := by decide +kernel
theorem dX7_keep_55 : decode cX7_keep 55 = .ok (.return_, 1) := by decide +kernel
theorem dX7_bringBack_0 : decode cX7_bringBack 0 = .ok (.iconst 0, 1) := by decide +kernel
theorem dX7_bringBack_1 : decode cX7_bringBack 1 = .ok (.istore_n 1, 1) := by decide +kernel
theorem dX7_bringBack_2 : decode cX7_bringBack 2 = .ok (.iload_n 1, 1) := by decide +kernel
theorem dX7_bringBack_3 : decode cX7_bringBack 3 = .ok (.aload_n 0, 1) := by decide +kernel
theorem dX7_bringBack_4 : decode cX7_bringBack 4 = .ok (.getfield 10, 3) := by decide +kernel
theorem dX7_bringBack_7 : decode cX7_bringBack 7 = .ok (.invokevirtual 28, 3) := by decide +kernel
theorem dX7_bringBack_10 : decode cX7_bringBack 10 = .ok (.if_icmp .ge 45, 3) := by decide +kernel
theorem dX7_bringBack_13 : decode cX7_bringBack 13 = .ok (.iload_n 1, 1) := by decide +kernel
theorem dX7_bringBack_14 : decode cX7_bringBack 14 = .ok (.aload_n 0, 1) := by decide +kernel
theorem dX7_bringBack_15 : decode cX7_bringBack 15 = .ok (.getfield 16, 3) := by decide +kernel
theorem dX7_bringBack_18 : decode cX7_bringBack 18 = .ok (.invokevirtual 28, 3) := by decide +kernel
theorem dX7_bringBack_21 : decode cX7_bringBack 21 = .ok (.if_icmp .ge 34, 3) := by decide +kernel
theorem dX7_bringBack_24 : decode cX7_bringBack 24 = .ok (.aload_n 0, 1) := by decide +kernel
theorem dX7_bringBack_25 : decode cX7_bringBack 25 = .ok (.getfield 16, 3) := by decide +kernel
theorem dX7_bringBack_28 : decode cX7_bringBack 28 = .ok (.iload_n 1, 1) := by decide +kernel
theorem dX7_bringBack_29 : decode cX7_bringBack 29 = .ok (.invokevirtual 32, 3) := by decide +kernel
theorem dX7_bringBack_32 : decode cX7_bringBack 32 = .ok (.checkcast 19, 3) := by decide +kernel
theorem dX7_bringBack_35 : decode cX7_bringBack 35 = .ok (.aload_n 0, 1) := by decide +kernel
theorem dX7_bringBack_36 : decode cX7_bringBack 36 = .ok (.getfield 10, 3) := by decide +kernel
theorem dX7_bringBack_39 : decode cX7_bringBack 39 = .ok (.iload_n 1, 1) := by decide +kernel
theorem dX7_bringBack_40 : decode cX7_bringBack 40 = .ok (.invokevirtual 32, 3) := by decide +kernel
theorem dX7_bringBack_43 : decode cX7_bringBack 43 = .ok (.checkcast 19, 3) := by decide +kernel
theorem dX7_bringBack_46 : decode cX7_bringBack 46 = .ok (.invokestatic 36, 3) := by decide +kernel
theorem dX7_bringBack_49 : decode cX7_bringBack 49 = .ok (.iinc 1 1, 3) := by decide +kernel
theorem dX7_bringBack_52 : decode cX7_bringBack 52 = .ok (.goto (-50), 3) := by decide +kernel
theorem dX7_bringBack_55 : decode cX7_bringBack 55 = .ok (.return_, 1) := by decide +kernel
theorem dX9_init_0 : decode cX9_init 0 = .ok (.aload_n 0, 1) := by decide +kernel
theorem dX9_init_1 : decode cX9_init 1 = .ok (.invokespecial 3, 3) := by decide +kernel
theorem dX9_init_4 : decode cX9_init 4 = .ok (.aload_n 0, 1) := by decide +kernel
theorem dX9_init_5 : decode cX9_init 5 = .ok (.aload_n 1, 1) := by decide +kernel
theorem dX9_init_6 : decode cX9_init 6 = .ok (.bipush 10, 2) := by decide +kernel
theorem dX9_init_8 : decode cX9_init 8 = .ok (.invokevirtual 11, 3) := by decide +kernel
theorem dX9_init_11 : decode cX9_init 11 = .ok (.putfield 17, 3) := by decide +kernel
theorem dX9_init_14 : decode cX9_init 14 = .ok (.aload_n 0, 1) := by decide +kernel
theorem dX9_init_15 : decode cX9_init 15 = .ok (.aload_n 1, 1) := by decide +kernel
theorem dX9_init_16 : decode cX9_init 16 = .ok (.sipush 600, 3) := by decide +kernel
theorem dX9_init_19 : decode cX9_init 19 = .ok (.invokevirtual 11, 3) := by decide +kernel
theorem dX9_init_22 : decode cX9_init 22 = .ok (.putfield 21, 3) := by decide +kernel
theorem dX9_init_25 : decode cX9_init 25 = .ok (.return_, 1) := by decide +kernel
theorem dX9_isFull_0 : decode cX9_isFull 0 = .ok (.aload_n 0, 1) := by decide +kernel
theorem dX9_isFull_1 : decode cX9_isFull 1 = .ok (.getfield 17, 3) := by decide +kernel
theorem dX9_isFull_4 : decode cX9_isFull 4 = .ok (.invokevirtual 24, 3) := by decide +kernel
theorem dX9_isFull_7 : decode cX9_isFull 7 = .ok (.ireturn, 1) := by decide +kernel
theorem dX9_has_0 : decode cX9_has 0 = .ok (.iload_n 1, 1) := by decide +kernel
theorem dX9_has_1 : decode cX9_has 1 = .ok (.ifCond .lt 18, 3) := by decide +kernel
theorem dX9_has_4 : decode cX9_has 4 = .ok (.iload_n 1, 1) := by decide +kernel
theorem dX9_has_5 : decode cX9_has 5 = .ok (.aload_n 0, 1) := by decide +kernel
theorem dX9_has_6 : decode cX9_has 6 = .ok (.getfield 17, 3) := by decide +kernel
theorem dX9_has_9 : decode cX9_has 9 = .ok (.invokevirtual 30, 3) := by decide +kernel
theorem dX9_has_12 : decode cX9_has 12 = .ok (.if_icmp .ge 7, 3) := by decide +kernel
theorem dX9_has_15 : decode cX9_has 15 = .ok (.iconst 1, 1) := by decide +kernel
theorem dX9_has_16 : decode cX9_has 16 = .ok (.goto 4, 3) := by decide +kernel
theorem dX9_has_19 : decode cX9_has 19 = .ok (.iconst 0, 1) := by decide +kernel
theorem dX9_has_20 : decode cX9_has 20 = .ok (.ireturn, 1) := by decide +kernel
theorem dX9_faultOf_0 : decode cX9_faultOf 0 = .ok (.aload_n 1, 1) := by decide +kernel
theorem dX9_faultOf_1 : decode cX9_faultOf 1 = .ok (.invokevirtual 30, 3) := by decide +kernel
theorem dX9_faultOf_4 : decode cX9_faultOf 4 = .ok (.istore_n 2, 1) := by decide +kernel
theorem dX9_faultOf_5 : decode cX9_faultOf 5 = .ok (.iconst 0, 1) := by decide +kernel
theorem dX9_faultOf_6 : decode cX9_faultOf 6 = .ok (.istore_n 3, 1) := by decide +kernel
theorem dX9_faultOf_7 : decode cX9_faultOf 7 = .ok (.iload_n 3, 1) := by decide +kernel
theorem dX9_faultOf_8 : decode cX9_faultOf 8 = .ok (.iload_n 2, 1) := by decide +kernel
theorem dX9_faultOf_9 : decode cX9_faultOf 9 = .ok (.if_icmp .ge 25, 3) := by decide +kernel
theorem dX9_faultOf_12 : decode cX9_faultOf 12 = .ok (.iload_n 3, 1) := by decide +kernel
theorem dX9_faultOf_13 : decode cX9_faultOf 13 = .ok (.bipush 60, 2) := by decide +kernel
theorem dX9_faultOf_15 : decode cX9_faultOf 15 = .ok (.if_icmp .eq 11, 3) := by decide +kernel
theorem dX9_faultOf_18 : decode cX9_faultOf 18 = .ok (.aload_n 1, 1) := by decide +kernel
theorem dX9_faultOf_19 : decode cX9_faultOf 19 = .ok (.iload_n 3, 1) := by decide +kernel
theorem dX9_faultOf_20 : decode cX9_faultOf 20 = .ok (.invokestatic 34, 3) := by decide +kernel
theorem dX9_faultOf_23 : decode cX9_faultOf 23 = .ok (.ifCond .ne 5, 3) := by decide +kernel
theorem dX9_faultOf_26 : decode cX9_faultOf 26 = .ok (.iload_n 3, 1) := by decide +kernel
theorem dX9_faultOf_27 : decode cX9_faultOf 27 = .ok (.ireturn, 1) := by decide +kernel
theorem dX9_faultOf_28 : decode cX9_faultOf 28 = .ok (.iinc 3 1, 3) := by decide +kernel
theorem dX9_faultOf_31 : decode cX9_faultOf 31 = .ok (.goto (-24), 3) := by decide +kernel
theorem dX9_faultOf_34 : decode cX9_faultOf 34 = .ok (.iload_n 2, 1) := by decide +kernel
theorem dX9_faultOf_35 : decode cX9_faultOf 35 = .ok (.ifCond .eq 15, 3) := by decide +kernel
theorem dX9_faultOf_38 : decode cX9_faultOf 38 = .ok (.aload_n 1, 1) := by decide +kernel
theorem dX9_faultOf_39 : decode cX9_faultOf 39 = .ok (.iload_n 2, 1) := by decide +kernel
theorem dX9_faultOf_40 : decode cX9_faultOf 40 = .ok (.iconst 1, 1) := by decide +kernel
theorem dX9_faultOf_41 : decode cX9_faultOf 41 = .ok (.isub, 1) := by decide +kernel
theorem dX9_faultOf_42 : decode cX9_faultOf 42 = .ok (.invokevirtual 38, 3) := by decide +kernel
theorem dX9_faultOf_45 : decode cX9_faultOf 45 = .ok (.bipush 32, 2) := by decide +kernel
theorem dX9_faultOf_47 : decode cX9_faultOf 47 = .ok (.if_icmp .ne 7, 3) := by decide +kernel
theorem dX9_faultOf_50 : decode cX9_faultOf 50 = .ok (.iload_n 2, 1) := by decide +kernel
theorem dX9_faultOf_51 : decode cX9_faultOf 51 = .ok (.goto 4, 3) := by decide +kernel
theorem dX9_faultOf_54 : decode cX9_faultOf 54 = .ok (.iconst (-1), 1) := by decide +kernel
theorem dX9_faultOf_55 : decode cX9_faultOf 55 = .ok (.ireturn, 1) := by decide +kernel
theorem dX9_canStand_0 : decode cX9_canStand 0 = .ok (.aload_n 0, 1) := by decide +kernel
theorem dX9_canStand_1 : decode cX9_canStand 1 = .ok (.iload_n 1, 1) := by decide +kernel
theorem dX9_canStand_2 : decode cX9_canStand 2 = .ok (.invokevirtual 38, 3) := by decide +kernel
theorem dX9_canStand_5 : decode cX9_canStand 5 = .ok (.istore_n 2, 1) := by decide +kernel
theorem dX9_canStand_6 : decode cX9_canStand 6 = .ok (.iload_n 2, 1) := by decide +kernel
theorem dX9_canStand_7 : decode cX9_canStand 7 = .ok (.invokestatic 42, 3) := by decide +kernel
theorem dX9_canStand_10 : decode cX9_canStand 10 = .ok (.ifCond .ne 25, 3) := by decide +kernel
theorem dX9_canStand_13 : decode cX9_canStand 13 = .ok (.iload_n 2, 1) := by decide +kernel
theorem dX9_canStand_14 : decode cX9_canStand 14 = .ok (.bipush 32, 2) := by decide +kernel
theorem dX9_canStand_16 : decode cX9_canStand 16 = .ok (.if_icmp .ne 23, 3) := by decide +kernel
theorem dX9_canStand_19 : decode cX9_canStand 19 = .ok (.iload_n 1, 1) := by decide +kernel
theorem dX9_canStand_20 : decode cX9_canStand 20 = .ok (.ifCond .le 19, 3) := by decide +kernel
theorem dX9_canStand_23 : decode cX9_canStand 23 = .ok (.aload_n 0, 1) := by decide +kernel
theorem dX9_canStand_24 : decode cX9_canStand 24 = .ok (.iload_n 1, 1) := by decide +kernel
theorem dX9_canStand_25 : decode cX9_canStand 25 = .ok (.iconst 1, 1) := by decide +kernel
theorem dX9_canStand_26 : decode cX9_canStand 26 = .ok (.isub, 1) := by decide +kernel
theorem dX9_canStand_27 : decode cX9_canStand 27 = .ok (.invokevirtual 38, 3) := by decide +kernel
theorem dX9_canStand_30 : decode cX9_canStand 30 = .ok (.bipush 32, 2) := by decide +kernel
theorem dX9_canStand_32 : decode cX9_canStand 32 = .ok (.if_icmp .eq 7, 3) := by decide +kernel
theorem dX9_canStand_35 : decode cX9_canStand 35 = .ok (.iconst 1, 1) := by decide +kernel
theorem dX9_canStand_36 : decode cX9_canStand 36 = .ok (.goto 4, 3) := by decide +kernel
theorem dX9_canStand_39 : decode cX9_canStand 39 = .ok (.iconst 0, 1) := by decide +kernel
theorem dX9_canStand_40 : decode cX9_canStand 40 = .ok (.ireturn, 1) := by decide +kernel
theorem dX9_accept_0 : decode cX9_accept 0 = .ok (.aload_n 0, 1) := by decide +kernel
theorem dX9_accept_1 : decode cX9_accept 1 = .ok (.getfield 17, 3) := by decide +kernel
theorem dX9_accept_4 : decode cX9_accept 4 = .ok (.aload_n 1, 1) := by decide +kernel
theorem dX9_accept_5 : decode cX9_accept 5 = .ok (.invokevirtual 30, 3) := by decide +kernel
theorem dX9_accept_8 : decode cX9_accept 8 = .ok (.invokevirtual 48, 3) := by decide +kernel
theorem dX9_accept_11 : decode cX9_accept 11 = .ok (.istore_n 2, 1) := by decide +kernel
theorem dX9_accept_12 : decode cX9_accept 12 = .ok (.iconst 0, 1) := by decide +kernel
theorem dX9_accept_13 : decode cX9_accept 13 = .ok (.istore_n 3, 1) := by decide +kernel
theorem dX9_accept_14 : decode cX9_accept 14 = .ok (.iload_n 3, 1) := by decide +kernel
theorem dX9_accept_15 : decode cX9_accept 15 = .ok (.aload_n 1, 1) := by decide +kernel
theorem dX9_accept_16 : decode cX9_accept 16 = .ok (.invokevirtual 30, 3) := by decide +kernel
theorem dX9_accept_19 : decode cX9_accept 19 = .ok (.if_icmp .ge 51, 3) := by decide +kernel
theorem dX9_accept_22 : decode cX9_accept 22 = .ok (.iload_n 3, 1) := by decide +kernel
theorem dX9_accept_23 : decode cX9_accept 23 = .ok (.bipush 60, 2) := by decide +kernel
theorem dX9_accept_25 : decode cX9_accept 25 = .ok (.if_icmp .ge 45, 3) := by decide +kernel
theorem dX9_accept_28 : decode cX9_accept 28 = .ok (.aload_n 1, 1) := by decide +kernel
theorem dX9_accept_29 : decode cX9_accept 29 = .ok (.iload_n 3, 1) := by decide +kernel
theorem dX9_accept_30 : decode cX9_accept 30 = .ok (.invokevirtual 38, 3) := by decide +kernel
theorem dX9_accept_33 : decode cX9_accept 33 = .ok (.istore 4, 2) := by decide +kernel
theorem dX9_accept_35 : decode cX9_accept 35 = .ok (.aload_n 0, 1) := by decide +kernel
theorem dX9_accept_36 : decode cX9_accept 36 = .ok (.getfield 21, 3) := by decide +kernel
theorem dX9_accept_39 : decode cX9_accept 39 = .ok (.iload_n 2, 1) := by decide +kernel
theorem dX9_accept_40 : decode cX9_accept 40 = .ok (.bipush 60, 2) := by decide +kernel
theorem dX9_accept_42 : decode cX9_accept 42 = .ok (.imul, 1) := by decide +kernel
theorem dX9_accept_43 : decode cX9_accept 43 = .ok (.iload_n 3, 1) := by decide +kernel
theorem dX9_accept_44 : decode cX9_accept 44 = .ok (.iadd, 1) := by decide +kernel
theorem dX9_accept_45 : decode cX9_accept 45 = .ok (.iload 4, 2) := by decide +kernel
theorem dX9_accept_47 : decode cX9_accept 47 = .ok (.bipush 32, 2) := by decide +kernel
theorem dX9_accept_49 : decode cX9_accept 49 = .ok (.if_icmp .ne 7, 3) := by decide +kernel
theorem dX9_accept_52 : decode cX9_accept 52 = .ok (.iconst (-1), 1) := by decide +kernel
theorem dX9_accept_53 : decode cX9_accept 53 = .ok (.goto 8, 3) := by decide +kernel
theorem dX9_accept_56 : decode cX9_accept 56 = .ok (.iload 4, 2) := by decide +kernel
theorem dX9_accept_58 : decode cX9_accept 58 = .ok (.bipush 97, 2) := by decide +kernel
theorem dX9_accept_60 : decode cX9_accept 60 = .ok (.isub, 1) := by decide +kernel
theorem dX9_accept_61 : decode cX9_accept 61 = .ok (.invokevirtual 51, 3) := by decide +kernel
theorem dX9_accept_64 : decode cX9_accept 64 = .ok (.iinc 3 1, 3) := by decide +kernel
theorem dX9_accept_67 : decode cX9_accept 67 = .ok (.goto (-53), 3) := by decide +kernel
theorem dX9_accept_70 : decode cX9_accept 70 = .ok (.iload_n 2, 1) := by decide +kernel
theorem dX9_accept_71 : decode cX9_accept 71 = .ok (.ireturn, 1) := by decide +kernel
theorem dX9_copyTo_0 : decode cX9_copyTo 0 = .ok (.aload_n 2, 1) := by decide +kernel
theorem dX9_copyTo_1 : decode cX9_copyTo 1 = .ok (.invokevirtual 55, 3) := by decide +kernel
theorem dX9_copyTo_4 : decode cX9_copyTo 4 = .ok (.iconst 0, 1) := by decide +kernel
theorem dX9_copyTo_5 : decode cX9_copyTo 5 = .ok (.istore_n 3, 1) := by decide +kernel
theorem dX9_copyTo_6 : decode cX9_copyTo 6 = .ok (.iload_n 3, 1) := by decide +kernel
theorem dX9_copyTo_7 : decode cX9_copyTo 7 = .ok (.aload_n 0, 1) := by decide +kernel
theorem dX9_copyTo_8 : decode cX9_copyTo 8 = .ok (.getfield 17, 3) := by decide +kernel
theorem dX9_copyTo_11 : decode cX9_copyTo 11 = .ok (.iload_n 1, 1) := by decide +kernel
theorem dX9_copyTo_12 : decode cX9_copyTo 12 = .ok (.invokevirtual 38, 3) := by decide +kernel
theorem dX9_copyTo_15 : decode cX9_copyTo 15 = .ok (.if_icmp .ge 26, 3) := by decide +kernel
theorem dX9_copyTo_18 : decode cX9_copyTo 18 = .ok (.aload_n 2, 1) := by decide +kernel
theorem dX9_copyTo_19 : decode cX9_copyTo 19 = .ok (.aload_n 0, 1) := by decide +kernel
theorem dX9_copyTo_20 : decode cX9_copyTo 20 = .ok (.getfield 21, 3) := by decide +kernel
theorem dX9_copyTo_23 : decode cX9_copyTo 23 = .ok (.iload_n 1, 1) := by decide +kernel
theorem dX9_copyTo_24 : decode cX9_copyTo 24 = .ok (.bipush 60, 2) := by decide +kernel
theorem dX9_copyTo_26 : decode cX9_copyTo 26 = .ok (.imul, 1) := by decide +kernel
theorem dX9_copyTo_27 : decode cX9_copyTo 27 = .ok (.iload_n 3, 1) := by decide +kernel
theorem dX9_copyTo_28 : decode cX9_copyTo 28 = .ok (.iadd, 1) := by decide +kernel
theorem dX9_copyTo_29 : decode cX9_copyTo 29 = .ok (.invokevirtual 38, 3) := by decide +kernel
theorem dX9_copyTo_32 : decode cX9_copyTo 32 = .ok (.invokevirtual 58, 3) := by decide +kernel
theorem dX9_copyTo_35 : decode cX9_copyTo 35 = .ok (.iinc 3 1, 3) := by decide +kernel
theorem dX9_copyTo_38 : decode cX9_copyTo 38 = .ok (.goto (-32), 3) := by decide +kernel
theorem dX9_copyTo_41 : decode cX9_copyTo 41 = .ok (.return_, 1) := by decide +kernel
theorem dX10_init_0 : decode cX10_init 0 = .ok (.aload_n 0, 1) := by decide +kernel
theorem dX10_init_1 : decode cX10_init 1 = .ok (.invokespecial 3, 3) := by decide +kernel
theorem dX10_init_4 : decode cX10_init 4 = .ok (.aload_n 0, 1) := by decide +kernel
theorem dX10_init_5 : decode cX10_init 5 = .ok (.aload_n 2, 1) := by decide +kernel
theorem dX10_init_6 : decode cX10_init 6 = .ok (.putfield 9, 3) := by decide +kernel
theorem dX10_init_9 : decode cX10_init 9 = .ok (.aload_n 0, 1) := by decide +kernel
theorem dX10_init_10 : decode cX10_init 10 = .ok (.aload_n 1, 1) := by decide +kernel
theorem dX10_init_11 : decode cX10_init 11 = .ok (.bipush 8, 2) := by decide +kernel
theorem dX10_init_13 : decode cX10_init 13 = .ok (.invokevirtual 15, 3) := by decide +kernel
theorem dX10_init_16 : decode cX10_init 16 = .ok (.putfield 21, 3) := by decide +kernel
theorem dX10_init_19 : decode cX10_init 19 = .ok (.aload_n 0, 1) := by decide +kernel
theorem dX10_init_20 : decode cX10_init 20 = .ok (.aload_n 1, 1) := by decide +kernel
theorem dX10_init_21 : decode cX10_init 21 = .ok (.bipush 8, 2) := by decide +kernel
theorem dX10_init_23 : decode cX10_init 23 = .ok (.invokevirtual 15, 3) := by decide +kernel
theorem dX10_init_26 : decode cX10_init 26 = .ok (.putfield 24, 3) := by decide +kernel
theorem dX10_init_29 : decode cX10_init 29 = .ok (.aload_n 0, 1) := by decide +kernel
theorem dX10_init_30 : decode cX10_init 30 = .ok (.aload_n 1, 1) := by decide +kernel
theorem dX10_init_31 : decode cX10_init 31 = .ok (.bipush 9, 2) := by decide +kernel
theorem dX10_init_33 : decode cX10_init 33 = .ok (.invokevirtual 15, 3) := by decide +kernel
theorem dX10_init_36 : decode cX10_init 36 = .ok (.putfield 27, 3) := by decide +kernel
theorem dX10_init_39 : decode cX10_init 39 = .ok (.aload_n 0, 1) := by decide +kernel
theorem dX10_init_40 : decode cX10_init 40 = .ok (.aload_n 1, 1) := by decide +kernel
theorem dX10_init_41 : decode cX10_init 41 = .ok (.bipush 9, 2) := by decide +kernel
theorem dX10_init_43 : decode cX10_init 43 = .ok (.invokevirtual 15, 3) := by decide +kernel
theorem dX10_init_46 : decode cX10_init 46 = .ok (.putfield 30, 3) := by decide +kernel
theorem dX10_init_49 : decode cX10_init 49 = .ok (.aload_n 0, 1) := by decide +kernel
theorem dX10_init_50 : decode cX10_init 50 = .ok (.aload_n 1, 1) := by decide +kernel
theorem dX10_init_51 : decode cX10_init 51 = .ok (.bipush 72, 2) := by decide +kernel
theorem dX10_init_53 : decode cX10_init 53 = .ok (.invokevirtual 15, 3) := by decide +kernel
theorem dX10_init_56 : decode cX10_init 56 = .ok (.putfield 33, 3) := by decide +kernel
theorem dX10_init_59 : decode cX10_init 59 = .ok (.aload_n 0, 1) := by decide +kernel
theorem dX10_init_60 : decode cX10_init 60 = .ok (.aload_n 1, 1) := by decide +kernel
theorem dX10_init_61 : decode cX10_init 61 = .ok (.bipush 72, 2) := by decide +kernel
theorem dX10_init_63 : decode cX10_init 63 = .ok (.invokevirtual 15, 3) := by decide +kernel
theorem dX10_init_66 : decode cX10_init 66 = .ok (.putfield 36, 3) := by decide +kernel
theorem dX10_init_69 : decode cX10_init 69 = .ok (.aload_n 0, 1) := by decide +kernel
theorem dX10_init_70 : decode cX10_init 70 = .ok (.aload_n 1, 1) := by decide +kernel
theorem dX10_init_71 : decode cX10_init 71 = .ok (.bipush 72, 2) := by decide +kernel
theorem dX10_init_73 : decode cX10_init 73 = .ok (.invokevirtual 15, 3) := by decide +kernel
theorem dX10_init_76 : decode cX10_init 76 = .ok (.putfield 39, 3) := by decide +kernel
theorem dX10_init_79 : decode cX10_init 79 = .ok (.aload_n 0, 1) := by decide +kernel
theorem dX10_init_80 : decode cX10_init 80 = .ok (.aload_n 1, 1) := by decide +kernel
theorem dX10_init_81 : decode cX10_init 81 = .ok (.bipush 72, 2) := by decide +kernel
theorem dX10_init_83 : decode cX10_init 83 = .ok (.invokevirtual 15, 3) := by decide +kernel
theorem dX10_init_86 : decode cX10_init 86 = .ok (.putfield 42, 3) := by decide +kernel
theorem dX10_init_89 : decode cX10_init 89 = .ok (.aload_n 0, 1) := by decide +kernel
theorem dX10_init_90 : decode cX10_init 90 = .ok (.iconst 0, 1) := by decide +kernel
theorem dX10_init_91 : decode cX10_init 91 = .ok (.putfield 45, 3) := by decide +kernel
theorem dX10_init_94 : decode cX10_init 94 = .ok (.return_, 1) := by decide +kernel
theorem dX10_isFull_0 : decode cX10_isFull 0 = .ok (.aload_n 0, 1) := by decide +kernel
theorem dX10_isFull_1 : decode cX10_isFull 1 = .ok (.getfield 21, 3) := by decide +kernel
theorem dX10_isFull_4 : decode cX10_isFull 4 = .ok (.invokevirtual 48, 3) := by decide +kernel
theorem dX10_isFull_7 : decode cX10_isFull 7 = .ok (.ireturn, 1) := by decide +kernel
theorem dX10_nextSlot_0 : decode cX10_nextSlot 0 = .ok (.aload_n 0, 1) := by decide +kernel
theorem dX10_nextSlot_1 : decode cX10_nextSlot 1 = .ok (.getfield 21, 3) := by decide +kernel
theorem dX10_nextSlot_4 : decode cX10_nextSlot 4 = .ok (.invokevirtual 54, 3) := by decide +kernel
theorem dX10_nextSlot_7 : decode cX10_nextSlot 7 = .ok (.ireturn, 1) := by decide +kernel
theorem dX10_accept_0 : decode cX10_accept 0 = .ok (.aload_n 0, 1) := by decide +kernel
theorem dX10_accept_1 : decode cX10_accept 1 = .ok (.getfield 21, 3) := by decide +kernel
theorem dX10_accept_4 : decode cX10_accept 4 = .ok (.iload_n 1, 1) := by decide +kernel
theorem dX10_accept_5 : decode cX10_accept 5 = .ok (.invokevirtual 58, 3) := by decide +kernel
theorem dX10_accept_8 : decode cX10_accept 8 = .ok (.istore_n 2, 1) := by decide +kernel
theorem dX10_accept_9 : decode cX10_accept 9 = .ok (.aload_n 0, 1) := by decide +kernel
theorem dX10_accept_10 : decode cX10_accept 10 = .ok (.getfield 24, 3) := by decide +kernel
theorem dX10_accept_13 : decode cX10_accept 13 = .ok (.iload_n 2, 1) := by decide +kernel
theorem dX10_accept_14 : decode cX10_accept 14 = .ok (.invokevirtual 62, 3) := by decide +kernel
theorem dX10_accept_17 : decode cX10_accept 17 = .ok (.iload_n 2, 1) := by decide +kernel
theorem dX10_accept_18 : decode cX10_accept 18 = .ok (.istore_n 3, 1) := by decide +kernel
theorem dX10_accept_19 : decode cX10_accept 19 = .ok (.iload_n 3, 1) := by decide +kernel
theorem dX10_accept_20 : decode cX10_accept 20 = .ok (.ifCond .le 49, 3) := by decide +kernel
theorem dX10_accept_23 : decode cX10_accept 23 = .ok (.aload_n 0, 1) := by decide +kernel
theorem dX10_accept_24 : decode cX10_accept 24 = .ok (.getfield 21, 3) := by decide +kernel
theorem dX10_accept_27 : decode cX10_accept 27 = .ok (.aload_n 0, 1) := by decide +kernel
theorem dX10_accept_28 : decode cX10_accept 28 = .ok (.getfield 24, 3) := by decide +kernel
theorem dX10_accept_31 : decode cX10_accept 31 = .ok (.iload_n 3, 1) := by decide +kernel
theorem dX10_accept_32 : decode cX10_accept 32 = .ok (.iconst 1, 1) := by decide +kernel
theorem dX10_accept_33 : decode cX10_accept 33 = .ok (.isub, 1) := by decide +kernel
theorem dX10_accept_34 : decode cX10_accept 34 = .ok (.invokevirtual 66, 3) := by decide +kernel
theorem dX10_accept_37 : decode cX10_accept 37 = .ok (.invokevirtual 66, 3) := by decide +kernel
theorem dX10_accept_40 : decode cX10_accept 40 = .ok (.iload_n 1, 1) := by decide +kernel
theorem dX10_accept_41 : decode cX10_accept 41 = .ok (.if_icmp .le 28, 3) := by decide +kernel
theorem dX10_accept_44 : decode cX10_accept 44 = .ok (.aload_n 0, 1) := by decide +kernel
theorem dX10_accept_45 : decode cX10_accept 45 = .ok (.getfield 24, 3) := by decide +kernel
theorem dX10_accept_48 : decode cX10_accept 48 = .ok (.iload_n 3, 1) := by decide +kernel
theorem dX10_accept_49 : decode cX10_accept 49 = .ok (.aload_n 0, 1) := by decide +kernel
theorem dX10_accept_50 : decode cX10_accept 50 = .ok (.getfield 24, 3) := by decide +kernel
theorem dX10_accept_53 : decode cX10_accept 53 = .ok (.iload_n 3, 1) := by decide +kernel
theorem dX10_accept_54 : decode cX10_accept 54 = .ok (.iconst 1, 1) := by decide +kernel
theorem dX10_accept_55 : decode cX10_accept 55 = .ok (.isub, 1) := by decide +kernel
theorem dX10_accept_56 : decode cX10_accept 56 = .ok (.iload_n 2, 1) := by decide +kernel
theorem dX10_accept_57 : decode cX10_accept 57 = .ok (.invokevirtual 69, 3) := by decide +kernel
theorem dX10_accept_60 : decode cX10_accept 60 = .ok (.invokevirtual 73, 3) := by decide +kernel
theorem dX10_accept_63 : decode cX10_accept 63 = .ok (.iinc 3 (-1), 3) := by decide +kernel
theorem dX10_accept_66 : decode cX10_accept 66 = .ok (.goto (-47), 3) := by decide +kernel
theorem dX10_accept_69 : decode cX10_accept 69 = .ok (.iload_n 2, 1) := by decide +kernel
theorem dX10_accept_70 : decode cX10_accept 70 = .ok (.ireturn, 1) := by decide +kernel
theorem dX10_isFeast_0 : decode cX10_isFeast 0 = .ok (.iconst 0, 1) := by decide +kernel
theorem dX10_isFeast_1 : decode cX10_isFeast 1 = .ok (.istore_n 2, 1) := by decide +kernel
theorem dX10_isFeast_2 : decode cX10_isFeast 2 = .ok (.iload_n 2, 1) := by decide +kernel
theorem dX10_isFeast_3 : decode cX10_isFeast 3 = .ok (.aload_n 0, 1) := by decide +kernel
theorem dX10_isFeast_4 : decode cX10_isFeast 4 = .ok (.getfield 21, 3) := by decide +kernel
theorem dX10_isFeast_7 : decode cX10_isFeast 7 = .ok (.invokevirtual 54, 3) := by decide +kernel
theorem dX10_isFeast_10 : decode cX10_isFeast 10 = .ok (.if_icmp .ge 43, 3) := by decide +kernel
theorem dX10_isFeast_13 : decode cX10_isFeast 13 = .ok (.aload_n 0, 1) := by decide +kernel
theorem dX10_isFeast_14 : decode cX10_isFeast 14 = .ok (.getfield 21, 3) := by decide +kernel
theorem dX10_isFeast_17 : decode cX10_isFeast 17 = .ok (.iload_n 2, 1) := by decide +kernel
theorem dX10_isFeast_18 : decode cX10_isFeast 18 = .ok (.invokevirtual 66, 3) := by decide +kernel
theorem dX10_isFeast_21 : decode cX10_isFeast 21 = .ok (.iload_n 1, 1) := by decide +kernel
theorem dX10_isFeast_22 : decode cX10_isFeast 22 = .ok (.if_icmp .gt 25, 3) := by decide +kernel
theorem dX10_isFeast_25 : decode cX10_isFeast 25 = .ok (.aload_n 0, 1) := by decide +kernel
theorem dX10_isFeast_26 : decode cX10_isFeast 26 = .ok (.getfield 27, 3) := by decide +kernel
theorem dX10_isFeast_29 : decode cX10_isFeast 29 = .ok (.iload_n 2, 1) := by decide +kernel
theorem dX10_isFeast_30 : decode cX10_isFeast 30 = .ok (.invokevirtual 66, 3) := by decide +kernel
theorem dX10_isFeast_33 : decode cX10_isFeast 33 = .ok (.iload_n 1, 1) := by decide +kernel
theorem dX10_isFeast_34 : decode cX10_isFeast 34 = .ok (.bipush 30, 2) := by decide +kernel
theorem dX10_isFeast_36 : decode cX10_isFeast 36 = .ok (.invokestatic 77, 3) := by decide +kernel
theorem dX10_isFeast_39 : decode cX10_isFeast 39 = .ok (.ishr, 1) := by decide +kernel
theorem dX10_isFeast_40 : decode cX10_isFeast 40 = .ok (.iconst 1, 1) := by decide +kernel
theorem dX10_isFeast_41 : decode cX10_isFeast 41 = .ok (.iand, 1) := by decide +kernel
theorem dX10_isFeast_42 : decode cX10_isFeast 42 = .ok (.ifCond .eq 5, 3) := by decide +kernel
theorem dX10_isFeast_45 : decode cX10_isFeast 45 = .ok (.iconst 1, 1) := by decide +kernel
theorem dX10_isFeast_46 : decode cX10_isFeast 46 = .ok (.ireturn, 1) := by decide +kernel
theorem dX10_isFeast_47 : decode cX10_isFeast 47 = .ok (.iinc 2 1, 3) := by decide +kernel
theorem dX10_isFeast_50 : decode cX10_isFeast 50 = .ok (.goto (-48), 3) := by decide +kernel
theorem dX10_isFeast_53 : decode cX10_isFeast 53 = .ok (.iconst 0, 1) := by decide +kernel
theorem dX10_isFeast_54 : decode cX10_isFeast 54 = .ok (.ireturn, 1) := by decide +kernel
theorem dX10_read_0 : decode cX10_read 0 = .ok (.aload_n 0, 1) := by decide +kernel
theorem dX10_read_1 : decode cX10_read 1 = .ok (.invokevirtual 82, 3) := by decide +kernel
theorem dX10_read_4 : decode cX10_read 4 = .ok (.istore_n 1, 1) := by decide +kernel
theorem dX10_read_5 : decode cX10_read 5 = .ok (.aload_n 0, 1) := by decide +kernel
theorem dX10_read_6 : decode cX10_read 6 = .ok (.getfield 27, 3) := by decide +kernel
theorem dX10_read_9 : decode cX10_read 9 = .ok (.iload_n 1, 1) := by decide +kernel
theorem dX10_read_10 : decode cX10_read 10 = .ok (.iconst 0, 1) := by decide +kernel
theorem dX10_read_11 : decode cX10_read 11 = .ok (.invokevirtual 73, 3) := by decide +kernel
theorem dX10_read_14 : decode cX10_read 14 = .ok (.aload_n 0, 1) := by decide +kernel
theorem dX10_read_15 : decode cX10_read 15 = .ok (.iconst 0, 1) := by decide +kernel
theorem dX10_read_16 : decode cX10_read 16 = .ok (.putfield 45, 3) := by decide +kernel
theorem dX10_read_19 : decode cX10_read 19 = .ok (.iconst 0, 1) := by decide +kernel
theorem dX10_read_20 : decode cX10_read 20 = .ok (.istore_n 2, 1) := by decide +kernel
theorem dX10_read_21 : decode cX10_read 21 = .ok (.iload_n 2, 1) := by decide +kernel
theorem dX10_read_22 : decode cX10_read 22 = .ok (.bipush 8, 2) := by decide +kernel
theorem dX10_read_24 : decode cX10_read 24 = .ok (.if_icmp .ge 85, 3) := by decide +kernel
theorem dX10_read_27 : decode cX10_read 27 = .ok (.aload_n 0, 1) := by decide +kernel
theorem dX10_read_28 : decode cX10_read 28 = .ok (.iload_n 1, 1) := by decide +kernel
theorem dX10_read_29 : decode cX10_read 29 = .ok (.iload_n 1, 1) := by decide +kernel
theorem dX10_read_30 : decode cX10_read 30 = .ok (.bipush 8, 2) := by decide +kernel
theorem dX10_read_32 : decode cX10_read 32 = .ok (.imul, 1) := by decide +kernel
theorem dX10_read_33 : decode cX10_read 33 = .ok (.iload_n 2, 1) := by decide +kernel
theorem dX10_read_34 : decode cX10_read 34 = .ok (.iadd, 1) := by decide +kernel
theorem dX10_read_35 : decode cX10_read 35 = .ok (.invokevirtual 85, 3) := by decide +kernel
theorem dX10_read_38 : decode cX10_read 38 = .ok (.ifCond .ne 8, 3) := by decide +kernel
theorem dX10_read_41 : decode cX10_read 41 = .ok (.aload_n 0, 1) := by decide +kernel
theorem dX10_read_42 : decode cX10_read 42 = .ok (.getfield 45, 3) := by decide +kernel
theorem dX10_read_45 : decode cX10_read 45 = .ok (.ireturn, 1) := by decide +kernel
theorem dX10_read_46 : decode cX10_read 46 = .ok (.aload_n 0, 1) := by decide +kernel
theorem dX10_read_47 : decode cX10_read 47 = .ok (.getfield 30, 3) := by decide +kernel
theorem dX10_read_50 : decode cX10_read 50 = .ok (.iload_n 1, 1) := by decide +kernel
theorem dX10_read_51 : decode cX10_read 51 = .ok (.iload_n 2, 1) := by decide +kernel
theorem dX10_read_52 : decode cX10_read 52 = .ok (.iconst 1, 1) := by decide +kernel
theorem dX10_read_53 : decode cX10_read 53 = .ok (.iadd, 1) := by decide +kernel
theorem dX10_read_54 : decode cX10_read 54 = .ok (.invokevirtual 73, 3) := by decide +kernel
theorem dX10_read_57 : decode cX10_read 57 = .ok (.aload_n 0, 1) := by decide +kernel
theorem dX10_read_58 : decode cX10_read 58 = .ok (.getfield 45, 3) := by decide +kernel
theorem dX10_read_61 : decode cX10_read 61 = .ok (.aload_n 0, 1) := by decide +kernel
theorem dX10_read_62 : decode cX10_read 62 = .ok (.getfield 9, 3) := by decide +kernel
theorem dX10_read_65 : decode cX10_read 65 = .ok (.invokevirtual 54, 3) := by decide +kernel
theorem dX10_read_68 : decode cX10_read 68 = .ok (.if_icmp .lt 5, 3) := by decide +kernel
theorem dX10_read_71 : decode cX10_read 71 = .ok (.iconst (-1), 1) := by decide +kernel
theorem dX10_read_72 : decode cX10_read 72 = .ok (.ireturn, 1) := by decide +kernel
theorem dX10_read_73 : decode cX10_read 73 = .ok (.aload_n 0, 1) := by decide +kernel
theorem dX10_read_74 : decode cX10_read 74 = .ok (.invokevirtual 89, 3) := by decide +kernel
theorem dX10_read_77 : decode cX10_read 77 = .ok (.bipush 59, 2) := by decide +kernel
theorem dX10_read_79 : decode cX10_read 79 = .ok (.if_icmp .ne 9, 3) := by decide +kernel
theorem dX10_read_82 : decode cX10_read 82 = .ok (.iload_n 2, 1) := by decide +kernel
theorem dX10_read_83 : decode cX10_read 83 = .ok (.bipush 7, 2) := by decide +kernel
theorem dX10_read_85 : decode cX10_read 85 = .ok (.if_icmp .ne 8, 3) := by decide +kernel
theorem dX10_read_88 : decode cX10_read 88 = .ok (.aload_n 0, 1) := by decide +kernel
theorem dX10_read_89 : decode cX10_read 89 = .ok (.getfield 45, 3) := by decide +kernel
theorem dX10_read_92 : decode cX10_read 92 = .ok (.ireturn, 1) := by decide +kernel
theorem dX10_read_93 : decode cX10_read 93 = .ok (.aload_n 0, 1) := by decide +kernel
theorem dX10_read_94 : decode cX10_read 94 = .ok (.dup, 1) := by decide +kernel
theorem dX10_read_95 : decode cX10_read 95 = .ok (.getfield 45, 3) := by decide +kernel
theorem dX10_read_98 : decode cX10_read 98 = .ok (.iconst 1, 1) := by decide +kernel
theorem dX10_read_99 : decode cX10_read 99 = .ok (.iadd, 1) := by decide +kernel
theorem dX10_read_100 : decode cX10_read 100 = .ok (.putfield 45, 3) := by decide +kernel
theorem dX10_read_103 : decode cX10_read 103 = .ok (.iinc 2 1, 3) := by decide +kernel
theorem dX10_read_106 : decode cX10_read 106 = .ok (.goto (-85), 3) := by decide +kernel
theorem dX10_read_109 : decode cX10_read 109 = .ok (.aload_n 0, 1) := by decide +kernel
theorem dX10_read_110 : decode cX10_read 110 = .ok (.getfield 45, 3) := by decide +kernel
theorem dX10_read_113 : decode cX10_read 113 = .ok (.ireturn, 1) := by decide +kernel
theorem dX10_readClause_0 : decode cX10_readClause 0 = .ok (.aload_n 0, 1) := by decide +kernel
theorem dX10_readClause_1 : decode cX10_readClause 1 = .ok (.invokevirtual 92, 3) := by decide +kernel
theorem dX10_readClause_4 : decode cX10_readClause 4 = .ok (.istore_n 3, 1) := by decide +kernel
theorem dX10_readClause_5 : decode cX10_readClause 5 = .ok (.iload_n 3, 1) := by decide +kernel
theorem dX10_readClause_6 : decode cX10_readClause 6 = .ok (.ifCond .lt 10, 3) := by decide +kernel
theorem dX10_readClause_9 : decode cX10_readClause 9 = .ok (.aload_n 0, 1) := by decide +kernel
theorem dX10_readClause_10 : decode cX10_readClause 10 = .ok (.invokevirtual 95, 3) := by decide +kernel
theorem dX10_readClause_13 : decode cX10_readClause 13 = .ok (.ifCond .ne 5, 3) := by decide +kernel
theorem dX10_readClause_16 : decode cX10_readClause 16 = .ok (.iconst 0, 1) := by decide +kernel
theorem dX10_readClause_17 : decode cX10_readClause 17 = .ok (.ireturn, 1) := by decide +kernel
theorem dX10_readClause_18 : decode cX10_readClause 18 = .ok (.aload_n 0, 1) := by decide +kernel
theorem dX10_readClause_19 : decode cX10_readClause 19 = .ok (.getfield 33, 3) := by decide +kernel
theorem dX10_readClause_22 : decode cX10_readClause 22 = .ok (.iload_n 2, 1) := by decide +kernel
theorem dX10_readClause_23 : decode cX10_readClause 23 = .ok (.iload_n 3, 1) := by decide +kernel
theorem dX10_readClause_24 : decode cX10_readClause 24 = .ok (.invokevirtual 73, 3) := by decide +kernel
theorem dX10_readClause_27 : decode cX10_readClause 27 = .ok (.iload_n 3, 1) := by decide +kernel
theorem dX10_readClause_28 : decode cX10_readClause 28 = .ok (.tableswitch 137 3 7 #[96, 96, 107, 36, 90], 36) := by decide +kernel
theorem dX10_readClause_64 : decode cX10_readClause 64 = .ok (.aload_n 0, 1) := by decide +kernel
theorem dX10_readClause_65 : decode cX10_readClause 65 = .ok (.iload_n 2, 1) := by decide +kernel
theorem dX10_readClause_66 : decode cX10_readClause 66 = .ok (.invokevirtual 98, 3) := by decide +kernel
theorem dX10_readClause_69 : decode cX10_readClause 69 = .ok (.ifCond .eq 47, 3) := by decide +kernel
theorem dX10_readClause_72 : decode cX10_readClause 72 = .ok (.aload_n 0, 1) := by decide +kernel
theorem dX10_readClause_73 : decode cX10_readClause 73 = .ok (.invokevirtual 95, 3) := by decide +kernel
theorem dX10_readClause_76 : decode cX10_readClause 76 = .ok (.ifCond .eq 40, 3) := by decide +kernel
theorem dX10_readClause_79 : decode cX10_readClause 79 = .ok (.aload_n 0, 1) := by decide +kernel
theorem dX10_readClause_80 : decode cX10_readClause 80 = .ok (.iconst 1, 1) := by decide +kernel
theorem dX10_readClause_81 : decode cX10_readClause 81 = .ok (.aload_n 0, 1) := by decide +kernel
theorem dX10_readClause_82 : decode cX10_readClause 82 = .ok (.getfield 39, 3) := by decide +kernel
theorem dX10_readClause_85 : decode cX10_readClause 85 = .ok (.iload_n 2, 1) := by decide +kernel
theorem dX10_readClause_86 : decode cX10_readClause 86 = .ok (.invokevirtual 102, 3) := by decide +kernel
theorem dX10_readClause_89 : decode cX10_readClause 89 = .ok (.ifCond .eq 27, 3) := by decide +kernel
theorem dX10_readClause_92 : decode cX10_readClause 92 = .ok (.aload_n 0, 1) := by decide +kernel
theorem dX10_readClause_93 : decode cX10_readClause 93 = .ok (.invokevirtual 95, 3) := by decide +kernel
theorem dX10_readClause_96 : decode cX10_readClause 96 = .ok (.ifCond .eq 20, 3) := by decide +kernel
theorem dX10_readClause_99 : decode cX10_readClause 99 = .ok (.aload_n 0, 1) := by decide +kernel
theorem dX10_readClause_100 : decode cX10_readClause 100 = .ok (.iconst 0, 1) := by decide +kernel
theorem dX10_readClause_101 : decode cX10_readClause 101 = .ok (.aload_n 0, 1) := by decide +kernel
theorem dX10_readClause_102 : decode cX10_readClause 102 = .ok (.getfield 42, 3) := by decide +kernel
theorem dX10_readClause_105 : decode cX10_readClause 105 = .ok (.iload_n 2, 1) := by decide +kernel
theorem dX10_readClause_106 : decode cX10_readClause 106 = .ok (.invokevirtual 102, 3) := by decide +kernel
theorem dX10_readClause_109 : decode cX10_readClause 109 = .ok (.ifCond .eq 7, 3) := by decide +kernel
theorem dX10_readClause_112 : decode cX10_readClause 112 = .ok (.iconst 1, 1) := by decide +kernel
theorem dX10_readClause_113 : decode cX10_readClause 113 = .ok (.goto 4, 3) := by decide +kernel
theorem dX10_readClause_116 : decode cX10_readClause 116 = .ok (.iconst 0, 1) := by decide +kernel
theorem dX10_readClause_117 : decode cX10_readClause 117 = .ok (.ireturn, 1) := by decide +kernel
theorem dX10_readClause_118 : decode cX10_readClause 118 = .ok (.aload_n 0, 1) := by decide +kernel
theorem dX10_readClause_119 : decode cX10_readClause 119 = .ok (.iload_n 2, 1) := by decide +kernel
theorem dX10_readClause_120 : decode cX10_readClause 120 = .ok (.invokevirtual 98, 3) := by decide +kernel
theorem dX10_readClause_123 : decode cX10_readClause 123 = .ok (.ireturn, 1) := by decide +kernel
theorem dX10_readClause_124 : decode cX10_readClause 124 = .ok (.aload_n 0, 1) := by decide +kernel
theorem dX10_readClause_125 : decode cX10_readClause 125 = .ok (.iconst 0, 1) := by decide +kernel
theorem dX10_readClause_126 : decode cX10_readClause 126 = .ok (.aload_n 0, 1) := by decide +kernel
theorem dX10_readClause_127 : decode cX10_readClause 127 = .ok (.getfield 39, 3) := by decide +kernel
theorem dX10_readClause_130 : decode cX10_readClause 130 = .ok (.iload_n 2, 1) := by decide +kernel
theorem dX10_readClause_131 : decode cX10_readClause 131 = .ok (.invokevirtual 102, 3) := by decide +kernel
theorem dX10_readClause_134 : decode cX10_readClause 134 = .ok (.ireturn, 1) := by decide +kernel
theorem dX10_readClause_135 : decode cX10_readClause 135 = .ok (.aload_n 0, 1) := by decide +kernel
theorem dX10_readClause_136 : decode cX10_readClause 136 = .ok (.iload_n 2, 1) := by decide +kernel
theorem dX10_readClause_137 : decode cX10_readClause 137 = .ok (.invokevirtual 106, 3) := by decide +kernel
theorem dX10_readClause_140 : decode cX10_readClause 140 = .ok (.ifCond .eq 23, 3) := by decide +kernel
theorem dX10_readClause_143 : decode cX10_readClause 143 = .ok (.aload_n 0, 1) := by decide +kernel
theorem dX10_readClause_144 : decode cX10_readClause 144 = .ok (.iload_n 1, 1) := by decide +kernel
theorem dX10_readClause_145 : decode cX10_readClause 145 = .ok (.aload_n 0, 1) := by decide +kernel
theorem dX10_readClause_146 : decode cX10_readClause 146 = .ok (.getfield 39, 3) := by decide +kernel
theorem dX10_readClause_149 : decode cX10_readClause 149 = .ok (.iload_n 2, 1) := by decide +kernel
theorem dX10_readClause_150 : decode cX10_readClause 150 = .ok (.invokevirtual 66, 3) := by decide +kernel
theorem dX10_readClause_153 : decode cX10_readClause 153 = .ok (.invokevirtual 109, 3) := by decide +kernel
theorem dX10_readClause_156 : decode cX10_readClause 156 = .ok (.ifCond .eq 7, 3) := by decide +kernel
theorem dX10_readClause_159 : decode cX10_readClause 159 = .ok (.iconst 1, 1) := by decide +kernel
theorem dX10_readClause_160 : decode cX10_readClause 160 = .ok (.goto 4, 3) := by decide +kernel
theorem dX10_readClause_163 : decode cX10_readClause 163 = .ok (.iconst 0, 1) := by decide +kernel
theorem dX10_readClause_164 : decode cX10_readClause 164 = .ok (.ireturn, 1) := by decide +kernel
theorem dX10_readClause_165 : decode cX10_readClause 165 = .ok (.aload_n 0, 1) := by decide +kernel
theorem dX10_readClause_166 : decode cX10_readClause 166 = .ok (.iload_n 2, 1) := by decide +kernel
theorem dX10_readClause_167 : decode cX10_readClause 167 = .ok (.invokevirtual 106, 3) := by decide +kernel
theorem dX10_readClause_170 : decode cX10_readClause 170 = .ok (.ireturn, 1) := by decide +kernel
theorem dX10_addFeast_0 : decode cX10_addFeast 0 = .ok (.iload_n 2, 1) := by decide +kernel
theorem dX10_addFeast_1 : decode cX10_addFeast 1 = .ok (.ifCond .lt 29, 3) := by decide +kernel
theorem dX10_addFeast_4 : decode cX10_addFeast 4 = .ok (.iload_n 2, 1) := by decide +kernel
theorem dX10_addFeast_5 : decode cX10_addFeast 5 = .ok (.bipush 30, 2) := by decide +kernel
theorem dX10_addFeast_7 : decode cX10_addFeast 7 = .ok (.if_icmp .ge 23, 3) := by decide +kernel
theorem dX10_addFeast_10 : decode cX10_addFeast 10 = .ok (.aload_n 0, 1) := by decide +kernel
theorem dX10_addFeast_11 : decode cX10_addFeast 11 = .ok (.getfield 27, 3) := by decide +kernel
theorem dX10_addFeast_14 : decode cX10_addFeast 14 = .ok (.iload_n 1, 1) := by decide +kernel
theorem dX10_addFeast_15 : decode cX10_addFeast 15 = .ok (.aload_n 0, 1) := by decide +kernel
theorem dX10_addFeast_16 : decode cX10_addFeast 16 = .ok (.getfield 27, 3) := by decide +kernel
theorem dX10_addFeast_19 : decode cX10_addFeast 19 = .ok (.iload_n 1, 1) := by decide +kernel
theorem dX10_addFeast_20 : decode cX10_addFeast 20 = .ok (.invokevirtual 66, 3) := by decide +kernel
theorem dX10_addFeast_23 : decode cX10_addFeast 23 = .ok (.iconst 1, 1) := by decide +kernel
theorem dX10_addFeast_24 : decode cX10_addFeast 24 = .ok (.iload_n 2, 1) := by decide +kernel
theorem dX10_addFeast_25 : decode cX10_addFeast 25 = .ok (.ishl, 1) := by decide +kernel
theorem dX10_addFeast_26 : decode cX10_addFeast 26 = .ok (.ior, 1) := by decide +kernel
theorem dX10_addFeast_27 : decode cX10_addFeast 27 = .ok (.invokevirtual 73, 3) := by decide +kernel
theorem dX10_addFeast_30 : decode cX10_addFeast 30 = .ok (.iconst 1, 1) := by decide +kernel
theorem dX10_addFeast_31 : decode cX10_addFeast 31 = .ok (.ireturn, 1) := by decide +kernel
theorem dX10_readWord_0 : decode cX10_readWord 0 = .ok (.iconst 0, 1) := by decide +kernel
theorem dX10_readWord_1 : decode cX10_readWord 1 = .ok (.istore_n 1, 1) := by decide +kernel
theorem dX10_readWord_2 : decode cX10_readWord 2 = .ok (.iconst 0, 1) := by decide +kernel
theorem dX10_readWord_3 : decode cX10_readWord 3 = .ok (.istore_n 2, 1) := by decide +kernel
theorem dX10_readWord_4 : decode cX10_readWord 4 = .ok (.iload_n 2, 1) := by decide +kernel
theorem dX10_readWord_5 : decode cX10_readWord 5 = .ok (.bipush 8, 2) := by decide +kernel
theorem dX10_readWord_7 : decode cX10_readWord 7 = .ok (.if_icmp .ge 50, 3) := by decide +kernel
theorem dX10_readWord_10 : decode cX10_readWord 10 = .ok (.iload_n 2, 1) := by decide +kernel
theorem dX10_readWord_11 : decode cX10_readWord 11 = .ok (.invokestatic 112, 3) := by decide +kernel
theorem dX10_readWord_14 : decode cX10_readWord 14 = .ok (.astore_n 3, 1) := by decide +kernel
theorem dX10_readWord_15 : decode cX10_readWord 15 = .ok (.aload_n 0, 1) := by decide +kernel
theorem dX10_readWord_16 : decode cX10_readWord 16 = .ok (.aload_n 3, 1) := by decide +kernel
theorem dX10_readWord_17 : decode cX10_readWord 17 = .ok (.invokevirtual 116, 3) := by decide +kernel
theorem dX10_readWord_20 : decode cX10_readWord 20 = .ok (.istore 4, 2) := by decide +kernel
theorem dX10_readWord_22 : decode cX10_readWord 22 = .ok (.iload 4, 2) := by decide +kernel
theorem dX10_readWord_24 : decode cX10_readWord 24 = .ok (.aload_n 3, 1) := by decide +kernel
theorem dX10_readWord_25 : decode cX10_readWord 25 = .ok (.invokevirtual 120, 3) := by decide +kernel
theorem dX10_readWord_28 : decode cX10_readWord 28 = .ok (.if_icmp .ne 16, 3) := by decide +kernel
theorem dX10_readWord_31 : decode cX10_readWord 31 = .ok (.aload_n 0, 1) := by decide +kernel
theorem dX10_readWord_32 : decode cX10_readWord 32 = .ok (.dup, 1) := by decide +kernel
theorem dX10_readWord_33 : decode cX10_readWord 33 = .ok (.getfield 45, 3) := by decide +kernel
theorem dX10_readWord_36 : decode cX10_readWord 36 = .ok (.iload 4, 2) := by decide +kernel
theorem dX10_readWord_38 : decode cX10_readWord 38 = .ok (.iadd, 1) := by decide +kernel
theorem dX10_readWord_39 : decode cX10_readWord 39 = .ok (.putfield 45, 3) := by decide +kernel
theorem dX10_readWord_42 : decode cX10_readWord 42 = .ok (.iload_n 2, 1) := by decide +kernel
theorem dX10_readWord_43 : decode cX10_readWord 43 = .ok (.ireturn, 1) := by decide +kernel
theorem dX10_readWord_44 : decode cX10_readWord 44 = .ok (.iload_n 1, 1) := by decide +kernel
theorem dX10_readWord_45 : decode cX10_readWord 45 = .ok (.iload 4, 2) := by decide +kernel
theorem dX10_readWord_47 : decode cX10_readWord 47 = .ok (.invokestatic 125, 3) := by decide +kernel
theorem dX10_readWord_50 : decode cX10_readWord 50 = .ok (.istore_n 1, 1) := by decide +kernel
theorem dX10_readWord_51 : decode cX10_readWord 51 = .ok (.iinc 2 1, 3) := by decide +kernel
theorem dX10_readWord_54 : decode cX10_readWord 54 = .ok (.goto (-50), 3) := by decide +kernel
theorem dX10_readWord_57 : decode cX10_readWord 57 = .ok (.aload_n 0, 1) := by decide +kernel
theorem dX10_readWord_58 : decode cX10_readWord 58 = .ok (.dup, 1) := by decide +kernel
theorem dX10_readWord_59 : decode cX10_readWord 59 = .ok (.getfield 45, 3) := by decide +kernel
theorem dX10_readWord_62 : decode cX10_readWord 62 = .ok (.iload_n 1, 1) := by decide +kernel
theorem dX10_readWord_63 : decode cX10_readWord 63 = .ok (.iadd, 1) := by decide +kernel
theorem dX10_readWord_64 : decode cX10_readWord 64 = .ok (.putfield 45, 3) := by decide +kernel
theorem dX10_readWord_67 : decode cX10_readWord 67 = .ok (.iconst (-1), 1) := by decide +kernel
theorem dX10_readWord_68 : decode cX10_readWord 68 = .ok (.ireturn, 1) := by decide +kernel
theorem dX10_sameBytes_0 : decode cX10_sameBytes 0 = .ok (.iconst 0, 1) := by decide +kernel
theorem dX10_sameBytes_1 : decode cX10_sameBytes 1 = .ok (.istore_n 2, 1) := by decide +kernel
theorem dX10_sameBytes_2 : decode cX10_sameBytes 2 = .ok (.iload_n 2, 1) := by decide +kernel
theorem dX10_sameBytes_3 : decode cX10_sameBytes 3 = .ok (.aload_n 1, 1) := by decide +kernel
theorem dX10_sameBytes_4 : decode cX10_sameBytes 4 = .ok (.invokevirtual 120, 3) := by decide +kernel
theorem dX10_sameBytes_7 : decode cX10_sameBytes 7 = .ok (.if_icmp .ge 48, 3) := by decide +kernel
theorem dX10_sameBytes_10 : decode cX10_sameBytes 10 = .ok (.aload_n 0, 1) := by decide +kernel
theorem dX10_sameBytes_11 : decode cX10_sameBytes 11 = .ok (.getfield 45, 3) := by decide +kernel
theorem dX10_sameBytes_14 : decode cX10_sameBytes 14 = .ok (.iload_n 2, 1) := by decide +kernel
theorem dX10_sameBytes_15 : decode cX10_sameBytes 15 = .ok (.iadd, 1) := by decide +kernel
theorem dX10_sameBytes_16 : decode cX10_sameBytes 16 = .ok (.aload_n 0, 1) := by decide +kernel
theorem dX10_sameBytes_17 : decode cX10_sameBytes 17 = .ok (.getfield 9, 3) := by decide +kernel
theorem dX10_sameBytes_20 : decode cX10_sameBytes 20 = .ok (.invokevirtual 54, 3) := by decide +kernel
theorem dX10_sameBytes_23 : decode cX10_sameBytes 23 = .ok (.if_icmp .ge 24, 3) := by decide +kernel
theorem dX10_sameBytes_26 : decode cX10_sameBytes 26 = .ok (.aload_n 0, 1) := by decide +kernel
theorem dX10_sameBytes_27 : decode cX10_sameBytes 27 = .ok (.getfield 9, 3) := by decide +kernel
theorem dX10_sameBytes_30 : decode cX10_sameBytes 30 = .ok (.aload_n 0, 1) := by decide +kernel
theorem dX10_sameBytes_31 : decode cX10_sameBytes 31 = .ok (.getfield 45, 3) := by decide +kernel
theorem dX10_sameBytes_34 : decode cX10_sameBytes 34 = .ok (.iload_n 2, 1) := by decide +kernel
theorem dX10_sameBytes_35 : decode cX10_sameBytes 35 = .ok (.iadd, 1) := by decide +kernel
theorem dX10_sameBytes_36 : decode cX10_sameBytes 36 = .ok (.invokevirtual 66, 3) := by decide +kernel
theorem dX10_sameBytes_39 : decode cX10_sameBytes 39 = .ok (.aload_n 1, 1) := by decide +kernel
theorem dX10_sameBytes_40 : decode cX10_sameBytes 40 = .ok (.iload_n 2, 1) := by decide +kernel
theorem dX10_sameBytes_41 : decode cX10_sameBytes 41 = .ok (.invokevirtual 128, 3) := by decide +kernel
theorem dX10_sameBytes_44 : decode cX10_sameBytes 44 = .ok (.if_icmp .eq 5, 3) := by decide +kernel
theorem dX10_sameBytes_47 : decode cX10_sameBytes 47 = .ok (.iload_n 2, 1) := by decide +kernel
theorem dX10_sameBytes_48 : decode cX10_sameBytes 48 = .ok (.ireturn, 1) := by decide +kernel
theorem dX10_sameBytes_49 : decode cX10_sameBytes 49 = .ok (.iinc 2 1, 3) := by decide +kernel
theorem dX10_sameBytes_52 : decode cX10_sameBytes 52 = .ok (.goto (-50), 3) := by decide +kernel
theorem dX10_sameBytes_55 : decode cX10_sameBytes 55 = .ok (.aload_n 1, 1) := by decide +kernel
theorem dX10_sameBytes_56 : decode cX10_sameBytes 56 = .ok (.invokevirtual 120, 3) := by decide +kernel
theorem dX10_sameBytes_59 : decode cX10_sameBytes 59 = .ok (.ireturn, 1) := by decide +kernel
theorem dX10_readBlank_0 : decode cX10_readBlank 0 = .ok (.aload_n 0, 1) := by decide +kernel
theorem dX10_readBlank_1 : decode cX10_readBlank 1 = .ok (.invokevirtual 89, 3) := by decide +kernel
theorem dX10_readBlank_4 : decode cX10_readBlank 4 = .ok (.bipush 32, 2) := by decide +kernel
theorem dX10_readBlank_6 : decode cX10_readBlank 6 = .ok (.if_icmp .eq 5, 3) := by decide +kernel
theorem dX10_readBlank_9 : decode cX10_readBlank 9 = .ok (.iconst 0, 1) := by decide +kernel
theorem dX10_readBlank_10 : decode cX10_readBlank 10 = .ok (.ireturn, 1) := by decide +kernel
theorem dX10_readBlank_11 : decode cX10_readBlank 11 = .ok (.aload_n 0, 1) := by decide +kernel
theorem dX10_readBlank_12 : decode cX10_readBlank 12 = .ok (.dup, 1) := by decide +kernel
theorem dX10_readBlank_13 : decode cX10_readBlank 13 = .ok (.getfield 45, 3) := by decide +kernel
theorem dX10_readBlank_16 : decode cX10_readBlank 16 = .ok (.iconst 1, 1) := by decide +kernel
theorem dX10_readBlank_17 : decode cX10_readBlank 17 = .ok (.iadd, 1) := by decide +kernel
theorem dX10_readBlank_18 : decode cX10_readBlank 18 = .ok (.putfield 45, 3) := by decide +kernel
theorem dX10_readBlank_21 : decode cX10_readBlank 21 = .ok (.iconst 1, 1) := by decide +kernel
theorem dX10_readBlank_22 : decode cX10_readBlank 22 = .ok (.ireturn, 1) := by decide +kernel
theorem dX10_readLetters_0 : decode cX10_readLetters 0 = .ok (.iconst 0, 1) := by decide +kernel
theorem dX10_readLetters_1 : decode cX10_readLetters 1 = .ok (.istore_n 2, 1) := by decide +kernel
theorem dX10_readLetters_2 : decode cX10_readLetters 2 = .ok (.iconst 0, 1) := by decide +kernel
theorem dX10_readLetters_3 : decode cX10_readLetters 3 = .ok (.istore_n 3, 1) := by decide +kernel
theorem dX10_readLetters_4 : decode cX10_readLetters 4 = .ok (.iload_n 3, 1) := by decide +kernel
theorem dX10_readLetters_5 : decode cX10_readLetters 5 = .ok (.iconst 2, 1) := by decide +kernel
theorem dX10_readLetters_6 : decode cX10_readLetters 6 = .ok (.if_icmp .ge 44, 3) := by decide +kernel
theorem dX10_readLetters_9 : decode cX10_readLetters 9 = .ok (.aload_n 0, 1) := by decide +kernel
theorem dX10_readLetters_10 : decode cX10_readLetters 10 = .ok (.invokevirtual 89, 3) := by decide +kernel
theorem dX10_readLetters_13 : decode cX10_readLetters 13 = .ok (.invokestatic 132, 3) := by decide +kernel
theorem dX10_readLetters_16 : decode cX10_readLetters 16 = .ok (.ifCond .ne 5, 3) := by decide +kernel
theorem dX10_readLetters_19 : decode cX10_readLetters 19 = .ok (.iconst 0, 1) := by decide +kernel
theorem dX10_readLetters_20 : decode cX10_readLetters 20 = .ok (.ireturn, 1) := by decide +kernel
theorem dX10_readLetters_21 : decode cX10_readLetters 21 = .ok (.iload_n 2, 1) := by decide +kernel
theorem dX10_readLetters_22 : decode cX10_readLetters 22 = .ok (.bipush 100, 2) := by decide +kernel
theorem dX10_readLetters_24 : decode cX10_readLetters 24 = .ok (.imul, 1) := by decide +kernel
theorem dX10_readLetters_25 : decode cX10_readLetters 25 = .ok (.aload_n 0, 1) := by decide +kernel
theorem dX10_readLetters_26 : decode cX10_readLetters 26 = .ok (.invokevirtual 89, 3) := by decide +kernel
theorem dX10_readLetters_29 : decode cX10_readLetters 29 = .ok (.iadd, 1) := by decide +kernel
theorem dX10_readLetters_30 : decode cX10_readLetters 30 = .ok (.bipush 97, 2) := by decide +kernel
theorem dX10_readLetters_32 : decode cX10_readLetters 32 = .ok (.isub, 1) := by decide +kernel
theorem dX10_readLetters_33 : decode cX10_readLetters 33 = .ok (.istore_n 2, 1) := by decide +kernel
theorem dX10_readLetters_34 : decode cX10_readLetters 34 = .ok (.aload_n 0, 1) := by decide +kernel
theorem dX10_readLetters_35 : decode cX10_readLetters 35 = .ok (.dup, 1) := by decide +kernel
theorem dX10_readLetters_36 : decode cX10_readLetters 36 = .ok (.getfield 45, 3) := by decide +kernel
theorem dX10_readLetters_39 : decode cX10_readLetters 39 = .ok (.iconst 1, 1) := by decide +kernel
theorem dX10_readLetters_40 : decode cX10_readLetters 40 = .ok (.iadd, 1) := by decide +kernel
theorem dX10_readLetters_41 : decode cX10_readLetters 41 = .ok (.putfield 45, 3) := by decide +kernel
theorem dX10_readLetters_44 : decode cX10_readLetters 44 = .ok (.iinc 3 1, 3) := by decide +kernel
theorem dX10_readLetters_47 : decode cX10_readLetters 47 = .ok (.goto (-43), 3) := by decide +kernel
theorem dX10_readLetters_50 : decode cX10_readLetters 50 = .ok (.bipush 99, 2) := by decide +kernel
theorem dX10_readLetters_52 : decode cX10_readLetters 52 = .ok (.istore_n 3, 1) := by decide +kernel
theorem dX10_readLetters_53 : decode cX10_readLetters 53 = .ok (.aload_n 0, 1) := by decide +kernel
theorem dX10_readLetters_54 : decode cX10_readLetters 54 = .ok (.invokevirtual 89, 3) := by decide +kernel
theorem dX10_readLetters_57 : decode cX10_readLetters 57 = .ok (.invokestatic 132, 3) := by decide +kernel
theorem dX10_readLetters_60 : decode cX10_readLetters 60 = .ok (.ifCond .eq 21, 3) := by decide +kernel
theorem dX10_readLetters_63 : decode cX10_readLetters 63 = .ok (.aload_n 0, 1) := by decide +kernel
theorem dX10_readLetters_64 : decode cX10_readLetters 64 = .ok (.invokevirtual 89, 3) := by decide +kernel
theorem dX10_readLetters_67 : decode cX10_readLetters 67 = .ok (.bipush 97, 2) := by decide +kernel
theorem dX10_readLetters_69 : decode cX10_readLetters 69 = .ok (.isub, 1) := by decide +kernel
theorem dX10_readLetters_70 : decode cX10_readLetters 70 = .ok (.istore_n 3, 1) := by decide +kernel
theorem dX10_readLetters_71 : decode cX10_readLetters 71 = .ok (.aload_n 0, 1) := by decide +kernel
theorem dX10_readLetters_72 : decode cX10_readLetters 72 = .ok (.dup, 1) := by decide +kernel
theorem dX10_readLetters_73 : decode cX10_readLetters 73 = .ok (.getfield 45, 3) := by decide +kernel
theorem dX10_readLetters_76 : decode cX10_readLetters 76 = .ok (.iconst 1, 1) := by decide +kernel
theorem dX10_readLetters_77 : decode cX10_readLetters 77 = .ok (.iadd, 1) := by decide +kernel
theorem dX10_readLetters_78 : decode cX10_readLetters 78 = .ok (.putfield 45, 3) := by decide +kernel
theorem dX10_readLetters_81 : decode cX10_readLetters 81 = .ok (.aload_n 0, 1) := by decide +kernel
theorem dX10_readLetters_82 : decode cX10_readLetters 82 = .ok (.getfield 36, 3) := by decide +kernel
theorem dX10_readLetters_85 : decode cX10_readLetters 85 = .ok (.iload_n 1, 1) := by decide +kernel
theorem dX10_readLetters_86 : decode cX10_readLetters 86 = .ok (.iload_n 2, 1) := by decide +kernel
theorem dX10_readLetters_87 : decode cX10_readLetters 87 = .ok (.bipush 100, 2) := by decide +kernel
theorem dX10_readLetters_89 : decode cX10_readLetters 89 = .ok (.imul, 1) := by decide +kernel
theorem dX10_readLetters_90 : decode cX10_readLetters 90 = .ok (.iload_n 3, 1) := by decide +kernel
theorem dX10_readLetters_91 : decode cX10_readLetters 91 = .ok (.iadd, 1) := by decide +kernel
theorem dX10_readLetters_92 : decode cX10_readLetters 92 = .ok (.invokevirtual 73, 3) := by decide +kernel
theorem dX10_readLetters_95 : decode cX10_readLetters 95 = .ok (.iconst 1, 1) := by decide +kernel
theorem dX10_readLetters_96 : decode cX10_readLetters 96 = .ok (.ireturn, 1) := by decide +kernel
theorem dX10_readFigure_0 : decode cX10_readFigure 0 = .ok (.aload_n 0, 1) := by decide +kernel
theorem dX10_readFigure_1 : decode cX10_readFigure 1 = .ok (.invokevirtual 89, 3) := by decide +kernel
theorem dX10_readFigure_4 : decode cX10_readFigure 4 = .ok (.bipush 48, 2) := by decide +kernel
theorem dX10_readFigure_6 : decode cX10_readFigure 6 = .ok (.isub, 1) := by decide +kernel
theorem dX10_readFigure_7 : decode cX10_readFigure 7 = .ok (.istore 4, 2) := by decide +kernel
theorem dX10_readFigure_9 : decode cX10_readFigure 9 = .ok (.iload 4, 2) := by decide +kernel
theorem dX10_readFigure_11 : decode cX10_readFigure 11 = .ok (.iload_n 1, 1) := by decide +kernel
theorem dX10_readFigure_12 : decode cX10_readFigure 12 = .ok (.if_icmp .lt 10, 3) := by decide +kernel
theorem dX10_readFigure_15 : decode cX10_readFigure 15 = .ok (.iload 4, 2) := by decide +kernel
theorem dX10_readFigure_17 : decode cX10_readFigure 17 = .ok (.bipush 9, 2) := by decide +kernel
theorem dX10_readFigure_19 : decode cX10_readFigure 19 = .ok (.if_icmp .le 5, 3) := by decide +kernel
theorem dX10_readFigure_22 : decode cX10_readFigure 22 = .ok (.iconst 0, 1) := by decide +kernel
theorem dX10_readFigure_23 : decode cX10_readFigure 23 = .ok (.ireturn, 1) := by decide +kernel
theorem dX10_readFigure_24 : decode cX10_readFigure 24 = .ok (.aload_n 2, 1) := by decide +kernel
theorem dX10_readFigure_25 : decode cX10_readFigure 25 = .ok (.iload_n 3, 1) := by decide +kernel
theorem dX10_readFigure_26 : decode cX10_readFigure 26 = .ok (.iload 4, 2) := by decide +kernel
theorem dX10_readFigure_28 : decode cX10_readFigure 28 = .ok (.invokevirtual 73, 3) := by decide +kernel
theorem dX10_readFigure_31 : decode cX10_readFigure 31 = .ok (.aload_n 0, 1) := by decide +kernel
theorem dX10_readFigure_32 : decode cX10_readFigure 32 = .ok (.dup, 1) := by decide +kernel
theorem dX10_readFigure_33 : decode cX10_readFigure 33 = .ok (.getfield 45, 3) := by decide +kernel
theorem dX10_readFigure_36 : decode cX10_readFigure 36 = .ok (.iconst 1, 1) := by decide +kernel
theorem dX10_readFigure_37 : decode cX10_readFigure 37 = .ok (.iadd, 1) := by decide +kernel
theorem dX10_readFigure_38 : decode cX10_readFigure 38 = .ok (.putfield 45, 3) := by decide +kernel
theorem dX10_readFigure_41 : decode cX10_readFigure 41 = .ok (.iconst 1, 1) := by decide +kernel
theorem dX10_readFigure_42 : decode cX10_readFigure 42 = .ok (.ireturn, 1) := by decide +kernel
theorem dX10_readNumber_0 : decode cX10_readNumber 0 = .ok (.aload_n 0, 1) := by decide +kernel
theorem dX10_readNumber_1 : decode cX10_readNumber 1 = .ok (.iconst 0, 1) := by decide +kernel
theorem dX10_readNumber_2 : decode cX10_readNumber 2 = .ok (.aload_n 0, 1) := by decide +kernel
theorem dX10_readNumber_3 : decode cX10_readNumber 3 = .ok (.getfield 39, 3) := by decide +kernel
theorem dX10_readNumber_6 : decode cX10_readNumber 6 = .ok (.iload_n 1, 1) := by decide +kernel
theorem dX10_readNumber_7 : decode cX10_readNumber 7 = .ok (.invokevirtual 102, 3) := by decide +kernel
theorem dX10_readNumber_10 : decode cX10_readNumber 10 = .ok (.ifCond .ne 5, 3) := by decide +kernel
theorem dX10_readNumber_13 : decode cX10_readNumber 13 = .ok (.iconst 0, 1) := by decide +kernel
theorem dX10_readNumber_14 : decode cX10_readNumber 14 = .ok (.ireturn, 1) := by decide +kernel
theorem dX10_readNumber_15 : decode cX10_readNumber 15 = .ok (.aload_n 0, 1) := by decide +kernel
theorem dX10_readNumber_16 : decode cX10_readNumber 16 = .ok (.getfield 39, 3) := by decide +kernel
theorem dX10_readNumber_19 : decode cX10_readNumber 19 = .ok (.iload_n 1, 1) := by decide +kernel
theorem dX10_readNumber_20 : decode cX10_readNumber 20 = .ok (.invokevirtual 66, 3) := by decide +kernel
theorem dX10_readNumber_23 : decode cX10_readNumber 23 = .ok (.istore_n 2, 1) := by decide +kernel
theorem dX10_readNumber_24 : decode cX10_readNumber 24 = .ok (.iload_n 2, 1) := by decide +kernel
theorem dX10_readNumber_25 : decode cX10_readNumber 25 = .ok (.ifCond .le 28, 3) := by decide +kernel
theorem dX10_readNumber_28 : decode cX10_readNumber 28 = .ok (.aload_n 0, 1) := by decide +kernel
theorem dX10_readNumber_29 : decode cX10_readNumber 29 = .ok (.iconst 0, 1) := by decide +kernel
theorem dX10_readNumber_30 : decode cX10_readNumber 30 = .ok (.aload_n 0, 1) := by decide +kernel
theorem dX10_readNumber_31 : decode cX10_readNumber 31 = .ok (.getfield 39, 3) := by decide +kernel
theorem dX10_readNumber_34 : decode cX10_readNumber 34 = .ok (.iload_n 1, 1) := by decide +kernel
theorem dX10_readNumber_35 : decode cX10_readNumber 35 = .ok (.invokevirtual 102, 3) := by decide +kernel
theorem dX10_readNumber_38 : decode cX10_readNumber 38 = .ok (.ifCond .eq 15, 3) := by decide +kernel
theorem dX10_readNumber_41 : decode cX10_readNumber 41 = .ok (.aload_n 0, 1) := by decide +kernel
theorem dX10_readNumber_42 : decode cX10_readNumber 42 = .ok (.getfield 39, 3) := by decide +kernel
theorem dX10_readNumber_45 : decode cX10_readNumber 45 = .ok (.iload_n 1, 1) := by decide +kernel
theorem dX10_readNumber_46 : decode cX10_readNumber 46 = .ok (.bipush 10, 2) := by decide +kernel
theorem dX10_readNumber_48 : decode cX10_readNumber 48 = .ok (.iload_n 2, 1) := by decide +kernel
theorem dX10_readNumber_49 : decode cX10_readNumber 49 = .ok (.imul, 1) := by decide +kernel
theorem dX10_readNumber_50 : decode cX10_readNumber 50 = .ok (.invokevirtual 135, 3) := by decide +kernel
theorem dX10_readNumber_53 : decode cX10_readNumber 53 = .ok (.iconst 1, 1) := by decide +kernel
theorem dX10_readNumber_54 : decode cX10_readNumber 54 = .ok (.ireturn, 1) := by decide +kernel
theorem dX10_next_0 : decode cX10_next 0 = .ok (.aload_n 0, 1) := by decide +kernel
theorem dX10_next_1 : decode cX10_next 1 = .ok (.getfield 45, 3) := by decide +kernel
theorem dX10_next_4 : decode cX10_next 4 = .ok (.aload_n 0, 1) := by decide +kernel
theorem dX10_next_5 : decode cX10_next 5 = .ok (.getfield 9, 3) := by decide +kernel
theorem dX10_next_8 : decode cX10_next 8 = .ok (.invokevirtual 54, 3) := by decide +kernel
theorem dX10_next_11 : decode cX10_next 11 = .ok (.if_icmp .ge 17, 3) := by decide +kernel
theorem dX10_next_14 : decode cX10_next 14 = .ok (.aload_n 0, 1) := by decide +kernel
theorem dX10_next_15 : decode cX10_next 15 = .ok (.getfield 9, 3) := by decide +kernel
theorem dX10_next_18 : decode cX10_next 18 = .ok (.aload_n 0, 1) := by decide +kernel
theorem dX10_next_19 : decode cX10_next 19 = .ok (.getfield 45, 3) := by decide +kernel
theorem dX10_next_22 : decode cX10_next 22 = .ok (.invokevirtual 66, 3) := by decide +kernel
theorem dX10_next_25 : decode cX10_next 25 = .ok (.goto 4, 3) := by decide +kernel
theorem dX10_next_28 : decode cX10_next 28 = .ok (.iconst (-1), 1) := by decide +kernel
theorem dX10_next_29 : decode cX10_next 29 = .ok (.ireturn, 1) := by decide +kernel
theorem dX10_isLetter_0 : decode cX10_isLetter 0 = .ok (.iload_n 0, 1) := by decide +kernel
theorem dX10_isLetter_1 : decode cX10_isLetter 1 = .ok (.bipush 97, 2) := by decide +kernel
theorem dX10_isLetter_3 : decode cX10_isLetter 3 = .ok (.if_icmp .lt 13, 3) := by decide +kernel
theorem dX10_isLetter_6 : decode cX10_isLetter 6 = .ok (.iload_n 0, 1) := by decide +kernel
theorem dX10_isLetter_7 : decode cX10_isLetter 7 = .ok (.bipush 122, 2) := by decide +kernel
theorem dX10_isLetter_9 : decode cX10_isLetter 9 = .ok (.if_icmp .gt 7, 3) := by decide +kernel
theorem dX10_isLetter_12 : decode cX10_isLetter 12 = .ok (.iconst 1, 1) := by decide +kernel
theorem dX10_isLetter_13 : decode cX10_isLetter 13 = .ok (.goto 4, 3) := by decide +kernel
theorem dX10_isLetter_16 : decode cX10_isLetter 16 = .ok (.iconst 0, 1) := by decide +kernel
theorem dX10_isLetter_17 : decode cX10_isLetter 17 = .ok (.ireturn, 1) := by decide +kernel
theorem dX10_spellingOf_0 : decode cX10_spellingOf 0 = .ok (.iload_n 0, 1) := by decide +kernel
theorem dX10_spellingOf_1 : decode cX10_spellingOf 1 = .ok (.tableswitch 64 0 6 #[43, 46, 49, 52, 55, 58, 61], 43) := by decide +kernel
theorem dX10_spellingOf_44 : decode cX10_spellingOf 44 = .ok (.ldc 138, 2) := by decide +kernel
theorem dX10_spellingOf_46 : decode cX10_spellingOf 46 = .ok (.areturn, 1) := by decide +kernel
theorem dX10_spellingOf_47 : decode cX10_spellingOf 47 = .ok (.ldc 140, 2) := by decide +kernel
theorem dX10_spellingOf_49 : decode cX10_spellingOf 49 = .ok (.areturn, 1) := by decide +kernel
theorem dX10_spellingOf_50 : decode cX10_spellingOf 50 = .ok (.ldc 142, 2) := by decide +kernel
theorem dX10_spellingOf_52 : decode cX10_spellingOf 52 = .ok (.areturn, 1) := by decide +kernel
theorem dX10_spellingOf_53 : decode cX10_spellingOf 53 = .ok (.ldc 144, 2) := by decide +kernel
theorem dX10_spellingOf_55 : decode cX10_spellingOf 55 = .ok (.areturn, 1) := by decide +kernel
theorem dX10_spellingOf_56 : decode cX10_spellingOf 56 = .ok (.ldc 146, 2) := by decide +kernel
theorem dX10_spellingOf_58 : decode cX10_spellingOf 58 = .ok (.areturn, 1) := by decide +kernel
theorem dX10_spellingOf_59 : decode cX10_spellingOf 59 = .ok (.ldc 148, 2) := by decide +kernel
theorem dX10_spellingOf_61 : decode cX10_spellingOf 61 = .ok (.areturn, 1) := by decide +kernel
theorem dX10_spellingOf_62 : decode cX10_spellingOf 62 = .ok (.ldc 150, 2) := by decide +kernel
theorem dX10_spellingOf_64 : decode cX10_spellingOf 64 = .ok (.areturn, 1) := by decide +kernel
theorem dX10_spellingOf_65 : decode cX10_spellingOf 65 = .ok (.ldc 152, 2) := by decide +kernel
theorem dX10_spellingOf_67 : decode cX10_spellingOf 67 = .ok (.areturn, 1) := by decide +kernel
theorem dX11_init_0 : decode cX11_init 0 = .ok (.aload_n 0, 1) := by decide +kernel
theorem dX11_init_1 : decode cX11_init 1 = .ok (.invokespecial 1, 3) := by decide +kernel
theorem dX11_init_4 : decode cX11_init 4 = .ok (.aload_n 0, 1) := by decide +kernel
theorem dX11_init_5 : decode cX11_init 5 = .ok (.new 7, 3) := by decide +kernel
theorem dX11_init_8 : decode cX11_init 8 = .ok (.dup, 1) := by decide +kernel
theorem dX11_init_9 : decode cX11_init 9 = .ok (.invokespecial 9, 3) := by decide +kernel
theorem dX11_init_12 : decode cX11_init 12 = .ok (.putfield 10, 3) := by decide +kernel
theorem dX11_init_15 : decode cX11_init 15 = .ok (.aload_n 0, 1) := by decide +kernel
theorem dX11_init_16 : decode cX11_init 16 = .ok (.aload_n 0, 1) := by decide +kernel
theorem dX11_init_17 : decode cX11_init 17 = .ok (.getfield 10, 3) := by decide +kernel
theorem dX11_init_20 : decode cX11_init 20 = .ok (.iconst 1, 1) := by decide +kernel
theorem dX11_init_21 : decode cX11_init 21 = .ok (.invokevirtual 16, 3) := by decide +kernel
theorem dX11_init_24 : decode cX11_init 24 = .ok (.putfield 20, 3) := by decide +kernel
theorem dX11_init_27 : decode cX11_init 27 = .ok (.aload_n 0, 1) := by decide +kernel
theorem dX11_init_28 : decode cX11_init 28 = .ok (.aload_n 0, 1) := by decide +kernel
theorem dX11_init_29 : decode cX11_init 29 = .ok (.getfield 10, 3) := by decide +kernel
theorem dX11_init_32 : decode cX11_init 32 = .ok (.bipush 120, 2) := by decide +kernel
theorem dX11_init_34 : decode cX11_init 34 = .ok (.invokevirtual 16, 3) := by decide +kernel
theorem dX11_init_37 : decode cX11_init 37 = .ok (.putfield 24, 3) := by decide +kernel
theorem dX11_init_40 : decode cX11_init 40 = .ok (.aload_n 0, 1) := by decide +kernel
theorem dX11_init_41 : decode cX11_init 41 = .ok (.new 27, 3) := by decide +kernel
theorem dX11_init_44 : decode cX11_init 44 = .ok (.dup, 1) := by decide +kernel
theorem dX11_init_45 : decode cX11_init 45 = .ok (.aload_n 0, 1) := by decide +kernel
theorem dX11_init_46 : decode cX11_init 46 = .ok (.getfield 10, 3) := by decide +kernel
theorem dX11_init_49 : decode cX11_init 49 = .ok (.aload_n 0, 1) := by decide +kernel
theorem dX11_init_50 : decode cX11_init 50 = .ok (.getfield 24, 3) := by decide +kernel
theorem dX11_init_53 : decode cX11_init 53 = .ok (.invokespecial 29, 3) := by decide +kernel
theorem dX11_init_56 : decode cX11_init 56 = .ok (.putfield 32, 3) := by decide +kernel
theorem dX11_init_59 : decode cX11_init 59 = .ok (.aload_n 0, 1) := by decide +kernel
theorem dX11_init_60 : decode cX11_init 60 = .ok (.new 36, 3) := by decide +kernel
theorem dX11_init_63 : decode cX11_init 63 = .ok (.dup, 1) := by decide +kernel
theorem dX11_init_64 : decode cX11_init 64 = .ok (.invokespecial 38, 3) := by decide +kernel
theorem dX11_init_67 : decode cX11_init 67 = .ok (.putfield 39, 3) := by decide +kernel
theorem dX11_init_70 : decode cX11_init 70 = .ok (.aload_n 0, 1) := by decide +kernel
theorem dX11_init_71 : decode cX11_init 71 = .ok (.new 43, 3) := by decide +kernel
theorem dX11_init_74 : decode cX11_init 74 = .ok (.dup, 1) := by decide +kernel
theorem dX11_init_75 : decode cX11_init 75 = .ok (.aload_n 0, 1) := by decide +kernel
theorem dX11_init_76 : decode cX11_init 76 = .ok (.getfield 10, 3) := by decide +kernel
theorem dX11_init_79 : decode cX11_init 79 = .ok (.invokespecial 45, 3) := by decide +kernel
theorem dX11_init_82 : decode cX11_init 82 = .ok (.putfield 48, 3) := by decide +kernel
theorem dX11_init_85 : decode cX11_init 85 = .ok (.aload_n 0, 1) := by decide +kernel
theorem dX11_init_86 : decode cX11_init 86 = .ok (.new 52, 3) := by decide +kernel
theorem dX11_init_89 : decode cX11_init 89 = .ok (.dup, 1) := by decide +kernel
theorem dX11_init_90 : decode cX11_init 90 = .ok (.aload_n 0, 1) := by decide +kernel
theorem dX11_init_91 : decode cX11_init 91 = .ok (.getfield 10, 3) := by decide +kernel
theorem dX11_init_94 : decode cX11_init 94 = .ok (.invokespecial 54, 3) := by decide +kernel
theorem dX11_init_97 : decode cX11_init 97 = .ok (.putfield 55, 3) := by decide +kernel
theorem dX11_init_100 : decode cX11_init 100 = .ok (.aload_n 0, 1) := by decide +kernel
theorem dX11_init_101 : decode cX11_init 101 = .ok (.new 59, 3) := by decide +kernel
theorem dX11_init_104 : decode cX11_init 104 = .ok (.dup, 1) := by decide +kernel
theorem dX11_init_105 : decode cX11_init 105 = .ok (.aload_n 0, 1) := by decide +kernel
theorem dX11_init_106 : decode cX11_init 106 = .ok (.getfield 39, 3) := by decide +kernel
theorem dX11_init_109 : decode cX11_init 109 = .ok (.aload_n 0, 1) := by decide +kernel
theorem dX11_init_110 : decode cX11_init 110 = .ok (.getfield 55, 3) := by decide +kernel
theorem dX11_init_113 : decode cX11_init 113 = .ok (.getfield 61, 3) := by decide +kernel
theorem dX11_init_116 : decode cX11_init 116 = .ok (.invokespecial 64, 3) := by decide +kernel
theorem dX11_init_119 : decode cX11_init 119 = .ok (.putfield 67, 3) := by decide +kernel
theorem dX11_init_122 : decode cX11_init 122 = .ok (.aload_n 0, 1) := by decide +kernel
theorem dX11_init_123 : decode cX11_init 123 = .ok (.new 71, 3) := by decide +kernel
theorem dX11_init_126 : decode cX11_init 126 = .ok (.dup, 1) := by decide +kernel
theorem dX11_init_127 : decode cX11_init 127 = .ok (.aload_n 0, 1) := by decide +kernel
theorem dX11_init_128 : decode cX11_init 128 = .ok (.getfield 10, 3) := by decide +kernel
theorem dX11_init_131 : decode cX11_init 131 = .ok (.invokespecial 73, 3) := by decide +kernel
theorem dX11_init_134 : decode cX11_init 134 = .ok (.putfield 74, 3) := by decide +kernel
theorem dX11_init_137 : decode cX11_init 137 = .ok (.aload_n 0, 1) := by decide +kernel
theorem dX11_init_138 : decode cX11_init 138 = .ok (.new 78, 3) := by decide +kernel
theorem dX11_init_141 : decode cX11_init 141 = .ok (.dup, 1) := by decide +kernel
theorem dX11_init_142 : decode cX11_init 142 = .ok (.aload_n 0, 1) := by decide +kernel
theorem dX11_init_143 : decode cX11_init 143 = .ok (.getfield 10, 3) := by decide +kernel
theorem dX11_init_146 : decode cX11_init 146 = .ok (.invokespecial 80, 3) := by decide +kernel
theorem dX11_init_149 : decode cX11_init 149 = .ok (.putfield 81, 3) := by decide +kernel
theorem dX11_init_152 : decode cX11_init 152 = .ok (.aload_n 0, 1) := by decide +kernel
theorem dX11_init_153 : decode cX11_init 153 = .ok (.new 85, 3) := by decide +kernel
theorem dX11_init_156 : decode cX11_init 156 = .ok (.dup, 1) := by decide +kernel
theorem dX11_init_157 : decode cX11_init 157 = .ok (.aload_n 0, 1) := by decide +kernel
theorem dX11_init_158 : decode cX11_init 158 = .ok (.getfield 10, 3) := by decide +kernel
theorem dX11_init_161 : decode cX11_init 161 = .ok (.invokespecial 87, 3) := by decide +kernel
theorem dX11_init_164 : decode cX11_init 164 = .ok (.putfield 88, 3) := by decide +kernel
theorem dX11_init_167 : decode cX11_init 167 = .ok (.aload_n 0, 1) := by decide +kernel
theorem dX11_init_168 : decode cX11_init 168 = .ok (.new 92, 3) := by decide +kernel
theorem dX11_init_171 : decode cX11_init 171 = .ok (.dup, 1) := by decide +kernel
theorem dX11_init_172 : decode cX11_init 172 = .ok (.aload_n 0, 1) := by decide +kernel
theorem dX11_init_173 : decode cX11_init 173 = .ok (.getfield 10, 3) := by decide +kernel
theorem dX11_init_176 : decode cX11_init 176 = .ok (.invokespecial 94, 3) := by decide +kernel
theorem dX11_init_179 : decode cX11_init 179 = .ok (.putfield 95, 3) := by decide +kernel
theorem dX11_init_182 : decode cX11_init 182 = .ok (.aload_n 0, 1) := by decide +kernel
theorem dX11_init_183 : decode cX11_init 183 = .ok (.iconst 0, 1) := by decide +kernel
theorem dX11_init_184 : decode cX11_init 184 = .ok (.putfield 99, 3) := by decide +kernel
theorem dX11_init_187 : decode cX11_init 187 = .ok (.return_, 1) := by decide +kernel
theorem dX11_sort_0 : decode cX11_sort 0 = .ok (.iload_n 1, 1) := by decide +kernel
theorem dX11_sort_1 : decode cX11_sort 1 = .ok (.invokestatic 103, 3) := by decide +kernel
theorem dX11_sort_4 : decode cX11_sort 4 = .ok (.ifCond .ne 5, 3) := by decide +kernel
theorem dX11_sort_7 : decode cX11_sort 7 = .ok (.iconst (-1), 1) := by decide +kernel
theorem dX11_sort_8 : decode cX11_sort 8 = .ok (.ireturn, 1) := by decide +kernel
theorem dX11_sort_9 : decode cX11_sort 9 = .ok (.iload_n 2, 1) := by decide +kernel
theorem dX11_sort_10 : decode cX11_sort 10 = .ok (.iconst 1, 1) := by decide +kernel
theorem dX11_sort_11 : decode cX11_sort 11 = .ok (.if_icmp .lt 9, 3) := by decide +kernel
theorem dX11_sort_14 : decode cX11_sort 14 = .ok (.iload_n 2, 1) := by decide +kernel
theorem dX11_sort_15 : decode cX11_sort 15 = .ok (.bipush 9, 2) := by decide +kernel
theorem dX11_sort_17 : decode cX11_sort 17 = .ok (.if_icmp .le 6, 3) := by decide +kernel
theorem dX11_sort_20 : decode cX11_sort 20 = .ok (.bipush (-2), 2) := by decide +kernel
theorem dX11_sort_22 : decode cX11_sort 22 = .ok (.ireturn, 1) := by decide +kernel
theorem dX11_sort_23 : decode cX11_sort 23 = .ok (.aload_n 0, 1) := by decide +kernel
theorem dX11_sort_24 : decode cX11_sort 24 = .ok (.getfield 55, 3) := by decide +kernel
theorem dX11_sort_27 : decode cX11_sort 27 = .ok (.invokevirtual 107, 3) := by decide +kernel
theorem dX11_sort_30 : decode cX11_sort 30 = .ok (.ifCond .le 6, 3) := by decide +kernel
theorem dX11_sort_33 : decode cX11_sort 33 = .ok (.bipush (-3), 2) := by decide +kernel
theorem dX11_sort_35 : decode cX11_sort 35 = .ok (.ireturn, 1) := by decide +kernel
theorem dX11_sort_36 : decode cX11_sort 36 = .ok (.aload_n 0, 1) := by decide +kernel
theorem dX11_sort_37 : decode cX11_sort 37 = .ok (.getfield 55, 3) := by decide +kernel
theorem dX11_sort_40 : decode cX11_sort 40 = .ok (.getfield 61, 3) := by decide +kernel
theorem dX11_sort_43 : decode cX11_sort 43 = .ok (.iload_n 1, 1) := by decide +kernel
theorem dX11_sort_44 : decode cX11_sort 44 = .ok (.iload_n 2, 1) := by decide +kernel
theorem dX11_sort_45 : decode cX11_sort 45 = .ok (.invokevirtual 111, 3) := by decide +kernel
theorem dX11_sort_48 : decode cX11_sort 48 = .ok (.ireturn, 1) := by decide +kernel
theorem dX11_cast_0 : decode cX11_cast 0 = .ok (.iload_n 1, 1) := by decide +kernel
theorem dX11_cast_1 : decode cX11_cast 1 = .ok (.invokestatic 103, 3) := by decide +kernel
theorem dX11_cast_4 : decode cX11_cast 4 = .ok (.ifCond .ne 5, 3) := by decide +kernel
theorem dX11_cast_7 : decode cX11_cast 7 = .ok (.iconst (-1), 1) := by decide +kernel
theorem dX11_cast_8 : decode cX11_cast 8 = .ok (.ireturn, 1) := by decide +kernel
theorem dX11_cast_9 : decode cX11_cast 9 = .ok (.iload_n 2, 1) := by decide +kernel
theorem dX11_cast_10 : decode cX11_cast 10 = .ok (.iconst 1, 1) := by decide +kernel
theorem dX11_cast_11 : decode cX11_cast 11 = .ok (.if_icmp .lt 10, 3) := by decide +kernel
theorem dX11_cast_14 : decode cX11_cast 14 = .ok (.iload_n 2, 1) := by decide +kernel
theorem dX11_cast_15 : decode cX11_cast 15 = .ok (.sipush 999, 3) := by decide +kernel
theorem dX11_cast_18 : decode cX11_cast 18 = .ok (.if_icmp .le 6, 3) := by decide +kernel
theorem dX11_cast_21 : decode cX11_cast 21 = .ok (.bipush (-2), 2) := by decide +kernel
theorem dX11_cast_23 : decode cX11_cast 23 = .ok (.ireturn, 1) := by decide +kernel
theorem dX11_cast_24 : decode cX11_cast 24 = .ok (.aload_n 0, 1) := by decide +kernel
theorem dX11_cast_25 : decode cX11_cast 25 = .ok (.getfield 55, 3) := by decide +kernel
theorem dX11_cast_28 : decode cX11_cast 28 = .ok (.getfield 117, 3) := by decide +kernel
theorem dX11_cast_31 : decode cX11_cast 31 = .ok (.iload_n 1, 1) := by decide +kernel
theorem dX11_cast_32 : decode cX11_cast 32 = .ok (.invokevirtual 120, 3) := by decide +kernel
theorem dX11_cast_35 : decode cX11_cast 35 = .ok (.iload_n 2, 1) := by decide +kernel
theorem dX11_cast_36 : decode cX11_cast 36 = .ok (.iadd, 1) := by decide +kernel
theorem dX11_cast_37 : decode cX11_cast 37 = .ok (.sipush 9999, 3) := by decide +kernel
theorem dX11_cast_40 : decode cX11_cast 40 = .ok (.if_icmp .le 6, 3) := by decide +kernel
theorem dX11_cast_43 : decode cX11_cast 43 = .ok (.bipush (-4), 2) := by decide +kernel
theorem dX11_cast_45 : decode cX11_cast 45 = .ok (.ireturn, 1) := by decide +kernel
theorem dX11_cast_46 : decode cX11_cast 46 = .ok (.aload_n 0, 1) := by decide +kernel
theorem dX11_cast_47 : decode cX11_cast 47 = .ok (.getfield 55, 3) := by decide +kernel
theorem dX11_cast_50 : decode cX11_cast 50 = .ok (.iload_n 1, 1) := by decide +kernel
theorem dX11_cast_51 : decode cX11_cast 51 = .ok (.iload_n 2, 1) := by decide +kernel
theorem dX11_cast_52 : decode cX11_cast 52 = .ok (.invokevirtual 124, 3) := by decide +kernel
theorem dX11_cast_55 : decode cX11_cast 55 = .ok (.ireturn, 1) := by decide +kernel
theorem dX11_many_0 : decode cX11_many 0 = .ok (.iload_n 1, 1) := by decide +kernel
theorem dX11_many_1 : decode cX11_many 1 = .ok (.invokestatic 103, 3) := by decide +kernel
theorem dX11_many_4 : decode cX11_many 4 = .ok (.ifCond .ne 5, 3) := by decide +kernel
theorem dX11_many_7 : decode cX11_many 7 = .ok (.iconst (-1), 1) := by decide +kernel
theorem dX11_many_8 : decode cX11_many 8 = .ok (.ireturn, 1) := by decide +kernel
theorem dX11_many_9 : decode cX11_many 9 = .ok (.iload_n 2, 1) := by decide +kernel
theorem dX11_many_10 : decode cX11_many 10 = .ok (.tableswitch 59 0 2 #[26, 38, 47], 26) := by decide +kernel
theorem dX11_many_36 : decode cX11_many 36 = .ok (.aload_n 0, 1) := by decide +kernel
theorem dX11_many_37 : decode cX11_many 37 = .ok (.getfield 55, 3) := by decide +kernel
theorem dX11_many_40 : decode cX11_many 40 = .ok (.getfield 117, 3) := by decide +kernel
theorem dX11_many_43 : decode cX11_many 43 = .ok (.iload_n 1, 1) := by decide +kernel
theorem dX11_many_44 : decode cX11_many 44 = .ok (.invokevirtual 120, 3) := by decide +kernel
theorem dX11_many_47 : decode cX11_many 47 = .ok (.ireturn, 1) := by decide +kernel
theorem dX11_many_48 : decode cX11_many 48 = .ok (.aload_n 0, 1) := by decide +kernel
theorem dX11_many_49 : decode cX11_many 49 = .ok (.getfield 55, 3) := by decide +kernel
theorem dX11_many_52 : decode cX11_many 52 = .ok (.iload_n 1, 1) := by decide +kernel
theorem dX11_many_53 : decode cX11_many 53 = .ok (.invokevirtual 127, 3) := by decide +kernel
theorem dX11_many_56 : decode cX11_many 56 = .ok (.ireturn, 1) := by decide +kernel
theorem dX11_many_57 : decode cX11_many 57 = .ok (.aload_n 0, 1) := by decide +kernel
theorem dX11_many_58 : decode cX11_many 58 = .ok (.getfield 55, 3) := by decide +kernel
theorem dX11_many_61 : decode cX11_many 61 = .ok (.getfield 130, 3) := by decide +kernel
theorem dX11_many_64 : decode cX11_many 64 = .ok (.iload_n 1, 1) := by decide +kernel
theorem dX11_many_65 : decode cX11_many 65 = .ok (.invokevirtual 120, 3) := by decide +kernel
theorem dX11_many_68 : decode cX11_many 68 = .ok (.ireturn, 1) := by decide +kernel
theorem dX11_many_69 : decode cX11_many 69 = .ok (.iconst (-1), 1) := by decide +kernel
theorem dX11_many_70 : decode cX11_many 70 = .ok (.ireturn, 1) := by decide +kernel
theorem dX11_day_0 : decode cX11_day 0 = .ok (.iload_n 1, 1) := by decide +kernel
theorem dX11_day_1 : decode cX11_day 1 = .ok (.iconst 1, 1) := by decide +kernel
theorem dX11_day_2 : decode cX11_day 2 = .ok (.if_icmp .lt 21, 3) := by decide +kernel
theorem dX11_day_5 : decode cX11_day 5 = .ok (.iload_n 1, 1) := by decide +kernel
theorem dX11_day_6 : decode cX11_day 6 = .ok (.bipush 99, 2) := by decide +kernel
theorem dX11_day_8 : decode cX11_day 8 = .ok (.if_icmp .gt 15, 3) := by decide +kernel
theorem dX11_day_11 : decode cX11_day 11 = .ok (.aload_n 0, 1) := by decide +kernel
theorem dX11_day_12 : decode cX11_day 12 = .ok (.invokevirtual 133, 3) := by decide +kernel
theorem dX11_day_15 : decode cX11_day 15 = .ok (.iload_n 1, 1) := by decide +kernel
theorem dX11_day_16 : decode cX11_day 16 = .ok (.iadd, 1) := by decide +kernel
theorem dX11_day_17 : decode cX11_day 17 = .ok (.sipush 999, 3) := by decide +kernel
theorem dX11_day_20 : decode cX11_day 20 = .ok (.if_icmp .le 6, 3) := by decide +kernel
theorem dX11_day_23 : decode cX11_day 23 = .ok (.bipush (-2), 2) := by decide +kernel
theorem dX11_day_25 : decode cX11_day 25 = .ok (.ireturn, 1) := by decide +kernel
theorem dX11_day_26 : decode cX11_day 26 = .ok (.aload_n 0, 1) := by decide +kernel
theorem dX11_day_27 : decode cX11_day 27 = .ok (.getfield 20, 3) := by decide +kernel
theorem dX11_day_30 : decode cX11_day 30 = .ok (.iconst 0, 1) := by decide +kernel
theorem dX11_day_31 : decode cX11_day 31 = .ok (.iload_n 1, 1) := by decide +kernel
theorem dX11_day_32 : decode cX11_day 32 = .ok (.invokevirtual 136, 3) := by decide +kernel
theorem dX11_day_35 : decode cX11_day 35 = .ok (.aload_n 0, 1) := by decide +kernel
theorem dX11_day_36 : decode cX11_day 36 = .ok (.invokevirtual 133, 3) := by decide +kernel
theorem dX11_day_39 : decode cX11_day 39 = .ok (.ireturn, 1) := by decide +kernel
theorem dX11_feed_0 : decode cX11_feed 0 = .ok (.iload_n 3, 1) := by decide +kernel
theorem dX11_feed_1 : decode cX11_feed 1 = .ok (.iconst 1, 1) := by decide +kernel
theorem dX11_feed_2 : decode cX11_feed 2 = .ok (.if_icmp .lt 9, 3) := by decide +kernel
theorem dX11_feed_5 : decode cX11_feed 5 = .ok (.iload_n 3, 1) := by decide +kernel
theorem dX11_feed_6 : decode cX11_feed 6 = .ok (.bipush 8, 2) := by decide +kernel
theorem dX11_feed_8 : decode cX11_feed 8 = .ok (.if_icmp .le 6, 3) := by decide +kernel
theorem dX11_feed_11 : decode cX11_feed 11 = .ok (.bipush (-2), 2) := by decide +kernel
theorem dX11_feed_13 : decode cX11_feed 13 = .ok (.ireturn, 1) := by decide +kernel
theorem dX11_feed_14 : decode cX11_feed 14 = .ok (.aload_n 0, 1) := by decide +kernel
theorem dX11_feed_15 : decode cX11_feed 15 = .ok (.getfield 24, 3) := by decide +kernel
theorem dX11_feed_18 : decode cX11_feed 18 = .ok (.invokevirtual 140, 3) := by decide +kernel
theorem dX11_feed_21 : decode cX11_feed 21 = .ok (.iload_n 3, 1) := by decide +kernel
theorem dX11_feed_22 : decode cX11_feed 22 = .ok (.iadd, 1) := by decide +kernel
theorem dX11_feed_23 : decode cX11_feed 23 = .ok (.bipush 120, 2) := by decide +kernel
theorem dX11_feed_25 : decode cX11_feed 25 = .ok (.if_icmp .le 6, 3) := by decide +kernel
theorem dX11_feed_28 : decode cX11_feed 28 = .ok (.bipush (-4), 2) := by decide +kernel
theorem dX11_feed_30 : decode cX11_feed 30 = .ok (.ireturn, 1) := by decide +kernel
theorem dX11_feed_31 : decode cX11_feed 31 = .ok (.iload_n 3, 1) := by decide +kernel
theorem dX11_feed_32 : decode cX11_feed 32 = .ok (.iconst 1, 1) := by decide +kernel
theorem dX11_feed_33 : decode cX11_feed 33 = .ok (.isub, 1) := by decide +kernel
theorem dX11_feed_34 : decode cX11_feed 34 = .ok (.istore 4, 2) := by decide +kernel
theorem dX11_feed_36 : decode cX11_feed 36 = .ok (.iload 4, 2) := by decide +kernel
theorem dX11_feed_38 : decode cX11_feed 38 = .ok (.ifCond .lt 28, 3) := by decide +kernel
theorem dX11_feed_41 : decode cX11_feed 41 = .ok (.aload_n 0, 1) := by decide +kernel
theorem dX11_feed_42 : decode cX11_feed 42 = .ok (.getfield 24, 3) := by decide +kernel
theorem dX11_feed_45 : decode cX11_feed 45 = .ok (.lload_n 1, 1) := by decide +kernel
theorem dX11_feed_46 : decode cX11_feed 46 = .ok (.bipush 8, 2) := by decide +kernel
theorem dX11_feed_48 : decode cX11_feed 48 = .ok (.iload 4, 2) := by decide +kernel
theorem dX11_feed_50 : decode cX11_feed 50 = .ok (.imul, 1) := by decide +kernel
theorem dX11_feed_51 : decode cX11_feed 51 = .ok (.lushr, 1) := by decide +kernel
theorem dX11_feed_52 : decode cX11_feed 52 = .ok (.ldc2_w 143, 3) := by decide +kernel
theorem dX11_feed_55 : decode cX11_feed 55 = .ok (.land, 1) := by decide +kernel
theorem dX11_feed_56 : decode cX11_feed 56 = .ok (.l2i, 1) := by decide +kernel
theorem dX11_feed_57 : decode cX11_feed 57 = .ok (.invokevirtual 145, 3) := by decide +kernel
theorem dX11_feed_60 : decode cX11_feed 60 = .ok (.iinc 4 (-1), 3) := by decide +kernel
theorem dX11_feed_63 : decode cX11_feed 63 = .ok (.goto (-27), 3) := by decide +kernel
theorem dX11_feed_66 : decode cX11_feed 66 = .ok (.aload_n 0, 1) := by decide +kernel
theorem dX11_feed_67 : decode cX11_feed 67 = .ok (.getfield 24, 3) := by decide +kernel
theorem dX11_feed_70 : decode cX11_feed 70 = .ok (.invokevirtual 140, 3) := by decide +kernel
theorem dX11_feed_73 : decode cX11_feed 73 = .ok (.ireturn, 1) := by decide +kernel
theorem dX11_text_0 : decode cX11_text 0 = .ok (.iload_n 1, 1) := by decide +kernel
theorem dX11_text_1 : decode cX11_text 1 = .ok (.invokestatic 149, 3) := by decide +kernel
theorem dX11_text_4 : decode cX11_text 4 = .ok (.ifCond .ne 6, 3) := by decide +kernel
theorem dX11_text_7 : decode cX11_text 7 = .ok (.bipush (-2), 2) := by decide +kernel
theorem dX11_text_9 : decode cX11_text 9 = .ok (.ireturn, 1) := by decide +kernel
theorem dX11_text_10 : decode cX11_text 10 = .ok (.aload_n 0, 1) := by decide +kernel
theorem dX11_text_11 : decode cX11_text 11 = .ok (.getfield 32, 3) := by decide +kernel
theorem dX11_text_14 : decode cX11_text 14 = .ok (.invokevirtual 152, 3) := by decide +kernel
theorem dX11_text_17 : decode cX11_text 17 = .ok (.ifCond .eq 6, 3) := by decide +kernel
theorem dX11_text_20 : decode cX11_text 20 = .ok (.bipush (-4), 2) := by decide +kernel
theorem dX11_text_22 : decode cX11_text 22 = .ok (.ireturn, 1) := by decide +kernel
theorem dX11_text_23 : decode cX11_text 23 = .ok (.aload_n 0, 1) := by decide +kernel
theorem dX11_text_24 : decode cX11_text 24 = .ok (.getfield 32, 3) := by decide +kernel
theorem dX11_text_27 : decode cX11_text 27 = .ok (.invokevirtual 156, 3) := by decide +kernel
theorem dX11_text_30 : decode cX11_text 30 = .ok (.istore_n 2, 1) := by decide +kernel
theorem dX11_text_31 : decode cX11_text 31 = .ok (.aload_n 0, 1) := by decide +kernel
theorem dX11_text_32 : decode cX11_text 32 = .ok (.getfield 24, 3) := by decide +kernel
theorem dX11_text_35 : decode cX11_text 35 = .ok (.invokevirtual 159, 3) := by decide +kernel
theorem dX11_text_38 : decode cX11_text 38 = .ok (.iload_n 2, 1) := by decide +kernel
theorem dX11_text_39 : decode cX11_text 39 = .ok (.ifCond .lt 10, 3) := by decide +kernel
theorem dX11_text_42 : decode cX11_text 42 = .ok (.bipush (-10), 2) := by decide +kernel
theorem dX11_text_44 : decode cX11_text 44 = .ok (.iload_n 2, 1) := by decide +kernel
theorem dX11_text_45 : decode cX11_text 45 = .ok (.isub, 1) := by decide +kernel
theorem dX11_text_46 : decode cX11_text 46 = .ok (.goto 11, 3) := by decide +kernel
theorem dX11_text_49 : decode cX11_text 49 = .ok (.aload_n 0, 1) := by decide +kernel
theorem dX11_text_50 : decode cX11_text 50 = .ok (.getfield 32, 3) := by decide +kernel
theorem dX11_text_53 : decode cX11_text 53 = .ok (.iload_n 1, 1) := by decide +kernel
theorem dX11_text_54 : decode cX11_text 54 = .ok (.invokevirtual 162, 3) := by decide +kernel
theorem dX11_text_57 : decode cX11_text 57 = .ok (.ireturn, 1) := by decide +kernel
theorem dX11_force_0 : decode cX11_force 0 = .ok (.iload_n 1, 1) := by decide +kernel
theorem dX11_force_1 : decode cX11_force 1 = .ok (.ifCond .lt 9, 3) := by decide +kernel
theorem dX11_force_4 : decode cX11_force 4 = .ok (.iload_n 1, 1) := by decide +kernel
theorem dX11_force_5 : decode cX11_force 5 = .ok (.bipush 6, 2) := by decide +kernel
theorem dX11_force_7 : decode cX11_force 7 = .ok (.if_icmp .le 5, 3) := by decide +kernel
theorem dX11_force_10 : decode cX11_force 10 = .ok (.iconst (-1), 1) := by decide +kernel
theorem dX11_force_11 : decode cX11_force 11 = .ok (.ireturn, 1) := by decide +kernel
theorem dX11_force_12 : decode cX11_force 12 = .ok (.iload_n 2, 1) := by decide +kernel
theorem dX11_force_13 : decode cX11_force 13 = .ok (.invokestatic 149, 3) := by decide +kernel
theorem dX11_force_16 : decode cX11_force 16 = .ok (.ifCond .ne 6, 3) := by decide +kernel
theorem dX11_force_19 : decode cX11_force 19 = .ok (.bipush (-2), 2) := by decide +kernel
theorem dX11_force_21 : decode cX11_force 21 = .ok (.ireturn, 1) := by decide +kernel
theorem dX11_force_22 : decode cX11_force 22 = .ok (.iload_n 1, 1) := by decide +kernel
theorem dX11_force_23 : decode cX11_force 23 = .ok (.iconst 5, 1) := by decide +kernel
theorem dX11_force_24 : decode cX11_force 24 = .ok (.if_icmp .ne 20, 3) := by decide +kernel
theorem dX11_force_27 : decode cX11_force 27 = .ok (.aload_n 0, 1) := by decide +kernel
theorem dX11_force_28 : decode cX11_force 28 = .ok (.getfield 32, 3) := by decide +kernel
theorem dX11_force_31 : decode cX11_force 31 = .ok (.iload_n 2, 1) := by decide +kernel
theorem dX11_force_32 : decode cX11_force 32 = .ok (.invokevirtual 165, 3) := by decide +kernel
theorem dX11_force_35 : decode cX11_force 35 = .ok (.ifCond .eq 7, 3) := by decide +kernel
theorem dX11_force_38 : decode cX11_force 38 = .ok (.iconst 1, 1) := by decide +kernel
theorem dX11_force_39 : decode cX11_force 39 = .ok (.goto 4, 3) := by decide +kernel
theorem dX11_force_42 : decode cX11_force 42 = .ok (.iconst 0, 1) := by decide +kernel
theorem dX11_force_43 : decode cX11_force 43 = .ok (.ireturn, 1) := by decide +kernel
theorem dX11_force_44 : decode cX11_force 44 = .ok (.aload_n 0, 1) := by decide +kernel
theorem dX11_force_45 : decode cX11_force 45 = .ok (.getfield 39, 3) := by decide +kernel
theorem dX11_force_48 : decode cX11_force 48 = .ok (.aload_n 0, 1) := by decide +kernel
theorem dX11_force_49 : decode cX11_force 49 = .ok (.getfield 32, 3) := by decide +kernel
theorem dX11_force_52 : decode cX11_force 52 = .ok (.iload_n 2, 1) := by decide +kernel
theorem dX11_force_53 : decode cX11_force 53 = .ok (.iconst 0, 1) := by decide +kernel
theorem dX11_force_54 : decode cX11_force 54 = .ok (.invokevirtual 168, 3) := by decide +kernel
theorem dX11_force_57 : decode cX11_force 57 = .ok (.aload_n 0, 1) := by decide +kernel
theorem dX11_force_58 : decode cX11_force 58 = .ok (.getfield 39, 3) := by decide +kernel
theorem dX11_force_61 : decode cX11_force 61 = .ok (.iload_n 1, 1) := by decide +kernel
theorem dX11_force_62 : decode cX11_force 62 = .ok (.invokevirtual 172, 3) := by decide +kernel
theorem dX11_force_65 : decode cX11_force 65 = .ok (.ireturn, 1) := by decide +kernel
theorem dX11_verse_0 : decode cX11_verse 0 = .ok (.aload_n 0, 1) := by decide +kernel
theorem dX11_verse_1 : decode cX11_verse 1 = .ok (.getfield 48, 3) := by decide +kernel
theorem dX11_verse_4 : decode cX11_verse 4 = .ok (.invokevirtual 175, 3) := by decide +kernel
theorem dX11_verse_7 : decode cX11_verse 7 = .ok (.ifCond .eq 6, 3) := by decide +kernel
theorem dX11_verse_10 : decode cX11_verse 10 = .ok (.bipush (-4), 2) := by decide +kernel
theorem dX11_verse_12 : decode cX11_verse 12 = .ok (.ireturn, 1) := by decide +kernel
theorem dX11_verse_13 : decode cX11_verse 13 = .ok (.aload_n 0, 1) := by decide +kernel
theorem dX11_verse_14 : decode cX11_verse 14 = .ok (.getfield 48, 3) := by decide +kernel
theorem dX11_verse_17 : decode cX11_verse 17 = .ok (.aload_n 0, 1) := by decide +kernel
theorem dX11_verse_18 : decode cX11_verse 18 = .ok (.getfield 24, 3) := by decide +kernel
theorem dX11_verse_21 : decode cX11_verse 21 = .ok (.invokevirtual 176, 3) := by decide +kernel
theorem dX11_verse_24 : decode cX11_verse 24 = .ok (.istore_n 1, 1) := by decide +kernel
theorem dX11_verse_25 : decode cX11_verse 25 = .ok (.iload_n 1, 1) := by decide +kernel
theorem dX11_verse_26 : decode cX11_verse 26 = .ok (.ifCond .lt 15, 3) := by decide +kernel
theorem dX11_verse_29 : decode cX11_verse 29 = .ok (.aload_n 0, 1) := by decide +kernel
theorem dX11_verse_30 : decode cX11_verse 30 = .ok (.getfield 24, 3) := by decide +kernel
theorem dX11_verse_33 : decode cX11_verse 33 = .ok (.invokevirtual 159, 3) := by decide +kernel
theorem dX11_verse_36 : decode cX11_verse 36 = .ok (.bipush (-10), 2) := by decide +kernel
theorem dX11_verse_38 : decode cX11_verse 38 = .ok (.iload_n 1, 1) := by decide +kernel
theorem dX11_verse_39 : decode cX11_verse 39 = .ok (.isub, 1) := by decide +kernel
theorem dX11_verse_40 : decode cX11_verse 40 = .ok (.ireturn, 1) := by decide +kernel
theorem dX11_verse_41 : decode cX11_verse 41 = .ok (.aload_n 0, 1) := by decide +kernel
theorem dX11_verse_42 : decode cX11_verse 42 = .ok (.getfield 48, 3) := by decide +kernel
theorem dX11_verse_45 : decode cX11_verse 45 = .ok (.aload_n 0, 1) := by decide +kernel
theorem dX11_verse_46 : decode cX11_verse 46 = .ok (.getfield 24, 3) := by decide +kernel
theorem dX11_verse_49 : decode cX11_verse 49 = .ok (.invokevirtual 180, 3) := by decide +kernel
theorem dX11_verse_52 : decode cX11_verse 52 = .ok (.istore_n 2, 1) := by decide +kernel
theorem dX11_verse_53 : decode cX11_verse 53 = .ok (.aload_n 0, 1) := by decide +kernel
theorem dX11_verse_54 : decode cX11_verse 54 = .ok (.getfield 24, 3) := by decide +kernel
theorem dX11_verse_57 : decode cX11_verse 57 = .ok (.invokevirtual 159, 3) := by decide +kernel
theorem dX11_verse_60 : decode cX11_verse 60 = .ok (.iload_n 2, 1) := by decide +kernel
theorem dX11_verse_61 : decode cX11_verse 61 = .ok (.ireturn, 1) := by decide +kernel
theorem dX11_line_0 : decode cX11_line 0 = .ok (.aload_n 0, 1) := by decide +kernel
theorem dX11_line_1 : decode cX11_line 1 = .ok (.getfield 48, 3) := by decide +kernel
theorem dX11_line_4 : decode cX11_line 4 = .ok (.iload_n 1, 1) := by decide +kernel
theorem dX11_line_5 : decode cX11_line 5 = .ok (.invokevirtual 182, 3) := by decide +kernel
theorem dX11_line_8 : decode cX11_line 8 = .ok (.ifCond .eq 18, 3) := by decide +kernel
theorem dX11_line_11 : decode cX11_line 11 = .ok (.iload_n 3, 1) := by decide +kernel
theorem dX11_line_12 : decode cX11_line 12 = .ok (.ifCond .lt 14, 3) := by decide +kernel
theorem dX11_line_15 : decode cX11_line 15 = .ok (.iload_n 3, 1) := by decide +kernel
theorem dX11_line_16 : decode cX11_line 16 = .ok (.iconst 3, 1) := by decide +kernel
theorem dX11_line_17 : decode cX11_line 17 = .ok (.if_icmp .le 11, 3) := by decide +kernel
theorem dX11_line_20 : decode cX11_line 20 = .ok (.iload_n 3, 1) := by decide +kernel
theorem dX11_line_21 : decode cX11_line 21 = .ok (.bipush 10, 2) := by decide +kernel
theorem dX11_line_23 : decode cX11_line 23 = .ok (.if_icmp .ge 5, 3) := by decide +kernel
theorem dX11_line_26 : decode cX11_line 26 = .ok (.iconst (-1), 1) := by decide +kernel
theorem dX11_line_27 : decode cX11_line 27 = .ok (.ireturn, 1) := by decide +kernel
theorem dX11_line_28 : decode cX11_line 28 = .ok (.iload_n 2, 1) := by decide +kernel
theorem dX11_line_29 : decode cX11_line 29 = .ok (.invokestatic 149, 3) := by decide +kernel
theorem dX11_line_32 : decode cX11_line 32 = .ok (.ifCond .ne 6, 3) := by decide +kernel
theorem dX11_line_35 : decode cX11_line 35 = .ok (.bipush (-2), 2) := by decide +kernel
theorem dX11_line_37 : decode cX11_line 37 = .ok (.ireturn, 1) := by decide +kernel
theorem dX11_line_38 : decode cX11_line 38 = .ok (.aload_n 0, 1) := by decide +kernel
theorem dX11_line_39 : decode cX11_line 39 = .ok (.iload_n 1, 1) := by decide +kernel
theorem dX11_line_40 : decode cX11_line 40 = .ok (.iload_n 2, 1) := by decide +kernel
theorem dX11_line_41 : decode cX11_line 41 = .ok (.iconst 0, 1) := by decide +kernel
theorem dX11_line_42 : decode cX11_line 42 = .ok (.invokevirtual 185, 3) := by decide +kernel
theorem dX11_line_45 : decode cX11_line 45 = .ok (.ifCond .ne 6, 3) := by decide +kernel
theorem dX11_line_48 : decode cX11_line 48 = .ok (.bipush (-9), 2) := by decide +kernel
theorem dX11_line_50 : decode cX11_line 50 = .ok (.ireturn, 1) := by decide +kernel
theorem dX11_line_51 : decode cX11_line 51 = .ok (.iload_n 3, 1) := by decide +kernel
theorem dX11_line_52 : decode cX11_line 52 = .ok (.tableswitch 69 0 3 #[32, 40, 48, 56], 32) := by decide +kernel
theorem dX11_line_84 : decode cX11_line 84 = .ok (.aload_n 0, 1) := by decide +kernel
theorem dX11_line_85 : decode cX11_line 85 = .ok (.getfield 67, 3) := by decide +kernel
theorem dX11_line_88 : decode cX11_line 88 = .ok (.getfield 189, 3) := by decide +kernel
theorem dX11_line_91 : decode cX11_line 91 = .ok (.ireturn, 1) := by decide +kernel
theorem dX11_line_92 : decode cX11_line 92 = .ok (.aload_n 0, 1) := by decide +kernel
theorem dX11_line_93 : decode cX11_line 93 = .ok (.getfield 67, 3) := by decide +kernel
theorem dX11_line_96 : decode cX11_line 96 = .ok (.getfield 193, 3) := by decide +kernel
theorem dX11_line_99 : decode cX11_line 99 = .ok (.ireturn, 1) := by decide +kernel
theorem dX11_line_100 : decode cX11_line 100 = .ok (.aload_n 0, 1) := by decide +kernel
theorem dX11_line_101 : decode cX11_line 101 = .ok (.getfield 67, 3) := by decide +kernel
theorem dX11_line_104 : decode cX11_line 104 = .ok (.getfield 196, 3) := by decide +kernel
theorem dX11_line_107 : decode cX11_line 107 = .ok (.ireturn, 1) := by decide +kernel
theorem dX11_line_108 : decode cX11_line 108 = .ok (.aload_n 0, 1) := by decide +kernel
theorem dX11_line_109 : decode cX11_line 109 = .ok (.getfield 67, 3) := by decide +kernel
theorem dX11_line_112 : decode cX11_line 112 = .ok (.getfield 199, 3) := by decide +kernel
theorem dX11_line_115 : decode cX11_line 115 = .ok (.bipush 26, 2) := by decide +kernel
theorem dX11_line_117 : decode cX11_line 117 = .ok (.invokevirtual 120, 3) := by decide +kernel
theorem dX11_line_120 : decode cX11_line 120 = .ok (.ireturn, 1) := by decide +kernel
theorem dX11_line_121 : decode cX11_line 121 = .ok (.iload_n 3, 1) := by decide +kernel
theorem dX11_line_122 : decode cX11_line 122 = .ok (.bipush 10, 2) := by decide +kernel
theorem dX11_line_124 : decode cX11_line 124 = .ok (.isub, 1) := by decide +kernel
theorem dX11_line_125 : decode cX11_line 125 = .ok (.aload_n 0, 1) := by decide +kernel
theorem dX11_line_126 : decode cX11_line 126 = .ok (.getfield 67, 3) := by decide +kernel
theorem dX11_line_129 : decode cX11_line 129 = .ok (.getfield 193, 3) := by decide +kernel
theorem dX11_line_132 : decode cX11_line 132 = .ok (.if_icmp .ge 20, 3) := by decide +kernel
theorem dX11_line_135 : decode cX11_line 135 = .ok (.aload_n 0, 1) := by decide +kernel
theorem dX11_line_136 : decode cX11_line 136 = .ok (.getfield 67, 3) := by decide +kernel
theorem dX11_line_139 : decode cX11_line 139 = .ok (.getfield 202, 3) := by decide +kernel
theorem dX11_line_142 : decode cX11_line 142 = .ok (.iload_n 3, 1) := by decide +kernel
theorem dX11_line_143 : decode cX11_line 143 = .ok (.bipush 10, 2) := by decide +kernel
theorem dX11_line_145 : decode cX11_line 145 = .ok (.isub, 1) := by decide +kernel
theorem dX11_line_146 : decode cX11_line 146 = .ok (.invokevirtual 120, 3) := by decide +kernel
theorem dX11_line_149 : decode cX11_line 149 = .ok (.goto 4, 3) := by decide +kernel
theorem dX11_line_152 : decode cX11_line 152 = .ok (.iconst (-1), 1) := by decide +kernel
theorem dX11_line_153 : decode cX11_line 153 = .ok (.ireturn, 1) := by decide +kernel
theorem dX11_needs_0 : decode cX11_needs 0 = .ok (.aload_n 0, 1) := by decide +kernel
theorem dX11_needs_1 : decode cX11_needs 1 = .ok (.getfield 48, 3) := by decide +kernel
theorem dX11_needs_4 : decode cX11_needs 4 = .ok (.iload_n 1, 1) := by decide +kernel
theorem dX11_needs_5 : decode cX11_needs 5 = .ok (.invokevirtual 182, 3) := by decide +kernel
theorem dX11_needs_8 : decode cX11_needs 8 = .ok (.ifCond .eq 10, 3) := by decide +kernel
theorem dX11_needs_11 : decode cX11_needs 11 = .ok (.iload_n 3, 1) := by decide +kernel
theorem dX11_needs_12 : decode cX11_needs 12 = .ok (.invokestatic 103, 3) := by decide +kernel
theorem dX11_needs_15 : decode cX11_needs 15 = .ok (.ifCond .ne 5, 3) := by decide +kernel
theorem dX11_needs_18 : decode cX11_needs 18 = .ok (.iconst (-1), 1) := by decide +kernel
theorem dX11_needs_19 : decode cX11_needs 19 = .ok (.ireturn, 1) := by decide +kernel
theorem dX11_needs_20 : decode cX11_needs 20 = .ok (.iload_n 2, 1) := by decide +kernel
theorem dX11_needs_21 : decode cX11_needs 21 = .ok (.invokestatic 149, 3) := by decide +kernel
theorem dX11_needs_24 : decode cX11_needs 24 = .ok (.ifCond .ne 6, 3) := by decide +kernel
theorem dX11_needs_27 : decode cX11_needs 27 = .ok (.bipush (-2), 2) := by decide +kernel
theorem dX11_needs_29 : decode cX11_needs 29 = .ok (.ireturn, 1) := by decide +kernel
theorem dX11_needs_30 : decode cX11_needs 30 = .ok (.aload_n 0, 1) := by decide +kernel
theorem dX11_needs_31 : decode cX11_needs 31 = .ok (.iload_n 1, 1) := by decide +kernel
theorem dX11_needs_32 : decode cX11_needs 32 = .ok (.iload_n 2, 1) := by decide +kernel
theorem dX11_needs_33 : decode cX11_needs 33 = .ok (.iconst 0, 1) := by decide +kernel
theorem dX11_needs_34 : decode cX11_needs 34 = .ok (.invokevirtual 185, 3) := by decide +kernel
theorem dX11_needs_37 : decode cX11_needs 37 = .ok (.ifCond .eq 17, 3) := by decide +kernel
theorem dX11_needs_40 : decode cX11_needs 40 = .ok (.aload_n 0, 1) := by decide +kernel
theorem dX11_needs_41 : decode cX11_needs 41 = .ok (.getfield 67, 3) := by decide +kernel
theorem dX11_needs_44 : decode cX11_needs 44 = .ok (.getfield 199, 3) := by decide +kernel
theorem dX11_needs_47 : decode cX11_needs 47 = .ok (.iload_n 3, 1) := by decide +kernel
theorem dX11_needs_48 : decode cX11_needs 48 = .ok (.invokevirtual 120, 3) := by decide +kernel
theorem dX11_needs_51 : decode cX11_needs 51 = .ok (.goto 5, 3) := by decide +kernel
theorem dX11_needs_54 : decode cX11_needs 54 = .ok (.bipush (-9), 2) := by decide +kernel
theorem dX11_needs_56 : decode cX11_needs 56 = .ok (.ireturn, 1) := by decide +kernel
theorem dX11_enough_0 : decode cX11_enough 0 = .ok (.aload_n 0, 1) := by decide +kernel
theorem dX11_enough_1 : decode cX11_enough 1 = .ok (.getfield 48, 3) := by decide +kernel
theorem dX11_enough_4 : decode cX11_enough 4 = .ok (.iload_n 1, 1) := by decide +kernel
theorem dX11_enough_5 : decode cX11_enough 5 = .ok (.invokevirtual 182, 3) := by decide +kernel
theorem dX11_enough_8 : decode cX11_enough 8 = .ok (.ifCond .eq 12, 3) := by decide +kernel
theorem dX11_enough_11 : decode cX11_enough 11 = .ok (.iload_n 2, 1) := by decide +kernel
theorem dX11_enough_12 : decode cX11_enough 12 = .ok (.ifCond .lt 8, 3) := by decide +kernel
theorem dX11_enough_15 : decode cX11_enough 15 = .ok (.iload_n 2, 1) := by decide +kernel
theorem dX11_enough_16 : decode cX11_enough 16 = .ok (.iconst 2, 1) := by decide +kernel
theorem dX11_enough_17 : decode cX11_enough 17 = .ok (.if_icmp .le 5, 3) := by decide +kernel
theorem dX11_enough_20 : decode cX11_enough 20 = .ok (.iconst (-1), 1) := by decide +kernel
theorem dX11_enough_21 : decode cX11_enough 21 = .ok (.ireturn, 1) := by decide +kernel
theorem dX11_enough_22 : decode cX11_enough 22 = .ok (.aload_n 0, 1) := by decide +kernel
theorem dX11_enough_23 : decode cX11_enough 23 = .ok (.iload_n 1, 1) := by decide +kernel
theorem dX11_enough_24 : decode cX11_enough 24 = .ok (.aload_n 0, 1) := by decide +kernel
theorem dX11_enough_25 : decode cX11_enough 25 = .ok (.invokevirtual 133, 3) := by decide +kernel
theorem dX11_enough_28 : decode cX11_enough 28 = .ok (.iconst 0, 1) := by decide +kernel
theorem dX11_enough_29 : decode cX11_enough 29 = .ok (.invokevirtual 185, 3) := by decide +kernel
theorem dX11_enough_32 : decode cX11_enough 32 = .ok (.ifCond .ne 6, 3) := by decide +kernel
theorem dX11_enough_35 : decode cX11_enough 35 = .ok (.bipush (-9), 2) := by decide +kernel
theorem dX11_enough_37 : decode cX11_enough 37 = .ok (.ireturn, 1) := by decide +kernel
theorem dX11_enough_38 : decode cX11_enough 38 = .ok (.aload_n 0, 1) := by decide +kernel
theorem dX11_enough_39 : decode cX11_enough 39 = .ok (.getfield 55, 3) := by decide +kernel
theorem dX11_enough_42 : decode cX11_enough 42 = .ok (.aload_n 0, 1) := by decide +kernel
theorem dX11_enough_43 : decode cX11_enough 43 = .ok (.getfield 67, 3) := by decide +kernel
theorem dX11_enough_46 : decode cX11_enough 46 = .ok (.getfield 199, 3) := by decide +kernel
theorem dX11_enough_49 : decode cX11_enough 49 = .ok (.invokevirtual 205, 3) := by decide +kernel
theorem dX11_enough_52 : decode cX11_enough 52 = .ok (.istore_n 3, 1) := by decide +kernel
theorem dX11_enough_53 : decode cX11_enough 53 = .ok (.iload_n 2, 1) := by decide +kernel
theorem dX11_enough_54 : decode cX11_enough 54 = .ok (.ifCond .ne 15, 3) := by decide +kernel
theorem dX11_enough_57 : decode cX11_enough 57 = .ok (.iload_n 3, 1) := by decide +kernel
theorem dX11_enough_58 : decode cX11_enough 58 = .ok (.bipush (-5), 2) := by decide +kernel
theorem dX11_enough_60 : decode cX11_enough 60 = .ok (.if_icmp .ne 7, 3) := by decide +kernel
theorem dX11_enough_63 : decode cX11_enough 63 = .ok (.iconst 1, 1) := by decide +kernel
theorem dX11_enough_64 : decode cX11_enough 64 = .ok (.goto 4, 3) := by decide +kernel
theorem dX11_enough_67 : decode cX11_enough 67 = .ok (.iconst 0, 1) := by decide +kernel
theorem dX11_enough_68 : decode cX11_enough 68 = .ok (.ireturn, 1) := by decide +kernel
theorem dX11_enough_69 : decode cX11_enough 69 = .ok (.iload_n 2, 1) := by decide +kernel
theorem dX11_enough_70 : decode cX11_enough 70 = .ok (.iconst 1, 1) := by decide +kernel
theorem dX11_enough_71 : decode cX11_enough 71 = .ok (.if_icmp .ne 7, 3) := by decide +kernel
theorem dX11_enough_74 : decode cX11_enough 74 = .ok (.iload_n 3, 1) := by decide +kernel
theorem dX11_enough_75 : decode cX11_enough 75 = .ok (.goto 11, 3) := by decide +kernel
theorem dX11_enough_78 : decode cX11_enough 78 = .ok (.aload_n 0, 1) := by decide +kernel
theorem dX11_enough_79 : decode cX11_enough 79 = .ok (.getfield 67, 3) := by decide +kernel
theorem dX11_enough_82 : decode cX11_enough 82 = .ok (.iload_n 3, 1) := by decide +kernel
theorem dX11_enough_83 : decode cX11_enough 83 = .ok (.invokevirtual 208, 3) := by decide +kernel
theorem dX11_enough_86 : decode cX11_enough 86 = .ok (.ireturn, 1) := by decide +kernel
theorem dX11_page_0 : decode cX11_page 0 = .ok (.aload_n 0, 1) := by decide +kernel
theorem dX11_page_1 : decode cX11_page 1 = .ok (.getfield 48, 3) := by decide +kernel
theorem dX11_page_4 : decode cX11_page 4 = .ok (.iload_n 1, 1) := by decide +kernel
theorem dX11_page_5 : decode cX11_page 5 = .ok (.invokevirtual 182, 3) := by decide +kernel
theorem dX11_page_8 : decode cX11_page 8 = .ok (.ifCond .ne 5, 3) := by decide +kernel
theorem dX11_page_11 : decode cX11_page 11 = .ok (.iconst (-1), 1) := by decide +kernel
theorem dX11_page_12 : decode cX11_page 12 = .ok (.ireturn, 1) := by decide +kernel
theorem dX11_page_13 : decode cX11_page 13 = .ok (.aload_n 0, 1) := by decide +kernel
theorem dX11_page_14 : decode cX11_page 14 = .ok (.getfield 55, 3) := by decide +kernel
theorem dX11_page_17 : decode cX11_page 17 = .ok (.invokevirtual 211, 3) := by decide +kernel
theorem dX11_page_20 : decode cX11_page 20 = .ok (.ifCond .eq 6, 3) := by decide +kernel
theorem dX11_page_23 : decode cX11_page 23 = .ok (.bipush (-4), 2) := by decide +kernel
theorem dX11_page_25 : decode cX11_page 25 = .ok (.ireturn, 1) := by decide +kernel
theorem dX11_page_26 : decode cX11_page 26 = .ok (.aload_n 0, 1) := by decide +kernel
theorem dX11_page_27 : decode cX11_page 27 = .ok (.iload_n 1, 1) := by decide +kernel
theorem dX11_page_28 : decode cX11_page 28 = .ok (.aload_n 0, 1) := by decide +kernel
theorem dX11_page_29 : decode cX11_page 29 = .ok (.invokevirtual 133, 3) := by decide +kernel
theorem dX11_page_32 : decode cX11_page 32 = .ok (.iconst 0, 1) := by decide +kernel
theorem dX11_page_33 : decode cX11_page 33 = .ok (.invokevirtual 185, 3) := by decide +kernel
theorem dX11_page_36 : decode cX11_page 36 = .ok (.ifCond .ne 6, 3) := by decide +kernel
theorem dX11_page_39 : decode cX11_page 39 = .ok (.bipush (-9), 2) := by decide +kernel
theorem dX11_page_41 : decode cX11_page 41 = .ok (.ireturn, 1) := by decide +kernel
theorem dX11_page_42 : decode cX11_page 42 = .ok (.aload_n 0, 1) := by decide +kernel
theorem dX11_page_43 : decode cX11_page 43 = .ok (.getfield 55, 3) := by decide +kernel
theorem dX11_page_46 : decode cX11_page 46 = .ok (.aload_n 0, 1) := by decide +kernel
theorem dX11_page_47 : decode cX11_page 47 = .ok (.getfield 67, 3) := by decide +kernel
theorem dX11_page_50 : decode cX11_page 50 = .ok (.getfield 199, 3) := by decide +kernel
theorem dX11_page_53 : decode cX11_page 53 = .ok (.invokevirtual 205, 3) := by decide +kernel
theorem dX11_page_56 : decode cX11_page 56 = .ok (.bipush (-5), 2) := by decide +kernel
theorem dX11_page_58 : decode cX11_page 58 = .ok (.if_icmp .ne 20, 3) := by decide +kernel
theorem dX11_page_61 : decode cX11_page 61 = .ok (.aload_n 0, 1) := by decide +kernel
theorem dX11_page_62 : decode cX11_page 62 = .ok (.getfield 55, 3) := by decide +kernel
theorem dX11_page_65 : decode cX11_page 65 = .ok (.aload_n 0, 1) := by decide +kernel
theorem dX11_page_66 : decode cX11_page 66 = .ok (.getfield 67, 3) := by decide +kernel
theorem dX11_page_69 : decode cX11_page 69 = .ok (.getfield 199, 3) := by decide +kernel
theorem dX11_page_72 : decode cX11_page 72 = .ok (.invokevirtual 214, 3) := by decide +kernel
theorem dX11_page_75 : decode cX11_page 75 = .ok (.goto 5, 3) := by decide +kernel
theorem dX11_page_78 : decode cX11_page 78 = .ok (.bipush (-3), 2) := by decide +kernel
theorem dX11_page_80 : decode cX11_page 80 = .ok (.ireturn, 1) := by decide +kernel
theorem dX11_pull_0 : decode cX11_pull 0 = .ok (.aload_n 0, 1) := by decide +kernel
theorem dX11_pull_1 : decode cX11_pull 1 = .ok (.getfield 55, 3) := by decide +kernel
theorem dX11_pull_4 : decode cX11_pull 4 = .ok (.iload_n 1, 1) := by decide +kernel
theorem dX11_pull_5 : decode cX11_pull 5 = .ok (.invokevirtual 217, 3) := by decide +kernel
theorem dX11_pull_8 : decode cX11_pull 8 = .ok (.ifCond .ne 5, 3) := by decide +kernel
theorem dX11_pull_11 : decode cX11_pull 11 = .ok (.iconst (-1), 1) := by decide +kernel
theorem dX11_pull_12 : decode cX11_pull 12 = .ok (.ireturn, 1) := by decide +kernel
theorem dX11_pull_13 : decode cX11_pull 13 = .ok (.iload_n 2, 1) := by decide +kernel
theorem dX11_pull_14 : decode cX11_pull 14 = .ok (.iconst 1, 1) := by decide +kernel
theorem dX11_pull_15 : decode cX11_pull 15 = .ok (.if_icmp .lt 10, 3) := by decide +kernel
theorem dX11_pull_18 : decode cX11_pull 18 = .ok (.iload_n 2, 1) := by decide +kernel
theorem dX11_pull_19 : decode cX11_pull 19 = .ok (.sipush 500, 3) := by decide +kernel
theorem dX11_pull_22 : decode cX11_pull 22 = .ok (.if_icmp .le 6, 3) := by decide +kernel
theorem dX11_pull_25 : decode cX11_pull 25 = .ok (.bipush (-2), 2) := by decide +kernel
theorem dX11_pull_27 : decode cX11_pull 27 = .ok (.ireturn, 1) := by decide +kernel
theorem dX11_pull_28 : decode cX11_pull 28 = .ok (.aload_n 0, 1) := by decide +kernel
theorem dX11_pull_29 : decode cX11_pull 29 = .ok (.getfield 55, 3) := by decide +kernel
theorem dX11_pull_32 : decode cX11_pull 32 = .ok (.iload_n 1, 1) := by decide +kernel
theorem dX11_pull_33 : decode cX11_pull 33 = .ok (.invokevirtual 220, 3) := by decide +kernel
theorem dX11_pull_36 : decode cX11_pull 36 = .ok (.ifCond .ne 6, 3) := by decide +kernel
theorem dX11_pull_39 : decode cX11_pull 39 = .ok (.bipush (-3), 2) := by decide +kernel
theorem dX11_pull_41 : decode cX11_pull 41 = .ok (.ireturn, 1) := by decide +kernel
theorem dX11_pull_42 : decode cX11_pull 42 = .ok (.aload_n 0, 1) := by decide +kernel
theorem dX11_pull_43 : decode cX11_pull 43 = .ok (.getfield 55, 3) := by decide +kernel
theorem dX11_pull_46 : decode cX11_pull 46 = .ok (.getfield 223, 3) := by decide +kernel
theorem dX11_pull_49 : decode cX11_pull 49 = .ok (.iload_n 1, 1) := by decide +kernel
theorem dX11_pull_50 : decode cX11_pull 50 = .ok (.iload_n 2, 1) := by decide +kernel
theorem dX11_pull_51 : decode cX11_pull 51 = .ok (.invokevirtual 136, 3) := by decide +kernel
theorem dX11_pull_54 : decode cX11_pull 54 = .ok (.aload_n 0, 1) := by decide +kernel
theorem dX11_pull_55 : decode cX11_pull 55 = .ok (.getfield 55, 3) := by decide +kernel
theorem dX11_pull_58 : decode cX11_pull 58 = .ok (.getfield 223, 3) := by decide +kernel
theorem dX11_pull_61 : decode cX11_pull 61 = .ok (.iload_n 1, 1) := by decide +kernel
theorem dX11_pull_62 : decode cX11_pull 62 = .ok (.invokevirtual 120, 3) := by decide +kernel
theorem dX11_pull_65 : decode cX11_pull 65 = .ok (.ireturn, 1) := by decide +kernel
theorem dX11_down_0 : decode cX11_down 0 = .ok (.aload_n 0, 1) := by decide +kernel
theorem dX11_down_1 : decode cX11_down 1 = .ok (.getfield 55, 3) := by decide +kernel
theorem dX11_down_4 : decode cX11_down 4 = .ok (.iload_n 1, 1) := by decide +kernel
theorem dX11_down_5 : decode cX11_down 5 = .ok (.invokevirtual 217, 3) := by decide +kernel
theorem dX11_down_8 : decode cX11_down 8 = .ok (.ifCond .ne 5, 3) := by decide +kernel
theorem dX11_down_11 : decode cX11_down 11 = .ok (.iconst (-1), 1) := by decide +kernel
theorem dX11_down_12 : decode cX11_down 12 = .ok (.ireturn, 1) := by decide +kernel
theorem dX11_down_13 : decode cX11_down 13 = .ok (.aload_n 0, 1) := by decide +kernel
theorem dX11_down_14 : decode cX11_down 14 = .ok (.getfield 55, 3) := by decide +kernel
theorem dX11_down_17 : decode cX11_down 17 = .ok (.iload_n 1, 1) := by decide +kernel
theorem dX11_down_18 : decode cX11_down 18 = .ok (.invokevirtual 220, 3) := by decide +kernel
theorem dX11_down_21 : decode cX11_down 21 = .ok (.ifCond .eq 14, 3) := by decide +kernel
theorem dX11_down_24 : decode cX11_down 24 = .ok (.aload_n 0, 1) := by decide +kernel
theorem dX11_down_25 : decode cX11_down 25 = .ok (.getfield 55, 3) := by decide +kernel
theorem dX11_down_28 : decode cX11_down 28 = .ok (.iload_n 1, 1) := by decide +kernel
theorem dX11_down_29 : decode cX11_down 29 = .ok (.invokevirtual 226, 3) := by decide +kernel
theorem dX11_down_32 : decode cX11_down 32 = .ok (.goto 5, 3) := by decide +kernel
theorem dX11_down_35 : decode cX11_down 35 = .ok (.bipush (-3), 2) := by decide +kernel
theorem dX11_down_37 : decode cX11_down 37 = .ok (.ireturn, 1) := by decide +kernel
theorem dX11_press_0 : decode cX11_press 0 = .ok (.iload_n 1, 1) := by decide +kernel
theorem dX11_press_1 : decode cX11_press 1 = .ok (.ifCond .lt 8, 3) := by decide +kernel
theorem dX11_press_4 : decode cX11_press 4 = .ok (.iload_n 1, 1) := by decide +kernel
theorem dX11_press_5 : decode cX11_press 5 = .ok (.iconst 4, 1) := by decide +kernel
theorem dX11_press_6 : decode cX11_press 6 = .ok (.if_icmp .lt 5, 3) := by decide +kernel
theorem dX11_press_9 : decode cX11_press 9 = .ok (.iconst (-1), 1) := by decide +kernel
theorem dX11_press_10 : decode cX11_press 10 = .ok (.ireturn, 1) := by decide +kernel
theorem dX11_press_11 : decode cX11_press 11 = .ok (.iload_n 2, 1) := by decide +kernel
theorem dX11_press_12 : decode cX11_press 12 = .ok (.ifCond .lt 9, 3) := by decide +kernel
theorem dX11_press_15 : decode cX11_press 15 = .ok (.iload_n 2, 1) := by decide +kernel
theorem dX11_press_16 : decode cX11_press 16 = .ok (.bipush 99, 2) := by decide +kernel
theorem dX11_press_18 : decode cX11_press 18 = .ok (.if_icmp .le 6, 3) := by decide +kernel
theorem dX11_press_21 : decode cX11_press 21 = .ok (.bipush (-2), 2) := by decide +kernel
theorem dX11_press_23 : decode cX11_press 23 = .ok (.ireturn, 1) := by decide +kernel
theorem dX11_press_24 : decode cX11_press 24 = .ok (.aload_n 0, 1) := by decide +kernel
theorem dX11_press_25 : decode cX11_press 25 = .ok (.getfield 74, 3) := by decide +kernel
theorem dX11_press_28 : decode cX11_press 28 = .ok (.getfield 229, 3) := by decide +kernel
theorem dX11_press_31 : decode cX11_press 31 = .ok (.iload_n 1, 1) := by decide +kernel
theorem dX11_press_32 : decode cX11_press 32 = .ok (.iload_n 2, 1) := by decide +kernel
theorem dX11_press_33 : decode cX11_press 33 = .ok (.invokevirtual 111, 3) := by decide +kernel
theorem dX11_press_36 : decode cX11_press 36 = .ok (.ireturn, 1) := by decide +kernel
theorem dX11_order_0 : decode cX11_order 0 = .ok (.aload_n 0, 1) := by decide +kernel
theorem dX11_order_1 : decode cX11_order 1 = .ok (.getfield 55, 3) := by decide +kernel
theorem dX11_order_4 : decode cX11_order 4 = .ok (.iload_n 1, 1) := by decide +kernel
theorem dX11_order_5 : decode cX11_order 5 = .ok (.invokevirtual 217, 3) := by decide +kernel
theorem dX11_order_8 : decode cX11_order 8 = .ok (.ifCond .ne 5, 3) := by decide +kernel
theorem dX11_order_11 : decode cX11_order 11 = .ok (.iconst (-1), 1) := by decide +kernel
theorem dX11_order_12 : decode cX11_order 12 = .ok (.ireturn, 1) := by decide +kernel
theorem dX11_order_13 : decode cX11_order 13 = .ok (.iload_n 2, 1) := by decide +kernel
theorem dX11_order_14 : decode cX11_order 14 = .ok (.iconst 1, 1) := by decide +kernel
theorem dX11_order_15 : decode cX11_order 15 = .ok (.if_icmp .lt 10, 3) := by decide +kernel
theorem dX11_order_18 : decode cX11_order 18 = .ok (.iload_n 2, 1) := by decide +kernel
theorem dX11_order_19 : decode cX11_order 19 = .ok (.sipush 999, 3) := by decide +kernel
theorem dX11_order_22 : decode cX11_order 22 = .ok (.if_icmp .le 6, 3) := by decide +kernel
theorem dX11_order_25 : decode cX11_order 25 = .ok (.bipush (-2), 2) := by decide +kernel
theorem dX11_order_27 : decode cX11_order 27 = .ok (.ireturn, 1) := by decide +kernel
theorem dX11_order_28 : decode cX11_order 28 = .ok (.aload_n 0, 1) := by decide +kernel
theorem dX11_order_29 : decode cX11_order 29 = .ok (.getfield 74, 3) := by decide +kernel
theorem dX11_order_32 : decode cX11_order 32 = .ok (.aload_n 0, 1) := by decide +kernel
theorem dX11_order_33 : decode cX11_order 33 = .ok (.invokevirtual 133, 3) := by decide +kernel
theorem dX11_order_36 : decode cX11_order 36 = .ok (.invokevirtual 232, 3) := by decide +kernel
theorem dX11_order_39 : decode cX11_order 39 = .ok (.istore_n 3, 1) := by decide +kernel
theorem dX11_order_40 : decode cX11_order 40 = .ok (.iload_n 3, 1) := by decide +kernel
theorem dX11_order_41 : decode cX11_order 41 = .ok (.ifCond .ge 6, 3) := by decide +kernel
theorem dX11_order_44 : decode cX11_order 44 = .ok (.bipush (-3), 2) := by decide +kernel
theorem dX11_order_46 : decode cX11_order 46 = .ok (.ireturn, 1) := by decide +kernel
theorem dX11_order_47 : decode cX11_order 47 = .ok (.aload_n 0, 1) := by decide +kernel
theorem dX11_order_48 : decode cX11_order 48 = .ok (.getfield 74, 3) := by decide +kernel
theorem dX11_order_51 : decode cX11_order 51 = .ok (.getfield 235, 3) := by decide +kernel
theorem dX11_order_54 : decode cX11_order 54 = .ok (.invokevirtual 238, 3) := by decide +kernel
theorem dX11_order_57 : decode cX11_order 57 = .ok (.ifCond .eq 8, 3) := by decide +kernel
theorem dX11_order_60 : decode cX11_order 60 = .ok (.bipush (-4), 2) := by decide +kernel
theorem dX11_order_62 : decode cX11_order 62 = .ok (.goto 20, 3) := by decide +kernel
theorem dX11_order_65 : decode cX11_order 65 = .ok (.aload_n 0, 1) := by decide +kernel
theorem dX11_order_66 : decode cX11_order 66 = .ok (.getfield 74, 3) := by decide +kernel
theorem dX11_order_69 : decode cX11_order 69 = .ok (.iload_n 3, 1) := by decide +kernel
theorem dX11_order_70 : decode cX11_order 70 = .ok (.iload_n 2, 1) := by decide +kernel
theorem dX11_order_71 : decode cX11_order 71 = .ok (.aload_n 0, 1) := by decide +kernel
theorem dX11_order_72 : decode cX11_order 72 = .ok (.invokevirtual 133, 3) := by decide +kernel
theorem dX11_order_75 : decode cX11_order 75 = .ok (.aload_n 0, 1) := by decide +kernel
theorem dX11_order_76 : decode cX11_order 76 = .ok (.getfield 32, 3) := by decide +kernel
theorem dX11_order_79 : decode cX11_order 79 = .ok (.invokevirtual 239, 3) := by decide +kernel
theorem dX11_order_82 : decode cX11_order 82 = .ok (.ireturn, 1) := by decide +kernel
theorem dX11_done_0 : decode cX11_done 0 = .ok (.iload_n 1, 1) := by decide +kernel
theorem dX11_done_1 : decode cX11_done 1 = .ok (.ifCond .lt 17, 3) := by decide +kernel
theorem dX11_done_4 : decode cX11_done 4 = .ok (.iload_n 1, 1) := by decide +kernel
theorem dX11_done_5 : decode cX11_done 5 = .ok (.aload_n 0, 1) := by decide +kernel
theorem dX11_done_6 : decode cX11_done 6 = .ok (.getfield 74, 3) := by decide +kernel
theorem dX11_done_9 : decode cX11_done 9 = .ok (.getfield 235, 3) := by decide +kernel
theorem dX11_done_12 : decode cX11_done 12 = .ok (.invokevirtual 140, 3) := by decide +kernel
theorem dX11_done_15 : decode cX11_done 15 = .ok (.if_icmp .lt 5, 3) := by decide +kernel
theorem dX11_done_18 : decode cX11_done 18 = .ok (.iconst (-1), 1) := by decide +kernel
theorem dX11_done_19 : decode cX11_done 19 = .ok (.ireturn, 1) := by decide +kernel
theorem dX11_done_20 : decode cX11_done 20 = .ok (.iload_n 2, 1) := by decide +kernel
theorem dX11_done_21 : decode cX11_done 21 = .ok (.tableswitch 63 0 2 #[27, 39, 51], 27) := by decide +kernel
theorem dX11_done_48 : decode cX11_done 48 = .ok (.aload_n 0, 1) := by decide +kernel
theorem dX11_done_49 : decode cX11_done 49 = .ok (.getfield 74, 3) := by decide +kernel
theorem dX11_done_52 : decode cX11_done 52 = .ok (.getfield 235, 3) := by decide +kernel
theorem dX11_done_55 : decode cX11_done 55 = .ok (.iload_n 1, 1) := by decide +kernel
theorem dX11_done_56 : decode cX11_done 56 = .ok (.invokevirtual 120, 3) := by decide +kernel
theorem dX11_done_59 : decode cX11_done 59 = .ok (.ireturn, 1) := by decide +kernel
theorem dX11_done_60 : decode cX11_done 60 = .ok (.aload_n 0, 1) := by decide +kernel
theorem dX11_done_61 : decode cX11_done 61 = .ok (.getfield 74, 3) := by decide +kernel
theorem dX11_done_64 : decode cX11_done 64 = .ok (.getfield 243, 3) := by decide +kernel
theorem dX11_done_67 : decode cX11_done 67 = .ok (.iload_n 1, 1) := by decide +kernel
theorem dX11_done_68 : decode cX11_done 68 = .ok (.invokevirtual 120, 3) := by decide +kernel
theorem dX11_done_71 : decode cX11_done 71 = .ok (.ireturn, 1) := by decide +kernel
theorem dX11_done_72 : decode cX11_done 72 = .ok (.aload_n 0, 1) := by decide +kernel
theorem dX11_done_73 : decode cX11_done 73 = .ok (.getfield 74, 3) := by decide +kernel
theorem dX11_done_76 : decode cX11_done 76 = .ok (.getfield 246, 3) := by decide +kernel
theorem dX11_done_79 : decode cX11_done 79 = .ok (.iload_n 1, 1) := by decide +kernel
theorem dX11_done_80 : decode cX11_done 80 = .ok (.invokevirtual 120, 3) := by decide +kernel
theorem dX11_done_83 : decode cX11_done 83 = .ok (.ireturn, 1) := by decide +kernel
theorem dX11_done_84 : decode cX11_done 84 = .ok (.iconst (-1), 1) := by decide +kernel
theorem dX11_done_85 : decode cX11_done 85 = .ok (.ireturn, 1) := by decide +kernel
theorem dX11_leaf_0 : decode cX11_leaf 0 = .ok (.iload_n 1, 1) := by decide +kernel
theorem dX11_leaf_1 : decode cX11_leaf 1 = .ok (.invokestatic 249, 3) := by decide +kernel
theorem dX11_leaf_4 : decode cX11_leaf 4 = .ok (.ifCond .eq 15, 3) := by decide +kernel
theorem dX11_leaf_7 : decode cX11_leaf 7 = .ok (.iload 4, 2) := by decide +kernel
theorem dX11_leaf_9 : decode cX11_leaf 9 = .ok (.ifCond .lt 10, 3) := by decide +kernel
theorem dX11_leaf_12 : decode cX11_leaf 12 = .ok (.iload 4, 2) := by decide +kernel
theorem dX11_leaf_14 : decode cX11_leaf 14 = .ok (.bipush 10, 2) := by decide +kernel
theorem dX11_leaf_16 : decode cX11_leaf 16 = .ok (.if_icmp .lt 5, 3) := by decide +kernel
theorem dX11_leaf_19 : decode cX11_leaf 19 = .ok (.iconst (-1), 1) := by decide +kernel
theorem dX11_leaf_20 : decode cX11_leaf 20 = .ok (.ireturn, 1) := by decide +kernel
theorem dX11_leaf_21 : decode cX11_leaf 21 = .ok (.iload_n 2, 1) := by decide +kernel
theorem dX11_leaf_22 : decode cX11_leaf 22 = .ok (.ifCond .lt 20, 3) := by decide +kernel
theorem dX11_leaf_25 : decode cX11_leaf 25 = .ok (.iload_n 2, 1) := by decide +kernel
theorem dX11_leaf_26 : decode cX11_leaf 26 = .ok (.bipush 29, 2) := by decide +kernel
theorem dX11_leaf_28 : decode cX11_leaf 28 = .ok (.if_icmp .gt 14, 3) := by decide +kernel
theorem dX11_leaf_31 : decode cX11_leaf 31 = .ok (.iload_n 3, 1) := by decide +kernel
theorem dX11_leaf_32 : decode cX11_leaf 32 = .ok (.ifCond .lt 10, 3) := by decide +kernel
theorem dX11_leaf_35 : decode cX11_leaf 35 = .ok (.iload_n 3, 1) := by decide +kernel
theorem dX11_leaf_36 : decode cX11_leaf 36 = .ok (.sipush 255, 3) := by decide +kernel
theorem dX11_leaf_39 : decode cX11_leaf 39 = .ok (.if_icmp .le 6, 3) := by decide +kernel
theorem dX11_leaf_42 : decode cX11_leaf 42 = .ok (.bipush (-2), 2) := by decide +kernel
theorem dX11_leaf_44 : decode cX11_leaf 44 = .ok (.ireturn, 1) := by decide +kernel
theorem dX11_leaf_45 : decode cX11_leaf 45 = .ok (.aload_n 0, 1) := by decide +kernel
theorem dX11_leaf_46 : decode cX11_leaf 46 = .ok (.getfield 81, 3) := by decide +kernel
theorem dX11_leaf_49 : decode cX11_leaf 49 = .ok (.getfield 252, 3) := by decide +kernel
theorem dX11_leaf_52 : decode cX11_leaf 52 = .ok (.invokevirtual 238, 3) := by decide +kernel
theorem dX11_leaf_55 : decode cX11_leaf 55 = .ok (.ifCond .eq 8, 3) := by decide +kernel
theorem dX11_leaf_58 : decode cX11_leaf 58 = .ok (.bipush (-4), 2) := by decide +kernel
theorem dX11_leaf_60 : decode cX11_leaf 60 = .ok (.goto 15, 3) := by decide +kernel
theorem dX11_leaf_63 : decode cX11_leaf 63 = .ok (.aload_n 0, 1) := by decide +kernel
theorem dX11_leaf_64 : decode cX11_leaf 64 = .ok (.getfield 81, 3) := by decide +kernel
theorem dX11_leaf_67 : decode cX11_leaf 67 = .ok (.iload_n 1, 1) := by decide +kernel
theorem dX11_leaf_68 : decode cX11_leaf 68 = .ok (.iload_n 2, 1) := by decide +kernel
theorem dX11_leaf_69 : decode cX11_leaf 69 = .ok (.iload_n 3, 1) := by decide +kernel
theorem dX11_leaf_70 : decode cX11_leaf 70 = .ok (.iload 4, 2) := by decide +kernel
theorem dX11_leaf_72 : decode cX11_leaf 72 = .ok (.invokevirtual 255, 3) := by decide +kernel
theorem dX11_leaf_75 : decode cX11_leaf 75 = .ok (.ireturn, 1) := by decide +kernel
theorem dX11_shows_0 : decode cX11_shows 0 = .ok (.aload_n 0, 1) := by decide +kernel
theorem dX11_shows_1 : decode cX11_shows 1 = .ok (.getfield 81, 3) := by decide +kernel
theorem dX11_shows_4 : decode cX11_shows 4 = .ok (.iload_n 1, 1) := by decide +kernel
theorem dX11_shows_5 : decode cX11_shows 5 = .ok (.invokevirtual 259, 3) := by decide +kernel
theorem dX11_shows_8 : decode cX11_shows 8 = .ok (.ifCond .ne 5, 3) := by decide +kernel
theorem dX11_shows_11 : decode cX11_shows 11 = .ok (.iconst (-1), 1) := by decide +kernel
theorem dX11_shows_12 : decode cX11_shows 12 = .ok (.ireturn, 1) := by decide +kernel
theorem dX11_shows_13 : decode cX11_shows 13 = .ok (.iload_n 2, 1) := by decide +kernel
theorem dX11_shows_14 : decode cX11_shows 14 = .ok (.lookupswitch 44 #[(0, 26), (1, 35)], 26) := by decide +kernel
theorem dX11_shows_40 : decode cX11_shows 40 = .ok (.aload_n 0, 1) := by decide +kernel
theorem dX11_shows_41 : decode cX11_shows 41 = .ok (.getfield 81, 3) := by decide +kernel
theorem dX11_shows_44 : decode cX11_shows 44 = .ok (.iload_n 1, 1) := by decide +kernel
theorem dX11_shows_45 : decode cX11_shows 45 = .ok (.invokevirtual 260, 3) := by decide +kernel
theorem dX11_shows_48 : decode cX11_shows 48 = .ok (.ireturn, 1) := by decide +kernel
theorem dX11_shows_49 : decode cX11_shows 49 = .ok (.aload_n 0, 1) := by decide +kernel
theorem dX11_shows_50 : decode cX11_shows 50 = .ok (.getfield 81, 3) := by decide +kernel
theorem dX11_shows_53 : decode cX11_shows 53 = .ok (.iload_n 1, 1) := by decide +kernel
theorem dX11_shows_54 : decode cX11_shows 54 = .ok (.invokevirtual 263, 3) := by decide +kernel
theorem dX11_shows_57 : decode cX11_shows 57 = .ok (.ireturn, 1) := by decide +kernel
theorem dX11_shows_58 : decode cX11_shows 58 = .ok (.iconst (-1), 1) := by decide +kernel
theorem dX11_shows_59 : decode cX11_shows 59 = .ok (.ireturn, 1) := by decide +kernel
theorem dX11_as_0 : decode cX11_as 0 = .ok (.aload_n 0, 1) := by decide +kernel
theorem dX11_as_1 : decode cX11_as 1 = .ok (.getfield 81, 3) := by decide +kernel
theorem dX11_as_4 : decode cX11_as 4 = .ok (.iload_n 1, 1) := by decide +kernel
theorem dX11_as_5 : decode cX11_as 5 = .ok (.invokevirtual 259, 3) := by decide +kernel
theorem dX11_as_8 : decode cX11_as 8 = .ok (.ifCond .eq 10, 3) := by decide +kernel
theorem dX11_as_11 : decode cX11_as 11 = .ok (.iload_n 2, 1) := by decide +kernel
theorem dX11_as_12 : decode cX11_as 12 = .ok (.invokestatic 249, 3) := by decide +kernel
theorem dX11_as_15 : decode cX11_as 15 = .ok (.ifCond .ne 5, 3) := by decide +kernel
theorem dX11_as_18 : decode cX11_as 18 = .ok (.iconst (-1), 1) := by decide +kernel
theorem dX11_as_19 : decode cX11_as 19 = .ok (.ireturn, 1) := by decide +kernel
theorem dX11_as_20 : decode cX11_as 20 = .ok (.aload_n 0, 1) := by decide +kernel
theorem dX11_as_21 : decode cX11_as 21 = .ok (.getfield 81, 3) := by decide +kernel
theorem dX11_as_24 : decode cX11_as 24 = .ok (.getfield 252, 3) := by decide +kernel
theorem dX11_as_27 : decode cX11_as 27 = .ok (.iload_n 1, 1) := by decide +kernel
theorem dX11_as_28 : decode cX11_as 28 = .ok (.invokevirtual 120, 3) := by decide +kernel
theorem dX11_as_31 : decode cX11_as 31 = .ok (.iload_n 2, 1) := by decide +kernel
theorem dX11_as_32 : decode cX11_as 32 = .ok (.invokestatic 266, 3) := by decide +kernel
theorem dX11_as_35 : decode cX11_as 35 = .ok (.ifCond .eq 17, 3) := by decide +kernel
theorem dX11_as_38 : decode cX11_as 38 = .ok (.aload_n 0, 1) := by decide +kernel
theorem dX11_as_39 : decode cX11_as 39 = .ok (.getfield 81, 3) := by decide +kernel
theorem dX11_as_42 : decode cX11_as 42 = .ok (.getfield 270, 3) := by decide +kernel
theorem dX11_as_45 : decode cX11_as 45 = .ok (.iload_n 1, 1) := by decide +kernel
theorem dX11_as_46 : decode cX11_as 46 = .ok (.invokevirtual 120, 3) := by decide +kernel
theorem dX11_as_49 : decode cX11_as 49 = .ok (.goto 5, 3) := by decide +kernel
theorem dX11_as_52 : decode cX11_as 52 = .ok (.bipush (-6), 2) := by decide +kernel
theorem dX11_as_54 : decode cX11_as 54 = .ok (.ireturn, 1) := by decide +kernel
theorem dX11_copies_0 : decode cX11_copies 0 = .ok (.iload_n 1, 1) := by decide +kernel
theorem dX11_copies_1 : decode cX11_copies 1 = .ok (.ifCond .lt 10, 3) := by decide +kernel
theorem dX11_copies_4 : decode cX11_copies 4 = .ok (.iload_n 1, 1) := by decide +kernel
theorem dX11_copies_5 : decode cX11_copies 5 = .ok (.sipush 1024, 3) := by decide +kernel
theorem dX11_copies_8 : decode cX11_copies 8 = .ok (.if_icmp .lt 8, 3) := by decide +kernel
theorem dX11_copies_11 : decode cX11_copies 11 = .ok (.bipush (-2), 2) := by decide +kernel
theorem dX11_copies_13 : decode cX11_copies 13 = .ok (.goto 11, 3) := by decide +kernel
theorem dX11_copies_16 : decode cX11_copies 16 = .ok (.aload_n 0, 1) := by decide +kernel
theorem dX11_copies_17 : decode cX11_copies 17 = .ok (.getfield 81, 3) := by decide +kernel
theorem dX11_copies_20 : decode cX11_copies 20 = .ok (.iload_n 1, 1) := by decide +kernel
theorem dX11_copies_21 : decode cX11_copies 21 = .ok (.invokevirtual 273, 3) := by decide +kernel
theorem dX11_copies_24 : decode cX11_copies 24 = .ok (.ireturn, 1) := by decide +kernel
theorem dX11_state_0 : decode cX11_state 0 = .ok (.iload_n 1, 1) := by decide +kernel
theorem dX11_state_1 : decode cX11_state 1 = .ok (.ifCond .lt 10, 3) := by decide +kernel
theorem dX11_state_4 : decode cX11_state 4 = .ok (.iload_n 1, 1) := by decide +kernel
theorem dX11_state_5 : decode cX11_state 5 = .ok (.ldc_w 276, 3) := by decide +kernel
theorem dX11_state_8 : decode cX11_state 8 = .ok (.if_icmp .le 6, 3) := by decide +kernel
theorem dX11_state_11 : decode cX11_state 11 = .ok (.bipush (-2), 2) := by decide +kernel
theorem dX11_state_13 : decode cX11_state 13 = .ok (.ireturn, 1) := by decide +kernel
theorem dX11_state_14 : decode cX11_state 14 = .ok (.aload_n 0, 1) := by decide +kernel
theorem dX11_state_15 : decode cX11_state 15 = .ok (.getfield 88, 3) := by decide +kernel
theorem dX11_state_18 : decode cX11_state 18 = .ok (.getfield 277, 3) := by decide +kernel
theorem dX11_state_21 : decode cX11_state 21 = .ok (.iload_n 1, 1) := by decide +kernel
theorem dX11_state_22 : decode cX11_state 22 = .ok (.invokevirtual 280, 3) := by decide +kernel
theorem dX11_state_25 : decode cX11_state 25 = .ok (.ifCond .eq 6, 3) := by decide +kernel
theorem dX11_state_28 : decode cX11_state 28 = .ok (.bipush (-3), 2) := by decide +kernel
theorem dX11_state_30 : decode cX11_state 30 = .ok (.ireturn, 1) := by decide +kernel
theorem dX11_state_31 : decode cX11_state 31 = .ok (.aload_n 0, 1) := by decide +kernel
theorem dX11_state_32 : decode cX11_state 32 = .ok (.getfield 88, 3) := by decide +kernel
theorem dX11_state_35 : decode cX11_state 35 = .ok (.getfield 277, 3) := by decide +kernel
theorem dX11_state_38 : decode cX11_state 38 = .ok (.iload_n 1, 1) := by decide +kernel
theorem dX11_state_39 : decode cX11_state 39 = .ok (.invokevirtual 281, 3) := by decide +kernel
theorem dX11_state_42 : decode cX11_state 42 = .ok (.ireturn, 1) := by decide +kernel
theorem dX11_allowed_0 : decode cX11_allowed 0 = .ok (.iload_n 1, 1) := by decide +kernel
theorem dX11_allowed_1 : decode cX11_allowed 1 = .ok (.iconst (-1), 1) := by decide +kernel
theorem dX11_allowed_2 : decode cX11_allowed 2 = .ok (.if_icmp .lt 17, 3) := by decide +kernel
theorem dX11_allowed_5 : decode cX11_allowed 5 = .ok (.iload_n 1, 1) := by decide +kernel
theorem dX11_allowed_6 : decode cX11_allowed 6 = .ok (.aload_n 0, 1) := by decide +kernel
theorem dX11_allowed_7 : decode cX11_allowed 7 = .ok (.getfield 88, 3) := by decide +kernel
theorem dX11_allowed_10 : decode cX11_allowed 10 = .ok (.getfield 277, 3) := by decide +kernel
theorem dX11_allowed_13 : decode cX11_allowed 13 = .ok (.invokevirtual 140, 3) := by decide +kernel
theorem dX11_allowed_16 : decode cX11_allowed 16 = .ok (.if_icmp .lt 5, 3) := by decide +kernel
theorem dX11_allowed_19 : decode cX11_allowed 19 = .ok (.iconst (-1), 1) := by decide +kernel
theorem dX11_allowed_20 : decode cX11_allowed 20 = .ok (.ireturn, 1) := by decide +kernel
theorem dX11_allowed_21 : decode cX11_allowed 21 = .ok (.aload_n 0, 1) := by decide +kernel
theorem dX11_allowed_22 : decode cX11_allowed 22 = .ok (.getfield 88, 3) := by decide +kernel
theorem dX11_allowed_25 : decode cX11_allowed 25 = .ok (.invokevirtual 284, 3) := by decide +kernel
theorem dX11_allowed_28 : decode cX11_allowed 28 = .ok (.istore_n 2, 1) := by decide +kernel
theorem dX11_allowed_29 : decode cX11_allowed 29 = .ok (.iload_n 1, 1) := by decide +kernel
theorem dX11_allowed_30 : decode cX11_allowed 30 = .ok (.ifCond .ge 5, 3) := by decide +kernel
theorem dX11_allowed_33 : decode cX11_allowed 33 = .ok (.iload_n 2, 1) := by decide +kernel
theorem dX11_allowed_34 : decode cX11_allowed 34 = .ok (.ireturn, 1) := by decide +kernel
theorem dX11_allowed_35 : decode cX11_allowed 35 = .ok (.iload_n 2, 1) := by decide +kernel
theorem dX11_allowed_36 : decode cX11_allowed 36 = .ok (.ifCond .le 17, 3) := by decide +kernel
theorem dX11_allowed_39 : decode cX11_allowed 39 = .ok (.aload_n 0, 1) := by decide +kernel
theorem dX11_allowed_40 : decode cX11_allowed 40 = .ok (.getfield 88, 3) := by decide +kernel
theorem dX11_allowed_43 : decode cX11_allowed 43 = .ok (.getfield 287, 3) := by decide +kernel
theorem dX11_allowed_46 : decode cX11_allowed 46 = .ok (.iload_n 1, 1) := by decide +kernel
theorem dX11_allowed_47 : decode cX11_allowed 47 = .ok (.invokevirtual 120, 3) := by decide +kernel
theorem dX11_allowed_50 : decode cX11_allowed 50 = .ok (.goto 4, 3) := by decide +kernel
theorem dX11_allowed_53 : decode cX11_allowed 53 = .ok (.iconst (-1), 1) := by decide +kernel
theorem dX11_allowed_54 : decode cX11_allowed 54 = .ok (.ireturn, 1) := by decide +kernel
theorem dX11_hand_0 : decode cX11_hand 0 = .ok (.iload_n 1, 1) := by decide +kernel
theorem dX11_hand_1 : decode cX11_hand 1 = .ok (.ifCond .lt 10, 3) := by decide +kernel
theorem dX11_hand_4 : decode cX11_hand 4 = .ok (.iload_n 1, 1) := by decide +kernel
theorem dX11_hand_5 : decode cX11_hand 5 = .ok (.sipush 9999, 3) := by decide +kernel
theorem dX11_hand_8 : decode cX11_hand 8 = .ok (.if_icmp .le 8, 3) := by decide +kernel
theorem dX11_hand_11 : decode cX11_hand 11 = .ok (.bipush (-2), 2) := by decide +kernel
theorem dX11_hand_13 : decode cX11_hand 13 = .ok (.goto 14, 3) := by decide +kernel
theorem dX11_hand_16 : decode cX11_hand 16 = .ok (.aload_n 0, 1) := by decide +kernel
theorem dX11_hand_17 : decode cX11_hand 17 = .ok (.getfield 88, 3) := by decide +kernel
theorem dX11_hand_20 : decode cX11_hand 20 = .ok (.getfield 290, 3) := by decide +kernel
theorem dX11_hand_23 : decode cX11_hand 23 = .ok (.iload_n 1, 1) := by decide +kernel
theorem dX11_hand_24 : decode cX11_hand 24 = .ok (.invokevirtual 281, 3) := by decide +kernel
theorem dX11_hand_27 : decode cX11_hand 27 = .ok (.ireturn, 1) := by decide +kernel
theorem dX11_rival_0 : decode cX11_rival 0 = .ok (.iload_n 2, 1) := by decide +kernel
theorem dX11_rival_1 : decode cX11_rival 1 = .ok (.ifCond .lt 8, 3) := by decide +kernel
theorem dX11_rival_4 : decode cX11_rival 4 = .ok (.iload_n 2, 1) := by decide +kernel
theorem dX11_rival_5 : decode cX11_rival 5 = .ok (.iconst 1, 1) := by decide +kernel
theorem dX11_rival_6 : decode cX11_rival 6 = .ok (.if_icmp .le 5, 3) := by decide +kernel
theorem dX11_rival_9 : decode cX11_rival 9 = .ok (.iconst (-1), 1) := by decide +kernel
theorem dX11_rival_10 : decode cX11_rival 10 = .ok (.ireturn, 1) := by decide +kernel
theorem dX11_rival_11 : decode cX11_rival 11 = .ok (.iload_n 1, 1) := by decide +kernel
theorem dX11_rival_12 : decode cX11_rival 12 = .ok (.ifCond .lt 9, 3) := by decide +kernel
theorem dX11_rival_15 : decode cX11_rival 15 = .ok (.iload_n 1, 1) := by decide +kernel
theorem dX11_rival_16 : decode cX11_rival 16 = .ok (.bipush 36, 2) := by decide +kernel
theorem dX11_rival_18 : decode cX11_rival 18 = .ok (.if_icmp .le 6, 3) := by decide +kernel
theorem dX11_rival_21 : decode cX11_rival 21 = .ok (.bipush (-2), 2) := by decide +kernel
theorem dX11_rival_23 : decode cX11_rival 23 = .ok (.ireturn, 1) := by decide +kernel
theorem dX11_rival_24 : decode cX11_rival 24 = .ok (.aload_n 0, 1) := by decide +kernel
theorem dX11_rival_25 : decode cX11_rival 25 = .ok (.getfield 88, 3) := by decide +kernel
theorem dX11_rival_28 : decode cX11_rival 28 = .ok (.iload_n 1, 1) := by decide +kernel
theorem dX11_rival_29 : decode cX11_rival 29 = .ok (.invokevirtual 293, 3) := by decide +kernel
theorem dX11_rival_32 : decode cX11_rival 32 = .ok (.iload_n 2, 1) := by decide +kernel
theorem dX11_rival_33 : decode cX11_rival 33 = .ok (.ifCond .ne 13, 3) := by decide +kernel
theorem dX11_rival_36 : decode cX11_rival 36 = .ok (.aload_n 0, 1) := by decide +kernel
theorem dX11_rival_37 : decode cX11_rival 37 = .ok (.getfield 88, 3) := by decide +kernel
theorem dX11_rival_40 : decode cX11_rival 40 = .ok (.invokevirtual 296, 3) := by decide +kernel
theorem dX11_rival_43 : decode cX11_rival 43 = .ok (.goto 10, 3) := by decide +kernel
theorem dX11_rival_46 : decode cX11_rival 46 = .ok (.aload_n 0, 1) := by decide +kernel
theorem dX11_rival_47 : decode cX11_rival 47 = .ok (.getfield 88, 3) := by decide +kernel
theorem dX11_rival_50 : decode cX11_rival 50 = .ok (.invokevirtual 299, 3) := by decide +kernel
theorem dX11_rival_53 : decode cX11_rival 53 = .ok (.ireturn, 1) := by decide +kernel
theorem dX11_ahead_0 : decode cX11_ahead 0 = .ok (.iload_n 1, 1) := by decide +kernel
theorem dX11_ahead_1 : decode cX11_ahead 1 = .ok (.invokestatic 302, 3) := by decide +kernel
theorem dX11_ahead_4 : decode cX11_ahead 4 = .ok (.ifCond .eq 10, 3) := by decide +kernel
theorem dX11_ahead_7 : decode cX11_ahead 7 = .ok (.iload_n 2, 1) := by decide +kernel
theorem dX11_ahead_8 : decode cX11_ahead 8 = .ok (.invokestatic 302, 3) := by decide +kernel
theorem dX11_ahead_11 : decode cX11_ahead 11 = .ok (.ifCond .ne 5, 3) := by decide +kernel
theorem dX11_ahead_14 : decode cX11_ahead 14 = .ok (.iconst (-1), 1) := by decide +kernel
theorem dX11_ahead_15 : decode cX11_ahead 15 = .ok (.ireturn, 1) := by decide +kernel
theorem dX11_ahead_16 : decode cX11_ahead 16 = .ok (.iload_n 1, 1) := by decide +kernel
theorem dX11_ahead_17 : decode cX11_ahead 17 = .ok (.iload_n 2, 1) := by decide +kernel
theorem dX11_ahead_18 : decode cX11_ahead 18 = .ok (.if_icmp .ne 6, 3) := by decide +kernel
theorem dX11_ahead_21 : decode cX11_ahead 21 = .ok (.bipush (-2), 2) := by decide +kernel
theorem dX11_ahead_23 : decode cX11_ahead 23 = .ok (.ireturn, 1) := by decide +kernel
theorem dX11_ahead_24 : decode cX11_ahead 24 = .ok (.aload_n 0, 1) := by decide +kernel
theorem dX11_ahead_25 : decode cX11_ahead 25 = .ok (.getfield 88, 3) := by decide +kernel
theorem dX11_ahead_28 : decode cX11_ahead 28 = .ok (.getfield 305, 3) := by decide +kernel
theorem dX11_ahead_31 : decode cX11_ahead 31 = .ok (.iload_n 1, 1) := by decide +kernel
theorem dX11_ahead_32 : decode cX11_ahead 32 = .ok (.iload_n 2, 1) := by decide +kernel
theorem dX11_ahead_33 : decode cX11_ahead 33 = .ok (.invokestatic 308, 3) := by decide +kernel
theorem dX11_ahead_36 : decode cX11_ahead 36 = .ok (.invokevirtual 280, 3) := by decide +kernel
theorem dX11_ahead_39 : decode cX11_ahead 39 = .ok (.ifCond .eq 6, 3) := by decide +kernel
theorem dX11_ahead_42 : decode cX11_ahead 42 = .ok (.bipush (-3), 2) := by decide +kernel
theorem dX11_ahead_44 : decode cX11_ahead 44 = .ok (.ireturn, 1) := by decide +kernel
theorem dX11_ahead_45 : decode cX11_ahead 45 = .ok (.aload_n 0, 1) := by decide +kernel
theorem dX11_ahead_46 : decode cX11_ahead 46 = .ok (.getfield 88, 3) := by decide +kernel
theorem dX11_ahead_49 : decode cX11_ahead 49 = .ok (.getfield 305, 3) := by decide +kernel
theorem dX11_ahead_52 : decode cX11_ahead 52 = .ok (.iload_n 1, 1) := by decide +kernel
theorem dX11_ahead_53 : decode cX11_ahead 53 = .ok (.iload_n 2, 1) := by decide +kernel
theorem dX11_ahead_54 : decode cX11_ahead 54 = .ok (.invokestatic 308, 3) := by decide +kernel
theorem dX11_ahead_57 : decode cX11_ahead 57 = .ok (.invokevirtual 281, 3) := by decide +kernel
theorem dX11_ahead_60 : decode cX11_ahead 60 = .ok (.ifCond .ge 8, 3) := by decide +kernel
theorem dX11_ahead_63 : decode cX11_ahead 63 = .ok (.bipush (-4), 2) := by decide +kernel
theorem dX11_ahead_65 : decode cX11_ahead 65 = .ok (.goto 13, 3) := by decide +kernel
theorem dX11_ahead_68 : decode cX11_ahead 68 = .ok (.aload_n 0, 1) := by decide +kernel
theorem dX11_ahead_69 : decode cX11_ahead 69 = .ok (.getfield 88, 3) := by decide +kernel
theorem dX11_ahead_72 : decode cX11_ahead 72 = .ok (.getfield 305, 3) := by decide +kernel
theorem dX11_ahead_75 : decode cX11_ahead 75 = .ok (.invokevirtual 140, 3) := by decide +kernel
theorem dX11_ahead_78 : decode cX11_ahead 78 = .ok (.ireturn, 1) := by decide +kernel
theorem dX11_runs_0 : decode cX11_runs 0 = .ok (.iload_n 2, 1) := by decide +kernel
theorem dX11_runs_1 : decode cX11_runs 1 = .ok (.ifCond .lt 20, 3) := by decide +kernel
theorem dX11_runs_4 : decode cX11_runs 4 = .ok (.iload_n 2, 1) := by decide +kernel
theorem dX11_runs_5 : decode cX11_runs 5 = .ok (.iconst 1, 1) := by decide +kernel
theorem dX11_runs_6 : decode cX11_runs 6 = .ok (.if_icmp .le 9, 3) := by decide +kernel
theorem dX11_runs_9 : decode cX11_runs 9 = .ok (.iload_n 2, 1) := by decide +kernel
theorem dX11_runs_10 : decode cX11_runs 10 = .ok (.bipush 10, 2) := by decide +kernel
theorem dX11_runs_12 : decode cX11_runs 12 = .ok (.if_icmp .lt 9, 3) := by decide +kernel
theorem dX11_runs_15 : decode cX11_runs 15 = .ok (.iload_n 2, 1) := by decide +kernel
theorem dX11_runs_16 : decode cX11_runs 16 = .ok (.bipush 20, 2) := by decide +kernel
theorem dX11_runs_18 : decode cX11_runs 18 = .ok (.if_icmp .lt 5, 3) := by decide +kernel
theorem dX11_runs_21 : decode cX11_runs 21 = .ok (.iconst (-1), 1) := by decide +kernel
theorem dX11_runs_22 : decode cX11_runs 22 = .ok (.ireturn, 1) := by decide +kernel
theorem dX11_runs_23 : decode cX11_runs 23 = .ok (.iload_n 1, 1) := by decide +kernel
theorem dX11_runs_24 : decode cX11_runs 24 = .ok (.iconst 1, 1) := by decide +kernel
theorem dX11_runs_25 : decode cX11_runs 25 = .ok (.if_icmp .lt 9, 3) := by decide +kernel
theorem dX11_runs_28 : decode cX11_runs 28 = .ok (.iload_n 1, 1) := by decide +kernel
theorem dX11_runs_29 : decode cX11_runs 29 = .ok (.bipush 10, 2) := by decide +kernel
theorem dX11_runs_31 : decode cX11_runs 31 = .ok (.if_icmp .le 6, 3) := by decide +kernel
theorem dX11_runs_34 : decode cX11_runs 34 = .ok (.bipush (-2), 2) := by decide +kernel
theorem dX11_runs_36 : decode cX11_runs 36 = .ok (.ireturn, 1) := by decide +kernel
theorem dX11_runs_37 : decode cX11_runs 37 = .ok (.iload_n 2, 1) := by decide +kernel
theorem dX11_runs_38 : decode cX11_runs 38 = .ok (.bipush 10, 2) := by decide +kernel
theorem dX11_runs_40 : decode cX11_runs 40 = .ok (.isub, 1) := by decide +kernel
theorem dX11_runs_41 : decode cX11_runs 41 = .ok (.iload_n 1, 1) := by decide +kernel
theorem dX11_runs_42 : decode cX11_runs 42 = .ok (.if_icmp .lt 5, 3) := by decide +kernel
theorem dX11_runs_45 : decode cX11_runs 45 = .ok (.iconst (-1), 1) := by decide +kernel
theorem dX11_runs_46 : decode cX11_runs 46 = .ok (.ireturn, 1) := by decide +kernel
theorem dX11_runs_47 : decode cX11_runs 47 = .ok (.aload_n 0, 1) := by decide +kernel
theorem dX11_runs_48 : decode cX11_runs 48 = .ok (.getfield 88, 3) := by decide +kernel
theorem dX11_runs_51 : decode cX11_runs 51 = .ok (.iload_n 1, 1) := by decide +kernel
theorem dX11_runs_52 : decode cX11_runs 52 = .ok (.invokevirtual 311, 3) := by decide +kernel
theorem dX11_runs_55 : decode cX11_runs 55 = .ok (.istore_n 3, 1) := by decide +kernel
theorem dX11_runs_56 : decode cX11_runs 56 = .ok (.iload_n 2, 1) := by decide +kernel
theorem dX11_runs_57 : decode cX11_runs 57 = .ok (.ifCond .ne 5, 3) := by decide +kernel
theorem dX11_runs_60 : decode cX11_runs 60 = .ok (.iload_n 3, 1) := by decide +kernel
theorem dX11_runs_61 : decode cX11_runs 61 = .ok (.ireturn, 1) := by decide +kernel
theorem dX11_runs_62 : decode cX11_runs 62 = .ok (.iload_n 2, 1) := by decide +kernel
theorem dX11_runs_63 : decode cX11_runs 63 = .ok (.iconst 1, 1) := by decide +kernel
theorem dX11_runs_64 : decode cX11_runs 64 = .ok (.if_icmp .ne 20, 3) := by decide +kernel
theorem dX11_runs_67 : decode cX11_runs 67 = .ok (.iload_n 3, 1) := by decide +kernel
theorem dX11_runs_68 : decode cX11_runs 68 = .ok (.ifCond .le 14, 3) := by decide +kernel
theorem dX11_runs_71 : decode cX11_runs 71 = .ok (.aload_n 0, 1) := by decide +kernel
theorem dX11_runs_72 : decode cX11_runs 72 = .ok (.getfield 88, 3) := by decide +kernel
theorem dX11_runs_75 : decode cX11_runs 75 = .ok (.iload_n 1, 1) := by decide +kernel
theorem dX11_runs_76 : decode cX11_runs 76 = .ok (.invokevirtual 314, 3) := by decide +kernel
theorem dX11_runs_79 : decode cX11_runs 79 = .ok (.goto 4, 3) := by decide +kernel
theorem dX11_runs_82 : decode cX11_runs 82 = .ok (.iconst 0, 1) := by decide +kernel
theorem dX11_runs_83 : decode cX11_runs 83 = .ok (.ireturn, 1) := by decide +kernel
theorem dX11_runs_84 : decode cX11_runs 84 = .ok (.iload_n 3, 1) := by decide +kernel
theorem dX11_runs_85 : decode cX11_runs 85 = .ok (.ifCond .le 18, 3) := by decide +kernel
theorem dX11_runs_88 : decode cX11_runs 88 = .ok (.aload_n 0, 1) := by decide +kernel
theorem dX11_runs_89 : decode cX11_runs 89 = .ok (.getfield 88, 3) := by decide +kernel
theorem dX11_runs_92 : decode cX11_runs 92 = .ok (.iload_n 1, 1) := by decide +kernel
theorem dX11_runs_93 : decode cX11_runs 93 = .ok (.iload_n 2, 1) := by decide +kernel
theorem dX11_runs_94 : decode cX11_runs 94 = .ok (.bipush 10, 2) := by decide +kernel
theorem dX11_runs_96 : decode cX11_runs 96 = .ok (.isub, 1) := by decide +kernel
theorem dX11_runs_97 : decode cX11_runs 97 = .ok (.invokevirtual 317, 3) := by decide +kernel
theorem dX11_runs_100 : decode cX11_runs 100 = .ok (.goto 4, 3) := by decide +kernel
theorem dX11_runs_103 : decode cX11_runs 103 = .ok (.iconst (-1), 1) := by decide +kernel
theorem dX11_runs_104 : decode cX11_runs 104 = .ok (.ireturn, 1) := by decide +kernel
theorem dX11_loan_0 : decode cX11_loan 0 = .ok (.iload_n 1, 1) := by decide +kernel
theorem dX11_loan_1 : decode cX11_loan 1 = .ok (.iconst 1, 1) := by decide +kernel
theorem dX11_loan_2 : decode cX11_loan 2 = .ok (.if_icmp .lt 27, 3) := by decide +kernel
theorem dX11_loan_5 : decode cX11_loan 5 = .ok (.iload_n 1, 1) := by decide +kernel
theorem dX11_loan_6 : decode cX11_loan 6 = .ok (.sipush 9999, 3) := by decide +kernel
theorem dX11_loan_9 : decode cX11_loan 9 = .ok (.if_icmp .gt 20, 3) := by decide +kernel
theorem dX11_loan_12 : decode cX11_loan 12 = .ok (.iload_n 2, 1) := by decide +kernel
theorem dX11_loan_13 : decode cX11_loan 13 = .ok (.invokestatic 149, 3) := by decide +kernel
theorem dX11_loan_16 : decode cX11_loan 16 = .ok (.ifCond .eq 13, 3) := by decide +kernel
theorem dX11_loan_19 : decode cX11_loan 19 = .ok (.iload_n 3, 1) := by decide +kernel
theorem dX11_loan_20 : decode cX11_loan 20 = .ok (.ifCond .lt 9, 3) := by decide +kernel
theorem dX11_loan_23 : decode cX11_loan 23 = .ok (.iload_n 3, 1) := by decide +kernel
theorem dX11_loan_24 : decode cX11_loan 24 = .ok (.bipush 40, 2) := by decide +kernel
theorem dX11_loan_26 : decode cX11_loan 26 = .ok (.if_icmp .le 6, 3) := by decide +kernel
theorem dX11_loan_29 : decode cX11_loan 29 = .ok (.bipush (-2), 2) := by decide +kernel
theorem dX11_loan_31 : decode cX11_loan 31 = .ok (.ireturn, 1) := by decide +kernel
theorem dX11_loan_32 : decode cX11_loan 32 = .ok (.aload_n 0, 1) := by decide +kernel
theorem dX11_loan_33 : decode cX11_loan 33 = .ok (.getfield 95, 3) := by decide +kernel
theorem dX11_loan_36 : decode cX11_loan 36 = .ok (.getfield 320, 3) := by decide +kernel
theorem dX11_loan_39 : decode cX11_loan 39 = .ok (.invokevirtual 238, 3) := by decide +kernel
theorem dX11_loan_42 : decode cX11_loan 42 = .ok (.ifCond .eq 8, 3) := by decide +kernel
theorem dX11_loan_45 : decode cX11_loan 45 = .ok (.bipush (-4), 2) := by decide +kernel
theorem dX11_loan_47 : decode cX11_loan 47 = .ok (.goto 13, 3) := by decide +kernel
theorem dX11_loan_50 : decode cX11_loan 50 = .ok (.aload_n 0, 1) := by decide +kernel
theorem dX11_loan_51 : decode cX11_loan 51 = .ok (.getfield 95, 3) := by decide +kernel
theorem dX11_loan_54 : decode cX11_loan 54 = .ok (.iload_n 1, 1) := by decide +kernel
theorem dX11_loan_55 : decode cX11_loan 55 = .ok (.iload_n 2, 1) := by decide +kernel
theorem dX11_loan_56 : decode cX11_loan 56 = .ok (.iload_n 3, 1) := by decide +kernel
theorem dX11_loan_57 : decode cX11_loan 57 = .ok (.invokevirtual 323, 3) := by decide +kernel
theorem dX11_loan_60 : decode cX11_loan 60 = .ok (.ireturn, 1) := by decide +kernel
theorem dX11_pay_0 : decode cX11_pay 0 = .ok (.aload_n 0, 1) := by decide +kernel
theorem dX11_pay_1 : decode cX11_pay 1 = .ok (.getfield 95, 3) := by decide +kernel
theorem dX11_pay_4 : decode cX11_pay 4 = .ok (.iload_n 1, 1) := by decide +kernel
theorem dX11_pay_5 : decode cX11_pay 5 = .ok (.invokevirtual 327, 3) := by decide +kernel
theorem dX11_pay_8 : decode cX11_pay 8 = .ok (.ifCond .ne 5, 3) := by decide +kernel
theorem dX11_pay_11 : decode cX11_pay 11 = .ok (.iconst (-1), 1) := by decide +kernel
theorem dX11_pay_12 : decode cX11_pay 12 = .ok (.ireturn, 1) := by decide +kernel
theorem dX11_pay_13 : decode cX11_pay 13 = .ok (.iload_n 2, 1) := by decide +kernel
theorem dX11_pay_14 : decode cX11_pay 14 = .ok (.invokestatic 149, 3) := by decide +kernel
theorem dX11_pay_17 : decode cX11_pay 17 = .ok (.ifCond .eq 30, 3) := by decide +kernel
theorem dX11_pay_20 : decode cX11_pay 20 = .ok (.iload_n 2, 1) := by decide +kernel
theorem dX11_pay_21 : decode cX11_pay 21 = .ok (.aload_n 0, 1) := by decide +kernel
theorem dX11_pay_22 : decode cX11_pay 22 = .ok (.getfield 95, 3) := by decide +kernel
theorem dX11_pay_25 : decode cX11_pay 25 = .ok (.getfield 328, 3) := by decide +kernel
theorem dX11_pay_28 : decode cX11_pay 28 = .ok (.iload_n 1, 1) := by decide +kernel
theorem dX11_pay_29 : decode cX11_pay 29 = .ok (.invokevirtual 120, 3) := by decide +kernel
theorem dX11_pay_32 : decode cX11_pay 32 = .ok (.if_icmp .lt 15, 3) := by decide +kernel
theorem dX11_pay_35 : decode cX11_pay 35 = .ok (.iload_n 3, 1) := by decide +kernel
theorem dX11_pay_36 : decode cX11_pay 36 = .ok (.iconst 1, 1) := by decide +kernel
theorem dX11_pay_37 : decode cX11_pay 37 = .ok (.if_icmp .lt 10, 3) := by decide +kernel
theorem dX11_pay_40 : decode cX11_pay 40 = .ok (.iload_n 3, 1) := by decide +kernel
theorem dX11_pay_41 : decode cX11_pay 41 = .ok (.sipush 9999, 3) := by decide +kernel
theorem dX11_pay_44 : decode cX11_pay 44 = .ok (.if_icmp .le 6, 3) := by decide +kernel
theorem dX11_pay_47 : decode cX11_pay 47 = .ok (.bipush (-2), 2) := by decide +kernel
theorem dX11_pay_49 : decode cX11_pay 49 = .ok (.ireturn, 1) := by decide +kernel
theorem dX11_pay_50 : decode cX11_pay 50 = .ok (.aload_n 0, 1) := by decide +kernel
theorem dX11_pay_51 : decode cX11_pay 51 = .ok (.getfield 95, 3) := by decide +kernel
theorem dX11_pay_54 : decode cX11_pay 54 = .ok (.getfield 331, 3) := by decide +kernel
theorem dX11_pay_57 : decode cX11_pay 57 = .ok (.invokevirtual 238, 3) := by decide +kernel
theorem dX11_pay_60 : decode cX11_pay 60 = .ok (.ifCond .eq 8, 3) := by decide +kernel
theorem dX11_pay_63 : decode cX11_pay 63 = .ok (.bipush (-4), 2) := by decide +kernel
theorem dX11_pay_65 : decode cX11_pay 65 = .ok (.goto 13, 3) := by decide +kernel
theorem dX11_pay_68 : decode cX11_pay 68 = .ok (.aload_n 0, 1) := by decide +kernel
theorem dX11_pay_69 : decode cX11_pay 69 = .ok (.getfield 95, 3) := by decide +kernel
theorem dX11_pay_72 : decode cX11_pay 72 = .ok (.iload_n 1, 1) := by decide +kernel
theorem dX11_pay_73 : decode cX11_pay 73 = .ok (.iload_n 2, 1) := by decide +kernel
theorem dX11_pay_74 : decode cX11_pay 74 = .ok (.iload_n 3, 1) := by decide +kernel
theorem dX11_pay_75 : decode cX11_pay 75 = .ok (.invokevirtual 334, 3) := by decide +kernel
theorem dX11_pay_78 : decode cX11_pay 78 = .ok (.ireturn, 1) := by decide +kernel
theorem dX11_owe_0 : decode cX11_owe 0 = .ok (.aload_n 0, 1) := by decide +kernel
theorem dX11_owe_1 : decode cX11_owe 1 = .ok (.getfield 95, 3) := by decide +kernel
theorem dX11_owe_4 : decode cX11_owe 4 = .ok (.iload_n 1, 1) := by decide +kernel
theorem dX11_owe_5 : decode cX11_owe 5 = .ok (.invokevirtual 327, 3) := by decide +kernel
theorem dX11_owe_8 : decode cX11_owe 8 = .ok (.ifCond .ne 5, 3) := by decide +kernel
theorem dX11_owe_11 : decode cX11_owe 11 = .ok (.iconst (-1), 1) := by decide +kernel
theorem dX11_owe_12 : decode cX11_owe 12 = .ok (.ireturn, 1) := by decide +kernel
theorem dX11_owe_13 : decode cX11_owe 13 = .ok (.iload_n 2, 1) := by decide +kernel
theorem dX11_owe_14 : decode cX11_owe 14 = .ok (.invokestatic 149, 3) := by decide +kernel
theorem dX11_owe_17 : decode cX11_owe 17 = .ok (.ifCond .eq 15, 3) := by decide +kernel
theorem dX11_owe_20 : decode cX11_owe 20 = .ok (.aload_n 0, 1) := by decide +kernel
theorem dX11_owe_21 : decode cX11_owe 21 = .ok (.getfield 95, 3) := by decide +kernel
theorem dX11_owe_24 : decode cX11_owe 24 = .ok (.iload_n 1, 1) := by decide +kernel
theorem dX11_owe_25 : decode cX11_owe 25 = .ok (.iload_n 2, 1) := by decide +kernel
theorem dX11_owe_26 : decode cX11_owe 26 = .ok (.invokevirtual 337, 3) := by decide +kernel
theorem dX11_owe_29 : decode cX11_owe 29 = .ok (.goto 5, 3) := by decide +kernel
theorem dX11_owe_32 : decode cX11_owe 32 = .ok (.bipush (-2), 2) := by decide +kernel
theorem dX11_owe_34 : decode cX11_owe 34 = .ok (.ireturn, 1) := by decide +kernel
theorem dX11_thing_0 : decode cX11_thing 0 = .ok (.iload_n 1, 1) := by decide +kernel
theorem dX11_thing_1 : decode cX11_thing 1 = .ok (.ifCond .lt 9, 3) := by decide +kernel
theorem dX11_thing_4 : decode cX11_thing 4 = .ok (.iload_n 1, 1) := by decide +kernel
theorem dX11_thing_5 : decode cX11_thing 5 = .ok (.bipush 8, 2) := by decide +kernel
theorem dX11_thing_7 : decode cX11_thing 7 = .ok (.if_icmp .lt 5, 3) := by decide +kernel
theorem dX11_thing_10 : decode cX11_thing 10 = .ok (.iconst (-1), 1) := by decide +kernel
theorem dX11_thing_11 : decode cX11_thing 11 = .ok (.ireturn, 1) := by decide +kernel
theorem dX11_thing_12 : decode cX11_thing 12 = .ok (.iload_n 2, 1) := by decide +kernel
theorem dX11_thing_13 : decode cX11_thing 13 = .ok (.ifCond .lt 10, 3) := by decide +kernel
theorem dX11_thing_16 : decode cX11_thing 16 = .ok (.iload_n 2, 1) := by decide +kernel
theorem dX11_thing_17 : decode cX11_thing 17 = .ok (.sipush 9999, 3) := by decide +kernel
theorem dX11_thing_20 : decode cX11_thing 20 = .ok (.if_icmp .le 8, 3) := by decide +kernel
theorem dX11_thing_23 : decode cX11_thing 23 = .ok (.bipush (-2), 2) := by decide +kernel
theorem dX11_thing_25 : decode cX11_thing 25 = .ok (.goto 15, 3) := by decide +kernel
theorem dX11_thing_28 : decode cX11_thing 28 = .ok (.aload_n 0, 1) := by decide +kernel
theorem dX11_thing_29 : decode cX11_thing 29 = .ok (.getfield 95, 3) := by decide +kernel
theorem dX11_thing_32 : decode cX11_thing 32 = .ok (.getfield 340, 3) := by decide +kernel
theorem dX11_thing_35 : decode cX11_thing 35 = .ok (.iload_n 1, 1) := by decide +kernel
theorem dX11_thing_36 : decode cX11_thing 36 = .ok (.iload_n 2, 1) := by decide +kernel
theorem dX11_thing_37 : decode cX11_thing 37 = .ok (.invokevirtual 111, 3) := by decide +kernel
theorem dX11_thing_40 : decode cX11_thing 40 = .ok (.ireturn, 1) := by decide +kernel
theorem dX11_suit_0 : decode cX11_suit 0 = .ok (.iload_n 1, 1) := by decide +kernel
theorem dX11_suit_1 : decode cX11_suit 1 = .ok (.ifCond .lt 10, 3) := by decide +kernel
theorem dX11_suit_4 : decode cX11_suit 4 = .ok (.iload_n 1, 1) := by decide +kernel
theorem dX11_suit_5 : decode cX11_suit 5 = .ok (.ldc_w 343, 3) := by decide +kernel
theorem dX11_suit_8 : decode cX11_suit 8 = .ok (.if_icmp .le 8, 3) := by decide +kernel
theorem dX11_suit_11 : decode cX11_suit 11 = .ok (.bipush (-2), 2) := by decide +kernel
theorem dX11_suit_13 : decode cX11_suit 13 = .ok (.goto 11, 3) := by decide +kernel
theorem dX11_suit_16 : decode cX11_suit 16 = .ok (.aload_n 0, 1) := by decide +kernel
theorem dX11_suit_17 : decode cX11_suit 17 = .ok (.getfield 95, 3) := by decide +kernel
theorem dX11_suit_20 : decode cX11_suit 20 = .ok (.iload_n 1, 1) := by decide +kernel
theorem dX11_suit_21 : decode cX11_suit 21 = .ok (.invokevirtual 344, 3) := by decide +kernel
theorem dX11_suit_24 : decode cX11_suit 24 = .ok (.ireturn, 1) := by decide +kernel
theorem dX11_tried_0 : decode cX11_tried 0 = .ok (.aload_n 0, 1) := by decide +kernel
theorem dX11_tried_1 : decode cX11_tried 1 = .ok (.getfield 48, 3) := by decide +kernel
theorem dX11_tried_4 : decode cX11_tried 4 = .ok (.iload_n 1, 1) := by decide +kernel
theorem dX11_tried_5 : decode cX11_tried 5 = .ok (.invokevirtual 182, 3) := by decide +kernel
theorem dX11_tried_8 : decode cX11_tried 8 = .ok (.ifCond .eq 12, 3) := by decide +kernel
theorem dX11_tried_11 : decode cX11_tried 11 = .ok (.iload_n 2, 1) := by decide +kernel
theorem dX11_tried_12 : decode cX11_tried 12 = .ok (.ifCond .lt 8, 3) := by decide +kernel
theorem dX11_tried_15 : decode cX11_tried 15 = .ok (.iload_n 2, 1) := by decide +kernel
theorem dX11_tried_16 : decode cX11_tried 16 = .ok (.iconst 1, 1) := by decide +kernel
theorem dX11_tried_17 : decode cX11_tried 17 = .ok (.if_icmp .le 5, 3) := by decide +kernel
theorem dX11_tried_20 : decode cX11_tried 20 = .ok (.iconst (-1), 1) := by decide +kernel
theorem dX11_tried_21 : decode cX11_tried 21 = .ok (.ireturn, 1) := by decide +kernel
theorem dX11_tried_22 : decode cX11_tried 22 = .ok (.aload_n 0, 1) := by decide +kernel
theorem dX11_tried_23 : decode cX11_tried 23 = .ok (.getfield 32, 3) := by decide +kernel
theorem dX11_tried_26 : decode cX11_tried 26 = .ok (.invokevirtual 156, 3) := by decide +kernel
theorem dX11_tried_29 : decode cX11_tried 29 = .ok (.istore_n 3, 1) := by decide +kernel
theorem dX11_tried_30 : decode cX11_tried 30 = .ok (.aload_n 0, 1) := by decide +kernel
theorem dX11_tried_31 : decode cX11_tried 31 = .ok (.getfield 24, 3) := by decide +kernel
theorem dX11_tried_34 : decode cX11_tried 34 = .ok (.invokevirtual 159, 3) := by decide +kernel
theorem dX11_tried_37 : decode cX11_tried 37 = .ok (.iload_n 3, 1) := by decide +kernel
theorem dX11_tried_38 : decode cX11_tried 38 = .ok (.ifCond .lt 8, 3) := by decide +kernel
theorem dX11_tried_41 : decode cX11_tried 41 = .ok (.bipush (-10), 2) := by decide +kernel
theorem dX11_tried_43 : decode cX11_tried 43 = .ok (.iload_n 3, 1) := by decide +kernel
theorem dX11_tried_44 : decode cX11_tried 44 = .ok (.isub, 1) := by decide +kernel
theorem dX11_tried_45 : decode cX11_tried 45 = .ok (.ireturn, 1) := by decide +kernel
theorem dX11_tried_46 : decode cX11_tried 46 = .ok (.aload_n 0, 1) := by decide +kernel
theorem dX11_tried_47 : decode cX11_tried 47 = .ok (.iload_n 1, 1) := by decide +kernel
theorem dX11_tried_48 : decode cX11_tried 48 = .ok (.aload_n 0, 1) := by decide +kernel
theorem dX11_tried_49 : decode cX11_tried 49 = .ok (.invokevirtual 133, 3) := by decide +kernel
theorem dX11_tried_52 : decode cX11_tried 52 = .ok (.iconst 1, 1) := by decide +kernel
theorem dX11_tried_53 : decode cX11_tried 53 = .ok (.invokevirtual 185, 3) := by decide +kernel
theorem dX11_tried_56 : decode cX11_tried 56 = .ok (.ifCond .ne 6, 3) := by decide +kernel
theorem dX11_tried_59 : decode cX11_tried 59 = .ok (.bipush (-9), 2) := by decide +kernel
theorem dX11_tried_61 : decode cX11_tried 61 = .ok (.ireturn, 1) := by decide +kernel
theorem dX11_tried_62 : decode cX11_tried 62 = .ok (.iload_n 2, 1) := by decide +kernel
theorem dX11_tried_63 : decode cX11_tried 63 = .ok (.ifCond .ne 13, 3) := by decide +kernel
theorem dX11_tried_66 : decode cX11_tried 66 = .ok (.aload_n 0, 1) := by decide +kernel
theorem dX11_tried_67 : decode cX11_tried 67 = .ok (.getfield 67, 3) := by decide +kernel
theorem dX11_tried_70 : decode cX11_tried 70 = .ok (.getfield 189, 3) := by decide +kernel
theorem dX11_tried_73 : decode cX11_tried 73 = .ok (.goto 10, 3) := by decide +kernel
theorem dX11_tried_76 : decode cX11_tried 76 = .ok (.aload_n 0, 1) := by decide +kernel
theorem dX11_tried_77 : decode cX11_tried 77 = .ok (.getfield 67, 3) := by decide +kernel
theorem dX11_tried_80 : decode cX11_tried 80 = .ok (.getfield 193, 3) := by decide +kernel
theorem dX11_tried_83 : decode cX11_tried 83 = .ok (.ireturn, 1) := by decide +kernel
theorem dX11_image_0 : decode cX11_image 0 = .ok (.aload_n 0, 1) := by decide +kernel
theorem dX11_image_1 : decode cX11_image 1 = .ok (.getfield 10, 3) := by decide +kernel
theorem dX11_image_4 : decode cX11_image 4 = .ok (.invokevirtual 347, 3) := by decide +kernel
theorem dX11_image_7 : decode cX11_image 7 = .ok (.aload_n 0, 1) := by decide +kernel
theorem dX11_image_8 : decode cX11_image 8 = .ok (.iconst 1, 1) := by decide +kernel
theorem dX11_image_9 : decode cX11_image 9 = .ok (.putfield 99, 3) := by decide +kernel
theorem dX11_image_12 : decode cX11_image 12 = .ok (.aload_n 0, 1) := by decide +kernel
theorem dX11_image_13 : decode cX11_image 13 = .ok (.invokevirtual 133, 3) := by decide +kernel
theorem dX11_image_16 : decode cX11_image 16 = .ok (.ireturn, 1) := by decide +kernel
theorem dX11_undo_0 : decode cX11_undo 0 = .ok (.aload_n 0, 1) := by decide +kernel
theorem dX11_undo_1 : decode cX11_undo 1 = .ok (.getfield 99, 3) := by decide +kernel
theorem dX11_undo_4 : decode cX11_undo 4 = .ok (.ifCond .ne 6, 3) := by decide +kernel
theorem dX11_undo_7 : decode cX11_undo 7 = .ok (.bipush (-3), 2) := by decide +kernel
theorem dX11_undo_9 : decode cX11_undo 9 = .ok (.ireturn, 1) := by decide +kernel
theorem dX11_undo_10 : decode cX11_undo 10 = .ok (.aload_n 0, 1) := by decide +kernel
theorem dX11_undo_11 : decode cX11_undo 11 = .ok (.getfield 10, 3) := by decide +kernel
theorem dX11_undo_14 : decode cX11_undo 14 = .ok (.invokevirtual 350, 3) := by decide +kernel
theorem dX11_undo_17 : decode cX11_undo 17 = .ok (.aload_n 0, 1) := by decide +kernel
theorem dX11_undo_18 : decode cX11_undo 18 = .ok (.invokevirtual 133, 3) := by decide +kernel
theorem dX11_undo_21 : decode cX11_undo 21 = .ok (.ireturn, 1) := by decide +kernel
theorem dX11_count_0 : decode cX11_count 0 = .ok (.iload_n 1, 1) := by decide +kernel
theorem dX11_count_1 : decode cX11_count 1 = .ok (.tableswitch 168 0 10 #[59, 70, 81, 92, 100, 111, 122, 133, 144, 155, 160], 59) := by decide +kernel
theorem dX11_count_60 : decode cX11_count 60 = .ok (.aload_n 0, 1) := by decide +kernel
theorem dX11_count_61 : decode cX11_count 61 = .ok (.getfield 32, 3) := by decide +kernel
theorem dX11_count_64 : decode cX11_count 64 = .ok (.getfield 353, 3) := by decide +kernel
theorem dX11_count_67 : decode cX11_count 67 = .ok (.invokevirtual 140, 3) := by decide +kernel
theorem dX11_count_70 : decode cX11_count 70 = .ok (.ireturn, 1) := by decide +kernel
theorem dX11_count_71 : decode cX11_count 71 = .ok (.aload_n 0, 1) := by decide +kernel
theorem dX11_count_72 : decode cX11_count 72 = .ok (.getfield 48, 3) := by decide +kernel
theorem dX11_count_75 : decode cX11_count 75 = .ok (.getfield 354, 3) := by decide +kernel
theorem dX11_count_78 : decode cX11_count 78 = .ok (.invokevirtual 140, 3) := by decide +kernel
theorem dX11_count_81 : decode cX11_count 81 = .ok (.ireturn, 1) := by decide +kernel
theorem dX11_count_82 : decode cX11_count 82 = .ok (.aload_n 0, 1) := by decide +kernel
theorem dX11_count_83 : decode cX11_count 83 = .ok (.getfield 55, 3) := by decide +kernel
theorem dX11_count_86 : decode cX11_count 86 = .ok (.getfield 223, 3) := by decide +kernel
theorem dX11_count_89 : decode cX11_count 89 = .ok (.invokevirtual 140, 3) := by decide +kernel
theorem dX11_count_92 : decode cX11_count 92 = .ok (.ireturn, 1) := by decide +kernel
theorem dX11_count_93 : decode cX11_count 93 = .ok (.aload_n 0, 1) := by decide +kernel
theorem dX11_count_94 : decode cX11_count 94 = .ok (.getfield 55, 3) := by decide +kernel
theorem dX11_count_97 : decode cX11_count 97 = .ok (.invokevirtual 107, 3) := by decide +kernel
theorem dX11_count_100 : decode cX11_count 100 = .ok (.ireturn, 1) := by decide +kernel
theorem dX11_count_101 : decode cX11_count 101 = .ok (.aload_n 0, 1) := by decide +kernel
theorem dX11_count_102 : decode cX11_count 102 = .ok (.getfield 74, 3) := by decide +kernel
theorem dX11_count_105 : decode cX11_count 105 = .ok (.getfield 235, 3) := by decide +kernel
theorem dX11_count_108 : decode cX11_count 108 = .ok (.invokevirtual 140, 3) := by decide +kernel
theorem dX11_count_111 : decode cX11_count 111 = .ok (.ireturn, 1) := by decide +kernel
theorem dX11_count_112 : decode cX11_count 112 = .ok (.aload_n 0, 1) := by decide +kernel
theorem dX11_count_113 : decode cX11_count 113 = .ok (.getfield 81, 3) := by decide +kernel
theorem dX11_count_116 : decode cX11_count 116 = .ok (.getfield 252, 3) := by decide +kernel
theorem dX11_count_119 : decode cX11_count 119 = .ok (.invokevirtual 140, 3) := by decide +kernel
theorem dX11_count_122 : decode cX11_count 122 = .ok (.ireturn, 1) := by decide +kernel
theorem dX11_count_123 : decode cX11_count 123 = .ok (.aload_n 0, 1) := by decide +kernel
theorem dX11_count_124 : decode cX11_count 124 = .ok (.getfield 88, 3) := by decide +kernel
theorem dX11_count_127 : decode cX11_count 127 = .ok (.getfield 277, 3) := by decide +kernel
theorem dX11_count_130 : decode cX11_count 130 = .ok (.invokevirtual 140, 3) := by decide +kernel
theorem dX11_count_133 : decode cX11_count 133 = .ok (.ireturn, 1) := by decide +kernel
theorem dX11_count_134 : decode cX11_count 134 = .ok (.aload_n 0, 1) := by decide +kernel
theorem dX11_count_135 : decode cX11_count 135 = .ok (.getfield 88, 3) := by decide +kernel
theorem dX11_count_138 : decode cX11_count 138 = .ok (.getfield 290, 3) := by decide +kernel
theorem dX11_count_141 : decode cX11_count 141 = .ok (.invokevirtual 140, 3) := by decide +kernel
theorem dX11_count_144 : decode cX11_count 144 = .ok (.ireturn, 1) := by decide +kernel
theorem dX11_count_145 : decode cX11_count 145 = .ok (.aload_n 0, 1) := by decide +kernel
theorem dX11_count_146 : decode cX11_count 146 = .ok (.getfield 95, 3) := by decide +kernel
theorem dX11_count_149 : decode cX11_count 149 = .ok (.getfield 320, 3) := by decide +kernel
theorem dX11_count_152 : decode cX11_count 152 = .ok (.invokevirtual 140, 3) := by decide +kernel
theorem dX11_count_155 : decode cX11_count 155 = .ok (.ireturn, 1) := by decide +kernel
theorem dX11_count_156 : decode cX11_count 156 = .ok (.aload_n 0, 1) := by decide +kernel
theorem dX11_count_157 : decode cX11_count 157 = .ok (.invokevirtual 133, 3) := by decide +kernel
theorem dX11_count_160 : decode cX11_count 160 = .ok (.ireturn, 1) := by decide +kernel
theorem dX11_count_161 : decode cX11_count 161 = .ok (.aload_n 0, 1) := by decide +kernel
theorem dX11_count_162 : decode cX11_count 162 = .ok (.getfield 24, 3) := by decide +kernel
theorem dX11_count_165 : decode cX11_count 165 = .ok (.invokevirtual 140, 3) := by decide +kernel
theorem dX11_count_168 : decode cX11_count 168 = .ok (.ireturn, 1) := by decide +kernel
theorem dX11_count_169 : decode cX11_count 169 = .ok (.iconst (-1), 1) := by decide +kernel
theorem dX11_count_170 : decode cX11_count 170 = .ok (.ireturn, 1) := by decide +kernel
theorem dX11_now_0 : decode cX11_now 0 = .ok (.aload_n 0, 1) := by decide +kernel
theorem dX11_now_1 : decode cX11_now 1 = .ok (.getfield 20, 3) := by decide +kernel
theorem dX11_now_4 : decode cX11_now 4 = .ok (.iconst 0, 1) := by decide +kernel
theorem dX11_now_5 : decode cX11_now 5 = .ok (.invokevirtual 120, 3) := by decide +kernel
theorem dX11_now_8 : decode cX11_now 8 = .ok (.ireturn, 1) := by decide +kernel
theorem dX11_isSort_0 : decode cX11_isSort 0 = .ok (.iload_n 0, 1) := by decide +kernel
theorem dX11_isSort_1 : decode cX11_isSort 1 = .ok (.ifCond .lt 13, 3) := by decide +kernel
theorem dX11_isSort_4 : decode cX11_isSort 4 = .ok (.iload_n 0, 1) := by decide +kernel
theorem dX11_isSort_5 : decode cX11_isSort 5 = .ok (.bipush 27, 2) := by decide +kernel
theorem dX11_isSort_7 : decode cX11_isSort 7 = .ok (.if_icmp .ge 7, 3) := by decide +kernel
theorem dX11_isSort_10 : decode cX11_isSort 10 = .ok (.iconst 1, 1) := by decide +kernel
theorem dX11_isSort_11 : decode cX11_isSort 11 = .ok (.goto 4, 3) := by decide +kernel
theorem dX11_isSort_14 : decode cX11_isSort 14 = .ok (.iconst 0, 1) := by decide +kernel
theorem dX11_isSort_15 : decode cX11_isSort 15 = .ok (.ireturn, 1) := by decide +kernel
theorem dX11_isDay_0 : decode cX11_isDay 0 = .ok (.iload_n 0, 1) := by decide +kernel
theorem dX11_isDay_1 : decode cX11_isDay 1 = .ok (.ifCond .lt 14, 3) := by decide +kernel
theorem dX11_isDay_4 : decode cX11_isDay 4 = .ok (.iload_n 0, 1) := by decide +kernel
theorem dX11_isDay_5 : decode cX11_isDay 5 = .ok (.sipush 999, 3) := by decide +kernel
theorem dX11_isDay_8 : decode cX11_isDay 8 = .ok (.if_icmp .gt 7, 3) := by decide +kernel
theorem dX11_isDay_11 : decode cX11_isDay 11 = .ok (.iconst 1, 1) := by decide +kernel
theorem dX11_isDay_12 : decode cX11_isDay 12 = .ok (.goto 4, 3) := by decide +kernel
theorem dX11_isDay_15 : decode cX11_isDay 15 = .ok (.iconst 0, 1) := by decide +kernel
theorem dX11_isDay_16 : decode cX11_isDay 16 = .ok (.ireturn, 1) := by decide +kernel
theorem dX11_isSet_0 : decode cX11_isSet 0 = .ok (.aload_n 0, 1) := by decide +kernel
theorem dX11_isSet_1 : decode cX11_isSet 1 = .ok (.getfield 39, 3) := by decide +kernel
theorem dX11_isSet_4 : decode cX11_isSet 4 = .ok (.aload_n 0, 1) := by decide +kernel
theorem dX11_isSet_5 : decode cX11_isSet 5 = .ok (.getfield 32, 3) := by decide +kernel
theorem dX11_isSet_8 : decode cX11_isSet 8 = .ok (.iload_n 2, 1) := by decide +kernel
theorem dX11_isSet_9 : decode cX11_isSet 9 = .ok (.iload_n 3, 1) := by decide +kernel
theorem dX11_isSet_10 : decode cX11_isSet 10 = .ok (.invokevirtual 168, 3) := by decide +kernel
theorem dX11_isSet_13 : decode cX11_isSet 13 = .ok (.aload_n 0, 1) := by decide +kernel
theorem dX11_isSet_14 : decode cX11_isSet 14 = .ok (.getfield 48, 3) := by decide +kernel
theorem dX11_isSet_17 : decode cX11_isSet 17 = .ok (.iload_n 1, 1) := by decide +kernel
theorem dX11_isSet_18 : decode cX11_isSet 18 = .ok (.aload_n 0, 1) := by decide +kernel
theorem dX11_isSet_19 : decode cX11_isSet 19 = .ok (.getfield 67, 3) := by decide +kernel
theorem dX11_isSet_22 : decode cX11_isSet 22 = .ok (.getfield 357, 3) := by decide +kernel
theorem dX11_isSet_25 : decode cX11_isSet 25 = .ok (.invokevirtual 360, 3) := by decide +kernel
theorem dX11_isSet_28 : decode cX11_isSet 28 = .ok (.aload_n 0, 1) := by decide +kernel
theorem dX11_isSet_29 : decode cX11_isSet 29 = .ok (.getfield 67, 3) := by decide +kernel
theorem dX11_isSet_32 : decode cX11_isSet 32 = .ok (.invokevirtual 364, 3) := by decide +kernel
theorem dX11_isSet_35 : decode cX11_isSet 35 = .ok (.ireturn, 1) := by decide +kernel
