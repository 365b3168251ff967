theorem dX9_init_0 : decode cX9_init 0 = .ok (.aload_n 0, 1) := by decide +kernel
theorem dX9_init_1 : decode cX9_init 1 = .ok (.invokespecial 1, 3) := by decide +kernel
theorem dX9_init_4 : decode cX9_init 4 = .ok (.aload_n 0, 1) := by decide +kernel
theorem dX9_init_5 : decode cX9_init 5 = .ok (.sipush 200, 3) := by decide +kernel
theorem dX9_init_8 : decode cX9_init 8 = .ok (.newarray .int, 2) := by decide +kernel
theorem dX9_init_10 : decode cX9_init 10 = .ok (.putfield 7, 3) := by decide +kernel
theorem dX9_init_13 : decode cX9_init 13 = .ok (.aload_n 0, 1) := by decide +kernel
theorem dX9_init_14 : decode cX9_init 14 = .ok (.bipush 17, 2) := by decide +kernel
theorem dX9_init_16 : decode cX9_init 16 = .ok (.newarray .int, 2) := by decide +kernel
theorem dX9_init_18 : decode cX9_init 18 = .ok (.putfield 13, 3) := by decide +kernel
theorem dX9_init_21 : decode cX9_init 21 = .ok (.aload_n 0, 1) := by decide +kernel
theorem dX9_init_22 : decode cX9_init 22 = .ok (.bipush 17, 2) := by decide +kernel
theorem dX9_init_24 : decode cX9_init 24 = .ok (.newarray .int, 2) := by decide +kernel
theorem dX9_init_26 : decode cX9_init 26 = .ok (.putfield 16, 3) := by decide +kernel
theorem dX9_init_29 : decode cX9_init 29 = .ok (.aload_n 0, 1) := by decide +kernel
theorem dX9_init_30 : decode cX9_init 30 = .ok (.bipush 29, 2) := by decide +kernel
theorem dX9_init_32 : decode cX9_init 32 = .ok (.newarray .int, 2) := by decide +kernel
theorem dX9_init_34 : decode cX9_init 34 = .ok (.putfield 19, 3) := by decide +kernel
theorem dX9_init_37 : decode cX9_init 37 = .ok (.aload_n 0, 1) := by decide +kernel
theorem dX9_init_38 : decode cX9_init 38 = .ok (.sipush 232, 3) := by decide +kernel
theorem dX9_init_41 : decode cX9_init 41 = .ok (.newarray .int, 2) := by decide +kernel
theorem dX9_init_43 : decode cX9_init 43 = .ok (.putfield 22, 3) := by decide +kernel
theorem dX9_init_46 : decode cX9_init 46 = .ok (.aload_n 0, 1) := by decide +kernel
theorem dX9_init_47 : decode cX9_init 47 = .ok (.bipush 58, 2) := by decide +kernel
theorem dX9_init_49 : decode cX9_init 49 = .ok (.newarray .int, 2) := by decide +kernel
theorem dX9_init_51 : decode cX9_init 51 = .ok (.putfield 25, 3) := by decide +kernel
theorem dX9_init_54 : decode cX9_init 54 = .ok (.aload_n 0, 1) := by decide +kernel
theorem dX9_init_55 : decode cX9_init 55 = .ok (.bipush 8, 2) := by decide +kernel
theorem dX9_init_57 : decode cX9_init 57 = .ok (.newarray .int, 2) := by decide +kernel
theorem dX9_init_59 : decode cX9_init 59 = .ok (.putfield 28, 3) := by decide +kernel
theorem dX9_init_62 : decode cX9_init 62 = .ok (.aload_n 0, 1) := by decide +kernel
theorem dX9_init_63 : decode cX9_init 63 = .ok (.bipush 29, 2) := by decide +kernel
theorem dX9_init_65 : decode cX9_init 65 = .ok (.newarray .int, 2) := by decide +kernel
theorem dX9_init_67 : decode cX9_init 67 = .ok (.putfield 31, 3) := by decide +kernel
theorem dX9_init_70 : decode cX9_init 70 = .ok (.aload_n 0, 1) := by decide +kernel
theorem dX9_init_71 : decode cX9_init 71 = .ok (.bipush 6, 2) := by decide +kernel
theorem dX9_init_73 : decode cX9_init 73 = .ok (.newarray .int, 2) := by decide +kernel
theorem dX9_init_75 : decode cX9_init 75 = .ok (.putfield 34, 3) := by decide +kernel
theorem dX9_init_78 : decode cX9_init 78 = .ok (.aload_n 0, 1) := by decide +kernel
theorem dX9_init_79 : decode cX9_init 79 = .ok (.bipush 7, 2) := by decide +kernel
theorem dX9_init_81 : decode cX9_init 81 = .ok (.newarray .int, 2) := by decide +kernel
theorem dX9_init_83 : decode cX9_init 83 = .ok (.putfield 37, 3) := by decide +kernel
theorem dX9_init_86 : decode cX9_init 86 = .ok (.aload_n 0, 1) := by decide +kernel
theorem dX9_init_87 : decode cX9_init 87 = .ok (.invokevirtual 40, 3) := by decide +kernel
theorem dX9_init_90 : decode cX9_init 90 = .ok (.aload_n 0, 1) := by decide +kernel
theorem dX9_init_91 : decode cX9_init 91 = .ok (.iconst 0, 1) := by decide +kernel
theorem dX9_init_92 : decode cX9_init 92 = .ok (.iconst 4, 1) := by decide +kernel
theorem dX9_init_93 : decode cX9_init 93 = .ok (.invokevirtual 43, 3) := by decide +kernel
theorem dX9_init_96 : decode cX9_init 96 = .ok (.aload_n 0, 1) := by decide +kernel
theorem dX9_init_97 : decode cX9_init 97 = .ok (.iconst 1, 1) := by decide +kernel
theorem dX9_init_98 : decode cX9_init 98 = .ok (.iconst 5, 1) := by decide +kernel
theorem dX9_init_99 : decode cX9_init 99 = .ok (.invokevirtual 43, 3) := by decide +kernel
theorem dX9_init_102 : decode cX9_init 102 = .ok (.aload_n 0, 1) := by decide +kernel
theorem dX9_init_103 : decode cX9_init 103 = .ok (.iconst 2, 1) := by decide +kernel
theorem dX9_init_104 : decode cX9_init 104 = .ok (.iconst 3, 1) := by decide +kernel
theorem dX9_init_105 : decode cX9_init 105 = .ok (.invokevirtual 43, 3) := by decide +kernel
theorem dX9_init_108 : decode cX9_init 108 = .ok (.aload_n 0, 1) := by decide +kernel
theorem dX9_init_109 : decode cX9_init 109 = .ok (.iconst 3, 1) := by decide +kernel
theorem dX9_init_110 : decode cX9_init 110 = .ok (.iconst 4, 1) := by decide +kernel
theorem dX9_init_111 : decode cX9_init 111 = .ok (.invokevirtual 43, 3) := by decide +kernel
theorem dX9_init_114 : decode cX9_init 114 = .ok (.aload_n 0, 1) := by decide +kernel
theorem dX9_init_115 : decode cX9_init 115 = .ok (.iconst 0, 1) := by decide +kernel
theorem dX9_init_116 : decode cX9_init 116 = .ok (.bipush 6, 2) := by decide +kernel
theorem dX9_init_118 : decode cX9_init 118 = .ok (.invokevirtual 43, 3) := by decide +kernel
theorem dX9_init_121 : decode cX9_init 121 = .ok (.aload_n 0, 1) := by decide +kernel
theorem dX9_init_122 : decode cX9_init 122 = .ok (.iconst 1, 1) := by decide +kernel
theorem dX9_init_123 : decode cX9_init 123 = .ok (.iconst 3, 1) := by decide +kernel
theorem dX9_init_124 : decode cX9_init 124 = .ok (.invokevirtual 43, 3) := by decide +kernel
theorem dX9_init_127 : decode cX9_init 127 = .ok (.aload_n 0, 1) := by decide +kernel
theorem dX9_init_128 : decode cX9_init 128 = .ok (.getfield 16, 3) := by decide +kernel
theorem dX9_init_131 : decode cX9_init 131 = .ok (.iconst 2, 1) := by decide +kernel
theorem dX9_init_132 : decode cX9_init 132 = .ok (.iconst 5, 1) := by decide +kernel
theorem dX9_init_133 : decode cX9_init 133 = .ok (.iastore, 1) := by decide +kernel
theorem dX9_init_134 : decode cX9_init 134 = .ok (.aload_n 0, 1) := by decide +kernel
theorem dX9_init_135 : decode cX9_init 135 = .ok (.getfield 16, 3) := by decide +kernel
theorem dX9_init_138 : decode cX9_init 138 = .ok (.iconst 4, 1) := by decide +kernel
theorem dX9_init_139 : decode cX9_init 139 = .ok (.bipush 40, 2) := by decide +kernel
theorem dX9_init_141 : decode cX9_init 141 = .ok (.iastore, 1) := by decide +kernel
theorem dX9_init_142 : decode cX9_init 142 = .ok (.aload_n 0, 1) := by decide +kernel
theorem dX9_init_143 : decode cX9_init 143 = .ok (.invokevirtual 47, 3) := by decide +kernel
theorem dX9_init_146 : decode cX9_init 146 = .ok (.return_, 1) := by decide +kernel
theorem dX9_in_0 : decode cX9_in 0 = .ok (.iload_n 0, 1) := by decide +kernel
theorem dX9_in_1 : decode cX9_in 1 = .ok (.iload_n 1, 1) := by decide +kernel
theorem dX9_in_2 : decode cX9_in 2 = .ok (.if_icmp .lt 12, 3) := by decide +kernel
theorem dX9_in_5 : decode cX9_in 5 = .ok (.iload_n 0, 1) := by decide +kernel
theorem dX9_in_6 : decode cX9_in 6 = .ok (.iload_n 2, 1) := by decide +kernel
theorem dX9_in_7 : decode cX9_in 7 = .ok (.if_icmp .gt 7, 3) := by decide +kernel
theorem dX9_in_10 : decode cX9_in 10 = .ok (.iconst 1, 1) := by decide +kernel
theorem dX9_in_11 : decode cX9_in 11 = .ok (.goto 4, 3) := by decide +kernel
theorem dX9_in_14 : decode cX9_in 14 = .ok (.iconst 0, 1) := by decide +kernel
theorem dX9_in_15 : decode cX9_in 15 = .ok (.ireturn, 1) := by decide +kernel
theorem dX9_isChild_0 : decode cX9_isChild 0 = .ok (.iload_n 1, 1) := by decide +kernel
theorem dX9_isChild_1 : decode cX9_isChild 1 = .ok (.iconst 0, 1) := by decide +kernel
theorem dX9_isChild_2 : decode cX9_isChild 2 = .ok (.aload_n 0, 1) := by decide +kernel
theorem dX9_isChild_3 : decode cX9_isChild 3 = .ok (.getfield 13, 3) := by decide +kernel
theorem dX9_isChild_6 : decode cX9_isChild 6 = .ok (.iconst 0, 1) := by decide +kernel
theorem dX9_isChild_7 : decode cX9_isChild 7 = .ok (.iaload, 1) := by decide +kernel
theorem dX9_isChild_8 : decode cX9_isChild 8 = .ok (.iconst 1, 1) := by decide +kernel
theorem dX9_isChild_9 : decode cX9_isChild 9 = .ok (.isub, 1) := by decide +kernel
theorem dX9_isChild_10 : decode cX9_isChild 10 = .ok (.invokestatic 50, 3) := by decide +kernel
theorem dX9_isChild_13 : decode cX9_isChild 13 = .ok (.ireturn, 1) := by decide +kernel
theorem dX9_isWoman_0 : decode cX9_isWoman 0 = .ok (.iload_n 1, 1) := by decide +kernel
theorem dX9_isWoman_1 : decode cX9_isWoman 1 = .ok (.iconst 0, 1) := by decide +kernel
theorem dX9_isWoman_2 : decode cX9_isWoman 2 = .ok (.aload_n 0, 1) := by decide +kernel
theorem dX9_isWoman_3 : decode cX9_isWoman 3 = .ok (.getfield 13, 3) := by decide +kernel
theorem dX9_isWoman_6 : decode cX9_isWoman 6 = .ok (.iconst 1, 1) := by decide +kernel
theorem dX9_isWoman_7 : decode cX9_isWoman 7 = .ok (.iaload, 1) := by decide +kernel
theorem dX9_isWoman_8 : decode cX9_isWoman 8 = .ok (.iconst 1, 1) := by decide +kernel
theorem dX9_isWoman_9 : decode cX9_isWoman 9 = .ok (.isub, 1) := by decide +kernel
theorem dX9_isWoman_10 : decode cX9_isWoman 10 = .ok (.invokestatic 50, 3) := by decide +kernel
theorem dX9_isWoman_13 : decode cX9_isWoman 13 = .ok (.ireturn, 1) := by decide +kernel
theorem dX9_write_0 : decode cX9_write 0 = .ok (.iload_n 1, 1) := by decide +kernel
theorem dX9_write_1 : decode cX9_write 1 = .ok (.bipush 32, 2) := by decide +kernel
theorem dX9_write_3 : decode cX9_write 3 = .ok (.bipush 126, 2) := by decide +kernel
theorem dX9_write_5 : decode cX9_write 5 = .ok (.invokestatic 50, 3) := by decide +kernel
theorem dX9_write_8 : decode cX9_write 8 = .ok (.ifCond .ne 5, 3) := by decide +kernel
theorem dX9_write_11 : decode cX9_write 11 = .ok (.iconst (-1), 1) := by decide +kernel
theorem dX9_write_12 : decode cX9_write 12 = .ok (.ireturn, 1) := by decide +kernel
theorem dX9_write_13 : decode cX9_write 13 = .ok (.aload_n 0, 1) := by decide +kernel
theorem dX9_write_14 : decode cX9_write 14 = .ok (.getfield 54, 3) := by decide +kernel
theorem dX9_write_17 : decode cX9_write 17 = .ok (.sipush 200, 3) := by decide +kernel
theorem dX9_write_20 : decode cX9_write 20 = .ok (.if_icmp .ne 6, 3) := by decide +kernel
theorem dX9_write_23 : decode cX9_write 23 = .ok (.bipush (-3), 2) := by decide +kernel
theorem dX9_write_25 : decode cX9_write 25 = .ok (.ireturn, 1) := by decide +kernel
theorem dX9_write_26 : decode cX9_write 26 = .ok (.aload_n 0, 1) := by decide +kernel
theorem dX9_write_27 : decode cX9_write 27 = .ok (.getfield 7, 3) := by decide +kernel
theorem dX9_write_30 : decode cX9_write 30 = .ok (.aload_n 0, 1) := by decide +kernel
theorem dX9_write_31 : decode cX9_write 31 = .ok (.getfield 54, 3) := by decide +kernel
theorem dX9_write_34 : decode cX9_write 34 = .ok (.iload_n 1, 1) := by decide +kernel
theorem dX9_write_35 : decode cX9_write 35 = .ok (.iastore, 1) := by decide +kernel
theorem dX9_write_36 : decode cX9_write 36 = .ok (.aload_n 0, 1) := by decide +kernel
theorem dX9_write_37 : decode cX9_write 37 = .ok (.dup, 1) := by decide +kernel
theorem dX9_write_38 : decode cX9_write 38 = .ok (.getfield 54, 3) := by decide +kernel
theorem dX9_write_41 : decode cX9_write 41 = .ok (.iconst 1, 1) := by decide +kernel
theorem dX9_write_42 : decode cX9_write 42 = .ok (.iadd, 1) := by decide +kernel
theorem dX9_write_43 : decode cX9_write 43 = .ok (.putfield 54, 3) := by decide +kernel
theorem dX9_write_46 : decode cX9_write 46 = .ok (.aload_n 0, 1) := by decide +kernel
theorem dX9_write_47 : decode cX9_write 47 = .ok (.getfield 54, 3) := by decide +kernel
theorem dX9_write_50 : decode cX9_write 50 = .ok (.ireturn, 1) := by decide +kernel
theorem dX9_wipe_0 : decode cX9_wipe 0 = .ok (.aload_n 0, 1) := by decide +kernel
theorem dX9_wipe_1 : decode cX9_wipe 1 = .ok (.getfield 54, 3) := by decide +kernel
theorem dX9_wipe_4 : decode cX9_wipe 4 = .ok (.istore_n 1, 1) := by decide +kernel
theorem dX9_wipe_5 : decode cX9_wipe 5 = .ok (.aload_n 0, 1) := by decide +kernel
theorem dX9_wipe_6 : decode cX9_wipe 6 = .ok (.iconst 0, 1) := by decide +kernel
theorem dX9_wipe_7 : decode cX9_wipe 7 = .ok (.putfield 54, 3) := by decide +kernel
theorem dX9_wipe_10 : decode cX9_wipe 10 = .ok (.iload_n 1, 1) := by decide +kernel
theorem dX9_wipe_11 : decode cX9_wipe 11 = .ok (.ireturn, 1) := by decide +kernel
theorem dX9_letterAt_0 : decode cX9_letterAt 0 = .ok (.iload_n 1, 1) := by decide +kernel
theorem dX9_letterAt_1 : decode cX9_letterAt 1 = .ok (.aload_n 0, 1) := by decide +kernel
theorem dX9_letterAt_2 : decode cX9_letterAt 2 = .ok (.getfield 54, 3) := by decide +kernel
theorem dX9_letterAt_5 : decode cX9_letterAt 5 = .ok (.if_icmp .ge 12, 3) := by decide +kernel
theorem dX9_letterAt_8 : decode cX9_letterAt 8 = .ok (.aload_n 0, 1) := by decide +kernel
theorem dX9_letterAt_9 : decode cX9_letterAt 9 = .ok (.getfield 7, 3) := by decide +kernel
theorem dX9_letterAt_12 : decode cX9_letterAt 12 = .ok (.iload_n 1, 1) := by decide +kernel
theorem dX9_letterAt_13 : decode cX9_letterAt 13 = .ok (.iaload, 1) := by decide +kernel
theorem dX9_letterAt_14 : decode cX9_letterAt 14 = .ok (.goto 4, 3) := by decide +kernel
theorem dX9_letterAt_17 : decode cX9_letterAt 17 = .ok (.iconst (-1), 1) := by decide +kernel
theorem dX9_letterAt_18 : decode cX9_letterAt 18 = .ok (.ireturn, 1) := by decide +kernel
theorem dX9_isFigure_0 : decode cX9_isFigure 0 = .ok (.iload_n 0, 1) := by decide +kernel
theorem dX9_isFigure_1 : decode cX9_isFigure 1 = .ok (.bipush 48, 2) := by decide +kernel
theorem dX9_isFigure_3 : decode cX9_isFigure 3 = .ok (.bipush 57, 2) := by decide +kernel
theorem dX9_isFigure_5 : decode cX9_isFigure 5 = .ok (.invokestatic 50, 3) := by decide +kernel
theorem dX9_isFigure_8 : decode cX9_isFigure 8 = .ok (.ireturn, 1) := by decide +kernel
theorem dX9_number_0 : decode cX9_number 0 = .ok (.aload_n 0, 1) := by decide +kernel
theorem dX9_number_1 : decode cX9_number 1 = .ok (.aload_n 0, 1) := by decide +kernel
theorem dX9_number_2 : decode cX9_number 2 = .ok (.getfield 58, 3) := by decide +kernel
theorem dX9_number_5 : decode cX9_number 5 = .ok (.invokevirtual 61, 3) := by decide +kernel
theorem dX9_number_8 : decode cX9_number 8 = .ok (.invokestatic 65, 3) := by decide +kernel
theorem dX9_number_11 : decode cX9_number 11 = .ok (.ifCond .ne 5, 3) := by decide +kernel
theorem dX9_number_14 : decode cX9_number 14 = .ok (.iconst (-1), 1) := by decide +kernel
theorem dX9_number_15 : decode cX9_number 15 = .ok (.ireturn, 1) := by decide +kernel
theorem dX9_number_16 : decode cX9_number 16 = .ok (.aload_n 0, 1) := by decide +kernel
theorem dX9_number_17 : decode cX9_number 17 = .ok (.aload_n 0, 1) := by decide +kernel
theorem dX9_number_18 : decode cX9_number 18 = .ok (.getfield 58, 3) := by decide +kernel
theorem dX9_number_21 : decode cX9_number 21 = .ok (.invokevirtual 61, 3) := by decide +kernel
theorem dX9_number_24 : decode cX9_number 24 = .ok (.bipush 48, 2) := by decide +kernel
theorem dX9_number_26 : decode cX9_number 26 = .ok (.isub, 1) := by decide +kernel
theorem dX9_number_27 : decode cX9_number 27 = .ok (.istore 4, 2) := by decide +kernel
theorem dX9_number_29 : decode cX9_number 29 = .ok (.aload_n 0, 1) := by decide +kernel
theorem dX9_number_30 : decode cX9_number 30 = .ok (.dup, 1) := by decide +kernel
theorem dX9_number_31 : decode cX9_number 31 = .ok (.getfield 58, 3) := by decide +kernel
theorem dX9_number_34 : decode cX9_number 34 = .ok (.iconst 1, 1) := by decide +kernel
theorem dX9_number_35 : decode cX9_number 35 = .ok (.iadd, 1) := by decide +kernel
theorem dX9_number_36 : decode cX9_number 36 = .ok (.putfield 58, 3) := by decide +kernel
theorem dX9_number_39 : decode cX9_number 39 = .ok (.aload_n 0, 1) := by decide +kernel
theorem dX9_number_40 : decode cX9_number 40 = .ok (.aload_n 0, 1) := by decide +kernel
theorem dX9_number_41 : decode cX9_number 41 = .ok (.getfield 58, 3) := by decide +kernel
theorem dX9_number_44 : decode cX9_number 44 = .ok (.invokevirtual 61, 3) := by decide +kernel
theorem dX9_number_47 : decode cX9_number 47 = .ok (.invokestatic 65, 3) := by decide +kernel
theorem dX9_number_50 : decode cX9_number 50 = .ok (.ifCond .eq 32, 3) := by decide +kernel
theorem dX9_number_53 : decode cX9_number 53 = .ok (.bipush 10, 2) := by decide +kernel
theorem dX9_number_55 : decode cX9_number 55 = .ok (.iload 4, 2) := by decide +kernel
theorem dX9_number_57 : decode cX9_number 57 = .ok (.imul, 1) := by decide +kernel
theorem dX9_number_58 : decode cX9_number 58 = .ok (.aload_n 0, 1) := by decide +kernel
theorem dX9_number_59 : decode cX9_number 59 = .ok (.aload_n 0, 1) := by decide +kernel
theorem dX9_number_60 : decode cX9_number 60 = .ok (.getfield 58, 3) := by decide +kernel
theorem dX9_number_63 : decode cX9_number 63 = .ok (.invokevirtual 61, 3) := by decide +kernel
theorem dX9_number_66 : decode cX9_number 66 = .ok (.iadd, 1) := by decide +kernel
theorem dX9_number_67 : decode cX9_number 67 = .ok (.bipush 48, 2) := by decide +kernel
theorem dX9_number_69 : decode cX9_number 69 = .ok (.isub, 1) := by decide +kernel
theorem dX9_number_70 : decode cX9_number 70 = .ok (.istore 4, 2) := by decide +kernel
theorem dX9_number_72 : decode cX9_number 72 = .ok (.aload_n 0, 1) := by decide +kernel
theorem dX9_number_73 : decode cX9_number 73 = .ok (.dup, 1) := by decide +kernel
theorem dX9_number_74 : decode cX9_number 74 = .ok (.getfield 58, 3) := by decide +kernel
theorem dX9_number_77 : decode cX9_number 77 = .ok (.iconst 1, 1) := by decide +kernel
theorem dX9_number_78 : decode cX9_number 78 = .ok (.iadd, 1) := by decide +kernel
theorem dX9_number_79 : decode cX9_number 79 = .ok (.putfield 58, 3) := by decide +kernel
theorem dX9_number_82 : decode cX9_number 82 = .ok (.aload_n 0, 1) := by decide +kernel
theorem dX9_number_83 : decode cX9_number 83 = .ok (.aload_n 0, 1) := by decide +kernel
theorem dX9_number_84 : decode cX9_number 84 = .ok (.getfield 58, 3) := by decide +kernel
theorem dX9_number_87 : decode cX9_number 87 = .ok (.invokevirtual 61, 3) := by decide +kernel
theorem dX9_number_90 : decode cX9_number 90 = .ok (.iload_n 3, 1) := by decide +kernel
theorem dX9_number_91 : decode cX9_number 91 = .ok (.if_icmp .ne 17, 3) := by decide +kernel
theorem dX9_number_94 : decode cX9_number 94 = .ok (.iload 4, 2) := by decide +kernel
theorem dX9_number_96 : decode cX9_number 96 = .ok (.iload_n 1, 1) := by decide +kernel
theorem dX9_number_97 : decode cX9_number 97 = .ok (.iload_n 2, 1) := by decide +kernel
theorem dX9_number_98 : decode cX9_number 98 = .ok (.invokestatic 50, 3) := by decide +kernel
theorem dX9_number_101 : decode cX9_number 101 = .ok (.ifCond .eq 7, 3) := by decide +kernel
theorem dX9_number_104 : decode cX9_number 104 = .ok (.iconst 1, 1) := by decide +kernel
theorem dX9_number_105 : decode cX9_number 105 = .ok (.goto 4, 3) := by decide +kernel
theorem dX9_number_108 : decode cX9_number 108 = .ok (.iconst 0, 1) := by decide +kernel
theorem dX9_number_109 : decode cX9_number 109 = .ok (.istore 5, 2) := by decide +kernel
theorem dX9_number_111 : decode cX9_number 111 = .ok (.aload_n 0, 1) := by decide +kernel
theorem dX9_number_112 : decode cX9_number 112 = .ok (.dup, 1) := by decide +kernel
theorem dX9_number_113 : decode cX9_number 113 = .ok (.getfield 58, 3) := by decide +kernel
theorem dX9_number_116 : decode cX9_number 116 = .ok (.iconst 1, 1) := by decide +kernel
theorem dX9_number_117 : decode cX9_number 117 = .ok (.iadd, 1) := by decide +kernel
theorem dX9_number_118 : decode cX9_number 118 = .ok (.putfield 58, 3) := by decide +kernel
theorem dX9_number_121 : decode cX9_number 121 = .ok (.iload 5, 2) := by decide +kernel
theorem dX9_number_123 : decode cX9_number 123 = .ok (.ifCond .eq 8, 3) := by decide +kernel
theorem dX9_number_126 : decode cX9_number 126 = .ok (.iload 4, 2) := by decide +kernel
theorem dX9_number_128 : decode cX9_number 128 = .ok (.goto 4, 3) := by decide +kernel
theorem dX9_number_131 : decode cX9_number 131 = .ok (.iconst (-1), 1) := by decide +kernel
theorem dX9_number_132 : decode cX9_number 132 = .ok (.ireturn, 1) := by decide +kernel
theorem dX9_begins_0 : decode cX9_begins 0 = .ok (.iconst 0, 1) := by decide +kernel
theorem dX9_begins_1 : decode cX9_begins 1 = .ok (.istore_n 1, 1) := by decide +kernel
theorem dX9_begins_2 : decode cX9_begins 2 = .ok (.iload_n 1, 1) := by decide +kernel
theorem dX9_begins_3 : decode cX9_begins 3 = .ok (.bipush 17, 2) := by decide +kernel
theorem dX9_begins_5 : decode cX9_begins 5 = .ok (.if_icmp .ge 16, 3) := by decide +kernel
theorem dX9_begins_8 : decode cX9_begins 8 = .ok (.aload_n 0, 1) := by decide +kernel
theorem dX9_begins_9 : decode cX9_begins 9 = .ok (.getfield 16, 3) := by decide +kernel
theorem dX9_begins_12 : decode cX9_begins 12 = .ok (.iload_n 1, 1) := by decide +kernel
theorem dX9_begins_13 : decode cX9_begins 13 = .ok (.iconst 0, 1) := by decide +kernel
theorem dX9_begins_14 : decode cX9_begins 14 = .ok (.iastore, 1) := by decide +kernel
theorem dX9_begins_15 : decode cX9_begins 15 = .ok (.iinc 1 1, 3) := by decide +kernel
theorem dX9_begins_18 : decode cX9_begins 18 = .ok (.goto (-16), 3) := by decide +kernel
theorem dX9_begins_21 : decode cX9_begins 21 = .ok (.aload_n 0, 1) := by decide +kernel
theorem dX9_begins_22 : decode cX9_begins 22 = .ok (.getfield 16, 3) := by decide +kernel
theorem dX9_begins_25 : decode cX9_begins 25 = .ok (.iconst 1, 1) := by decide +kernel
theorem dX9_begins_26 : decode cX9_begins 26 = .ok (.iconst 2, 1) := by decide +kernel
theorem dX9_begins_27 : decode cX9_begins 27 = .ok (.iastore, 1) := by decide +kernel
theorem dX9_begins_28 : decode cX9_begins 28 = .ok (.aload_n 0, 1) := by decide +kernel
theorem dX9_begins_29 : decode cX9_begins 29 = .ok (.getfield 16, 3) := by decide +kernel
theorem dX9_begins_32 : decode cX9_begins 32 = .ok (.iconst 2, 1) := by decide +kernel
theorem dX9_begins_33 : decode cX9_begins 33 = .ok (.bipush 9, 2) := by decide +kernel
theorem dX9_begins_35 : decode cX9_begins 35 = .ok (.iastore, 1) := by decide +kernel
theorem dX9_begins_36 : decode cX9_begins 36 = .ok (.aload_n 0, 1) := by decide +kernel
theorem dX9_begins_37 : decode cX9_begins 37 = .ok (.getfield 16, 3) := by decide +kernel
theorem dX9_begins_40 : decode cX9_begins 40 = .ok (.iconst 3, 1) := by decide +kernel
theorem dX9_begins_41 : decode cX9_begins 41 = .ok (.iconst 3, 1) := by decide +kernel
theorem dX9_begins_42 : decode cX9_begins 42 = .ok (.iastore, 1) := by decide +kernel
theorem dX9_begins_43 : decode cX9_begins 43 = .ok (.aload_n 0, 1) := by decide +kernel
theorem dX9_begins_44 : decode cX9_begins 44 = .ok (.getfield 16, 3) := by decide +kernel
theorem dX9_begins_47 : decode cX9_begins 47 = .ok (.iconst 4, 1) := by decide +kernel
theorem dX9_begins_48 : decode cX9_begins 48 = .ok (.bipush 60, 2) := by decide +kernel
theorem dX9_begins_50 : decode cX9_begins 50 = .ok (.iastore, 1) := by decide +kernel
theorem dX9_begins_51 : decode cX9_begins 51 = .ok (.return_, 1) := by decide +kernel
theorem dX9_childOf_0 : decode cX9_childOf 0 = .ok (.aload_n 0, 1) := by decide +kernel
theorem dX9_childOf_1 : decode cX9_childOf 1 = .ok (.getfield 16, 3) := by decide +kernel
theorem dX9_childOf_4 : decode cX9_childOf 4 = .ok (.iconst 5, 1) := by decide +kernel
theorem dX9_childOf_5 : decode cX9_childOf 5 = .ok (.aload_n 0, 1) := by decide +kernel
theorem dX9_childOf_6 : decode cX9_childOf 6 = .ok (.getfield 16, 3) := by decide +kernel
theorem dX9_childOf_9 : decode cX9_childOf 9 = .ok (.iconst 0, 1) := by decide +kernel
theorem dX9_childOf_10 : decode cX9_childOf 10 = .ok (.iaload, 1) := by decide +kernel
theorem dX9_childOf_11 : decode cX9_childOf 11 = .ok (.iadd, 1) := by decide +kernel
theorem dX9_childOf_12 : decode cX9_childOf 12 = .ok (.iload_n 1, 1) := by decide +kernel
theorem dX9_childOf_13 : decode cX9_childOf 13 = .ok (.iastore, 1) := by decide +kernel
theorem dX9_childOf_14 : decode cX9_childOf 14 = .ok (.aload_n 0, 1) := by decide +kernel
theorem dX9_childOf_15 : decode cX9_childOf 15 = .ok (.getfield 16, 3) := by decide +kernel
theorem dX9_childOf_18 : decode cX9_childOf 18 = .ok (.bipush 11, 2) := by decide +kernel
theorem dX9_childOf_20 : decode cX9_childOf 20 = .ok (.aload_n 0, 1) := by decide +kernel
theorem dX9_childOf_21 : decode cX9_childOf 21 = .ok (.getfield 16, 3) := by decide +kernel
theorem dX9_childOf_24 : decode cX9_childOf 24 = .ok (.iconst 0, 1) := by decide +kernel
theorem dX9_childOf_25 : decode cX9_childOf 25 = .ok (.iaload, 1) := by decide +kernel
theorem dX9_childOf_26 : decode cX9_childOf 26 = .ok (.iadd, 1) := by decide +kernel
theorem dX9_childOf_27 : decode cX9_childOf 27 = .ok (.iload_n 2, 1) := by decide +kernel
theorem dX9_childOf_28 : decode cX9_childOf 28 = .ok (.iastore, 1) := by decide +kernel
theorem dX9_childOf_29 : decode cX9_childOf 29 = .ok (.aload_n 0, 1) := by decide +kernel
theorem dX9_childOf_30 : decode cX9_childOf 30 = .ok (.getfield 16, 3) := by decide +kernel
theorem dX9_childOf_33 : decode cX9_childOf 33 = .ok (.iconst 0, 1) := by decide +kernel
theorem dX9_childOf_34 : decode cX9_childOf 34 = .ok (.dup2, 1) := by decide +kernel
theorem dX9_childOf_35 : decode cX9_childOf 35 = .ok (.iaload, 1) := by decide +kernel
theorem dX9_childOf_36 : decode cX9_childOf 36 = .ok (.iconst 1, 1) := by decide +kernel
theorem dX9_childOf_37 : decode cX9_childOf 37 = .ok (.iadd, 1) := by decide +kernel
theorem dX9_childOf_38 : decode cX9_childOf 38 = .ok (.iastore, 1) := by decide +kernel
theorem dX9_childOf_39 : decode cX9_childOf 39 = .ok (.return_, 1) := by decide +kernel
theorem dX9_one_0 : decode cX9_one 0 = .ok (.aload_n 0, 1) := by decide +kernel
theorem dX9_one_1 : decode cX9_one 1 = .ok (.getfield 16, 3) := by decide +kernel
theorem dX9_one_4 : decode cX9_one 4 = .ok (.iload_n 1, 1) := by decide +kernel
theorem dX9_one_5 : decode cX9_one 5 = .ok (.aload_n 0, 1) := by decide +kernel
theorem dX9_one_6 : decode cX9_one 6 = .ok (.iconst 1, 1) := by decide +kernel
theorem dX9_one_7 : decode cX9_one 7 = .ok (.iload_n 2, 1) := by decide +kernel
theorem dX9_one_8 : decode cX9_one 8 = .ok (.bipush 59, 2) := by decide +kernel
theorem dX9_one_10 : decode cX9_one 10 = .ok (.invokevirtual 69, 3) := by decide +kernel
theorem dX9_one_13 : decode cX9_one 13 = .ok (.iastore, 1) := by decide +kernel
theorem dX9_one_14 : decode cX9_one 14 = .ok (.aload_n 0, 1) := by decide +kernel
theorem dX9_one_15 : decode cX9_one 15 = .ok (.getfield 16, 3) := by decide +kernel
theorem dX9_one_18 : decode cX9_one 18 = .ok (.iload_n 1, 1) := by decide +kernel
theorem dX9_one_19 : decode cX9_one 19 = .ok (.iaload, 1) := by decide +kernel
theorem dX9_one_20 : decode cX9_one 20 = .ok (.ifCond .le 7, 3) := by decide +kernel
theorem dX9_one_23 : decode cX9_one 23 = .ok (.iconst 1, 1) := by decide +kernel
theorem dX9_one_24 : decode cX9_one 24 = .ok (.goto 4, 3) := by decide +kernel
theorem dX9_one_27 : decode cX9_one 27 = .ok (.iconst 0, 1) := by decide +kernel
theorem dX9_one_28 : decode cX9_one 28 = .ok (.ireturn, 1) := by decide +kernel
theorem dX9_readsItem_0 : decode cX9_readsItem 0 = .ok (.iload_n 1, 1) := by decide +kernel
theorem dX9_readsItem_1 : decode cX9_readsItem 1 = .ok (.lookupswitch 133 #[(99, 51), (103, 118), (104, 110), (108, 125), (119, 103)], 51) := by decide +kernel
theorem dX9_readsItem_52 : decode cX9_readsItem 52 = .ok (.aload_n 0, 1) := by decide +kernel
theorem dX9_readsItem_53 : decode cX9_readsItem 53 = .ok (.iconst 0, 1) := by decide +kernel
theorem dX9_readsItem_54 : decode cX9_readsItem 54 = .ok (.iconst 3, 1) := by decide +kernel
theorem dX9_readsItem_55 : decode cX9_readsItem 55 = .ok (.bipush 44, 2) := by decide +kernel
theorem dX9_readsItem_57 : decode cX9_readsItem 57 = .ok (.invokevirtual 69, 3) := by decide +kernel
theorem dX9_readsItem_60 : decode cX9_readsItem 60 = .ok (.istore_n 2, 1) := by decide +kernel
theorem dX9_readsItem_61 : decode cX9_readsItem 61 = .ok (.iload_n 2, 1) := by decide +kernel
theorem dX9_readsItem_62 : decode cX9_readsItem 62 = .ok (.ifCond .ge 7, 3) := by decide +kernel
theorem dX9_readsItem_65 : decode cX9_readsItem 65 = .ok (.iconst (-1), 1) := by decide +kernel
theorem dX9_readsItem_66 : decode cX9_readsItem 66 = .ok (.goto 12, 3) := by decide +kernel
theorem dX9_readsItem_69 : decode cX9_readsItem 69 = .ok (.aload_n 0, 1) := by decide +kernel
theorem dX9_readsItem_70 : decode cX9_readsItem 70 = .ok (.iconst 1, 1) := by decide +kernel
theorem dX9_readsItem_71 : decode cX9_readsItem 71 = .ok (.bipush 12, 2) := by decide +kernel
theorem dX9_readsItem_73 : decode cX9_readsItem 73 = .ok (.bipush 59, 2) := by decide +kernel
theorem dX9_readsItem_75 : decode cX9_readsItem 75 = .ok (.invokevirtual 69, 3) := by decide +kernel
theorem dX9_readsItem_78 : decode cX9_readsItem 78 = .ok (.istore_n 3, 1) := by decide +kernel
theorem dX9_readsItem_79 : decode cX9_readsItem 79 = .ok (.iload_n 3, 1) := by decide +kernel
theorem dX9_readsItem_80 : decode cX9_readsItem 80 = .ok (.ifCond .lt 14, 3) := by decide +kernel
theorem dX9_readsItem_83 : decode cX9_readsItem 83 = .ok (.aload_n 0, 1) := by decide +kernel
theorem dX9_readsItem_84 : decode cX9_readsItem 84 = .ok (.getfield 16, 3) := by decide +kernel
theorem dX9_readsItem_87 : decode cX9_readsItem 87 = .ok (.iconst 0, 1) := by decide +kernel
theorem dX9_readsItem_88 : decode cX9_readsItem 88 = .ok (.iaload, 1) := by decide +kernel
theorem dX9_readsItem_89 : decode cX9_readsItem 89 = .ok (.bipush 6, 2) := by decide +kernel
theorem dX9_readsItem_91 : decode cX9_readsItem 91 = .ok (.if_icmp .ne 5, 3) := by decide +kernel
theorem dX9_readsItem_94 : decode cX9_readsItem 94 = .ok (.iconst 0, 1) := by decide +kernel
theorem dX9_readsItem_95 : decode cX9_readsItem 95 = .ok (.ireturn, 1) := by decide +kernel
theorem dX9_readsItem_96 : decode cX9_readsItem 96 = .ok (.aload_n 0, 1) := by decide +kernel
theorem dX9_readsItem_97 : decode cX9_readsItem 97 = .ok (.iload_n 2, 1) := by decide +kernel
theorem dX9_readsItem_98 : decode cX9_readsItem 98 = .ok (.iload_n 3, 1) := by decide +kernel
theorem dX9_readsItem_99 : decode cX9_readsItem 99 = .ok (.invokevirtual 43, 3) := by decide +kernel
theorem dX9_readsItem_102 : decode cX9_readsItem 102 = .ok (.iconst 1, 1) := by decide +kernel
theorem dX9_readsItem_103 : decode cX9_readsItem 103 = .ok (.ireturn, 1) := by decide +kernel
theorem dX9_readsItem_104 : decode cX9_readsItem 104 = .ok (.aload_n 0, 1) := by decide +kernel
theorem dX9_readsItem_105 : decode cX9_readsItem 105 = .ok (.iconst 1, 1) := by decide +kernel
theorem dX9_readsItem_106 : decode cX9_readsItem 106 = .ok (.iconst 3, 1) := by decide +kernel
theorem dX9_readsItem_107 : decode cX9_readsItem 107 = .ok (.invokevirtual 73, 3) := by decide +kernel
theorem dX9_readsItem_110 : decode cX9_readsItem 110 = .ok (.ireturn, 1) := by decide +kernel
theorem dX9_readsItem_111 : decode cX9_readsItem 111 = .ok (.aload_n 0, 1) := by decide +kernel
theorem dX9_readsItem_112 : decode cX9_readsItem 112 = .ok (.iconst 2, 1) := by decide +kernel
theorem dX9_readsItem_113 : decode cX9_readsItem 113 = .ok (.bipush 20, 2) := by decide +kernel
theorem dX9_readsItem_115 : decode cX9_readsItem 115 = .ok (.invokevirtual 73, 3) := by decide +kernel
theorem dX9_readsItem_118 : decode cX9_readsItem 118 = .ok (.ireturn, 1) := by decide +kernel
theorem dX9_readsItem_119 : decode cX9_readsItem 119 = .ok (.aload_n 0, 1) := by decide +kernel
theorem dX9_readsItem_120 : decode cX9_readsItem 120 = .ok (.iconst 3, 1) := by decide +kernel
theorem dX9_readsItem_121 : decode cX9_readsItem 121 = .ok (.iconst 4, 1) := by decide +kernel
theorem dX9_readsItem_122 : decode cX9_readsItem 122 = .ok (.invokevirtual 73, 3) := by decide +kernel
theorem dX9_readsItem_125 : decode cX9_readsItem 125 = .ok (.ireturn, 1) := by decide +kernel
theorem dX9_readsItem_126 : decode cX9_readsItem 126 = .ok (.aload_n 0, 1) := by decide +kernel
theorem dX9_readsItem_127 : decode cX9_readsItem 127 = .ok (.iconst 4, 1) := by decide +kernel
theorem dX9_readsItem_128 : decode cX9_readsItem 128 = .ok (.bipush 99, 2) := by decide +kernel
theorem dX9_readsItem_130 : decode cX9_readsItem 130 = .ok (.invokevirtual 73, 3) := by decide +kernel
theorem dX9_readsItem_133 : decode cX9_readsItem 133 = .ok (.ireturn, 1) := by decide +kernel
theorem dX9_readsItem_134 : decode cX9_readsItem 134 = .ok (.iconst 0, 1) := by decide +kernel
theorem dX9_readsItem_135 : decode cX9_readsItem 135 = .ok (.ireturn, 1) := by decide +kernel
theorem dX9_readsAll_0 : decode cX9_readsAll 0 = .ok (.aload_n 0, 1) := by decide +kernel
theorem dX9_readsAll_1 : decode cX9_readsAll 1 = .ok (.invokevirtual 40, 3) := by decide +kernel
theorem dX9_readsAll_4 : decode cX9_readsAll 4 = .ok (.aload_n 0, 1) := by decide +kernel
theorem dX9_readsAll_5 : decode cX9_readsAll 5 = .ok (.iconst 0, 1) := by decide +kernel
theorem dX9_readsAll_6 : decode cX9_readsAll 6 = .ok (.putfield 58, 3) := by decide +kernel
theorem dX9_readsAll_9 : decode cX9_readsAll 9 = .ok (.aload_n 0, 1) := by decide +kernel
theorem dX9_readsAll_10 : decode cX9_readsAll 10 = .ok (.getfield 58, 3) := by decide +kernel
theorem dX9_readsAll_13 : decode cX9_readsAll 13 = .ok (.aload_n 0, 1) := by decide +kernel
theorem dX9_readsAll_14 : decode cX9_readsAll 14 = .ok (.getfield 54, 3) := by decide +kernel
theorem dX9_readsAll_17 : decode cX9_readsAll 17 = .ok (.if_icmp .ge 36, 3) := by decide +kernel
theorem dX9_readsAll_20 : decode cX9_readsAll 20 = .ok (.aload_n 0, 1) := by decide +kernel
theorem dX9_readsAll_21 : decode cX9_readsAll 21 = .ok (.getfield 58, 3) := by decide +kernel
theorem dX9_readsAll_24 : decode cX9_readsAll 24 = .ok (.istore_n 1, 1) := by decide +kernel
theorem dX9_readsAll_25 : decode cX9_readsAll 25 = .ok (.aload_n 0, 1) := by decide +kernel
theorem dX9_readsAll_26 : decode cX9_readsAll 26 = .ok (.dup, 1) := by decide +kernel
theorem dX9_readsAll_27 : decode cX9_readsAll 27 = .ok (.getfield 58, 3) := by decide +kernel
theorem dX9_readsAll_30 : decode cX9_readsAll 30 = .ok (.iconst 1, 1) := by decide +kernel
theorem dX9_readsAll_31 : decode cX9_readsAll 31 = .ok (.iadd, 1) := by decide +kernel
theorem dX9_readsAll_32 : decode cX9_readsAll 32 = .ok (.putfield 58, 3) := by decide +kernel
theorem dX9_readsAll_35 : decode cX9_readsAll 35 = .ok (.aload_n 0, 1) := by decide +kernel
theorem dX9_readsAll_36 : decode cX9_readsAll 36 = .ok (.aload_n 0, 1) := by decide +kernel
theorem dX9_readsAll_37 : decode cX9_readsAll 37 = .ok (.getfield 7, 3) := by decide +kernel
theorem dX9_readsAll_40 : decode cX9_readsAll 40 = .ok (.iload_n 1, 1) := by decide +kernel
theorem dX9_readsAll_41 : decode cX9_readsAll 41 = .ok (.iaload, 1) := by decide +kernel
theorem dX9_readsAll_42 : decode cX9_readsAll 42 = .ok (.invokevirtual 77, 3) := by decide +kernel
theorem dX9_readsAll_45 : decode cX9_readsAll 45 = .ok (.ifCond .ne 5, 3) := by decide +kernel
theorem dX9_readsAll_48 : decode cX9_readsAll 48 = .ok (.iload_n 1, 1) := by decide +kernel
theorem dX9_readsAll_49 : decode cX9_readsAll 49 = .ok (.ireturn, 1) := by decide +kernel
theorem dX9_readsAll_50 : decode cX9_readsAll 50 = .ok (.goto (-41), 3) := by decide +kernel
theorem dX9_readsAll_53 : decode cX9_readsAll 53 = .ok (.bipush (-4), 2) := by decide +kernel
theorem dX9_readsAll_55 : decode cX9_readsAll 55 = .ok (.ireturn, 1) := by decide +kernel
theorem dX9_fault_0 : decode cX9_fault 0 = .ok (.aload_n 0, 1) := by decide +kernel
theorem dX9_fault_1 : decode cX9_fault 1 = .ok (.invokevirtual 80, 3) := by decide +kernel
theorem dX9_fault_4 : decode cX9_fault 4 = .ok (.ireturn, 1) := by decide +kernel
theorem dX9_starts_0 : decode cX9_starts 0 = .ok (.iconst 0, 1) := by decide +kernel
theorem dX9_starts_1 : decode cX9_starts 1 = .ok (.istore_n 1, 1) := by decide +kernel
theorem dX9_starts_2 : decode cX9_starts 2 = .ok (.iload_n 1, 1) := by decide +kernel
theorem dX9_starts_3 : decode cX9_starts 3 = .ok (.bipush 29, 2) := by decide +kernel
theorem dX9_starts_5 : decode cX9_starts 5 = .ok (.if_icmp .ge 16, 3) := by decide +kernel
theorem dX9_starts_8 : decode cX9_starts 8 = .ok (.aload_n 0, 1) := by decide +kernel
theorem dX9_starts_9 : decode cX9_starts 9 = .ok (.getfield 19, 3) := by decide +kernel
theorem dX9_starts_12 : decode cX9_starts 12 = .ok (.iload_n 1, 1) := by decide +kernel
theorem dX9_starts_13 : decode cX9_starts 13 = .ok (.iconst 0, 1) := by decide +kernel
theorem dX9_starts_14 : decode cX9_starts 14 = .ok (.iastore, 1) := by decide +kernel
theorem dX9_starts_15 : decode cX9_starts 15 = .ok (.iinc 1 1, 3) := by decide +kernel
theorem dX9_starts_18 : decode cX9_starts 18 = .ok (.goto (-16), 3) := by decide +kernel
theorem dX9_starts_21 : decode cX9_starts 21 = .ok (.return_, 1) := by decide +kernel
theorem dX9_lays_0 : decode cX9_lays 0 = .ok (.iconst 0, 1) := by decide +kernel
theorem dX9_lays_1 : decode cX9_lays 1 = .ok (.istore_n 1, 1) := by decide +kernel
theorem dX9_lays_2 : decode cX9_lays 2 = .ok (.iload_n 1, 1) := by decide +kernel
theorem dX9_lays_3 : decode cX9_lays 3 = .ok (.bipush 17, 2) := by decide +kernel
theorem dX9_lays_5 : decode cX9_lays 5 = .ok (.if_icmp .ge 21, 3) := by decide +kernel
theorem dX9_lays_8 : decode cX9_lays 8 = .ok (.aload_n 0, 1) := by decide +kernel
theorem dX9_lays_9 : decode cX9_lays 9 = .ok (.getfield 13, 3) := by decide +kernel
theorem dX9_lays_12 : decode cX9_lays 12 = .ok (.iload_n 1, 1) := by decide +kernel
theorem dX9_lays_13 : decode cX9_lays 13 = .ok (.aload_n 0, 1) := by decide +kernel
theorem dX9_lays_14 : decode cX9_lays 14 = .ok (.getfield 16, 3) := by decide +kernel
theorem dX9_lays_17 : decode cX9_lays 17 = .ok (.iload_n 1, 1) := by decide +kernel
theorem dX9_lays_18 : decode cX9_lays 18 = .ok (.iaload, 1) := by decide +kernel
theorem dX9_lays_19 : decode cX9_lays 19 = .ok (.iastore, 1) := by decide +kernel
theorem dX9_lays_20 : decode cX9_lays 20 = .ok (.iinc 1 1, 3) := by decide +kernel
theorem dX9_lays_23 : decode cX9_lays 23 = .ok (.goto (-21), 3) := by decide +kernel
theorem dX9_lays_26 : decode cX9_lays 26 = .ok (.aload_n 0, 1) := by decide +kernel
theorem dX9_lays_27 : decode cX9_lays 27 = .ok (.invokevirtual 84, 3) := by decide +kernel
theorem dX9_lays_30 : decode cX9_lays 30 = .ok (.aload_n 0, 1) := by decide +kernel
theorem dX9_lays_31 : decode cX9_lays 31 = .ok (.iconst 0, 1) := by decide +kernel
theorem dX9_lays_32 : decode cX9_lays 32 = .ok (.putfield 87, 3) := by decide +kernel
theorem dX9_lays_35 : decode cX9_lays 35 = .ok (.aload_n 0, 1) := by decide +kernel
theorem dX9_lays_36 : decode cX9_lays 36 = .ok (.iconst 0, 1) := by decide +kernel
theorem dX9_lays_37 : decode cX9_lays 37 = .ok (.putfield 90, 3) := by decide +kernel
theorem dX9_lays_40 : decode cX9_lays 40 = .ok (.aload_n 0, 1) := by decide +kernel
theorem dX9_lays_41 : decode cX9_lays 41 = .ok (.iconst 0, 1) := by decide +kernel
theorem dX9_lays_42 : decode cX9_lays 42 = .ok (.putfield 93, 3) := by decide +kernel
theorem dX9_lays_45 : decode cX9_lays 45 = .ok (.return_, 1) := by decide +kernel
theorem dX9_lay_0 : decode cX9_lay 0 = .ok (.aload_n 0, 1) := by decide +kernel
theorem dX9_lay_1 : decode cX9_lay 1 = .ok (.invokevirtual 80, 3) := by decide +kernel
theorem dX9_lay_4 : decode cX9_lay 4 = .ok (.bipush (-4), 2) := by decide +kernel
theorem dX9_lay_6 : decode cX9_lay 6 = .ok (.if_icmp .ne 12, 3) := by decide +kernel
theorem dX9_lay_9 : decode cX9_lay 9 = .ok (.aload_n 0, 1) := by decide +kernel
theorem dX9_lay_10 : decode cX9_lay 10 = .ok (.getfield 16, 3) := by decide +kernel
theorem dX9_lay_13 : decode cX9_lay 13 = .ok (.iconst 0, 1) := by decide +kernel
theorem dX9_lay_14 : decode cX9_lay 14 = .ok (.iaload, 1) := by decide +kernel
theorem dX9_lay_15 : decode cX9_lay 15 = .ok (.ifCond .ne 6, 3) := by decide +kernel
theorem dX9_lay_18 : decode cX9_lay 18 = .ok (.bipush (-2), 2) := by decide +kernel
theorem dX9_lay_20 : decode cX9_lay 20 = .ok (.ireturn, 1) := by decide +kernel
theorem dX9_lay_21 : decode cX9_lay 21 = .ok (.aload_n 0, 1) := by decide +kernel
theorem dX9_lay_22 : decode cX9_lay 22 = .ok (.invokevirtual 47, 3) := by decide +kernel
theorem dX9_lay_25 : decode cX9_lay 25 = .ok (.aload_n 0, 1) := by decide +kernel
theorem dX9_lay_26 : decode cX9_lay 26 = .ok (.getfield 13, 3) := by decide +kernel
theorem dX9_lay_29 : decode cX9_lay 29 = .ok (.iconst 0, 1) := by decide +kernel
theorem dX9_lay_30 : decode cX9_lay 30 = .ok (.iaload, 1) := by decide +kernel
theorem dX9_lay_31 : decode cX9_lay 31 = .ok (.ireturn, 1) := by decide +kernel
theorem dX9_minutes_0 : decode cX9_minutes 0 = .ok (.iload_n 0, 1) := by decide +kernel
theorem dX9_minutes_1 : decode cX9_minutes 1 = .ok (.iconst 1, 1) := by decide +kernel
theorem dX9_minutes_2 : decode cX9_minutes 2 = .ok (.if_icmp .ne 11, 3) := by decide +kernel
theorem dX9_minutes_5 : decode cX9_minutes 5 = .ok (.iload_n 1, 1) := by decide +kernel
theorem dX9_minutes_6 : decode cX9_minutes 6 = .ok (.iconst 1, 1) := by decide +kernel
theorem dX9_minutes_7 : decode cX9_minutes 7 = .ok (.iadd, 1) := by decide +kernel
theorem dX9_minutes_8 : decode cX9_minutes 8 = .ok (.iconst 2, 1) := by decide +kernel
theorem dX9_minutes_9 : decode cX9_minutes 9 = .ok (.idiv, 1) := by decide +kernel
theorem dX9_minutes_10 : decode cX9_minutes 10 = .ok (.goto 15, 3) := by decide +kernel
theorem dX9_minutes_13 : decode cX9_minutes 13 = .ok (.iload_n 0, 1) := by decide +kernel
theorem dX9_minutes_14 : decode cX9_minutes 14 = .ok (.iconst 3, 1) := by decide +kernel
theorem dX9_minutes_15 : decode cX9_minutes 15 = .ok (.if_icmp .ne 9, 3) := by decide +kernel
theorem dX9_minutes_18 : decode cX9_minutes 18 = .ok (.iload_n 1, 1) := by decide +kernel
theorem dX9_minutes_19 : decode cX9_minutes 19 = .ok (.iconst 2, 1) := by decide +kernel
theorem dX9_minutes_20 : decode cX9_minutes 20 = .ok (.iadd, 1) := by decide +kernel
theorem dX9_minutes_21 : decode cX9_minutes 21 = .ok (.goto 4, 3) := by decide +kernel
theorem dX9_minutes_24 : decode cX9_minutes 24 = .ok (.iload_n 1, 1) := by decide +kernel
theorem dX9_minutes_25 : decode cX9_minutes 25 = .ok (.istore_n 3, 1) := by decide +kernel
theorem dX9_minutes_26 : decode cX9_minutes 26 = .ok (.iload_n 2, 1) := by decide +kernel
theorem dX9_minutes_27 : decode cX9_minutes 27 = .ok (.iconst 1, 1) := by decide +kernel
theorem dX9_minutes_28 : decode cX9_minutes 28 = .ok (.if_icmp .ne 14, 3) := by decide +kernel
theorem dX9_minutes_31 : decode cX9_minutes 31 = .ok (.iload_n 3, 1) := by decide +kernel
theorem dX9_minutes_32 : decode cX9_minutes 32 = .ok (.iconst 1, 1) := by decide +kernel
theorem dX9_minutes_33 : decode cX9_minutes 33 = .ok (.if_icmp .le 9, 3) := by decide +kernel
theorem dX9_minutes_36 : decode cX9_minutes 36 = .ok (.iload_n 3, 1) := by decide +kernel
theorem dX9_minutes_37 : decode cX9_minutes 37 = .ok (.iconst 1, 1) := by decide +kernel
theorem dX9_minutes_38 : decode cX9_minutes 38 = .ok (.isub, 1) := by decide +kernel
theorem dX9_minutes_39 : decode cX9_minutes 39 = .ok (.goto 4, 3) := by decide +kernel
theorem dX9_minutes_42 : decode cX9_minutes 42 = .ok (.iload_n 3, 1) := by decide +kernel
theorem dX9_minutes_43 : decode cX9_minutes 43 = .ok (.ireturn, 1) := by decide +kernel
theorem dX9_minutesOf_0 : decode cX9_minutesOf 0 = .ok (.aload_n 0, 1) := by decide +kernel
theorem dX9_minutesOf_1 : decode cX9_minutesOf 1 = .ok (.getfield 13, 3) := by decide +kernel
theorem dX9_minutesOf_4 : decode cX9_minutesOf 4 = .ok (.iconst 5, 1) := by decide +kernel
theorem dX9_minutesOf_5 : decode cX9_minutesOf 5 = .ok (.iload_n 1, 1) := by decide +kernel
theorem dX9_minutesOf_6 : decode cX9_minutesOf 6 = .ok (.iadd, 1) := by decide +kernel
theorem dX9_minutesOf_7 : decode cX9_minutesOf 7 = .ok (.iaload, 1) := by decide +kernel
theorem dX9_minutesOf_8 : decode cX9_minutesOf 8 = .ok (.aload_n 0, 1) := by decide +kernel
theorem dX9_minutesOf_9 : decode cX9_minutesOf 9 = .ok (.getfield 13, 3) := by decide +kernel
theorem dX9_minutesOf_12 : decode cX9_minutesOf 12 = .ok (.bipush 11, 2) := by decide +kernel
theorem dX9_minutesOf_14 : decode cX9_minutesOf 14 = .ok (.iload_n 1, 1) := by decide +kernel
theorem dX9_minutesOf_15 : decode cX9_minutesOf 15 = .ok (.iadd, 1) := by decide +kernel
theorem dX9_minutesOf_16 : decode cX9_minutesOf 16 = .ok (.iaload, 1) := by decide +kernel
theorem dX9_minutesOf_17 : decode cX9_minutesOf 17 = .ok (.aload_n 0, 1) := by decide +kernel
theorem dX9_minutesOf_18 : decode cX9_minutesOf 18 = .ok (.getfield 19, 3) := by decide +kernel
theorem dX9_minutesOf_21 : decode cX9_minutesOf 21 = .ok (.bipush 27, 2) := by decide +kernel
theorem dX9_minutesOf_23 : decode cX9_minutesOf 23 = .ok (.iaload, 1) := by decide +kernel
theorem dX9_minutesOf_24 : decode cX9_minutesOf 24 = .ok (.invokestatic 96, 3) := by decide +kernel
theorem dX9_minutesOf_27 : decode cX9_minutesOf 27 = .ok (.ireturn, 1) := by decide +kernel
theorem dX9_whoHas_0 : decode cX9_whoHas 0 = .ok (.bipush (-4), 2) := by decide +kernel
theorem dX9_whoHas_2 : decode cX9_whoHas 2 = .ok (.istore_n 2, 1) := by decide +kernel
theorem dX9_whoHas_3 : decode cX9_whoHas 3 = .ok (.iconst 0, 1) := by decide +kernel
theorem dX9_whoHas_4 : decode cX9_whoHas 4 = .ok (.istore_n 3, 1) := by decide +kernel
theorem dX9_whoHas_5 : decode cX9_whoHas 5 = .ok (.iload_n 3, 1) := by decide +kernel
theorem dX9_whoHas_6 : decode cX9_whoHas 6 = .ok (.aload_n 0, 1) := by decide +kernel
theorem dX9_whoHas_7 : decode cX9_whoHas 7 = .ok (.getfield 13, 3) := by decide +kernel
theorem dX9_whoHas_10 : decode cX9_whoHas 10 = .ok (.iconst 1, 1) := by decide +kernel
theorem dX9_whoHas_11 : decode cX9_whoHas 11 = .ok (.iaload, 1) := by decide +kernel
theorem dX9_whoHas_12 : decode cX9_whoHas 12 = .ok (.if_icmp .ge 41, 3) := by decide +kernel
theorem dX9_whoHas_15 : decode cX9_whoHas 15 = .ok (.aload_n 0, 1) := by decide +kernel
theorem dX9_whoHas_16 : decode cX9_whoHas 16 = .ok (.getfield 19, 3) := by decide +kernel
theorem dX9_whoHas_19 : decode cX9_whoHas 19 = .ok (.bipush 18, 2) := by decide +kernel
theorem dX9_whoHas_21 : decode cX9_whoHas 21 = .ok (.iload_n 3, 1) := by decide +kernel
theorem dX9_whoHas_22 : decode cX9_whoHas 22 = .ok (.iadd, 1) := by decide +kernel
theorem dX9_whoHas_23 : decode cX9_whoHas 23 = .ok (.iaload, 1) := by decide +kernel
theorem dX9_whoHas_24 : decode cX9_whoHas 24 = .ok (.iconst 1, 1) := by decide +kernel
theorem dX9_whoHas_25 : decode cX9_whoHas 25 = .ok (.if_icmp .ne 20, 3) := by decide +kernel
theorem dX9_whoHas_28 : decode cX9_whoHas 28 = .ok (.aload_n 0, 1) := by decide +kernel
theorem dX9_whoHas_29 : decode cX9_whoHas 29 = .ok (.getfield 19, 3) := by decide +kernel
theorem dX9_whoHas_32 : decode cX9_whoHas 32 = .ok (.bipush 24, 2) := by decide +kernel
theorem dX9_whoHas_34 : decode cX9_whoHas 34 = .ok (.iload_n 3, 1) := by decide +kernel
theorem dX9_whoHas_35 : decode cX9_whoHas 35 = .ok (.iadd, 1) := by decide +kernel
theorem dX9_whoHas_36 : decode cX9_whoHas 36 = .ok (.iaload, 1) := by decide +kernel
theorem dX9_whoHas_37 : decode cX9_whoHas 37 = .ok (.iload_n 1, 1) := by decide +kernel
theorem dX9_whoHas_38 : decode cX9_whoHas 38 = .ok (.if_icmp .ne 7, 3) := by decide +kernel
theorem dX9_whoHas_41 : decode cX9_whoHas 41 = .ok (.iload_n 3, 1) := by decide +kernel
theorem dX9_whoHas_42 : decode cX9_whoHas 42 = .ok (.goto 4, 3) := by decide +kernel
theorem dX9_whoHas_45 : decode cX9_whoHas 45 = .ok (.iload_n 2, 1) := by decide +kernel
theorem dX9_whoHas_46 : decode cX9_whoHas 46 = .ok (.istore_n 2, 1) := by decide +kernel
theorem dX9_whoHas_47 : decode cX9_whoHas 47 = .ok (.iinc 3 1, 3) := by decide +kernel
theorem dX9_whoHas_50 : decode cX9_whoHas 50 = .ok (.goto (-45), 3) := by decide +kernel
theorem dX9_whoHas_53 : decode cX9_whoHas 53 = .ok (.iload_n 2, 1) := by decide +kernel
theorem dX9_whoHas_54 : decode cX9_whoHas 54 = .ok (.ireturn, 1) := by decide +kernel
theorem dX9_child_0 : decode cX9_child 0 = .ok (.aload_n 0, 1) := by decide +kernel
theorem dX9_child_1 : decode cX9_child 1 = .ok (.iload_n 1, 1) := by decide +kernel
theorem dX9_child_2 : decode cX9_child 2 = .ok (.invokevirtual 99, 3) := by decide +kernel
theorem dX9_child_5 : decode cX9_child 5 = .ok (.ifCond .ne 5, 3) := by decide +kernel
theorem dX9_child_8 : decode cX9_child 8 = .ok (.iconst (-1), 1) := by decide +kernel
theorem dX9_child_9 : decode cX9_child 9 = .ok (.ireturn, 1) := by decide +kernel
theorem dX9_child_10 : decode cX9_child 10 = .ok (.iload_n 2, 1) := by decide +kernel
theorem dX9_child_11 : decode cX9_child 11 = .ok (.tableswitch 100 0 5 #[37, 46, 53, 78, 84, 90], 37) := by decide +kernel
theorem dX9_child_48 : decode cX9_child 48 = .ok (.aload_n 0, 1) := by decide +kernel
theorem dX9_child_49 : decode cX9_child 49 = .ok (.getfield 13, 3) := by decide +kernel
theorem dX9_child_52 : decode cX9_child 52 = .ok (.iconst 5, 1) := by decide +kernel
theorem dX9_child_53 : decode cX9_child 53 = .ok (.iload_n 1, 1) := by decide +kernel
theorem dX9_child_54 : decode cX9_child 54 = .ok (.iadd, 1) := by decide +kernel
theorem dX9_child_55 : decode cX9_child 55 = .ok (.iaload, 1) := by decide +kernel
theorem dX9_child_56 : decode cX9_child 56 = .ok (.ireturn, 1) := by decide +kernel
theorem dX9_child_57 : decode cX9_child 57 = .ok (.aload_n 0, 1) := by decide +kernel
theorem dX9_child_58 : decode cX9_child 58 = .ok (.getfield 19, 3) := by decide +kernel
theorem dX9_child_61 : decode cX9_child 61 = .ok (.iload_n 1, 1) := by decide +kernel
theorem dX9_child_62 : decode cX9_child 62 = .ok (.iaload, 1) := by decide +kernel
theorem dX9_child_63 : decode cX9_child 63 = .ok (.ireturn, 1) := by decide +kernel
theorem dX9_child_64 : decode cX9_child 64 = .ok (.aload_n 0, 1) := by decide +kernel
theorem dX9_child_65 : decode cX9_child 65 = .ok (.getfield 19, 3) := by decide +kernel
theorem dX9_child_68 : decode cX9_child 68 = .ok (.iload_n 1, 1) := by decide +kernel
theorem dX9_child_69 : decode cX9_child 69 = .ok (.iaload, 1) := by decide +kernel
theorem dX9_child_70 : decode cX9_child 70 = .ok (.iconst 2, 1) := by decide +kernel
theorem dX9_child_71 : decode cX9_child 71 = .ok (.if_icmp .ne 15, 3) := by decide +kernel
theorem dX9_child_74 : decode cX9_child 74 = .ok (.aload_n 0, 1) := by decide +kernel
theorem dX9_child_75 : decode cX9_child 75 = .ok (.getfield 19, 3) := by decide +kernel
theorem dX9_child_78 : decode cX9_child 78 = .ok (.bipush 6, 2) := by decide +kernel
theorem dX9_child_80 : decode cX9_child 80 = .ok (.iload_n 1, 1) := by decide +kernel
theorem dX9_child_81 : decode cX9_child 81 = .ok (.iadd, 1) := by decide +kernel
theorem dX9_child_82 : decode cX9_child 82 = .ok (.iaload, 1) := by decide +kernel
theorem dX9_child_83 : decode cX9_child 83 = .ok (.goto 5, 3) := by decide +kernel
theorem dX9_child_86 : decode cX9_child 86 = .ok (.bipush (-4), 2) := by decide +kernel
theorem dX9_child_88 : decode cX9_child 88 = .ok (.ireturn, 1) := by decide +kernel
theorem dX9_child_89 : decode cX9_child 89 = .ok (.aload_n 0, 1) := by decide +kernel
theorem dX9_child_90 : decode cX9_child 90 = .ok (.iload_n 1, 1) := by decide +kernel
theorem dX9_child_91 : decode cX9_child 91 = .ok (.invokevirtual 102, 3) := by decide +kernel
theorem dX9_child_94 : decode cX9_child 94 = .ok (.ireturn, 1) := by decide +kernel
theorem dX9_child_95 : decode cX9_child 95 = .ok (.aload_n 0, 1) := by decide +kernel
theorem dX9_child_96 : decode cX9_child 96 = .ok (.iload_n 1, 1) := by decide +kernel
theorem dX9_child_97 : decode cX9_child 97 = .ok (.invokevirtual 105, 3) := by decide +kernel
theorem dX9_child_100 : decode cX9_child 100 = .ok (.ireturn, 1) := by decide +kernel
theorem dX9_child_101 : decode cX9_child 101 = .ok (.aload_n 0, 1) := by decide +kernel
theorem dX9_child_102 : decode cX9_child 102 = .ok (.getfield 19, 3) := by decide +kernel
theorem dX9_child_105 : decode cX9_child 105 = .ok (.bipush 12, 2) := by decide +kernel
theorem dX9_child_107 : decode cX9_child 107 = .ok (.iload_n 1, 1) := by decide +kernel
theorem dX9_child_108 : decode cX9_child 108 = .ok (.iadd, 1) := by decide +kernel
theorem dX9_child_109 : decode cX9_child 109 = .ok (.iaload, 1) := by decide +kernel
theorem dX9_child_110 : decode cX9_child 110 = .ok (.ireturn, 1) := by decide +kernel
theorem dX9_child_111 : decode cX9_child 111 = .ok (.iconst (-1), 1) := by decide +kernel
theorem dX9_child_112 : decode cX9_child 112 = .ok (.ireturn, 1) := by decide +kernel
theorem dX9_woman_0 : decode cX9_woman 0 = .ok (.aload_n 0, 1) := by decide +kernel
theorem dX9_woman_1 : decode cX9_woman 1 = .ok (.iload_n 1, 1) := by decide +kernel
theorem dX9_woman_2 : decode cX9_woman 2 = .ok (.invokevirtual 108, 3) := by decide +kernel
theorem dX9_woman_5 : decode cX9_woman 5 = .ok (.ifCond .eq 12, 3) := by decide +kernel
theorem dX9_woman_8 : decode cX9_woman 8 = .ok (.iload_n 2, 1) := by decide +kernel
theorem dX9_woman_9 : decode cX9_woman 9 = .ok (.iconst 0, 1) := by decide +kernel
theorem dX9_woman_10 : decode cX9_woman 10 = .ok (.iconst 1, 1) := by decide +kernel
theorem dX9_woman_11 : decode cX9_woman 11 = .ok (.invokestatic 50, 3) := by decide +kernel
theorem dX9_woman_14 : decode cX9_woman 14 = .ok (.ifCond .ne 7, 3) := by decide +kernel
theorem dX9_woman_17 : decode cX9_woman 17 = .ok (.iconst (-1), 1) := by decide +kernel
theorem dX9_woman_18 : decode cX9_woman 18 = .ok (.goto 21, 3) := by decide +kernel
theorem dX9_woman_21 : decode cX9_woman 21 = .ok (.aload_n 0, 1) := by decide +kernel
theorem dX9_woman_22 : decode cX9_woman 22 = .ok (.getfield 19, 3) := by decide +kernel
theorem dX9_woman_25 : decode cX9_woman 25 = .ok (.iload_n 2, 1) := by decide +kernel
theorem dX9_woman_26 : decode cX9_woman 26 = .ok (.ifCond .ne 8, 3) := by decide +kernel
theorem dX9_woman_29 : decode cX9_woman 29 = .ok (.bipush 18, 2) := by decide +kernel
theorem dX9_woman_31 : decode cX9_woman 31 = .ok (.goto 5, 3) := by decide +kernel
theorem dX9_woman_34 : decode cX9_woman 34 = .ok (.bipush 21, 2) := by decide +kernel
theorem dX9_woman_36 : decode cX9_woman 36 = .ok (.iload_n 1, 1) := by decide +kernel
theorem dX9_woman_37 : decode cX9_woman 37 = .ok (.iadd, 1) := by decide +kernel
theorem dX9_woman_38 : decode cX9_woman 38 = .ok (.iaload, 1) := by decide +kernel
theorem dX9_woman_39 : decode cX9_woman 39 = .ok (.ireturn, 1) := by decide +kernel
theorem dX9_keeps_0 : decode cX9_keeps 0 = .ok (.aload_n 0, 1) := by decide +kernel
theorem dX9_keeps_1 : decode cX9_keeps 1 = .ok (.getfield 87, 3) := by decide +kernel
theorem dX9_keeps_4 : decode cX9_keeps 4 = .ok (.bipush 8, 2) := by decide +kernel
theorem dX9_keeps_6 : decode cX9_keeps 6 = .ok (.if_icmp .ne 43, 3) := by decide +kernel
theorem dX9_keeps_9 : decode cX9_keeps 9 = .ok (.iconst 0, 1) := by decide +kernel
theorem dX9_keeps_10 : decode cX9_keeps 10 = .ok (.istore_n 1, 1) := by decide +kernel
theorem dX9_keeps_11 : decode cX9_keeps 11 = .ok (.iload_n 1, 1) := by decide +kernel
theorem dX9_keeps_12 : decode cX9_keeps 12 = .ok (.sipush 203, 3) := by decide +kernel
theorem dX9_keeps_15 : decode cX9_keeps 15 = .ok (.if_icmp .ge 24, 3) := by decide +kernel
theorem dX9_keeps_18 : decode cX9_keeps 18 = .ok (.aload_n 0, 1) := by decide +kernel
theorem dX9_keeps_19 : decode cX9_keeps 19 = .ok (.getfield 22, 3) := by decide +kernel
theorem dX9_keeps_22 : decode cX9_keeps 22 = .ok (.iload_n 1, 1) := by decide +kernel
theorem dX9_keeps_23 : decode cX9_keeps 23 = .ok (.aload_n 0, 1) := by decide +kernel
theorem dX9_keeps_24 : decode cX9_keeps 24 = .ok (.getfield 22, 3) := by decide +kernel
theorem dX9_keeps_27 : decode cX9_keeps 27 = .ok (.iload_n 1, 1) := by decide +kernel
theorem dX9_keeps_28 : decode cX9_keeps 28 = .ok (.bipush 29, 2) := by decide +kernel
theorem dX9_keeps_30 : decode cX9_keeps 30 = .ok (.iadd, 1) := by decide +kernel
theorem dX9_keeps_31 : decode cX9_keeps 31 = .ok (.iaload, 1) := by decide +kernel
theorem dX9_keeps_32 : decode cX9_keeps 32 = .ok (.iastore, 1) := by decide +kernel
theorem dX9_keeps_33 : decode cX9_keeps 33 = .ok (.iinc 1 1, 3) := by decide +kernel
theorem dX9_keeps_36 : decode cX9_keeps 36 = .ok (.goto (-25), 3) := by decide +kernel
theorem dX9_keeps_39 : decode cX9_keeps 39 = .ok (.aload_n 0, 1) := by decide +kernel
theorem dX9_keeps_40 : decode cX9_keeps 40 = .ok (.dup, 1) := by decide +kernel
theorem dX9_keeps_41 : decode cX9_keeps 41 = .ok (.getfield 87, 3) := by decide +kernel
theorem dX9_keeps_44 : decode cX9_keeps 44 = .ok (.iconst 1, 1) := by decide +kernel
theorem dX9_keeps_45 : decode cX9_keeps 45 = .ok (.isub, 1) := by decide +kernel
theorem dX9_keeps_46 : decode cX9_keeps 46 = .ok (.putfield 87, 3) := by decide +kernel
theorem dX9_keeps_49 : decode cX9_keeps 49 = .ok (.iconst 0, 1) := by decide +kernel
theorem dX9_keeps_50 : decode cX9_keeps 50 = .ok (.istore_n 1, 1) := by decide +kernel
theorem dX9_keeps_51 : decode cX9_keeps 51 = .ok (.iload_n 1, 1) := by decide +kernel
theorem dX9_keeps_52 : decode cX9_keeps 52 = .ok (.bipush 29, 2) := by decide +kernel
theorem dX9_keeps_54 : decode cX9_keeps 54 = .ok (.if_icmp .ge 29, 3) := by decide +kernel
theorem dX9_keeps_57 : decode cX9_keeps 57 = .ok (.aload_n 0, 1) := by decide +kernel
theorem dX9_keeps_58 : decode cX9_keeps 58 = .ok (.getfield 22, 3) := by decide +kernel
theorem dX9_keeps_61 : decode cX9_keeps 61 = .ok (.bipush 29, 2) := by decide +kernel
theorem dX9_keeps_63 : decode cX9_keeps 63 = .ok (.aload_n 0, 1) := by decide +kernel
theorem dX9_keeps_64 : decode cX9_keeps 64 = .ok (.getfield 87, 3) := by decide +kernel
theorem dX9_keeps_67 : decode cX9_keeps 67 = .ok (.imul, 1) := by decide +kernel
theorem dX9_keeps_68 : decode cX9_keeps 68 = .ok (.iload_n 1, 1) := by decide +kernel
theorem dX9_keeps_69 : decode cX9_keeps 69 = .ok (.iadd, 1) := by decide +kernel
theorem dX9_keeps_70 : decode cX9_keeps 70 = .ok (.aload_n 0, 1) := by decide +kernel
theorem dX9_keeps_71 : decode cX9_keeps 71 = .ok (.getfield 19, 3) := by decide +kernel
theorem dX9_keeps_74 : decode cX9_keeps 74 = .ok (.iload_n 1, 1) := by decide +kernel
theorem dX9_keeps_75 : decode cX9_keeps 75 = .ok (.iaload, 1) := by decide +kernel
theorem dX9_keeps_76 : decode cX9_keeps 76 = .ok (.iastore, 1) := by decide +kernel
theorem dX9_keeps_77 : decode cX9_keeps 77 = .ok (.iinc 1 1, 3) := by decide +kernel
theorem dX9_keeps_80 : decode cX9_keeps 80 = .ok (.goto (-29), 3) := by decide +kernel
theorem dX9_keeps_83 : decode cX9_keeps 83 = .ok (.aload_n 0, 1) := by decide +kernel
theorem dX9_keeps_84 : decode cX9_keeps 84 = .ok (.dup, 1) := by decide +kernel
theorem dX9_keeps_85 : decode cX9_keeps 85 = .ok (.getfield 87, 3) := by decide +kernel
theorem dX9_keeps_88 : decode cX9_keeps 88 = .ok (.iconst 1, 1) := by decide +kernel
theorem dX9_keeps_89 : decode cX9_keeps 89 = .ok (.iadd, 1) := by decide +kernel
theorem dX9_keeps_90 : decode cX9_keeps 90 = .ok (.putfield 87, 3) := by decide +kernel
theorem dX9_keeps_93 : decode cX9_keeps 93 = .ok (.return_, 1) := by decide +kernel
theorem dX9_begin_0 : decode cX9_begin 0 = .ok (.aload_n 0, 1) := by decide +kernel
theorem dX9_begin_1 : decode cX9_begin 1 = .ok (.getfield 19, 3) := by decide +kernel
theorem dX9_begin_4 : decode cX9_begin 4 = .ok (.bipush 18, 2) := by decide +kernel
theorem dX9_begin_6 : decode cX9_begin 6 = .ok (.iload_n 1, 1) := by decide +kernel
theorem dX9_begin_7 : decode cX9_begin 7 = .ok (.iadd, 1) := by decide +kernel
theorem dX9_begin_8 : decode cX9_begin 8 = .ok (.iload_n 2, 1) := by decide +kernel
theorem dX9_begin_9 : decode cX9_begin 9 = .ok (.iastore, 1) := by decide +kernel
theorem dX9_begin_10 : decode cX9_begin 10 = .ok (.aload_n 0, 1) := by decide +kernel
theorem dX9_begin_11 : decode cX9_begin 11 = .ok (.getfield 19, 3) := by decide +kernel
theorem dX9_begin_14 : decode cX9_begin 14 = .ok (.bipush 21, 2) := by decide +kernel
theorem dX9_begin_16 : decode cX9_begin 16 = .ok (.iload_n 1, 1) := by decide +kernel
theorem dX9_begin_17 : decode cX9_begin 17 = .ok (.iadd, 1) := by decide +kernel
theorem dX9_begin_18 : decode cX9_begin 18 = .ok (.iload_n 3, 1) := by decide +kernel
theorem dX9_begin_19 : decode cX9_begin 19 = .ok (.iastore, 1) := by decide +kernel
theorem dX9_begin_20 : decode cX9_begin 20 = .ok (.aload_n 0, 1) := by decide +kernel
theorem dX9_begin_21 : decode cX9_begin 21 = .ok (.getfield 19, 3) := by decide +kernel
theorem dX9_begin_24 : decode cX9_begin 24 = .ok (.bipush 24, 2) := by decide +kernel
theorem dX9_begin_26 : decode cX9_begin 26 = .ok (.iload_n 1, 1) := by decide +kernel
theorem dX9_begin_27 : decode cX9_begin 27 = .ok (.iadd, 1) := by decide +kernel
theorem dX9_begin_28 : decode cX9_begin 28 = .ok (.iload 4, 2) := by decide +kernel
theorem dX9_begin_30 : decode cX9_begin 30 = .ok (.iastore, 1) := by decide +kernel
theorem dX9_begin_31 : decode cX9_begin 31 = .ok (.return_, 1) := by decide +kernel
theorem dX9_dresses_0 : decode cX9_dresses 0 = .ok (.aload_n 0, 1) := by decide +kernel
theorem dX9_dresses_1 : decode cX9_dresses 1 = .ok (.iload_n 1, 1) := by decide +kernel
theorem dX9_dresses_2 : decode cX9_dresses 2 = .ok (.iconst 1, 1) := by decide +kernel
theorem dX9_dresses_3 : decode cX9_dresses 3 = .ok (.aload_n 0, 1) := by decide +kernel
theorem dX9_dresses_4 : decode cX9_dresses 4 = .ok (.iload_n 2, 1) := by decide +kernel
theorem dX9_dresses_5 : decode cX9_dresses 5 = .ok (.invokevirtual 105, 3) := by decide +kernel
theorem dX9_dresses_8 : decode cX9_dresses 8 = .ok (.iload_n 2, 1) := by decide +kernel
theorem dX9_dresses_9 : decode cX9_dresses 9 = .ok (.invokevirtual 111, 3) := by decide +kernel
theorem dX9_dresses_12 : decode cX9_dresses 12 = .ok (.aload_n 0, 1) := by decide +kernel
theorem dX9_dresses_13 : decode cX9_dresses 13 = .ok (.getfield 19, 3) := by decide +kernel
theorem dX9_dresses_16 : decode cX9_dresses 16 = .ok (.iload_n 2, 1) := by decide +kernel
theorem dX9_dresses_17 : decode cX9_dresses 17 = .ok (.iconst 1, 1) := by decide +kernel
theorem dX9_dresses_18 : decode cX9_dresses 18 = .ok (.iastore, 1) := by decide +kernel
theorem dX9_dresses_19 : decode cX9_dresses 19 = .ok (.return_, 1) := by decide +kernel
theorem dX9_take_0 : decode cX9_take 0 = .ok (.aload_n 0, 1) := by decide +kernel
theorem dX9_take_1 : decode cX9_take 1 = .ok (.iload_n 1, 1) := by decide +kernel
theorem dX9_take_2 : decode cX9_take 2 = .ok (.invokevirtual 108, 3) := by decide +kernel
theorem dX9_take_5 : decode cX9_take 5 = .ok (.ifCond .eq 11, 3) := by decide +kernel
theorem dX9_take_8 : decode cX9_take 8 = .ok (.aload_n 0, 1) := by decide +kernel
theorem dX9_take_9 : decode cX9_take 9 = .ok (.iload_n 2, 1) := by decide +kernel
theorem dX9_take_10 : decode cX9_take 10 = .ok (.invokevirtual 99, 3) := by decide +kernel
theorem dX9_take_13 : decode cX9_take 13 = .ok (.ifCond .ne 5, 3) := by decide +kernel
theorem dX9_take_16 : decode cX9_take 16 = .ok (.iconst (-1), 1) := by decide +kernel
theorem dX9_take_17 : decode cX9_take 17 = .ok (.ireturn, 1) := by decide +kernel
theorem dX9_take_18 : decode cX9_take 18 = .ok (.aload_n 0, 1) := by decide +kernel
theorem dX9_take_19 : decode cX9_take 19 = .ok (.getfield 19, 3) := by decide +kernel
theorem dX9_take_22 : decode cX9_take 22 = .ok (.bipush 18, 2) := by decide +kernel
theorem dX9_take_24 : decode cX9_take 24 = .ok (.iload_n 1, 1) := by decide +kernel
theorem dX9_take_25 : decode cX9_take 25 = .ok (.iadd, 1) := by decide +kernel
theorem dX9_take_26 : decode cX9_take 26 = .ok (.iaload, 1) := by decide +kernel
theorem dX9_take_27 : decode cX9_take 27 = .ok (.ifCond .ne 12, 3) := by decide +kernel
theorem dX9_take_30 : decode cX9_take 30 = .ok (.aload_n 0, 1) := by decide +kernel
theorem dX9_take_31 : decode cX9_take 31 = .ok (.getfield 19, 3) := by decide +kernel
theorem dX9_take_34 : decode cX9_take 34 = .ok (.iload_n 2, 1) := by decide +kernel
theorem dX9_take_35 : decode cX9_take 35 = .ok (.iaload, 1) := by decide +kernel
theorem dX9_take_36 : decode cX9_take 36 = .ok (.ifCond .eq 6, 3) := by decide +kernel
theorem dX9_take_39 : decode cX9_take 39 = .ok (.bipush (-2), 2) := by decide +kernel
theorem dX9_take_41 : decode cX9_take 41 = .ok (.ireturn, 1) := by decide +kernel
theorem dX9_take_42 : decode cX9_take 42 = .ok (.aload_n 0, 1) := by decide +kernel
theorem dX9_take_43 : decode cX9_take 43 = .ok (.invokevirtual 115, 3) := by decide +kernel
theorem dX9_take_46 : decode cX9_take 46 = .ok (.aload_n 0, 1) := by decide +kernel
theorem dX9_take_47 : decode cX9_take 47 = .ok (.iload_n 1, 1) := by decide +kernel
theorem dX9_take_48 : decode cX9_take 48 = .ok (.iload_n 2, 1) := by decide +kernel
theorem dX9_take_49 : decode cX9_take 49 = .ok (.invokevirtual 118, 3) := by decide +kernel
theorem dX9_take_52 : decode cX9_take 52 = .ok (.aload_n 0, 1) := by decide +kernel
theorem dX9_take_53 : decode cX9_take 53 = .ok (.getfield 19, 3) := by decide +kernel
theorem dX9_take_56 : decode cX9_take 56 = .ok (.bipush 21, 2) := by decide +kernel
theorem dX9_take_58 : decode cX9_take 58 = .ok (.iload_n 1, 1) := by decide +kernel
theorem dX9_take_59 : decode cX9_take 59 = .ok (.iadd, 1) := by decide +kernel
theorem dX9_take_60 : decode cX9_take 60 = .ok (.iaload, 1) := by decide +kernel
theorem dX9_take_61 : decode cX9_take 61 = .ok (.ireturn, 1) := by decide +kernel
theorem dX9_isLaid_0 : decode cX9_isLaid 0 = .ok (.aload_n 0, 1) := by decide +kernel
theorem dX9_isLaid_1 : decode cX9_isLaid 1 = .ok (.getfield 19, 3) := by decide +kernel
theorem dX9_isLaid_4 : decode cX9_isLaid 4 = .ok (.bipush 27, 2) := by decide +kernel
theorem dX9_isLaid_6 : decode cX9_isLaid 6 = .ok (.iaload, 1) := by decide +kernel
theorem dX9_isLaid_7 : decode cX9_isLaid 7 = .ok (.iconst 1, 1) := by decide +kernel
theorem dX9_isLaid_8 : decode cX9_isLaid 8 = .ok (.if_icmp .ne 7, 3) := by decide +kernel
theorem dX9_isLaid_11 : decode cX9_isLaid 11 = .ok (.iconst 1, 1) := by decide +kernel
theorem dX9_isLaid_12 : decode cX9_isLaid 12 = .ok (.goto 4, 3) := by decide +kernel
theorem dX9_isLaid_15 : decode cX9_isLaid 15 = .ok (.iconst 0, 1) := by decide +kernel
theorem dX9_isLaid_16 : decode cX9_isLaid 16 = .ok (.istore_n 1, 1) := by decide +kernel
theorem dX9_isLaid_17 : decode cX9_isLaid 17 = .ok (.iconst 0, 1) := by decide +kernel
theorem dX9_isLaid_18 : decode cX9_isLaid 18 = .ok (.istore_n 2, 1) := by decide +kernel
theorem dX9_isLaid_19 : decode cX9_isLaid 19 = .ok (.iload_n 2, 1) := by decide +kernel
theorem dX9_isLaid_20 : decode cX9_isLaid 20 = .ok (.aload_n 0, 1) := by decide +kernel
theorem dX9_isLaid_21 : decode cX9_isLaid 21 = .ok (.getfield 13, 3) := by decide +kernel
theorem dX9_isLaid_24 : decode cX9_isLaid 24 = .ok (.iconst 1, 1) := by decide +kernel
theorem dX9_isLaid_25 : decode cX9_isLaid 25 = .ok (.iaload, 1) := by decide +kernel
theorem dX9_isLaid_26 : decode cX9_isLaid 26 = .ok (.if_icmp .ge 32, 3) := by decide +kernel
theorem dX9_isLaid_29 : decode cX9_isLaid 29 = .ok (.iload_n 1, 1) := by decide +kernel
theorem dX9_isLaid_30 : decode cX9_isLaid 30 = .ok (.ifCond .ne 16, 3) := by decide +kernel
theorem dX9_isLaid_33 : decode cX9_isLaid 33 = .ok (.aload_n 0, 1) := by decide +kernel
theorem dX9_isLaid_34 : decode cX9_isLaid 34 = .ok (.getfield 19, 3) := by decide +kernel
theorem dX9_isLaid_37 : decode cX9_isLaid 37 = .ok (.bipush 18, 2) := by decide +kernel
theorem dX9_isLaid_39 : decode cX9_isLaid 39 = .ok (.iload_n 2, 1) := by decide +kernel
theorem dX9_isLaid_40 : decode cX9_isLaid 40 = .ok (.iadd, 1) := by decide +kernel
theorem dX9_isLaid_41 : decode cX9_isLaid 41 = .ok (.iaload, 1) := by decide +kernel
theorem dX9_isLaid_42 : decode cX9_isLaid 42 = .ok (.iconst 2, 1) := by decide +kernel
theorem dX9_isLaid_43 : decode cX9_isLaid 43 = .ok (.if_icmp .ne 7, 3) := by decide +kernel
theorem dX9_isLaid_46 : decode cX9_isLaid 46 = .ok (.iconst 1, 1) := by decide +kernel
theorem dX9_isLaid_47 : decode cX9_isLaid 47 = .ok (.goto 4, 3) := by decide +kernel
theorem dX9_isLaid_50 : decode cX9_isLaid 50 = .ok (.iconst 0, 1) := by decide +kernel
theorem dX9_isLaid_51 : decode cX9_isLaid 51 = .ok (.istore_n 1, 1) := by decide +kernel
theorem dX9_isLaid_52 : decode cX9_isLaid 52 = .ok (.iinc 2 1, 3) := by decide +kernel
theorem dX9_isLaid_55 : decode cX9_isLaid 55 = .ok (.goto (-36), 3) := by decide +kernel
theorem dX9_isLaid_58 : decode cX9_isLaid 58 = .ok (.iload_n 1, 1) := by decide +kernel
theorem dX9_isLaid_59 : decode cX9_isLaid 59 = .ok (.ireturn, 1) := by decide +kernel
theorem dX9_layOut_0 : decode cX9_layOut 0 = .ok (.aload_n 0, 1) := by decide +kernel
theorem dX9_layOut_1 : decode cX9_layOut 1 = .ok (.iload_n 1, 1) := by decide +kernel
theorem dX9_layOut_2 : decode cX9_layOut 2 = .ok (.invokevirtual 108, 3) := by decide +kernel
theorem dX9_layOut_5 : decode cX9_layOut 5 = .ok (.ifCond .ne 5, 3) := by decide +kernel
theorem dX9_layOut_8 : decode cX9_layOut 8 = .ok (.iconst (-1), 1) := by decide +kernel
theorem dX9_layOut_9 : decode cX9_layOut 9 = .ok (.ireturn, 1) := by decide +kernel
theorem dX9_layOut_10 : decode cX9_layOut 10 = .ok (.aload_n 0, 1) := by decide +kernel
theorem dX9_layOut_11 : decode cX9_layOut 11 = .ok (.getfield 19, 3) := by decide +kernel
theorem dX9_layOut_14 : decode cX9_layOut 14 = .ok (.bipush 18, 2) := by decide +kernel
theorem dX9_layOut_16 : decode cX9_layOut 16 = .ok (.iload_n 1, 1) := by decide +kernel
theorem dX9_layOut_17 : decode cX9_layOut 17 = .ok (.iadd, 1) := by decide +kernel
theorem dX9_layOut_18 : decode cX9_layOut 18 = .ok (.iaload, 1) := by decide +kernel
theorem dX9_layOut_19 : decode cX9_layOut 19 = .ok (.ifCond .ne 10, 3) := by decide +kernel
theorem dX9_layOut_22 : decode cX9_layOut 22 = .ok (.aload_n 0, 1) := by decide +kernel
theorem dX9_layOut_23 : decode cX9_layOut 23 = .ok (.invokevirtual 121, 3) := by decide +kernel
theorem dX9_layOut_26 : decode cX9_layOut 26 = .ok (.ifCond .eq 6, 3) := by decide +kernel
theorem dX9_layOut_29 : decode cX9_layOut 29 = .ok (.bipush (-2), 2) := by decide +kernel
theorem dX9_layOut_31 : decode cX9_layOut 31 = .ok (.ireturn, 1) := by decide +kernel
theorem dX9_layOut_32 : decode cX9_layOut 32 = .ok (.aload_n 0, 1) := by decide +kernel
theorem dX9_layOut_33 : decode cX9_layOut 33 = .ok (.invokevirtual 115, 3) := by decide +kernel
theorem dX9_layOut_36 : decode cX9_layOut 36 = .ok (.aload_n 0, 1) := by decide +kernel
theorem dX9_layOut_37 : decode cX9_layOut 37 = .ok (.iload_n 1, 1) := by decide +kernel
theorem dX9_layOut_38 : decode cX9_layOut 38 = .ok (.iconst 2, 1) := by decide +kernel
theorem dX9_layOut_39 : decode cX9_layOut 39 = .ok (.iconst 3, 1) := by decide +kernel
theorem dX9_layOut_40 : decode cX9_layOut 40 = .ok (.iconst 0, 1) := by decide +kernel
theorem dX9_layOut_41 : decode cX9_layOut 41 = .ok (.invokevirtual 111, 3) := by decide +kernel
theorem dX9_layOut_44 : decode cX9_layOut 44 = .ok (.iconst 3, 1) := by decide +kernel
theorem dX9_layOut_45 : decode cX9_layOut 45 = .ok (.ireturn, 1) := by decide +kernel
theorem dX9_how_0 : decode cX9_how 0 = .ok (.iconst 0, 1) := by decide +kernel
theorem dX9_how_1 : decode cX9_how 1 = .ok (.istore 4, 2) := by decide +kernel
theorem dX9_how_3 : decode cX9_how 3 = .ok (.iconst 0, 1) := by decide +kernel
theorem dX9_how_4 : decode cX9_how 4 = .ok (.istore 5, 2) := by decide +kernel
theorem dX9_how_6 : decode cX9_how 6 = .ok (.iload 5, 2) := by decide +kernel
theorem dX9_how_8 : decode cX9_how 8 = .ok (.iload_n 2, 1) := by decide +kernel
theorem dX9_how_9 : decode cX9_how 9 = .ok (.if_icmp .ge 32, 3) := by decide +kernel
theorem dX9_how_12 : decode cX9_how 12 = .ok (.iload 4, 2) := by decide +kernel
theorem dX9_how_14 : decode cX9_how 14 = .ok (.aload_n 0, 1) := by decide +kernel
theorem dX9_how_15 : decode cX9_how 15 = .ok (.getfield 19, 3) := by decide +kernel
theorem dX9_how_18 : decode cX9_how 18 = .ok (.iload_n 1, 1) := by decide +kernel
theorem dX9_how_19 : decode cX9_how 19 = .ok (.iload 5, 2) := by decide +kernel
theorem dX9_how_21 : decode cX9_how 21 = .ok (.iadd, 1) := by decide +kernel
theorem dX9_how_22 : decode cX9_how 22 = .ok (.iaload, 1) := by decide +kernel
theorem dX9_how_23 : decode cX9_how 23 = .ok (.iload_n 3, 1) := by decide +kernel
theorem dX9_how_24 : decode cX9_how 24 = .ok (.if_icmp .ne 7, 3) := by decide +kernel
theorem dX9_how_27 : decode cX9_how 27 = .ok (.iconst 1, 1) := by decide +kernel
theorem dX9_how_28 : decode cX9_how 28 = .ok (.goto 4, 3) := by decide +kernel
theorem dX9_how_31 : decode cX9_how 31 = .ok (.iconst 0, 1) := by decide +kernel
theorem dX9_how_32 : decode cX9_how 32 = .ok (.iadd, 1) := by decide +kernel
theorem dX9_how_33 : decode cX9_how 33 = .ok (.istore 4, 2) := by decide +kernel
theorem dX9_how_35 : decode cX9_how 35 = .ok (.iinc 5 1, 3) := by decide +kernel
theorem dX9_how_38 : decode cX9_how 38 = .ok (.goto (-32), 3) := by decide +kernel
theorem dX9_how_41 : decode cX9_how 41 = .ok (.iload 4, 2) := by decide +kernel
theorem dX9_how_43 : decode cX9_how 43 = .ok (.ireturn, 1) := by decide +kernel
theorem dX9_children_0 : decode cX9_children 0 = .ok (.aload_n 0, 1) := by decide +kernel
theorem dX9_children_1 : decode cX9_children 1 = .ok (.iconst 0, 1) := by decide +kernel
theorem dX9_children_2 : decode cX9_children 2 = .ok (.aload_n 0, 1) := by decide +kernel
theorem dX9_children_3 : decode cX9_children 3 = .ok (.getfield 13, 3) := by decide +kernel
theorem dX9_children_6 : decode cX9_children 6 = .ok (.iconst 0, 1) := by decide +kernel
theorem dX9_children_7 : decode cX9_children 7 = .ok (.iaload, 1) := by decide +kernel
theorem dX9_children_8 : decode cX9_children 8 = .ok (.iload_n 1, 1) := by decide +kernel
theorem dX9_children_9 : decode cX9_children 9 = .ok (.invokevirtual 125, 3) := by decide +kernel
theorem dX9_children_12 : decode cX9_children 12 = .ok (.ireturn, 1) := by decide +kernel
theorem dX9_notOut_0 : decode cX9_notOut 0 = .ok (.aload_n 0, 1) := by decide +kernel
theorem dX9_notOut_1 : decode cX9_notOut 1 = .ok (.getfield 13, 3) := by decide +kernel
theorem dX9_notOut_4 : decode cX9_notOut 4 = .ok (.iconst 1, 1) := by decide +kernel
theorem dX9_notOut_5 : decode cX9_notOut 5 = .ok (.iaload, 1) := by decide +kernel
theorem dX9_notOut_6 : decode cX9_notOut 6 = .ok (.aload_n 0, 1) := by decide +kernel
theorem dX9_notOut_7 : decode cX9_notOut 7 = .ok (.bipush 18, 2) := by decide +kernel
theorem dX9_notOut_9 : decode cX9_notOut 9 = .ok (.aload_n 0, 1) := by decide +kernel
theorem dX9_notOut_10 : decode cX9_notOut 10 = .ok (.getfield 13, 3) := by decide +kernel
theorem dX9_notOut_13 : decode cX9_notOut 13 = .ok (.iconst 1, 1) := by decide +kernel
theorem dX9_notOut_14 : decode cX9_notOut 14 = .ok (.iaload, 1) := by decide +kernel
theorem dX9_notOut_15 : decode cX9_notOut 15 = .ok (.iconst 3, 1) := by decide +kernel
theorem dX9_notOut_16 : decode cX9_notOut 16 = .ok (.invokevirtual 125, 3) := by decide +kernel
theorem dX9_notOut_19 : decode cX9_notOut 19 = .ok (.isub, 1) := by decide +kernel
theorem dX9_notOut_20 : decode cX9_notOut 20 = .ok (.ireturn, 1) := by decide +kernel
theorem dX9_opens_0 : decode cX9_opens 0 = .ok (.aload_n 0, 1) := by decide +kernel
theorem dX9_opens_1 : decode cX9_opens 1 = .ok (.invokevirtual 128, 3) := by decide +kernel
theorem dX9_opens_4 : decode cX9_opens 4 = .ok (.iconst 1, 1) := by decide +kernel
theorem dX9_opens_5 : decode cX9_opens 5 = .ok (.if_icmp .ne 8, 3) := by decide +kernel
theorem dX9_opens_8 : decode cX9_opens 8 = .ok (.bipush 6, 2) := by decide +kernel
theorem dX9_opens_10 : decode cX9_opens 10 = .ok (.goto 9, 3) := by decide +kernel
theorem dX9_opens_13 : decode cX9_opens 13 = .ok (.aload_n 0, 1) := by decide +kernel
theorem dX9_opens_14 : decode cX9_opens 14 = .ok (.getfield 13, 3) := by decide +kernel
theorem dX9_opens_17 : decode cX9_opens 17 = .ok (.iconst 3, 1) := by decide +kernel
theorem dX9_opens_18 : decode cX9_opens 18 = .ok (.iaload, 1) := by decide +kernel
theorem dX9_opens_19 : decode cX9_opens 19 = .ok (.istore_n 2, 1) := by decide +kernel
theorem dX9_opens_20 : decode cX9_opens 20 = .ok (.iconst 0, 1) := by decide +kernel
theorem dX9_opens_21 : decode cX9_opens 21 = .ok (.istore_n 3, 1) := by decide +kernel
theorem dX9_opens_22 : decode cX9_opens 22 = .ok (.iconst 0, 1) := by decide +kernel
theorem dX9_opens_23 : decode cX9_opens 23 = .ok (.istore 4, 2) := by decide +kernel
theorem dX9_opens_25 : decode cX9_opens 25 = .ok (.iload 4, 2) := by decide +kernel
theorem dX9_opens_27 : decode cX9_opens 27 = .ok (.iload_n 2, 1) := by decide +kernel
theorem dX9_opens_28 : decode cX9_opens 28 = .ok (.if_icmp .ge 116, 3) := by decide +kernel
theorem dX9_opens_31 : decode cX9_opens 31 = .ok (.bipush (-4), 2) := by decide +kernel
theorem dX9_opens_33 : decode cX9_opens 33 = .ok (.istore 5, 2) := by decide +kernel
theorem dX9_opens_35 : decode cX9_opens 35 = .ok (.iconst 0, 1) := by decide +kernel
theorem dX9_opens_36 : decode cX9_opens 36 = .ok (.istore 6, 2) := by decide +kernel
theorem dX9_opens_38 : decode cX9_opens 38 = .ok (.iload 6, 2) := by decide +kernel
theorem dX9_opens_40 : decode cX9_opens 40 = .ok (.aload_n 0, 1) := by decide +kernel
theorem dX9_opens_41 : decode cX9_opens 41 = .ok (.getfield 13, 3) := by decide +kernel
theorem dX9_opens_44 : decode cX9_opens 44 = .ok (.iconst 0, 1) := by decide +kernel
theorem dX9_opens_45 : decode cX9_opens 45 = .ok (.iaload, 1) := by decide +kernel
theorem dX9_opens_46 : decode cX9_opens 46 = .ok (.if_icmp .ge 59, 3) := by decide +kernel
theorem dX9_opens_49 : decode cX9_opens 49 = .ok (.aload_n 0, 1) := by decide +kernel
theorem dX9_opens_50 : decode cX9_opens 50 = .ok (.getfield 19, 3) := by decide +kernel
theorem dX9_opens_53 : decode cX9_opens 53 = .ok (.iload 6, 2) := by decide +kernel
theorem dX9_opens_55 : decode cX9_opens 55 = .ok (.iaload, 1) := by decide +kernel
theorem dX9_opens_56 : decode cX9_opens 56 = .ok (.iconst 2, 1) := by decide +kernel
theorem dX9_opens_57 : decode cX9_opens 57 = .ok (.if_icmp .ne 38, 3) := by decide +kernel
theorem dX9_opens_60 : decode cX9_opens 60 = .ok (.iload 5, 2) := by decide +kernel
theorem dX9_opens_62 : decode cX9_opens 62 = .ok (.bipush (-4), 2) := by decide +kernel
theorem dX9_opens_64 : decode cX9_opens 64 = .ok (.if_icmp .eq 26, 3) := by decide +kernel
theorem dX9_opens_67 : decode cX9_opens 67 = .ok (.aload_n 0, 1) := by decide +kernel
theorem dX9_opens_68 : decode cX9_opens 68 = .ok (.getfield 19, 3) := by decide +kernel
theorem dX9_opens_71 : decode cX9_opens 71 = .ok (.bipush 6, 2) := by decide +kernel
theorem dX9_opens_73 : decode cX9_opens 73 = .ok (.iload 6, 2) := by decide +kernel
theorem dX9_opens_75 : decode cX9_opens 75 = .ok (.iadd, 1) := by decide +kernel
theorem dX9_opens_76 : decode cX9_opens 76 = .ok (.iaload, 1) := by decide +kernel
theorem dX9_opens_77 : decode cX9_opens 77 = .ok (.aload_n 0, 1) := by decide +kernel
theorem dX9_opens_78 : decode cX9_opens 78 = .ok (.getfield 19, 3) := by decide +kernel
theorem dX9_opens_81 : decode cX9_opens 81 = .ok (.bipush 6, 2) := by decide +kernel
theorem dX9_opens_83 : decode cX9_opens 83 = .ok (.iload 5, 2) := by decide +kernel
theorem dX9_opens_85 : decode cX9_opens 85 = .ok (.iadd, 1) := by decide +kernel
theorem dX9_opens_86 : decode cX9_opens 86 = .ok (.iaload, 1) := by decide +kernel
theorem dX9_opens_87 : decode cX9_opens 87 = .ok (.if_icmp .le 8, 3) := by decide +kernel
theorem dX9_opens_90 : decode cX9_opens 90 = .ok (.iload 6, 2) := by decide +kernel
theorem dX9_opens_92 : decode cX9_opens 92 = .ok (.goto 5, 3) := by decide +kernel
theorem dX9_opens_95 : decode cX9_opens 95 = .ok (.iload 5, 2) := by decide +kernel
theorem dX9_opens_97 : decode cX9_opens 97 = .ok (.istore 5, 2) := by decide +kernel
theorem dX9_opens_99 : decode cX9_opens 99 = .ok (.iinc 6 1, 3) := by decide +kernel
theorem dX9_opens_102 : decode cX9_opens 102 = .ok (.goto (-64), 3) := by decide +kernel
theorem dX9_opens_105 : decode cX9_opens 105 = .ok (.iload 5, 2) := by decide +kernel
theorem dX9_opens_107 : decode cX9_opens 107 = .ok (.bipush (-4), 2) := by decide +kernel
theorem dX9_opens_109 : decode cX9_opens 109 = .ok (.if_icmp .eq 29, 3) := by decide +kernel
theorem dX9_opens_112 : decode cX9_opens 112 = .ok (.aload_n 0, 1) := by decide +kernel
theorem dX9_opens_113 : decode cX9_opens 113 = .ok (.getfield 19, 3) := by decide +kernel
theorem dX9_opens_116 : decode cX9_opens 116 = .ok (.iload 5, 2) := by decide +kernel
theorem dX9_opens_118 : decode cX9_opens 118 = .ok (.iconst 3, 1) := by decide +kernel
theorem dX9_opens_119 : decode cX9_opens 119 = .ok (.iastore, 1) := by decide +kernel
theorem dX9_opens_120 : decode cX9_opens 120 = .ok (.aload_n 0, 1) := by decide +kernel
theorem dX9_opens_121 : decode cX9_opens 121 = .ok (.getfield 19, 3) := by decide +kernel
theorem dX9_opens_124 : decode cX9_opens 124 = .ok (.bipush 6, 2) := by decide +kernel
theorem dX9_opens_126 : decode cX9_opens 126 = .ok (.iload 5, 2) := by decide +kernel
theorem dX9_opens_128 : decode cX9_opens 128 = .ok (.iadd, 1) := by decide +kernel
theorem dX9_opens_129 : decode cX9_opens 129 = .ok (.iconst 0, 1) := by decide +kernel
theorem dX9_opens_130 : decode cX9_opens 130 = .ok (.iastore, 1) := by decide +kernel
theorem dX9_opens_131 : decode cX9_opens 131 = .ok (.iload_n 3, 1) := by decide +kernel
theorem dX9_opens_132 : decode cX9_opens 132 = .ok (.iconst 1, 1) := by decide +kernel
theorem dX9_opens_133 : decode cX9_opens 133 = .ok (.iload 5, 2) := by decide +kernel
theorem dX9_opens_135 : decode cX9_opens 135 = .ok (.ishl, 1) := by decide +kernel
theorem dX9_opens_136 : decode cX9_opens 136 = .ok (.ior, 1) := by decide +kernel
theorem dX9_opens_137 : decode cX9_opens 137 = .ok (.istore_n 3, 1) := by decide +kernel
theorem dX9_opens_138 : decode cX9_opens 138 = .ok (.iinc 4 1, 3) := by decide +kernel
theorem dX9_opens_141 : decode cX9_opens 141 = .ok (.goto (-116), 3) := by decide +kernel
theorem dX9_opens_144 : decode cX9_opens 144 = .ok (.aload_n 0, 1) := by decide +kernel
theorem dX9_opens_145 : decode cX9_opens 145 = .ok (.iload_n 1, 1) := by decide +kernel
theorem dX9_opens_146 : decode cX9_opens 146 = .ok (.iconst 3, 1) := by decide +kernel
theorem dX9_opens_147 : decode cX9_opens 147 = .ok (.iconst 0, 1) := by decide +kernel
theorem dX9_opens_148 : decode cX9_opens 148 = .ok (.iconst 0, 1) := by decide +kernel
theorem dX9_opens_149 : decode cX9_opens 149 = .ok (.invokevirtual 111, 3) := by decide +kernel
theorem dX9_opens_152 : decode cX9_opens 152 = .ok (.iload_n 3, 1) := by decide +kernel
theorem dX9_opens_153 : decode cX9_opens 153 = .ok (.ireturn, 1) := by decide +kernel
theorem dX9_door_0 : decode cX9_door 0 = .ok (.aload_n 0, 1) := by decide +kernel
theorem dX9_door_1 : decode cX9_door 1 = .ok (.iload_n 1, 1) := by decide +kernel
theorem dX9_door_2 : decode cX9_door 2 = .ok (.invokevirtual 108, 3) := by decide +kernel
theorem dX9_door_5 : decode cX9_door 5 = .ok (.ifCond .ne 5, 3) := by decide +kernel
theorem dX9_door_8 : decode cX9_door 8 = .ok (.iconst (-1), 1) := by decide +kernel
theorem dX9_door_9 : decode cX9_door 9 = .ok (.ireturn, 1) := by decide +kernel
theorem dX9_door_10 : decode cX9_door 10 = .ok (.aload_n 0, 1) := by decide +kernel
theorem dX9_door_11 : decode cX9_door 11 = .ok (.getfield 19, 3) := by decide +kernel
theorem dX9_door_14 : decode cX9_door 14 = .ok (.bipush 18, 2) := by decide +kernel
theorem dX9_door_16 : decode cX9_door 16 = .ok (.iload_n 1, 1) := by decide +kernel
theorem dX9_door_17 : decode cX9_door 17 = .ok (.iadd, 1) := by decide +kernel
theorem dX9_door_18 : decode cX9_door 18 = .ok (.iaload, 1) := by decide +kernel
theorem dX9_door_19 : decode cX9_door 19 = .ok (.ifCond .ne 11, 3) := by decide +kernel
theorem dX9_door_22 : decode cX9_door 22 = .ok (.aload_n 0, 1) := by decide +kernel
theorem dX9_door_23 : decode cX9_door 23 = .ok (.iconst 2, 1) := by decide +kernel
theorem dX9_door_24 : decode cX9_door 24 = .ok (.invokevirtual 131, 3) := by decide +kernel
theorem dX9_door_27 : decode cX9_door 27 = .ok (.ifCond .ne 6, 3) := by decide +kernel
theorem dX9_door_30 : decode cX9_door 30 = .ok (.bipush (-2), 2) := by decide +kernel
theorem dX9_door_32 : decode cX9_door 32 = .ok (.ireturn, 1) := by decide +kernel
theorem dX9_door_33 : decode cX9_door 33 = .ok (.aload_n 0, 1) := by decide +kernel
theorem dX9_door_34 : decode cX9_door 34 = .ok (.invokevirtual 115, 3) := by decide +kernel
theorem dX9_door_37 : decode cX9_door 37 = .ok (.aload_n 0, 1) := by decide +kernel
theorem dX9_door_38 : decode cX9_door 38 = .ok (.iload_n 1, 1) := by decide +kernel
theorem dX9_door_39 : decode cX9_door 39 = .ok (.invokevirtual 134, 3) := by decide +kernel
theorem dX9_door_42 : decode cX9_door 42 = .ok (.ireturn, 1) := by decide +kernel
theorem dX9_passes_0 : decode cX9_passes 0 = .ok (.iconst 0, 1) := by decide +kernel
theorem dX9_passes_1 : decode cX9_passes 1 = .ok (.istore_n 1, 1) := by decide +kernel
theorem dX9_passes_2 : decode cX9_passes 2 = .ok (.iconst 0, 1) := by decide +kernel
theorem dX9_passes_3 : decode cX9_passes 3 = .ok (.istore_n 2, 1) := by decide +kernel
theorem dX9_passes_4 : decode cX9_passes 4 = .ok (.iload_n 2, 1) := by decide +kernel
theorem dX9_passes_5 : decode cX9_passes 5 = .ok (.aload_n 0, 1) := by decide +kernel
theorem dX9_passes_6 : decode cX9_passes 6 = .ok (.getfield 13, 3) := by decide +kernel
theorem dX9_passes_9 : decode cX9_passes 9 = .ok (.iconst 0, 1) := by decide +kernel
theorem dX9_passes_10 : decode cX9_passes 10 = .ok (.iaload, 1) := by decide +kernel
theorem dX9_passes_11 : decode cX9_passes 11 = .ok (.if_icmp .ge 121, 3) := by decide +kernel
theorem dX9_passes_14 : decode cX9_passes 14 = .ok (.aload_n 0, 1) := by decide +kernel
theorem dX9_passes_15 : decode cX9_passes 15 = .ok (.getfield 19, 3) := by decide +kernel
theorem dX9_passes_18 : decode cX9_passes 18 = .ok (.iload_n 2, 1) := by decide +kernel
theorem dX9_passes_19 : decode cX9_passes 19 = .ok (.iaload, 1) := by decide +kernel
theorem dX9_passes_20 : decode cX9_passes 20 = .ok (.iconst 2, 1) := by decide +kernel
theorem dX9_passes_21 : decode cX9_passes 21 = .ok (.if_icmp .ne 31, 3) := by decide +kernel
theorem dX9_passes_24 : decode cX9_passes 24 = .ok (.aload_n 0, 1) := by decide +kernel
theorem dX9_passes_25 : decode cX9_passes 25 = .ok (.getfield 13, 3) := by decide +kernel
theorem dX9_passes_28 : decode cX9_passes 28 = .ok (.iconst 5, 1) := by decide +kernel
theorem dX9_passes_29 : decode cX9_passes 29 = .ok (.iload_n 2, 1) := by decide +kernel
theorem dX9_passes_30 : decode cX9_passes 30 = .ok (.iadd, 1) := by decide +kernel
theorem dX9_passes_31 : decode cX9_passes 31 = .ok (.iaload, 1) := by decide +kernel
theorem dX9_passes_32 : decode cX9_passes 32 = .ok (.iconst 2, 1) := by decide +kernel
theorem dX9_passes_33 : decode cX9_passes 33 = .ok (.if_icmp .ne 15, 3) := by decide +kernel
theorem dX9_passes_36 : decode cX9_passes 36 = .ok (.aload_n 0, 1) := by decide +kernel
theorem dX9_passes_37 : decode cX9_passes 37 = .ok (.getfield 19, 3) := by decide +kernel
theorem dX9_passes_40 : decode cX9_passes 40 = .ok (.bipush 28, 2) := by decide +kernel
theorem dX9_passes_42 : decode cX9_passes 42 = .ok (.iaload, 1) := by decide +kernel
theorem dX9_passes_43 : decode cX9_passes 43 = .ok (.iconst 2, 1) := by decide +kernel
theorem dX9_passes_44 : decode cX9_passes 44 = .ok (.irem, 1) := by decide +kernel
theorem dX9_passes_45 : decode cX9_passes 45 = .ok (.ifCond .ne 7, 3) := by decide +kernel
theorem dX9_passes_48 : decode cX9_passes 48 = .ok (.iconst 1, 1) := by decide +kernel
theorem dX9_passes_49 : decode cX9_passes 49 = .ok (.goto 4, 3) := by decide +kernel
theorem dX9_passes_52 : decode cX9_passes 52 = .ok (.iconst 0, 1) := by decide +kernel
theorem dX9_passes_53 : decode cX9_passes 53 = .ok (.istore_n 3, 1) := by decide +kernel
theorem dX9_passes_54 : decode cX9_passes 54 = .ok (.aload_n 0, 1) := by decide +kernel
theorem dX9_passes_55 : decode cX9_passes 55 = .ok (.getfield 19, 3) := by decide +kernel
theorem dX9_passes_58 : decode cX9_passes 58 = .ok (.bipush 6, 2) := by decide +kernel
theorem dX9_passes_60 : decode cX9_passes 60 = .ok (.iload_n 2, 1) := by decide +kernel
theorem dX9_passes_61 : decode cX9_passes 61 = .ok (.iadd, 1) := by decide +kernel
theorem dX9_passes_62 : decode cX9_passes 62 = .ok (.dup2, 1) := by decide +kernel
theorem dX9_passes_63 : decode cX9_passes 63 = .ok (.iaload, 1) := by decide +kernel
theorem dX9_passes_64 : decode cX9_passes 64 = .ok (.iload_n 3, 1) := by decide +kernel
theorem dX9_passes_65 : decode cX9_passes 65 = .ok (.ifCond .eq 7, 3) := by decide +kernel
theorem dX9_passes_68 : decode cX9_passes 68 = .ok (.iconst 1, 1) := by decide +kernel
theorem dX9_passes_69 : decode cX9_passes 69 = .ok (.goto 4, 3) := by decide +kernel
theorem dX9_passes_72 : decode cX9_passes 72 = .ok (.iconst 0, 1) := by decide +kernel
theorem dX9_passes_73 : decode cX9_passes 73 = .ok (.iadd, 1) := by decide +kernel
theorem dX9_passes_74 : decode cX9_passes 74 = .ok (.iastore, 1) := by decide +kernel
theorem dX9_passes_75 : decode cX9_passes 75 = .ok (.aload_n 0, 1) := by decide +kernel
theorem dX9_passes_76 : decode cX9_passes 76 = .ok (.getfield 19, 3) := by decide +kernel
theorem dX9_passes_79 : decode cX9_passes 79 = .ok (.bipush 6, 2) := by decide +kernel
theorem dX9_passes_81 : decode cX9_passes 81 = .ok (.iload_n 2, 1) := by decide +kernel
theorem dX9_passes_82 : decode cX9_passes 82 = .ok (.iadd, 1) := by decide +kernel
theorem dX9_passes_83 : decode cX9_passes 83 = .ok (.iaload, 1) := by decide +kernel
theorem dX9_passes_84 : decode cX9_passes 84 = .ok (.aload_n 0, 1) := by decide +kernel
theorem dX9_passes_85 : decode cX9_passes 85 = .ok (.getfield 13, 3) := by decide +kernel
theorem dX9_passes_88 : decode cX9_passes 88 = .ok (.iconst 2, 1) := by decide +kernel
theorem dX9_passes_89 : decode cX9_passes 89 = .ok (.iaload, 1) := by decide +kernel
theorem dX9_passes_90 : decode cX9_passes 90 = .ok (.if_icmp .le 36, 3) := by decide +kernel
theorem dX9_passes_93 : decode cX9_passes 93 = .ok (.aload_n 0, 1) := by decide +kernel
theorem dX9_passes_94 : decode cX9_passes 94 = .ok (.getfield 19, 3) := by decide +kernel
theorem dX9_passes_97 : decode cX9_passes 97 = .ok (.iload_n 2, 1) := by decide +kernel
theorem dX9_passes_98 : decode cX9_passes 98 = .ok (.iconst 0, 1) := by decide +kernel
theorem dX9_passes_99 : decode cX9_passes 99 = .ok (.iastore, 1) := by decide +kernel
theorem dX9_passes_100 : decode cX9_passes 100 = .ok (.aload_n 0, 1) := by decide +kernel
theorem dX9_passes_101 : decode cX9_passes 101 = .ok (.getfield 19, 3) := by decide +kernel
theorem dX9_passes_104 : decode cX9_passes 104 = .ok (.bipush 6, 2) := by decide +kernel
theorem dX9_passes_106 : decode cX9_passes 106 = .ok (.iload_n 2, 1) := by decide +kernel
theorem dX9_passes_107 : decode cX9_passes 107 = .ok (.iadd, 1) := by decide +kernel
theorem dX9_passes_108 : decode cX9_passes 108 = .ok (.iconst 0, 1) := by decide +kernel
theorem dX9_passes_109 : decode cX9_passes 109 = .ok (.iastore, 1) := by decide +kernel
theorem dX9_passes_110 : decode cX9_passes 110 = .ok (.aload_n 0, 1) := by decide +kernel
theorem dX9_passes_111 : decode cX9_passes 111 = .ok (.getfield 19, 3) := by decide +kernel
theorem dX9_passes_114 : decode cX9_passes 114 = .ok (.bipush 12, 2) := by decide +kernel
theorem dX9_passes_116 : decode cX9_passes 116 = .ok (.iload_n 2, 1) := by decide +kernel
theorem dX9_passes_117 : decode cX9_passes 117 = .ok (.iadd, 1) := by decide +kernel
theorem dX9_passes_118 : decode cX9_passes 118 = .ok (.dup2, 1) := by decide +kernel
theorem dX9_passes_119 : decode cX9_passes 119 = .ok (.iaload, 1) := by decide +kernel
theorem dX9_passes_120 : decode cX9_passes 120 = .ok (.iconst 1, 1) := by decide +kernel
theorem dX9_passes_121 : decode cX9_passes 121 = .ok (.iadd, 1) := by decide +kernel
theorem dX9_passes_122 : decode cX9_passes 122 = .ok (.iastore, 1) := by decide +kernel
theorem dX9_passes_123 : decode cX9_passes 123 = .ok (.iinc 1 1, 3) := by decide +kernel
theorem dX9_passes_126 : decode cX9_passes 126 = .ok (.iinc 2 1, 3) := by decide +kernel
theorem dX9_passes_129 : decode cX9_passes 129 = .ok (.goto (-125), 3) := by decide +kernel
theorem dX9_passes_132 : decode cX9_passes 132 = .ok (.iconst 0, 1) := by decide +kernel
theorem dX9_passes_133 : decode cX9_passes 133 = .ok (.istore_n 2, 1) := by decide +kernel
theorem dX9_passes_134 : decode cX9_passes 134 = .ok (.iload_n 2, 1) := by decide +kernel
theorem dX9_passes_135 : decode cX9_passes 135 = .ok (.aload_n 0, 1) := by decide +kernel
theorem dX9_passes_136 : decode cX9_passes 136 = .ok (.getfield 13, 3) := by decide +kernel
theorem dX9_passes_139 : decode cX9_passes 139 = .ok (.iconst 1, 1) := by decide +kernel
theorem dX9_passes_140 : decode cX9_passes 140 = .ok (.iaload, 1) := by decide +kernel
theorem dX9_passes_141 : decode cX9_passes 141 = .ok (.if_icmp .ge 111, 3) := by decide +kernel
theorem dX9_passes_144 : decode cX9_passes 144 = .ok (.aload_n 0, 1) := by decide +kernel
theorem dX9_passes_145 : decode cX9_passes 145 = .ok (.getfield 19, 3) := by decide +kernel
theorem dX9_passes_148 : decode cX9_passes 148 = .ok (.bipush 21, 2) := by decide +kernel
theorem dX9_passes_150 : decode cX9_passes 150 = .ok (.iload_n 2, 1) := by decide +kernel
theorem dX9_passes_151 : decode cX9_passes 151 = .ok (.iadd, 1) := by decide +kernel
theorem dX9_passes_152 : decode cX9_passes 152 = .ok (.iaload, 1) := by decide +kernel
theorem dX9_passes_153 : decode cX9_passes 153 = .ok (.ifCond .le 7, 3) := by decide +kernel
theorem dX9_passes_156 : decode cX9_passes 156 = .ok (.iconst 1, 1) := by decide +kernel
theorem dX9_passes_157 : decode cX9_passes 157 = .ok (.goto 4, 3) := by decide +kernel
theorem dX9_passes_160 : decode cX9_passes 160 = .ok (.iconst 0, 1) := by decide +kernel
theorem dX9_passes_161 : decode cX9_passes 161 = .ok (.istore_n 3, 1) := by decide +kernel
theorem dX9_passes_162 : decode cX9_passes 162 = .ok (.aload_n 0, 1) := by decide +kernel
theorem dX9_passes_163 : decode cX9_passes 163 = .ok (.getfield 19, 3) := by decide +kernel
theorem dX9_passes_166 : decode cX9_passes 166 = .ok (.bipush 21, 2) := by decide +kernel
theorem dX9_passes_168 : decode cX9_passes 168 = .ok (.iload_n 2, 1) := by decide +kernel
theorem dX9_passes_169 : decode cX9_passes 169 = .ok (.iadd, 1) := by decide +kernel
theorem dX9_passes_170 : decode cX9_passes 170 = .ok (.dup2, 1) := by decide +kernel
theorem dX9_passes_171 : decode cX9_passes 171 = .ok (.iaload, 1) := by decide +kernel
theorem dX9_passes_172 : decode cX9_passes 172 = .ok (.iload_n 3, 1) := by decide +kernel
theorem dX9_passes_173 : decode cX9_passes 173 = .ok (.ifCond .eq 7, 3) := by decide +kernel
theorem dX9_passes_176 : decode cX9_passes 176 = .ok (.iconst 1, 1) := by decide +kernel
theorem dX9_passes_177 : decode cX9_passes 177 = .ok (.goto 4, 3) := by decide +kernel
theorem dX9_passes_180 : decode cX9_passes 180 = .ok (.iconst 0, 1) := by decide +kernel
theorem dX9_passes_181 : decode cX9_passes 181 = .ok (.isub, 1) := by decide +kernel
theorem dX9_passes_182 : decode cX9_passes 182 = .ok (.iastore, 1) := by decide +kernel
theorem dX9_passes_183 : decode cX9_passes 183 = .ok (.iload_n 3, 1) := by decide +kernel
theorem dX9_passes_184 : decode cX9_passes 184 = .ok (.ifCond .eq 62, 3) := by decide +kernel
theorem dX9_passes_187 : decode cX9_passes 187 = .ok (.aload_n 0, 1) := by decide +kernel
theorem dX9_passes_188 : decode cX9_passes 188 = .ok (.getfield 19, 3) := by decide +kernel
theorem dX9_passes_191 : decode cX9_passes 191 = .ok (.bipush 21, 2) := by decide +kernel
theorem dX9_passes_193 : decode cX9_passes 193 = .ok (.iload_n 2, 1) := by decide +kernel
theorem dX9_passes_194 : decode cX9_passes 194 = .ok (.iadd, 1) := by decide +kernel
theorem dX9_passes_195 : decode cX9_passes 195 = .ok (.iaload, 1) := by decide +kernel
theorem dX9_passes_196 : decode cX9_passes 196 = .ok (.ifCond .ne 50, 3) := by decide +kernel
theorem dX9_passes_199 : decode cX9_passes 199 = .ok (.aload_n 0, 1) := by decide +kernel
theorem dX9_passes_200 : decode cX9_passes 200 = .ok (.getfield 19, 3) := by decide +kernel
theorem dX9_passes_203 : decode cX9_passes 203 = .ok (.bipush 18, 2) := by decide +kernel
theorem dX9_passes_205 : decode cX9_passes 205 = .ok (.iload_n 2, 1) := by decide +kernel
theorem dX9_passes_206 : decode cX9_passes 206 = .ok (.iadd, 1) := by decide +kernel
theorem dX9_passes_207 : decode cX9_passes 207 = .ok (.iaload, 1) := by decide +kernel
theorem dX9_passes_208 : decode cX9_passes 208 = .ok (.iconst 1, 1) := by decide +kernel
theorem dX9_passes_209 : decode cX9_passes 209 = .ok (.if_icmp .ne 21, 3) := by decide +kernel
theorem dX9_passes_212 : decode cX9_passes 212 = .ok (.aload_n 0, 1) := by decide +kernel
theorem dX9_passes_213 : decode cX9_passes 213 = .ok (.getfield 19, 3) := by decide +kernel
theorem dX9_passes_216 : decode cX9_passes 216 = .ok (.aload_n 0, 1) := by decide +kernel
theorem dX9_passes_217 : decode cX9_passes 217 = .ok (.getfield 19, 3) := by decide +kernel
theorem dX9_passes_220 : decode cX9_passes 220 = .ok (.bipush 24, 2) := by decide +kernel
theorem dX9_passes_222 : decode cX9_passes 222 = .ok (.iload_n 2, 1) := by decide +kernel
theorem dX9_passes_223 : decode cX9_passes 223 = .ok (.iadd, 1) := by decide +kernel
theorem dX9_passes_224 : decode cX9_passes 224 = .ok (.iaload, 1) := by decide +kernel
theorem dX9_passes_225 : decode cX9_passes 225 = .ok (.iconst 2, 1) := by decide +kernel
theorem dX9_passes_226 : decode cX9_passes 226 = .ok (.iastore, 1) := by decide +kernel
theorem dX9_passes_227 : decode cX9_passes 227 = .ok (.goto 11, 3) := by decide +kernel
theorem dX9_passes_230 : decode cX9_passes 230 = .ok (.aload_n 0, 1) := by decide +kernel
theorem dX9_passes_231 : decode cX9_passes 231 = .ok (.getfield 19, 3) := by decide +kernel
theorem dX9_passes_234 : decode cX9_passes 234 = .ok (.bipush 27, 2) := by decide +kernel
theorem dX9_passes_236 : decode cX9_passes 236 = .ok (.iconst 1, 1) := by decide +kernel
theorem dX9_passes_237 : decode cX9_passes 237 = .ok (.iastore, 1) := by decide +kernel
theorem dX9_passes_238 : decode cX9_passes 238 = .ok (.aload_n 0, 1) := by decide +kernel
theorem dX9_passes_239 : decode cX9_passes 239 = .ok (.iload_n 2, 1) := by decide +kernel
theorem dX9_passes_240 : decode cX9_passes 240 = .ok (.iconst 0, 1) := by decide +kernel
theorem dX9_passes_241 : decode cX9_passes 241 = .ok (.iconst 0, 1) := by decide +kernel
theorem dX9_passes_242 : decode cX9_passes 242 = .ok (.iconst 0, 1) := by decide +kernel
theorem dX9_passes_243 : decode cX9_passes 243 = .ok (.invokevirtual 111, 3) := by decide +kernel
theorem dX9_passes_246 : decode cX9_passes 246 = .ok (.iinc 2 1, 3) := by decide +kernel
theorem dX9_passes_249 : decode cX9_passes 249 = .ok (.goto (-115), 3) := by decide +kernel
theorem dX9_passes_252 : decode cX9_passes 252 = .ok (.aload_n 0, 1) := by decide +kernel
theorem dX9_passes_253 : decode cX9_passes 253 = .ok (.getfield 19, 3) := by decide +kernel
theorem dX9_passes_256 : decode cX9_passes 256 = .ok (.bipush 28, 2) := by decide +kernel
theorem dX9_passes_258 : decode cX9_passes 258 = .ok (.dup2, 1) := by decide +kernel
theorem dX9_passes_259 : decode cX9_passes 259 = .ok (.iaload, 1) := by decide +kernel
theorem dX9_passes_260 : decode cX9_passes 260 = .ok (.iconst 1, 1) := by decide +kernel
theorem dX9_passes_261 : decode cX9_passes 261 = .ok (.iadd, 1) := by decide +kernel
theorem dX9_passes_262 : decode cX9_passes 262 = .ok (.iastore, 1) := by decide +kernel
theorem dX9_passes_263 : decode cX9_passes 263 = .ok (.iload_n 1, 1) := by decide +kernel
theorem dX9_passes_264 : decode cX9_passes 264 = .ok (.ireturn, 1) := by decide +kernel
theorem dX9_pass_0 : decode cX9_pass 0 = .ok (.iload_n 1, 1) := by decide +kernel
theorem dX9_pass_1 : decode cX9_pass 1 = .ok (.iconst 1, 1) := by decide +kernel
theorem dX9_pass_2 : decode cX9_pass 2 = .ok (.bipush 40, 2) := by decide +kernel
theorem dX9_pass_4 : decode cX9_pass 4 = .ok (.invokestatic 50, 3) := by decide +kernel
theorem dX9_pass_7 : decode cX9_pass 7 = .ok (.ifCond .ne 5, 3) := by decide +kernel
theorem dX9_pass_10 : decode cX9_pass 10 = .ok (.iconst (-1), 1) := by decide +kernel
theorem dX9_pass_11 : decode cX9_pass 11 = .ok (.ireturn, 1) := by decide +kernel
theorem dX9_pass_12 : decode cX9_pass 12 = .ok (.aload_n 0, 1) := by decide +kernel
theorem dX9_pass_13 : decode cX9_pass 13 = .ok (.getfield 19, 3) := by decide +kernel
theorem dX9_pass_16 : decode cX9_pass 16 = .ok (.bipush 28, 2) := by decide +kernel
theorem dX9_pass_18 : decode cX9_pass 18 = .ok (.iaload, 1) := by decide +kernel
theorem dX9_pass_19 : decode cX9_pass 19 = .ok (.iload_n 1, 1) := by decide +kernel
theorem dX9_pass_20 : decode cX9_pass 20 = .ok (.iadd, 1) := by decide +kernel
theorem dX9_pass_21 : decode cX9_pass 21 = .ok (.sipush 999, 3) := by decide +kernel
theorem dX9_pass_24 : decode cX9_pass 24 = .ok (.if_icmp .le 6, 3) := by decide +kernel
theorem dX9_pass_27 : decode cX9_pass 27 = .ok (.bipush (-2), 2) := by decide +kernel
theorem dX9_pass_29 : decode cX9_pass 29 = .ok (.ireturn, 1) := by decide +kernel
theorem dX9_pass_30 : decode cX9_pass 30 = .ok (.aload_n 0, 1) := by decide +kernel
theorem dX9_pass_31 : decode cX9_pass 31 = .ok (.invokevirtual 115, 3) := by decide +kernel
theorem dX9_pass_34 : decode cX9_pass 34 = .ok (.iconst 0, 1) := by decide +kernel
theorem dX9_pass_35 : decode cX9_pass 35 = .ok (.istore_n 2, 1) := by decide +kernel
theorem dX9_pass_36 : decode cX9_pass 36 = .ok (.iconst 0, 1) := by decide +kernel
theorem dX9_pass_37 : decode cX9_pass 37 = .ok (.istore_n 3, 1) := by decide +kernel
theorem dX9_pass_38 : decode cX9_pass 38 = .ok (.iload_n 3, 1) := by decide +kernel
theorem dX9_pass_39 : decode cX9_pass 39 = .ok (.iload_n 1, 1) := by decide +kernel
theorem dX9_pass_40 : decode cX9_pass 40 = .ok (.if_icmp .ge 16, 3) := by decide +kernel
theorem dX9_pass_43 : decode cX9_pass 43 = .ok (.iload_n 2, 1) := by decide +kernel
theorem dX9_pass_44 : decode cX9_pass 44 = .ok (.aload_n 0, 1) := by decide +kernel
theorem dX9_pass_45 : decode cX9_pass 45 = .ok (.invokevirtual 137, 3) := by decide +kernel
theorem dX9_pass_48 : decode cX9_pass 48 = .ok (.iadd, 1) := by decide +kernel
theorem dX9_pass_49 : decode cX9_pass 49 = .ok (.istore_n 2, 1) := by decide +kernel
theorem dX9_pass_50 : decode cX9_pass 50 = .ok (.iinc 3 1, 3) := by decide +kernel
theorem dX9_pass_53 : decode cX9_pass 53 = .ok (.goto (-15), 3) := by decide +kernel
theorem dX9_pass_56 : decode cX9_pass 56 = .ok (.iload_n 2, 1) := by decide +kernel
theorem dX9_pass_57 : decode cX9_pass 57 = .ok (.ireturn, 1) := by decide +kernel
theorem dX9_undo_0 : decode cX9_undo 0 = .ok (.aload_n 0, 1) := by decide +kernel
theorem dX9_undo_1 : decode cX9_undo 1 = .ok (.getfield 87, 3) := by decide +kernel
theorem dX9_undo_4 : decode cX9_undo 4 = .ok (.ifCond .ne 6, 3) := by decide +kernel
theorem dX9_undo_7 : decode cX9_undo 7 = .ok (.bipush (-2), 2) := by decide +kernel
theorem dX9_undo_9 : decode cX9_undo 9 = .ok (.ireturn, 1) := by decide +kernel
theorem dX9_undo_10 : decode cX9_undo 10 = .ok (.aload_n 0, 1) := by decide +kernel
theorem dX9_undo_11 : decode cX9_undo 11 = .ok (.dup, 1) := by decide +kernel
theorem dX9_undo_12 : decode cX9_undo 12 = .ok (.getfield 87, 3) := by decide +kernel
theorem dX9_undo_15 : decode cX9_undo 15 = .ok (.iconst 1, 1) := by decide +kernel
theorem dX9_undo_16 : decode cX9_undo 16 = .ok (.isub, 1) := by decide +kernel
theorem dX9_undo_17 : decode cX9_undo 17 = .ok (.putfield 87, 3) := by decide +kernel
theorem dX9_undo_20 : decode cX9_undo 20 = .ok (.iconst 0, 1) := by decide +kernel
theorem dX9_undo_21 : decode cX9_undo 21 = .ok (.istore_n 1, 1) := by decide +kernel
theorem dX9_undo_22 : decode cX9_undo 22 = .ok (.iload_n 1, 1) := by decide +kernel
theorem dX9_undo_23 : decode cX9_undo 23 = .ok (.bipush 29, 2) := by decide +kernel
theorem dX9_undo_25 : decode cX9_undo 25 = .ok (.if_icmp .ge 29, 3) := by decide +kernel
theorem dX9_undo_28 : decode cX9_undo 28 = .ok (.aload_n 0, 1) := by decide +kernel
theorem dX9_undo_29 : decode cX9_undo 29 = .ok (.getfield 19, 3) := by decide +kernel
theorem dX9_undo_32 : decode cX9_undo 32 = .ok (.iload_n 1, 1) := by decide +kernel
theorem dX9_undo_33 : decode cX9_undo 33 = .ok (.aload_n 0, 1) := by decide +kernel
theorem dX9_undo_34 : decode cX9_undo 34 = .ok (.getfield 22, 3) := by decide +kernel
theorem dX9_undo_37 : decode cX9_undo 37 = .ok (.bipush 29, 2) := by decide +kernel
theorem dX9_undo_39 : decode cX9_undo 39 = .ok (.aload_n 0, 1) := by decide +kernel
theorem dX9_undo_40 : decode cX9_undo 40 = .ok (.getfield 87, 3) := by decide +kernel
theorem dX9_undo_43 : decode cX9_undo 43 = .ok (.imul, 1) := by decide +kernel
theorem dX9_undo_44 : decode cX9_undo 44 = .ok (.iload_n 1, 1) := by decide +kernel
theorem dX9_undo_45 : decode cX9_undo 45 = .ok (.iadd, 1) := by decide +kernel
theorem dX9_undo_46 : decode cX9_undo 46 = .ok (.iaload, 1) := by decide +kernel
theorem dX9_undo_47 : decode cX9_undo 47 = .ok (.iastore, 1) := by decide +kernel
theorem dX9_undo_48 : decode cX9_undo 48 = .ok (.iinc 1 1, 3) := by decide +kernel
theorem dX9_undo_51 : decode cX9_undo 51 = .ok (.goto (-29), 3) := by decide +kernel
theorem dX9_undo_54 : decode cX9_undo 54 = .ok (.aload_n 0, 1) := by decide +kernel
theorem dX9_undo_55 : decode cX9_undo 55 = .ok (.getfield 87, 3) := by decide +kernel
theorem dX9_undo_58 : decode cX9_undo 58 = .ok (.ireturn, 1) := by decide +kernel
theorem dX9_holds_0 : decode cX9_holds 0 = .ok (.iconst 0, 1) := by decide +kernel
theorem dX9_holds_1 : decode cX9_holds 1 = .ok (.istore_n 1, 1) := by decide +kernel
theorem dX9_holds_2 : decode cX9_holds 2 = .ok (.iload_n 1, 1) := by decide +kernel
theorem dX9_holds_3 : decode cX9_holds 3 = .ok (.bipush 29, 2) := by decide +kernel
theorem dX9_holds_5 : decode cX9_holds 5 = .ok (.if_icmp .ge 21, 3) := by decide +kernel
theorem dX9_holds_8 : decode cX9_holds 8 = .ok (.aload_n 0, 1) := by decide +kernel
theorem dX9_holds_9 : decode cX9_holds 9 = .ok (.getfield 31, 3) := by decide +kernel
theorem dX9_holds_12 : decode cX9_holds 12 = .ok (.iload_n 1, 1) := by decide +kernel
theorem dX9_holds_13 : decode cX9_holds 13 = .ok (.aload_n 0, 1) := by decide +kernel
theorem dX9_holds_14 : decode cX9_holds 14 = .ok (.getfield 19, 3) := by decide +kernel
theorem dX9_holds_17 : decode cX9_holds 17 = .ok (.iload_n 1, 1) := by decide +kernel
theorem dX9_holds_18 : decode cX9_holds 18 = .ok (.iaload, 1) := by decide +kernel
theorem dX9_holds_19 : decode cX9_holds 19 = .ok (.iastore, 1) := by decide +kernel
theorem dX9_holds_20 : decode cX9_holds 20 = .ok (.iinc 1 1, 3) := by decide +kernel
theorem dX9_holds_23 : decode cX9_holds 23 = .ok (.goto (-21), 3) := by decide +kernel
theorem dX9_holds_26 : decode cX9_holds 26 = .ok (.return_, 1) := by decide +kernel
theorem dX9_lets_0 : decode cX9_lets 0 = .ok (.iconst 0, 1) := by decide +kernel
theorem dX9_lets_1 : decode cX9_lets 1 = .ok (.istore_n 1, 1) := by decide +kernel
theorem dX9_lets_2 : decode cX9_lets 2 = .ok (.iload_n 1, 1) := by decide +kernel
theorem dX9_lets_3 : decode cX9_lets 3 = .ok (.bipush 29, 2) := by decide +kernel
theorem dX9_lets_5 : decode cX9_lets 5 = .ok (.if_icmp .ge 21, 3) := by decide +kernel
theorem dX9_lets_8 : decode cX9_lets 8 = .ok (.aload_n 0, 1) := by decide +kernel
theorem dX9_lets_9 : decode cX9_lets 9 = .ok (.getfield 19, 3) := by decide +kernel
theorem dX9_lets_12 : decode cX9_lets 12 = .ok (.iload_n 1, 1) := by decide +kernel
theorem dX9_lets_13 : decode cX9_lets 13 = .ok (.aload_n 0, 1) := by decide +kernel
theorem dX9_lets_14 : decode cX9_lets 14 = .ok (.getfield 31, 3) := by decide +kernel
theorem dX9_lets_17 : decode cX9_lets 17 = .ok (.iload_n 1, 1) := by decide +kernel
theorem dX9_lets_18 : decode cX9_lets 18 = .ok (.iaload, 1) := by decide +kernel
theorem dX9_lets_19 : decode cX9_lets 19 = .ok (.iastore, 1) := by decide +kernel
theorem dX9_lets_20 : decode cX9_lets 20 = .ok (.iinc 1 1, 3) := by decide +kernel
theorem dX9_lets_23 : decode cX9_lets 23 = .ok (.goto (-21), 3) := by decide +kernel
theorem dX9_lets_26 : decode cX9_lets 26 = .ok (.return_, 1) := by decide +kernel
theorem dX9_lowestFree_0 : decode cX9_lowestFree 0 = .ok (.bipush (-4), 2) := by decide +kernel
theorem dX9_lowestFree_2 : decode cX9_lowestFree 2 = .ok (.istore_n 1, 1) := by decide +kernel
theorem dX9_lowestFree_3 : decode cX9_lowestFree 3 = .ok (.aload_n 0, 1) := by decide +kernel
theorem dX9_lowestFree_4 : decode cX9_lowestFree 4 = .ok (.getfield 13, 3) := by decide +kernel
theorem dX9_lowestFree_7 : decode cX9_lowestFree 7 = .ok (.iconst 1, 1) := by decide +kernel
theorem dX9_lowestFree_8 : decode cX9_lowestFree 8 = .ok (.iaload, 1) := by decide +kernel
theorem dX9_lowestFree_9 : decode cX9_lowestFree 9 = .ok (.iconst 1, 1) := by decide +kernel
theorem dX9_lowestFree_10 : decode cX9_lowestFree 10 = .ok (.isub, 1) := by decide +kernel
theorem dX9_lowestFree_11 : decode cX9_lowestFree 11 = .ok (.istore_n 2, 1) := by decide +kernel
theorem dX9_lowestFree_12 : decode cX9_lowestFree 12 = .ok (.iload_n 2, 1) := by decide +kernel
theorem dX9_lowestFree_13 : decode cX9_lowestFree 13 = .ok (.ifCond .lt 27, 3) := by decide +kernel
theorem dX9_lowestFree_16 : decode cX9_lowestFree 16 = .ok (.aload_n 0, 1) := by decide +kernel
theorem dX9_lowestFree_17 : decode cX9_lowestFree 17 = .ok (.getfield 19, 3) := by decide +kernel
theorem dX9_lowestFree_20 : decode cX9_lowestFree 20 = .ok (.bipush 18, 2) := by decide +kernel
theorem dX9_lowestFree_22 : decode cX9_lowestFree 22 = .ok (.iload_n 2, 1) := by decide +kernel
theorem dX9_lowestFree_23 : decode cX9_lowestFree 23 = .ok (.iadd, 1) := by decide +kernel
theorem dX9_lowestFree_24 : decode cX9_lowestFree 24 = .ok (.iaload, 1) := by decide +kernel
theorem dX9_lowestFree_25 : decode cX9_lowestFree 25 = .ok (.ifCond .ne 7, 3) := by decide +kernel
theorem dX9_lowestFree_28 : decode cX9_lowestFree 28 = .ok (.iload_n 2, 1) := by decide +kernel
theorem dX9_lowestFree_29 : decode cX9_lowestFree 29 = .ok (.goto 4, 3) := by decide +kernel
theorem dX9_lowestFree_32 : decode cX9_lowestFree 32 = .ok (.iload_n 1, 1) := by decide +kernel
theorem dX9_lowestFree_33 : decode cX9_lowestFree 33 = .ok (.istore_n 1, 1) := by decide +kernel
theorem dX9_lowestFree_34 : decode cX9_lowestFree 34 = .ok (.iinc 2 (-1), 3) := by decide +kernel
theorem dX9_lowestFree_37 : decode cX9_lowestFree 37 = .ok (.goto (-25), 3) := by decide +kernel
theorem dX9_lowestFree_40 : decode cX9_lowestFree 40 = .ok (.iload_n 1, 1) := by decide +kernel
theorem dX9_lowestFree_41 : decode cX9_lowestFree 41 = .ok (.ireturn, 1) := by decide +kernel
theorem dX9_highestFree_0 : decode cX9_highestFree 0 = .ok (.bipush (-4), 2) := by decide +kernel
theorem dX9_highestFree_2 : decode cX9_highestFree 2 = .ok (.istore_n 1, 1) := by decide +kernel
theorem dX9_highestFree_3 : decode cX9_highestFree 3 = .ok (.iconst 0, 1) := by decide +kernel
theorem dX9_highestFree_4 : decode cX9_highestFree 4 = .ok (.istore_n 2, 1) := by decide +kernel
theorem dX9_highestFree_5 : decode cX9_highestFree 5 = .ok (.iload_n 2, 1) := by decide +kernel
theorem dX9_highestFree_6 : decode cX9_highestFree 6 = .ok (.aload_n 0, 1) := by decide +kernel
theorem dX9_highestFree_7 : decode cX9_highestFree 7 = .ok (.getfield 13, 3) := by decide +kernel
theorem dX9_highestFree_10 : decode cX9_highestFree 10 = .ok (.iconst 1, 1) := by decide +kernel
theorem dX9_highestFree_11 : decode cX9_highestFree 11 = .ok (.iaload, 1) := by decide +kernel
theorem dX9_highestFree_12 : decode cX9_highestFree 12 = .ok (.if_icmp .ge 27, 3) := by decide +kernel
theorem dX9_highestFree_15 : decode cX9_highestFree 15 = .ok (.aload_n 0, 1) := by decide +kernel
theorem dX9_highestFree_16 : decode cX9_highestFree 16 = .ok (.getfield 19, 3) := by decide +kernel
theorem dX9_highestFree_19 : decode cX9_highestFree 19 = .ok (.bipush 18, 2) := by decide +kernel
theorem dX9_highestFree_21 : decode cX9_highestFree 21 = .ok (.iload_n 2, 1) := by decide +kernel
theorem dX9_highestFree_22 : decode cX9_highestFree 22 = .ok (.iadd, 1) := by decide +kernel
theorem dX9_highestFree_23 : decode cX9_highestFree 23 = .ok (.iaload, 1) := by decide +kernel
theorem dX9_highestFree_24 : decode cX9_highestFree 24 = .ok (.ifCond .ne 7, 3) := by decide +kernel
theorem dX9_highestFree_27 : decode cX9_highestFree 27 = .ok (.iload_n 2, 1) := by decide +kernel
theorem dX9_highestFree_28 : decode cX9_highestFree 28 = .ok (.goto 4, 3) := by decide +kernel
theorem dX9_highestFree_31 : decode cX9_highestFree 31 = .ok (.iload_n 1, 1) := by decide +kernel
theorem dX9_highestFree_32 : decode cX9_highestFree 32 = .ok (.istore_n 1, 1) := by decide +kernel
theorem dX9_highestFree_33 : decode cX9_highestFree 33 = .ok (.iinc 2 1, 3) := by decide +kernel
theorem dX9_highestFree_36 : decode cX9_highestFree 36 = .ok (.goto (-31), 3) := by decide +kernel
theorem dX9_highestFree_39 : decode cX9_highestFree 39 = .ok (.iload_n 1, 1) := by decide +kernel
theorem dX9_highestFree_40 : decode cX9_highestFree 40 = .ok (.ireturn, 1) := by decide +kernel
theorem dX9_mayOpen_0 : decode cX9_mayOpen 0 = .ok (.aload_n 0, 1) := by decide +kernel
theorem dX9_mayOpen_1 : decode cX9_mayOpen 1 = .ok (.iconst 2, 1) := by decide +kernel
theorem dX9_mayOpen_2 : decode cX9_mayOpen 2 = .ok (.invokevirtual 131, 3) := by decide +kernel
theorem dX9_mayOpen_5 : decode cX9_mayOpen 5 = .ok (.istore_n 1, 1) := by decide +kernel
theorem dX9_mayOpen_6 : decode cX9_mayOpen 6 = .ok (.iload_n 1, 1) := by decide +kernel
theorem dX9_mayOpen_7 : decode cX9_mayOpen 7 = .ok (.aload_n 0, 1) := by decide +kernel
theorem dX9_mayOpen_8 : decode cX9_mayOpen 8 = .ok (.getfield 13, 3) := by decide +kernel
theorem dX9_mayOpen_11 : decode cX9_mayOpen 11 = .ok (.iconst 3, 1) := by decide +kernel
theorem dX9_mayOpen_12 : decode cX9_mayOpen 12 = .ok (.iaload, 1) := by decide +kernel
theorem dX9_mayOpen_13 : decode cX9_mayOpen 13 = .ok (.if_icmp .lt 15, 3) := by decide +kernel
theorem dX9_mayOpen_16 : decode cX9_mayOpen 16 = .ok (.aload_n 0, 1) := by decide +kernel
theorem dX9_mayOpen_17 : decode cX9_mayOpen 17 = .ok (.invokevirtual 128, 3) := by decide +kernel
theorem dX9_mayOpen_20 : decode cX9_mayOpen 20 = .ok (.iconst 1, 1) := by decide +kernel
theorem dX9_mayOpen_21 : decode cX9_mayOpen 21 = .ok (.if_icmp .le 7, 3) := by decide +kernel
theorem dX9_mayOpen_24 : decode cX9_mayOpen 24 = .ok (.iconst 1, 1) := by decide +kernel
theorem dX9_mayOpen_25 : decode cX9_mayOpen 25 = .ok (.goto 4, 3) := by decide +kernel
theorem dX9_mayOpen_28 : decode cX9_mayOpen 28 = .ok (.iconst 0, 1) := by decide +kernel
theorem dX9_mayOpen_29 : decode cX9_mayOpen 29 = .ok (.istore_n 2, 1) := by decide +kernel
theorem dX9_mayOpen_30 : decode cX9_mayOpen 30 = .ok (.iload_n 1, 1) := by decide +kernel
theorem dX9_mayOpen_31 : decode cX9_mayOpen 31 = .ok (.ifCond .le 23, 3) := by decide +kernel
theorem dX9_mayOpen_34 : decode cX9_mayOpen 34 = .ok (.iload_n 1, 1) := by decide +kernel
theorem dX9_mayOpen_35 : decode cX9_mayOpen 35 = .ok (.aload_n 0, 1) := by decide +kernel
theorem dX9_mayOpen_36 : decode cX9_mayOpen 36 = .ok (.iconst 3, 1) := by decide +kernel
theorem dX9_mayOpen_37 : decode cX9_mayOpen 37 = .ok (.invokevirtual 131, 3) := by decide +kernel
theorem dX9_mayOpen_40 : decode cX9_mayOpen 40 = .ok (.iadd, 1) := by decide +kernel
theorem dX9_mayOpen_41 : decode cX9_mayOpen 41 = .ok (.aload_n 0, 1) := by decide +kernel
theorem dX9_mayOpen_42 : decode cX9_mayOpen 42 = .ok (.getfield 13, 3) := by decide +kernel
theorem dX9_mayOpen_45 : decode cX9_mayOpen 45 = .ok (.iconst 0, 1) := by decide +kernel
theorem dX9_mayOpen_46 : decode cX9_mayOpen 46 = .ok (.iaload, 1) := by decide +kernel
theorem dX9_mayOpen_47 : decode cX9_mayOpen 47 = .ok (.if_icmp .ne 7, 3) := by decide +kernel
theorem dX9_mayOpen_50 : decode cX9_mayOpen 50 = .ok (.iconst 1, 1) := by decide +kernel
theorem dX9_mayOpen_51 : decode cX9_mayOpen 51 = .ok (.goto 4, 3) := by decide +kernel
theorem dX9_mayOpen_54 : decode cX9_mayOpen 54 = .ok (.iconst 0, 1) := by decide +kernel
theorem dX9_mayOpen_55 : decode cX9_mayOpen 55 = .ok (.istore_n 3, 1) := by decide +kernel
theorem dX9_mayOpen_56 : decode cX9_mayOpen 56 = .ok (.aload_n 0, 1) := by decide +kernel
theorem dX9_mayOpen_57 : decode cX9_mayOpen 57 = .ok (.invokevirtual 140, 3) := by decide +kernel
theorem dX9_mayOpen_60 : decode cX9_mayOpen 60 = .ok (.bipush (-4), 2) := by decide +kernel
theorem dX9_mayOpen_62 : decode cX9_mayOpen 62 = .ok (.if_icmp .eq 15, 3) := by decide +kernel
theorem dX9_mayOpen_65 : decode cX9_mayOpen 65 = .ok (.iload_n 2, 1) := by decide +kernel
theorem dX9_mayOpen_66 : decode cX9_mayOpen 66 = .ok (.ifCond .ne 7, 3) := by decide +kernel
theorem dX9_mayOpen_69 : decode cX9_mayOpen 69 = .ok (.iload_n 3, 1) := by decide +kernel
theorem dX9_mayOpen_70 : decode cX9_mayOpen 70 = .ok (.ifCond .eq 7, 3) := by decide +kernel
theorem dX9_mayOpen_73 : decode cX9_mayOpen 73 = .ok (.iconst 1, 1) := by decide +kernel
theorem dX9_mayOpen_74 : decode cX9_mayOpen 74 = .ok (.goto 4, 3) := by decide +kernel
theorem dX9_mayOpen_77 : decode cX9_mayOpen 77 = .ok (.iconst 0, 1) := by decide +kernel
theorem dX9_mayOpen_78 : decode cX9_mayOpen 78 = .ok (.ireturn, 1) := by decide +kernel
theorem dX9_takesRow_0 : decode cX9_takesRow 0 = .ok (.iconst 0, 1) := by decide +kernel
theorem dX9_takesRow_1 : decode cX9_takesRow 1 = .ok (.istore_n 1, 1) := by decide +kernel
theorem dX9_takesRow_2 : decode cX9_takesRow 2 = .ok (.iload_n 1, 1) := by decide +kernel
theorem dX9_takesRow_3 : decode cX9_takesRow 3 = .ok (.aload_n 0, 1) := by decide +kernel
theorem dX9_takesRow_4 : decode cX9_takesRow 4 = .ok (.getfield 13, 3) := by decide +kernel
theorem dX9_takesRow_7 : decode cX9_takesRow 7 = .ok (.iconst 1, 1) := by decide +kernel
theorem dX9_takesRow_8 : decode cX9_takesRow 8 = .ok (.iaload, 1) := by decide +kernel
theorem dX9_takesRow_9 : decode cX9_takesRow 9 = .ok (.if_icmp .ge 80, 3) := by decide +kernel
theorem dX9_takesRow_12 : decode cX9_takesRow 12 = .ok (.bipush (-4), 2) := by decide +kernel
theorem dX9_takesRow_14 : decode cX9_takesRow 14 = .ok (.istore_n 2, 1) := by decide +kernel
theorem dX9_takesRow_15 : decode cX9_takesRow 15 = .ok (.aload_n 0, 1) := by decide +kernel
theorem dX9_takesRow_16 : decode cX9_takesRow 16 = .ok (.getfield 13, 3) := by decide +kernel
theorem dX9_takesRow_19 : decode cX9_takesRow 19 = .ok (.iconst 0, 1) := by decide +kernel
theorem dX9_takesRow_20 : decode cX9_takesRow 20 = .ok (.iaload, 1) := by decide +kernel
theorem dX9_takesRow_21 : decode cX9_takesRow 21 = .ok (.iconst 1, 1) := by decide +kernel
theorem dX9_takesRow_22 : decode cX9_takesRow 22 = .ok (.isub, 1) := by decide +kernel
theorem dX9_takesRow_23 : decode cX9_takesRow 23 = .ok (.istore_n 3, 1) := by decide +kernel
theorem dX9_takesRow_24 : decode cX9_takesRow 24 = .ok (.iload_n 3, 1) := by decide +kernel
theorem dX9_takesRow_25 : decode cX9_takesRow 25 = .ok (.ifCond .lt 34, 3) := by decide +kernel
theorem dX9_takesRow_28 : decode cX9_takesRow 28 = .ok (.aload_n 0, 1) := by decide +kernel
theorem dX9_takesRow_29 : decode cX9_takesRow 29 = .ok (.getfield 19, 3) := by decide +kernel
theorem dX9_takesRow_32 : decode cX9_takesRow 32 = .ok (.aload_n 0, 1) := by decide +kernel
theorem dX9_takesRow_33 : decode cX9_takesRow 33 = .ok (.getfield 34, 3) := by decide +kernel
theorem dX9_takesRow_36 : decode cX9_takesRow 36 = .ok (.iload_n 3, 1) := by decide +kernel
theorem dX9_takesRow_37 : decode cX9_takesRow 37 = .ok (.iaload, 1) := by decide +kernel
theorem dX9_takesRow_38 : decode cX9_takesRow 38 = .ok (.iaload, 1) := by decide +kernel
theorem dX9_takesRow_39 : decode cX9_takesRow 39 = .ok (.ifCond .ne 12, 3) := by decide +kernel
theorem dX9_takesRow_42 : decode cX9_takesRow 42 = .ok (.aload_n 0, 1) := by decide +kernel
theorem dX9_takesRow_43 : decode cX9_takesRow 43 = .ok (.getfield 34, 3) := by decide +kernel
theorem dX9_takesRow_46 : decode cX9_takesRow 46 = .ok (.iload_n 3, 1) := by decide +kernel
theorem dX9_takesRow_47 : decode cX9_takesRow 47 = .ok (.iaload, 1) := by decide +kernel
theorem dX9_takesRow_48 : decode cX9_takesRow 48 = .ok (.goto 4, 3) := by decide +kernel
theorem dX9_takesRow_51 : decode cX9_takesRow 51 = .ok (.iload_n 2, 1) := by decide +kernel
theorem dX9_takesRow_52 : decode cX9_takesRow 52 = .ok (.istore_n 2, 1) := by decide +kernel
theorem dX9_takesRow_53 : decode cX9_takesRow 53 = .ok (.iinc 3 (-1), 3) := by decide +kernel
theorem dX9_takesRow_56 : decode cX9_takesRow 56 = .ok (.goto (-32), 3) := by decide +kernel
theorem dX9_takesRow_59 : decode cX9_takesRow 59 = .ok (.aload_n 0, 1) := by decide +kernel
theorem dX9_takesRow_60 : decode cX9_takesRow 60 = .ok (.getfield 19, 3) := by decide +kernel
theorem dX9_takesRow_63 : decode cX9_takesRow 63 = .ok (.bipush 18, 2) := by decide +kernel
theorem dX9_takesRow_65 : decode cX9_takesRow 65 = .ok (.iload_n 1, 1) := by decide +kernel
theorem dX9_takesRow_66 : decode cX9_takesRow 66 = .ok (.iadd, 1) := by decide +kernel
theorem dX9_takesRow_67 : decode cX9_takesRow 67 = .ok (.iaload, 1) := by decide +kernel
theorem dX9_takesRow_68 : decode cX9_takesRow 68 = .ok (.ifCond .ne 15, 3) := by decide +kernel
theorem dX9_takesRow_71 : decode cX9_takesRow 71 = .ok (.iload_n 2, 1) := by decide +kernel
theorem dX9_takesRow_72 : decode cX9_takesRow 72 = .ok (.bipush (-4), 2) := by decide +kernel
theorem dX9_takesRow_74 : decode cX9_takesRow 74 = .ok (.if_icmp .eq 9, 3) := by decide +kernel
theorem dX9_takesRow_77 : decode cX9_takesRow 77 = .ok (.aload_n 0, 1) := by decide +kernel
theorem dX9_takesRow_78 : decode cX9_takesRow 78 = .ok (.iload_n 1, 1) := by decide +kernel
theorem dX9_takesRow_79 : decode cX9_takesRow 79 = .ok (.iload_n 2, 1) := by decide +kernel
theorem dX9_takesRow_80 : decode cX9_takesRow 80 = .ok (.invokevirtual 118, 3) := by decide +kernel
theorem dX9_takesRow_83 : decode cX9_takesRow 83 = .ok (.iinc 1 1, 3) := by decide +kernel
theorem dX9_takesRow_86 : decode cX9_takesRow 86 = .ok (.goto (-84), 3) := by decide +kernel
theorem dX9_takesRow_89 : decode cX9_takesRow 89 = .ok (.return_, 1) := by decide +kernel
theorem dX9_goes_0 : decode cX9_goes 0 = .ok (.aload_n 0, 1) := by decide +kernel
theorem dX9_goes_1 : decode cX9_goes 1 = .ok (.getfield 19, 3) := by decide +kernel
theorem dX9_goes_4 : decode cX9_goes 4 = .ok (.bipush 28, 2) := by decide +kernel
theorem dX9_goes_6 : decode cX9_goes 6 = .ok (.iaload, 1) := by decide +kernel
theorem dX9_goes_7 : decode cX9_goes 7 = .ok (.istore_n 1, 1) := by decide +kernel
theorem dX9_goes_8 : decode cX9_goes 8 = .ok (.aload_n 0, 1) := by decide +kernel
theorem dX9_goes_9 : decode cX9_goes 9 = .ok (.iconst 0, 1) := by decide +kernel
theorem dX9_goes_10 : decode cX9_goes 10 = .ok (.putfield 143, 3) := by decide +kernel
theorem dX9_goes_13 : decode cX9_goes 13 = .ok (.aload_n 0, 1) := by decide +kernel
theorem dX9_goes_14 : decode cX9_goes 14 = .ok (.getfield 19, 3) := by decide +kernel
theorem dX9_goes_17 : decode cX9_goes 17 = .ok (.bipush 28, 2) := by decide +kernel
theorem dX9_goes_19 : decode cX9_goes 19 = .ok (.iaload, 1) := by decide +kernel
theorem dX9_goes_20 : decode cX9_goes 20 = .ok (.aload_n 0, 1) := by decide +kernel
theorem dX9_goes_21 : decode cX9_goes 21 = .ok (.getfield 13, 3) := by decide +kernel
theorem dX9_goes_24 : decode cX9_goes 24 = .ok (.iconst 4, 1) := by decide +kernel
theorem dX9_goes_25 : decode cX9_goes 25 = .ok (.iaload, 1) := by decide +kernel
theorem dX9_goes_26 : decode cX9_goes 26 = .ok (.if_icmp .gt 66, 3) := by decide +kernel
theorem dX9_goes_29 : decode cX9_goes 29 = .ok (.aload_n 0, 1) := by decide +kernel
theorem dX9_goes_30 : decode cX9_goes 30 = .ok (.invokevirtual 146, 3) := by decide +kernel
theorem dX9_goes_33 : decode cX9_goes 33 = .ok (.ifCond .eq 15, 3) := by decide +kernel
theorem dX9_goes_36 : decode cX9_goes 36 = .ok (.aload_n 0, 1) := by decide +kernel
theorem dX9_goes_37 : decode cX9_goes 37 = .ok (.aload_n 0, 1) := by decide +kernel
theorem dX9_goes_38 : decode cX9_goes 38 = .ok (.invokevirtual 140, 3) := by decide +kernel
theorem dX9_goes_41 : decode cX9_goes 41 = .ok (.invokevirtual 134, 3) := by decide +kernel
theorem dX9_goes_44 : decode cX9_goes 44 = .ok (.pop, 1) := by decide +kernel
theorem dX9_goes_45 : decode cX9_goes 45 = .ok (.goto (-16), 3) := by decide +kernel
theorem dX9_goes_48 : decode cX9_goes 48 = .ok (.aload_n 0, 1) := by decide +kernel
theorem dX9_goes_49 : decode cX9_goes 49 = .ok (.iconst 3, 1) := by decide +kernel
theorem dX9_goes_50 : decode cX9_goes 50 = .ok (.invokevirtual 131, 3) := by decide +kernel
theorem dX9_goes_53 : decode cX9_goes 53 = .ok (.aload_n 0, 1) := by decide +kernel
theorem dX9_goes_54 : decode cX9_goes 54 = .ok (.getfield 13, 3) := by decide +kernel
theorem dX9_goes_57 : decode cX9_goes 57 = .ok (.iconst 0, 1) := by decide +kernel
theorem dX9_goes_58 : decode cX9_goes 58 = .ok (.iaload, 1) := by decide +kernel
theorem dX9_goes_59 : decode cX9_goes 59 = .ok (.if_icmp .ne 13, 3) := by decide +kernel
theorem dX9_goes_62 : decode cX9_goes 62 = .ok (.aload_n 0, 1) := by decide +kernel
theorem dX9_goes_63 : decode cX9_goes 63 = .ok (.getfield 19, 3) := by decide +kernel
theorem dX9_goes_66 : decode cX9_goes 66 = .ok (.bipush 28, 2) := by decide +kernel
theorem dX9_goes_68 : decode cX9_goes 68 = .ok (.iaload, 1) := by decide +kernel
theorem dX9_goes_69 : decode cX9_goes 69 = .ok (.iload_n 1, 1) := by decide +kernel
theorem dX9_goes_70 : decode cX9_goes 70 = .ok (.isub, 1) := by decide +kernel
theorem dX9_goes_71 : decode cX9_goes 71 = .ok (.ireturn, 1) := by decide +kernel
theorem dX9_goes_72 : decode cX9_goes 72 = .ok (.aload_n 0, 1) := by decide +kernel
theorem dX9_goes_73 : decode cX9_goes 73 = .ok (.invokevirtual 149, 3) := by decide +kernel
theorem dX9_goes_76 : decode cX9_goes 76 = .ok (.aload_n 0, 1) := by decide +kernel
theorem dX9_goes_77 : decode cX9_goes 77 = .ok (.dup, 1) := by decide +kernel
theorem dX9_goes_78 : decode cX9_goes 78 = .ok (.getfield 143, 3) := by decide +kernel
theorem dX9_goes_81 : decode cX9_goes 81 = .ok (.aload_n 0, 1) := by decide +kernel
theorem dX9_goes_82 : decode cX9_goes 82 = .ok (.invokevirtual 137, 3) := by decide +kernel
theorem dX9_goes_85 : decode cX9_goes 85 = .ok (.iadd, 1) := by decide +kernel
theorem dX9_goes_86 : decode cX9_goes 86 = .ok (.putfield 143, 3) := by decide +kernel
theorem dX9_goes_89 : decode cX9_goes 89 = .ok (.goto (-76), 3) := by decide +kernel
theorem dX9_goes_92 : decode cX9_goes 92 = .ok (.bipush (-4), 2) := by decide +kernel
theorem dX9_goes_94 : decode cX9_goes 94 = .ok (.ireturn, 1) := by decide +kernel
theorem dX9_goesBut_0 : decode cX9_goesBut 0 = .ok (.iconst 0, 1) := by decide +kernel
theorem dX9_goesBut_1 : decode cX9_goesBut 1 = .ok (.istore_n 2, 1) := by decide +kernel
theorem dX9_goesBut_2 : decode cX9_goesBut 2 = .ok (.iconst 0, 1) := by decide +kernel
theorem dX9_goesBut_3 : decode cX9_goesBut 3 = .ok (.istore_n 3, 1) := by decide +kernel
theorem dX9_goesBut_4 : decode cX9_goesBut 4 = .ok (.iload_n 3, 1) := by decide +kernel
theorem dX9_goesBut_5 : decode cX9_goesBut 5 = .ok (.aload_n 0, 1) := by decide +kernel
theorem dX9_goesBut_6 : decode cX9_goesBut 6 = .ok (.getfield 13, 3) := by decide +kernel
theorem dX9_goesBut_9 : decode cX9_goesBut 9 = .ok (.iconst 0, 1) := by decide +kernel
theorem dX9_goesBut_10 : decode cX9_goesBut 10 = .ok (.iaload, 1) := by decide +kernel
theorem dX9_goesBut_11 : decode cX9_goesBut 11 = .ok (.if_icmp .ge 29, 3) := by decide +kernel
theorem dX9_goesBut_14 : decode cX9_goesBut 14 = .ok (.aload_n 0, 1) := by decide +kernel
theorem dX9_goesBut_15 : decode cX9_goesBut 15 = .ok (.getfield 34, 3) := by decide +kernel
theorem dX9_goesBut_18 : decode cX9_goesBut 18 = .ok (.iload_n 2, 1) := by decide +kernel
theorem dX9_goesBut_19 : decode cX9_goesBut 19 = .ok (.iload_n 3, 1) := by decide +kernel
theorem dX9_goesBut_20 : decode cX9_goesBut 20 = .ok (.iastore, 1) := by decide +kernel
theorem dX9_goesBut_21 : decode cX9_goesBut 21 = .ok (.iload_n 2, 1) := by decide +kernel
theorem dX9_goesBut_22 : decode cX9_goesBut 22 = .ok (.iload_n 3, 1) := by decide +kernel
theorem dX9_goesBut_23 : decode cX9_goesBut 23 = .ok (.iload_n 1, 1) := by decide +kernel
theorem dX9_goesBut_24 : decode cX9_goesBut 24 = .ok (.if_icmp .ne 7, 3) := by decide +kernel
theorem dX9_goesBut_27 : decode cX9_goesBut 27 = .ok (.iconst 0, 1) := by decide +kernel
theorem dX9_goesBut_28 : decode cX9_goesBut 28 = .ok (.goto 4, 3) := by decide +kernel
theorem dX9_goesBut_31 : decode cX9_goesBut 31 = .ok (.iconst 1, 1) := by decide +kernel
theorem dX9_goesBut_32 : decode cX9_goesBut 32 = .ok (.iadd, 1) := by decide +kernel
theorem dX9_goesBut_33 : decode cX9_goesBut 33 = .ok (.istore_n 2, 1) := by decide +kernel
theorem dX9_goesBut_34 : decode cX9_goesBut 34 = .ok (.iinc 3 1, 3) := by decide +kernel
theorem dX9_goesBut_37 : decode cX9_goesBut 37 = .ok (.goto (-33), 3) := by decide +kernel
theorem dX9_goesBut_40 : decode cX9_goesBut 40 = .ok (.iload_n 1, 1) := by decide +kernel
theorem dX9_goesBut_41 : decode cX9_goesBut 41 = .ok (.bipush (-4), 2) := by decide +kernel
theorem dX9_goesBut_43 : decode cX9_goesBut 43 = .ok (.if_icmp .eq 17, 3) := by decide +kernel
theorem dX9_goesBut_46 : decode cX9_goesBut 46 = .ok (.aload_n 0, 1) := by decide +kernel
theorem dX9_goesBut_47 : decode cX9_goesBut 47 = .ok (.getfield 34, 3) := by decide +kernel
theorem dX9_goesBut_50 : decode cX9_goesBut 50 = .ok (.aload_n 0, 1) := by decide +kernel
theorem dX9_goesBut_51 : decode cX9_goesBut 51 = .ok (.getfield 13, 3) := by decide +kernel
theorem dX9_goesBut_54 : decode cX9_goesBut 54 = .ok (.iconst 0, 1) := by decide +kernel
theorem dX9_goesBut_55 : decode cX9_goesBut 55 = .ok (.iaload, 1) := by decide +kernel
theorem dX9_goesBut_56 : decode cX9_goesBut 56 = .ok (.iconst 1, 1) := by decide +kernel
theorem dX9_goesBut_57 : decode cX9_goesBut 57 = .ok (.isub, 1) := by decide +kernel
theorem dX9_goesBut_58 : decode cX9_goesBut 58 = .ok (.iload_n 1, 1) := by decide +kernel
theorem dX9_goesBut_59 : decode cX9_goesBut 59 = .ok (.iastore, 1) := by decide +kernel
theorem dX9_goesBut_60 : decode cX9_goesBut 60 = .ok (.aload_n 0, 1) := by decide +kernel
theorem dX9_goesBut_61 : decode cX9_goesBut 61 = .ok (.invokevirtual 152, 3) := by decide +kernel
theorem dX9_goesBut_64 : decode cX9_goesBut 64 = .ok (.istore_n 3, 1) := by decide +kernel
theorem dX9_goesBut_65 : decode cX9_goesBut 65 = .ok (.aload_n 0, 1) := by decide +kernel
theorem dX9_goesBut_66 : decode cX9_goesBut 66 = .ok (.invokevirtual 155, 3) := by decide +kernel
theorem dX9_goesBut_69 : decode cX9_goesBut 69 = .ok (.iload_n 3, 1) := by decide +kernel
theorem dX9_goesBut_70 : decode cX9_goesBut 70 = .ok (.ireturn, 1) := by decide +kernel
theorem dX9_asTold_0 : decode cX9_asTold 0 = .ok (.iload_n 1, 1) := by decide +kernel
theorem dX9_asTold_1 : decode cX9_asTold 1 = .ok (.iconst 0, 1) := by decide +kernel
theorem dX9_asTold_2 : decode cX9_asTold 2 = .ok (.iconst 1, 1) := by decide +kernel
theorem dX9_asTold_3 : decode cX9_asTold 3 = .ok (.invokestatic 50, 3) := by decide +kernel
theorem dX9_asTold_6 : decode cX9_asTold 6 = .ok (.ifCond .ne 5, 3) := by decide +kernel
theorem dX9_asTold_9 : decode cX9_asTold 9 = .ok (.iconst (-1), 1) := by decide +kernel
theorem dX9_asTold_10 : decode cX9_asTold 10 = .ok (.ireturn, 1) := by decide +kernel
theorem dX9_asTold_11 : decode cX9_asTold 11 = .ok (.aload_n 0, 1) := by decide +kernel
theorem dX9_asTold_12 : decode cX9_asTold 12 = .ok (.invokevirtual 158, 3) := by decide +kernel
theorem dX9_asTold_15 : decode cX9_asTold 15 = .ok (.aload_n 0, 1) := by decide +kernel
theorem dX9_asTold_16 : decode cX9_asTold 16 = .ok (.bipush (-4), 2) := by decide +kernel
theorem dX9_asTold_18 : decode cX9_asTold 18 = .ok (.invokevirtual 161, 3) := by decide +kernel
theorem dX9_asTold_21 : decode cX9_asTold 21 = .ok (.istore_n 2, 1) := by decide +kernel
theorem dX9_asTold_22 : decode cX9_asTold 22 = .ok (.iload_n 1, 1) := by decide +kernel
theorem dX9_asTold_23 : decode cX9_asTold 23 = .ok (.ifCond .eq 9, 3) := by decide +kernel
theorem dX9_asTold_26 : decode cX9_asTold 26 = .ok (.iload_n 2, 1) := by decide +kernel
theorem dX9_asTold_27 : decode cX9_asTold 27 = .ok (.bipush (-4), 2) := by decide +kernel
theorem dX9_asTold_29 : decode cX9_asTold 29 = .ok (.if_icmp .ne 7, 3) := by decide +kernel
theorem dX9_asTold_32 : decode cX9_asTold 32 = .ok (.iload_n 2, 1) := by decide +kernel
theorem dX9_asTold_33 : decode cX9_asTold 33 = .ok (.goto 7, 3) := by decide +kernel
theorem dX9_asTold_36 : decode cX9_asTold 36 = .ok (.aload_n 0, 1) := by decide +kernel
theorem dX9_asTold_37 : decode cX9_asTold 37 = .ok (.getfield 143, 3) := by decide +kernel
theorem dX9_asTold_40 : decode cX9_asTold 40 = .ok (.ireturn, 1) := by decide +kernel
theorem dX9_isRow_0 : decode cX9_isRow 0 = .ok (.iconst 0, 1) := by decide +kernel
theorem dX9_isRow_1 : decode cX9_isRow 1 = .ok (.istore_n 2, 1) := by decide +kernel
theorem dX9_isRow_2 : decode cX9_isRow 2 = .ok (.iload_n 1, 1) := by decide +kernel
theorem dX9_isRow_3 : decode cX9_isRow 3 = .ok (.istore_n 3, 1) := by decide +kernel
theorem dX9_isRow_4 : decode cX9_isRow 4 = .ok (.aload_n 0, 1) := by decide +kernel
theorem dX9_isRow_5 : decode cX9_isRow 5 = .ok (.getfield 13, 3) := by decide +kernel
theorem dX9_isRow_8 : decode cX9_isRow 8 = .ok (.iconst 0, 1) := by decide +kernel
theorem dX9_isRow_9 : decode cX9_isRow 9 = .ok (.iaload, 1) := by decide +kernel
theorem dX9_isRow_10 : decode cX9_isRow 10 = .ok (.iconst 1, 1) := by decide +kernel
theorem dX9_isRow_11 : decode cX9_isRow 11 = .ok (.isub, 1) := by decide +kernel
theorem dX9_isRow_12 : decode cX9_isRow 12 = .ok (.istore 4, 2) := by decide +kernel
theorem dX9_isRow_14 : decode cX9_isRow 14 = .ok (.iload 4, 2) := by decide +kernel
theorem dX9_isRow_16 : decode cX9_isRow 16 = .ok (.ifCond .lt 45, 3) := by decide +kernel
theorem dX9_isRow_19 : decode cX9_isRow 19 = .ok (.aload_n 0, 1) := by decide +kernel
theorem dX9_isRow_20 : decode cX9_isRow 20 = .ok (.getfield 34, 3) := by decide +kernel
theorem dX9_isRow_23 : decode cX9_isRow 23 = .ok (.iload 4, 2) := by decide +kernel
theorem dX9_isRow_25 : decode cX9_isRow 25 = .ok (.iload_n 3, 1) := by decide +kernel
theorem dX9_isRow_26 : decode cX9_isRow 26 = .ok (.aload_n 0, 1) := by decide +kernel
theorem dX9_isRow_27 : decode cX9_isRow 27 = .ok (.getfield 13, 3) := by decide +kernel
theorem dX9_isRow_30 : decode cX9_isRow 30 = .ok (.iconst 0, 1) := by decide +kernel
theorem dX9_isRow_31 : decode cX9_isRow 31 = .ok (.iaload, 1) := by decide +kernel
theorem dX9_isRow_32 : decode cX9_isRow 32 = .ok (.irem, 1) := by decide +kernel
theorem dX9_isRow_33 : decode cX9_isRow 33 = .ok (.iastore, 1) := by decide +kernel
theorem dX9_isRow_34 : decode cX9_isRow 34 = .ok (.iload_n 3, 1) := by decide +kernel
theorem dX9_isRow_35 : decode cX9_isRow 35 = .ok (.aload_n 0, 1) := by decide +kernel
theorem dX9_isRow_36 : decode cX9_isRow 36 = .ok (.getfield 13, 3) := by decide +kernel
theorem dX9_isRow_39 : decode cX9_isRow 39 = .ok (.iconst 0, 1) := by decide +kernel
theorem dX9_isRow_40 : decode cX9_isRow 40 = .ok (.iaload, 1) := by decide +kernel
theorem dX9_isRow_41 : decode cX9_isRow 41 = .ok (.idiv, 1) := by decide +kernel
theorem dX9_isRow_42 : decode cX9_isRow 42 = .ok (.istore_n 3, 1) := by decide +kernel
theorem dX9_isRow_43 : decode cX9_isRow 43 = .ok (.iload_n 2, 1) := by decide +kernel
theorem dX9_isRow_44 : decode cX9_isRow 44 = .ok (.iconst 1, 1) := by decide +kernel
theorem dX9_isRow_45 : decode cX9_isRow 45 = .ok (.aload_n 0, 1) := by decide +kernel
theorem dX9_isRow_46 : decode cX9_isRow 46 = .ok (.getfield 34, 3) := by decide +kernel
theorem dX9_isRow_49 : decode cX9_isRow 49 = .ok (.iload 4, 2) := by decide +kernel
theorem dX9_isRow_51 : decode cX9_isRow 51 = .ok (.iaload, 1) := by decide +kernel
theorem dX9_isRow_52 : decode cX9_isRow 52 = .ok (.ishl, 1) := by decide +kernel
theorem dX9_isRow_53 : decode cX9_isRow 53 = .ok (.ior, 1) := by decide +kernel
theorem dX9_isRow_54 : decode cX9_isRow 54 = .ok (.istore_n 2, 1) := by decide +kernel
theorem dX9_isRow_55 : decode cX9_isRow 55 = .ok (.iinc 4 (-1), 3) := by decide +kernel
theorem dX9_isRow_58 : decode cX9_isRow 58 = .ok (.goto (-44), 3) := by decide +kernel
theorem dX9_isRow_61 : decode cX9_isRow 61 = .ok (.iload_n 2, 1) := by decide +kernel
theorem dX9_isRow_62 : decode cX9_isRow 62 = .ok (.iconst 1, 1) := by decide +kernel
theorem dX9_isRow_63 : decode cX9_isRow 63 = .ok (.aload_n 0, 1) := by decide +kernel
theorem dX9_isRow_64 : decode cX9_isRow 64 = .ok (.getfield 13, 3) := by decide +kernel
theorem dX9_isRow_67 : decode cX9_isRow 67 = .ok (.iconst 0, 1) := by decide +kernel
theorem dX9_isRow_68 : decode cX9_isRow 68 = .ok (.iaload, 1) := by decide +kernel
theorem dX9_isRow_69 : decode cX9_isRow 69 = .ok (.ishl, 1) := by decide +kernel
theorem dX9_isRow_70 : decode cX9_isRow 70 = .ok (.iconst 1, 1) := by decide +kernel
theorem dX9_isRow_71 : decode cX9_isRow 71 = .ok (.isub, 1) := by decide +kernel
theorem dX9_isRow_72 : decode cX9_isRow 72 = .ok (.if_icmp .ne 7, 3) := by decide +kernel
theorem dX9_isRow_75 : decode cX9_isRow 75 = .ok (.iconst 1, 1) := by decide +kernel
theorem dX9_isRow_76 : decode cX9_isRow 76 = .ok (.goto 4, 3) := by decide +kernel
theorem dX9_isRow_79 : decode cX9_isRow 79 = .ok (.iconst 0, 1) := by decide +kernel
theorem dX9_isRow_80 : decode cX9_isRow 80 = .ok (.ireturn, 1) := by decide +kernel
theorem dX9_best_0 : decode cX9_best 0 = .ok (.iload_n 1, 1) := by decide +kernel
theorem dX9_best_1 : decode cX9_best 1 = .ok (.bipush (-2), 2) := by decide +kernel
theorem dX9_best_3 : decode cX9_best 3 = .ok (.if_icmp .ge 5, 3) := by decide +kernel
theorem dX9_best_6 : decode cX9_best 6 = .ok (.iconst (-1), 1) := by decide +kernel
theorem dX9_best_7 : decode cX9_best 7 = .ok (.ireturn, 1) := by decide +kernel
theorem dX9_best_8 : decode cX9_best 8 = .ok (.aload_n 0, 1) := by decide +kernel
theorem dX9_best_9 : decode cX9_best 9 = .ok (.invokevirtual 158, 3) := by decide +kernel
theorem dX9_best_12 : decode cX9_best 12 = .ok (.iconst 1, 1) := by decide +kernel
theorem dX9_best_13 : decode cX9_best 13 = .ok (.istore_n 2, 1) := by decide +kernel
theorem dX9_best_14 : decode cX9_best 14 = .ok (.iconst 0, 1) := by decide +kernel
theorem dX9_best_15 : decode cX9_best 15 = .ok (.istore_n 3, 1) := by decide +kernel
theorem dX9_best_16 : decode cX9_best 16 = .ok (.iload_n 3, 1) := by decide +kernel
theorem dX9_best_17 : decode cX9_best 17 = .ok (.aload_n 0, 1) := by decide +kernel
theorem dX9_best_18 : decode cX9_best 18 = .ok (.getfield 13, 3) := by decide +kernel
theorem dX9_best_21 : decode cX9_best 21 = .ok (.iconst 0, 1) := by decide +kernel
theorem dX9_best_22 : decode cX9_best 22 = .ok (.iaload, 1) := by decide +kernel
theorem dX9_best_23 : decode cX9_best 23 = .ok (.if_icmp .ge 18, 3) := by decide +kernel
theorem dX9_best_26 : decode cX9_best 26 = .ok (.iload_n 2, 1) := by decide +kernel
theorem dX9_best_27 : decode cX9_best 27 = .ok (.aload_n 0, 1) := by decide +kernel
theorem dX9_best_28 : decode cX9_best 28 = .ok (.getfield 13, 3) := by decide +kernel
theorem dX9_best_31 : decode cX9_best 31 = .ok (.iconst 0, 1) := by decide +kernel
theorem dX9_best_32 : decode cX9_best 32 = .ok (.iaload, 1) := by decide +kernel
theorem dX9_best_33 : decode cX9_best 33 = .ok (.imul, 1) := by decide +kernel
theorem dX9_best_34 : decode cX9_best 34 = .ok (.istore_n 2, 1) := by decide +kernel
theorem dX9_best_35 : decode cX9_best 35 = .ok (.iinc 3 1, 3) := by decide +kernel
theorem dX9_best_38 : decode cX9_best 38 = .ok (.goto (-22), 3) := by decide +kernel
theorem dX9_best_41 : decode cX9_best 41 = .ok (.bipush (-4), 2) := by decide +kernel
theorem dX9_best_43 : decode cX9_best 43 = .ok (.istore_n 3, 1) := by decide +kernel
theorem dX9_best_44 : decode cX9_best 44 = .ok (.iconst 0, 1) := by decide +kernel
theorem dX9_best_45 : decode cX9_best 45 = .ok (.istore 4, 2) := by decide +kernel
theorem dX9_best_47 : decode cX9_best 47 = .ok (.bipush (-4), 2) := by decide +kernel
theorem dX9_best_49 : decode cX9_best 49 = .ok (.istore 5, 2) := by decide +kernel
theorem dX9_best_51 : decode cX9_best 51 = .ok (.iconst 0, 1) := by decide +kernel
theorem dX9_best_52 : decode cX9_best 52 = .ok (.istore 6, 2) := by decide +kernel
theorem dX9_best_54 : decode cX9_best 54 = .ok (.iload 6, 2) := by decide +kernel
theorem dX9_best_56 : decode cX9_best 56 = .ok (.iload_n 2, 1) := by decide +kernel
theorem dX9_best_57 : decode cX9_best 57 = .ok (.if_icmp .ge 98, 3) := by decide +kernel
theorem dX9_best_60 : decode cX9_best 60 = .ok (.aload_n 0, 1) := by decide +kernel
theorem dX9_best_61 : decode cX9_best 61 = .ok (.iload 6, 2) := by decide +kernel
theorem dX9_best_63 : decode cX9_best 63 = .ok (.invokevirtual 164, 3) := by decide +kernel
theorem dX9_best_66 : decode cX9_best 66 = .ok (.ifCond .eq 83, 3) := by decide +kernel
theorem dX9_best_69 : decode cX9_best 69 = .ok (.aload_n 0, 1) := by decide +kernel
theorem dX9_best_70 : decode cX9_best 70 = .ok (.invokevirtual 152, 3) := by decide +kernel
theorem dX9_best_73 : decode cX9_best 73 = .ok (.istore 7, 2) := by decide +kernel
theorem dX9_best_75 : decode cX9_best 75 = .ok (.aload_n 0, 1) := by decide +kernel
theorem dX9_best_76 : decode cX9_best 76 = .ok (.invokevirtual 155, 3) := by decide +kernel
theorem dX9_best_79 : decode cX9_best 79 = .ok (.iload 7, 2) := by decide +kernel
theorem dX9_best_81 : decode cX9_best 81 = .ok (.bipush (-4), 2) := by decide +kernel
theorem dX9_best_83 : decode cX9_best 83 = .ok (.if_icmp .eq 66, 3) := by decide +kernel
theorem dX9_best_86 : decode cX9_best 86 = .ok (.iload_n 3, 1) := by decide +kernel
theorem dX9_best_87 : decode cX9_best 87 = .ok (.bipush (-4), 2) := by decide +kernel
theorem dX9_best_89 : decode cX9_best 89 = .ok (.if_icmp .eq 24, 3) := by decide +kernel
theorem dX9_best_92 : decode cX9_best 92 = .ok (.iload 7, 2) := by decide +kernel
theorem dX9_best_94 : decode cX9_best 94 = .ok (.iload_n 3, 1) := by decide +kernel
theorem dX9_best_95 : decode cX9_best 95 = .ok (.if_icmp .lt 18, 3) := by decide +kernel
theorem dX9_best_98 : decode cX9_best 98 = .ok (.iload 7, 2) := by decide +kernel
theorem dX9_best_100 : decode cX9_best 100 = .ok (.iload_n 3, 1) := by decide +kernel
theorem dX9_best_101 : decode cX9_best 101 = .ok (.if_icmp .ne 48, 3) := by decide +kernel
theorem dX9_best_104 : decode cX9_best 104 = .ok (.aload_n 0, 1) := by decide +kernel
theorem dX9_best_105 : decode cX9_best 105 = .ok (.getfield 143, 3) := by decide +kernel
theorem dX9_best_108 : decode cX9_best 108 = .ok (.iload 4, 2) := by decide +kernel
theorem dX9_best_110 : decode cX9_best 110 = .ok (.if_icmp .ge 39, 3) := by decide +kernel
theorem dX9_best_113 : decode cX9_best 113 = .ok (.iload 7, 2) := by decide +kernel
theorem dX9_best_115 : decode cX9_best 115 = .ok (.istore_n 3, 1) := by decide +kernel
theorem dX9_best_116 : decode cX9_best 116 = .ok (.aload_n 0, 1) := by decide +kernel
theorem dX9_best_117 : decode cX9_best 117 = .ok (.getfield 143, 3) := by decide +kernel
theorem dX9_best_120 : decode cX9_best 120 = .ok (.istore 4, 2) := by decide +kernel
theorem dX9_best_122 : decode cX9_best 122 = .ok (.iload_n 1, 1) := by decide +kernel
theorem dX9_best_123 : decode cX9_best 123 = .ok (.ifCond .lt 22, 3) := by decide +kernel
theorem dX9_best_126 : decode cX9_best 126 = .ok (.iload_n 1, 1) := by decide +kernel
theorem dX9_best_127 : decode cX9_best 127 = .ok (.aload_n 0, 1) := by decide +kernel
theorem dX9_best_128 : decode cX9_best 128 = .ok (.getfield 13, 3) := by decide +kernel
theorem dX9_best_131 : decode cX9_best 131 = .ok (.iconst 0, 1) := by decide +kernel
theorem dX9_best_132 : decode cX9_best 132 = .ok (.iaload, 1) := by decide +kernel
theorem dX9_best_133 : decode cX9_best 133 = .ok (.if_icmp .ge 12, 3) := by decide +kernel
theorem dX9_best_136 : decode cX9_best 136 = .ok (.aload_n 0, 1) := by decide +kernel
theorem dX9_best_137 : decode cX9_best 137 = .ok (.getfield 34, 3) := by decide +kernel
theorem dX9_best_140 : decode cX9_best 140 = .ok (.iload_n 1, 1) := by decide +kernel
theorem dX9_best_141 : decode cX9_best 141 = .ok (.iaload, 1) := by decide +kernel
theorem dX9_best_142 : decode cX9_best 142 = .ok (.goto 5, 3) := by decide +kernel
theorem dX9_best_145 : decode cX9_best 145 = .ok (.bipush (-4), 2) := by decide +kernel
theorem dX9_best_147 : decode cX9_best 147 = .ok (.istore 5, 2) := by decide +kernel
theorem dX9_best_149 : decode cX9_best 149 = .ok (.iinc 6 1, 3) := by decide +kernel
theorem dX9_best_152 : decode cX9_best 152 = .ok (.goto (-98), 3) := by decide +kernel
theorem dX9_best_155 : decode cX9_best 155 = .ok (.iload_n 1, 1) := by decide +kernel
theorem dX9_best_156 : decode cX9_best 156 = .ok (.iconst (-1), 1) := by decide +kernel
theorem dX9_best_157 : decode cX9_best 157 = .ok (.if_icmp .ne 7, 3) := by decide +kernel
theorem dX9_best_160 : decode cX9_best 160 = .ok (.iload_n 3, 1) := by decide +kernel
theorem dX9_best_161 : decode cX9_best 161 = .ok (.goto 27, 3) := by decide +kernel
theorem dX9_best_164 : decode cX9_best 164 = .ok (.iload_n 1, 1) := by decide +kernel
theorem dX9_best_165 : decode cX9_best 165 = .ok (.bipush (-2), 2) := by decide +kernel
theorem dX9_best_167 : decode cX9_best 167 = .ok (.if_icmp .ne 19, 3) := by decide +kernel
theorem dX9_best_170 : decode cX9_best 170 = .ok (.iload_n 3, 1) := by decide +kernel
theorem dX9_best_171 : decode cX9_best 171 = .ok (.bipush (-4), 2) := by decide +kernel
theorem dX9_best_173 : decode cX9_best 173 = .ok (.if_icmp .ne 8, 3) := by decide +kernel
theorem dX9_best_176 : decode cX9_best 176 = .ok (.bipush (-4), 2) := by decide +kernel
theorem dX9_best_178 : decode cX9_best 178 = .ok (.goto 10, 3) := by decide +kernel
theorem dX9_best_181 : decode cX9_best 181 = .ok (.iload 4, 2) := by decide +kernel
theorem dX9_best_183 : decode cX9_best 183 = .ok (.goto 5, 3) := by decide +kernel
theorem dX9_best_186 : decode cX9_best 186 = .ok (.iload 5, 2) := by decide +kernel
theorem dX9_best_188 : decode cX9_best 188 = .ok (.ireturn, 1) := by decide +kernel
theorem dX9_last_0 : decode cX9_last 0 = .ok (.aload_n 0, 1) := by decide +kernel
theorem dX9_last_1 : decode cX9_last 1 = .ok (.invokevirtual 158, 3) := by decide +kernel
theorem dX9_last_4 : decode cX9_last 4 = .ok (.iconst 0, 1) := by decide +kernel
theorem dX9_last_5 : decode cX9_last 5 = .ok (.istore_n 1, 1) := by decide +kernel
theorem dX9_last_6 : decode cX9_last 6 = .ok (.iconst 0, 1) := by decide +kernel
theorem dX9_last_7 : decode cX9_last 7 = .ok (.istore_n 2, 1) := by decide +kernel
theorem dX9_last_8 : decode cX9_last 8 = .ok (.iload_n 2, 1) := by decide +kernel
theorem dX9_last_9 : decode cX9_last 9 = .ok (.aload_n 0, 1) := by decide +kernel
theorem dX9_last_10 : decode cX9_last 10 = .ok (.getfield 13, 3) := by decide +kernel
theorem dX9_last_13 : decode cX9_last 13 = .ok (.iconst 0, 1) := by decide +kernel
theorem dX9_last_14 : decode cX9_last 14 = .ok (.iaload, 1) := by decide +kernel
theorem dX9_last_15 : decode cX9_last 15 = .ok (.if_icmp .ge 36, 3) := by decide +kernel
theorem dX9_last_18 : decode cX9_last 18 = .ok (.iload_n 1, 1) := by decide +kernel
theorem dX9_last_19 : decode cX9_last 19 = .ok (.aload_n 0, 1) := by decide +kernel
theorem dX9_last_20 : decode cX9_last 20 = .ok (.iload_n 2, 1) := by decide +kernel
theorem dX9_last_21 : decode cX9_last 21 = .ok (.invokevirtual 161, 3) := by decide +kernel
theorem dX9_last_24 : decode cX9_last 24 = .ok (.bipush (-4), 2) := by decide +kernel
theorem dX9_last_26 : decode cX9_last 26 = .ok (.if_icmp .eq 16, 3) := by decide +kernel
theorem dX9_last_29 : decode cX9_last 29 = .ok (.aload_n 0, 1) := by decide +kernel
theorem dX9_last_30 : decode cX9_last 30 = .ok (.getfield 143, 3) := by decide +kernel
theorem dX9_last_33 : decode cX9_last 33 = .ok (.ifCond .ne 9, 3) := by decide +kernel
theorem dX9_last_36 : decode cX9_last 36 = .ok (.iconst 1, 1) := by decide +kernel
theorem dX9_last_37 : decode cX9_last 37 = .ok (.iload_n 2, 1) := by decide +kernel
theorem dX9_last_38 : decode cX9_last 38 = .ok (.ishl, 1) := by decide +kernel
theorem dX9_last_39 : decode cX9_last 39 = .ok (.goto 4, 3) := by decide +kernel
theorem dX9_last_42 : decode cX9_last 42 = .ok (.iconst 0, 1) := by decide +kernel
theorem dX9_last_43 : decode cX9_last 43 = .ok (.ior, 1) := by decide +kernel
theorem dX9_last_44 : decode cX9_last 44 = .ok (.istore_n 1, 1) := by decide +kernel
theorem dX9_last_45 : decode cX9_last 45 = .ok (.iinc 2 1, 3) := by decide +kernel
theorem dX9_last_48 : decode cX9_last 48 = .ok (.goto (-40), 3) := by decide +kernel
theorem dX9_last_51 : decode cX9_last 51 = .ok (.iload_n 1, 1) := by decide +kernel
theorem dX9_last_52 : decode cX9_last 52 = .ok (.ireturn, 1) := by decide +kernel
theorem dX9_pays_0 : decode cX9_pays 0 = .ok (.aload_n 0, 1) := by decide +kernel
theorem dX9_pays_1 : decode cX9_pays 1 = .ok (.invokevirtual 158, 3) := by decide +kernel
theorem dX9_pays_4 : decode cX9_pays 4 = .ok (.aload_n 0, 1) := by decide +kernel
theorem dX9_pays_5 : decode cX9_pays 5 = .ok (.bipush (-4), 2) := by decide +kernel
theorem dX9_pays_7 : decode cX9_pays 7 = .ok (.invokevirtual 161, 3) := by decide +kernel
theorem dX9_pays_10 : decode cX9_pays 10 = .ok (.istore_n 1, 1) := by decide +kernel
theorem dX9_pays_11 : decode cX9_pays 11 = .ok (.aload_n 0, 1) := by decide +kernel
theorem dX9_pays_12 : decode cX9_pays 12 = .ok (.invokevirtual 167, 3) := by decide +kernel
theorem dX9_pays_15 : decode cX9_pays 15 = .ok (.istore_n 2, 1) := by decide +kernel
theorem dX9_pays_16 : decode cX9_pays 16 = .ok (.iload_n 2, 1) := by decide +kernel
theorem dX9_pays_17 : decode cX9_pays 17 = .ok (.bipush (-4), 2) := by decide +kernel
theorem dX9_pays_19 : decode cX9_pays 19 = .ok (.if_icmp .eq 10, 3) := by decide +kernel
theorem dX9_pays_22 : decode cX9_pays 22 = .ok (.aload_n 0, 1) := by decide +kernel
theorem dX9_pays_23 : decode cX9_pays 23 = .ok (.invokevirtual 121, 3) := by decide +kernel
theorem dX9_pays_26 : decode cX9_pays 26 = .ok (.ifCond .eq 6, 3) := by decide +kernel
theorem dX9_pays_29 : decode cX9_pays 29 = .ok (.bipush (-4), 2) := by decide +kernel
theorem dX9_pays_31 : decode cX9_pays 31 = .ok (.ireturn, 1) := by decide +kernel
theorem dX9_pays_32 : decode cX9_pays 32 = .ok (.aload_n 0, 1) := by decide +kernel
theorem dX9_pays_33 : decode cX9_pays 33 = .ok (.iload_n 2, 1) := by decide +kernel
theorem dX9_pays_34 : decode cX9_pays 34 = .ok (.iconst 2, 1) := by decide +kernel
theorem dX9_pays_35 : decode cX9_pays 35 = .ok (.iconst 3, 1) := by decide +kernel
theorem dX9_pays_36 : decode cX9_pays 36 = .ok (.iconst 0, 1) := by decide +kernel
theorem dX9_pays_37 : decode cX9_pays 37 = .ok (.invokevirtual 111, 3) := by decide +kernel
theorem dX9_pays_40 : decode cX9_pays 40 = .ok (.aload_n 0, 1) := by decide +kernel
theorem dX9_pays_41 : decode cX9_pays 41 = .ok (.bipush (-4), 2) := by decide +kernel
theorem dX9_pays_43 : decode cX9_pays 43 = .ok (.invokevirtual 161, 3) := by decide +kernel
theorem dX9_pays_46 : decode cX9_pays 46 = .ok (.istore_n 3, 1) := by decide +kernel
theorem dX9_pays_47 : decode cX9_pays 47 = .ok (.iload_n 1, 1) := by decide +kernel
theorem dX9_pays_48 : decode cX9_pays 48 = .ok (.bipush (-4), 2) := by decide +kernel
theorem dX9_pays_50 : decode cX9_pays 50 = .ok (.if_icmp .eq 9, 3) := by decide +kernel
theorem dX9_pays_53 : decode cX9_pays 53 = .ok (.iload_n 3, 1) := by decide +kernel
theorem dX9_pays_54 : decode cX9_pays 54 = .ok (.bipush (-4), 2) := by decide +kernel
theorem dX9_pays_56 : decode cX9_pays 56 = .ok (.if_icmp .ne 8, 3) := by decide +kernel
theorem dX9_pays_59 : decode cX9_pays 59 = .ok (.bipush (-4), 2) := by decide +kernel
theorem dX9_pays_61 : decode cX9_pays 61 = .ok (.goto 9, 3) := by decide +kernel
theorem dX9_pays_64 : decode cX9_pays 64 = .ok (.bipush 100, 2) := by decide +kernel
theorem dX9_pays_66 : decode cX9_pays 66 = .ok (.iload_n 1, 1) := by decide +kernel
theorem dX9_pays_67 : decode cX9_pays 67 = .ok (.iadd, 1) := by decide +kernel
theorem dX9_pays_68 : decode cX9_pays 68 = .ok (.iload_n 3, 1) := by decide +kernel
theorem dX9_pays_69 : decode cX9_pays 69 = .ok (.isub, 1) := by decide +kernel
theorem dX9_pays_70 : decode cX9_pays 70 = .ok (.ireturn, 1) := by decide +kernel
theorem dX9_women_0 : decode cX9_women 0 = .ok (.iload_n 1, 1) := by decide +kernel
theorem dX9_women_1 : decode cX9_women 1 = .ok (.iconst 1, 1) := by decide +kernel
theorem dX9_women_2 : decode cX9_women 2 = .ok (.iconst 3, 1) := by decide +kernel
theorem dX9_women_3 : decode cX9_women 3 = .ok (.invokestatic 50, 3) := by decide +kernel
theorem dX9_women_6 : decode cX9_women 6 = .ok (.ifCond .ne 5, 3) := by decide +kernel
theorem dX9_women_9 : decode cX9_women 9 = .ok (.iconst (-1), 1) := by decide +kernel
theorem dX9_women_10 : decode cX9_women 10 = .ok (.ireturn, 1) := by decide +kernel
theorem dX9_women_11 : decode cX9_women 11 = .ok (.aload_n 0, 1) := by decide +kernel
theorem dX9_women_12 : decode cX9_women 12 = .ok (.invokevirtual 158, 3) := by decide +kernel
theorem dX9_women_15 : decode cX9_women 15 = .ok (.aload_n 0, 1) := by decide +kernel
theorem dX9_women_16 : decode cX9_women 16 = .ok (.getfield 13, 3) := by decide +kernel
theorem dX9_women_19 : decode cX9_women 19 = .ok (.iconst 1, 1) := by decide +kernel
theorem dX9_women_20 : decode cX9_women 20 = .ok (.iaload, 1) := by decide +kernel
theorem dX9_women_21 : decode cX9_women 21 = .ok (.istore_n 2, 1) := by decide +kernel
theorem dX9_women_22 : decode cX9_women 22 = .ok (.aload_n 0, 1) := by decide +kernel
theorem dX9_women_23 : decode cX9_women 23 = .ok (.invokevirtual 84, 3) := by decide +kernel
theorem dX9_women_26 : decode cX9_women 26 = .ok (.aload_n 0, 1) := by decide +kernel
theorem dX9_women_27 : decode cX9_women 27 = .ok (.getfield 13, 3) := by decide +kernel
theorem dX9_women_30 : decode cX9_women 30 = .ok (.iconst 1, 1) := by decide +kernel
theorem dX9_women_31 : decode cX9_women 31 = .ok (.iload_n 1, 1) := by decide +kernel
theorem dX9_women_32 : decode cX9_women 32 = .ok (.iastore, 1) := by decide +kernel
theorem dX9_women_33 : decode cX9_women 33 = .ok (.aload_n 0, 1) := by decide +kernel
theorem dX9_women_34 : decode cX9_women 34 = .ok (.bipush (-4), 2) := by decide +kernel
theorem dX9_women_36 : decode cX9_women 36 = .ok (.invokevirtual 161, 3) := by decide +kernel
theorem dX9_women_39 : decode cX9_women 39 = .ok (.istore_n 3, 1) := by decide +kernel
theorem dX9_women_40 : decode cX9_women 40 = .ok (.aload_n 0, 1) := by decide +kernel
theorem dX9_women_41 : decode cX9_women 41 = .ok (.getfield 13, 3) := by decide +kernel
theorem dX9_women_44 : decode cX9_women 44 = .ok (.iconst 1, 1) := by decide +kernel
theorem dX9_women_45 : decode cX9_women 45 = .ok (.iload_n 2, 1) := by decide +kernel
theorem dX9_women_46 : decode cX9_women 46 = .ok (.iastore, 1) := by decide +kernel
theorem dX9_women_47 : decode cX9_women 47 = .ok (.iload_n 3, 1) := by decide +kernel
theorem dX9_women_48 : decode cX9_women 48 = .ok (.ireturn, 1) := by decide +kernel
theorem dX9_seen_0 : decode cX9_seen 0 = .ok (.aload_n 0, 1) := by decide +kernel
theorem dX9_seen_1 : decode cX9_seen 1 = .ok (.iload_n 1, 1) := by decide +kernel
theorem dX9_seen_2 : decode cX9_seen 2 = .ok (.invokevirtual 99, 3) := by decide +kernel
theorem dX9_seen_5 : decode cX9_seen 5 = .ok (.ifCond .eq 22, 3) := by decide +kernel
theorem dX9_seen_8 : decode cX9_seen 8 = .ok (.iload_n 2, 1) := by decide +kernel
theorem dX9_seen_9 : decode cX9_seen 9 = .ok (.iconst 1, 1) := by decide +kernel
theorem dX9_seen_10 : decode cX9_seen 10 = .ok (.bipush 20, 2) := by decide +kernel
theorem dX9_seen_12 : decode cX9_seen 12 = .ok (.invokestatic 50, 3) := by decide +kernel
theorem dX9_seen_15 : decode cX9_seen 15 = .ok (.ifCond .eq 12, 3) := by decide +kernel
theorem dX9_seen_18 : decode cX9_seen 18 = .ok (.iload_n 3, 1) := by decide +kernel
theorem dX9_seen_19 : decode cX9_seen 19 = .ok (.iconst 0, 1) := by decide +kernel
theorem dX9_seen_20 : decode cX9_seen 20 = .ok (.iconst 1, 1) := by decide +kernel
theorem dX9_seen_21 : decode cX9_seen 21 = .ok (.invokestatic 50, 3) := by decide +kernel
theorem dX9_seen_24 : decode cX9_seen 24 = .ok (.ifCond .ne 5, 3) := by decide +kernel
theorem dX9_seen_27 : decode cX9_seen 27 = .ok (.iconst (-1), 1) := by decide +kernel
theorem dX9_seen_28 : decode cX9_seen 28 = .ok (.ireturn, 1) := by decide +kernel
theorem dX9_seen_29 : decode cX9_seen 29 = .ok (.aload_n 0, 1) := by decide +kernel
theorem dX9_seen_30 : decode cX9_seen 30 = .ok (.getfield 93, 3) := by decide +kernel
theorem dX9_seen_33 : decode cX9_seen 33 = .ok (.bipush 8, 2) := by decide +kernel
theorem dX9_seen_35 : decode cX9_seen 35 = .ok (.if_icmp .ne 6, 3) := by decide +kernel
theorem dX9_seen_38 : decode cX9_seen 38 = .ok (.bipush (-3), 2) := by decide +kernel
theorem dX9_seen_40 : decode cX9_seen 40 = .ok (.ireturn, 1) := by decide +kernel
theorem dX9_seen_41 : decode cX9_seen 41 = .ok (.aload_n 0, 1) := by decide +kernel
theorem dX9_seen_42 : decode cX9_seen 42 = .ok (.getfield 28, 3) := by decide +kernel
theorem dX9_seen_45 : decode cX9_seen 45 = .ok (.aload_n 0, 1) := by decide +kernel
theorem dX9_seen_46 : decode cX9_seen 46 = .ok (.getfield 93, 3) := by decide +kernel
theorem dX9_seen_49 : decode cX9_seen 49 = .ok (.bipush 100, 2) := by decide +kernel
theorem dX9_seen_51 : decode cX9_seen 51 = .ok (.iload_n 1, 1) := by decide +kernel
theorem dX9_seen_52 : decode cX9_seen 52 = .ok (.imul, 1) := by decide +kernel
theorem dX9_seen_53 : decode cX9_seen 53 = .ok (.iconst 2, 1) := by decide +kernel
theorem dX9_seen_54 : decode cX9_seen 54 = .ok (.iload_n 2, 1) := by decide +kernel
theorem dX9_seen_55 : decode cX9_seen 55 = .ok (.imul, 1) := by decide +kernel
theorem dX9_seen_56 : decode cX9_seen 56 = .ok (.iadd, 1) := by decide +kernel
theorem dX9_seen_57 : decode cX9_seen 57 = .ok (.iload_n 3, 1) := by decide +kernel
theorem dX9_seen_58 : decode cX9_seen 58 = .ok (.iadd, 1) := by decide +kernel
theorem dX9_seen_59 : decode cX9_seen 59 = .ok (.iastore, 1) := by decide +kernel
theorem dX9_seen_60 : decode cX9_seen 60 = .ok (.aload_n 0, 1) := by decide +kernel
theorem dX9_seen_61 : decode cX9_seen 61 = .ok (.dup, 1) := by decide +kernel
theorem dX9_seen_62 : decode cX9_seen 62 = .ok (.getfield 93, 3) := by decide +kernel
theorem dX9_seen_65 : decode cX9_seen 65 = .ok (.iconst 1, 1) := by decide +kernel
theorem dX9_seen_66 : decode cX9_seen 66 = .ok (.iadd, 1) := by decide +kernel
theorem dX9_seen_67 : decode cX9_seen 67 = .ok (.putfield 93, 3) := by decide +kernel
theorem dX9_seen_70 : decode cX9_seen 70 = .ok (.aload_n 0, 1) := by decide +kernel
theorem dX9_seen_71 : decode cX9_seen 71 = .ok (.getfield 93, 3) := by decide +kernel
theorem dX9_seen_74 : decode cX9_seen 74 = .ok (.ireturn, 1) := by decide +kernel
theorem dX9_forget_0 : decode cX9_forget 0 = .ok (.aload_n 0, 1) := by decide +kernel
theorem dX9_forget_1 : decode cX9_forget 1 = .ok (.getfield 93, 3) := by decide +kernel
theorem dX9_forget_4 : decode cX9_forget 4 = .ok (.istore_n 1, 1) := by decide +kernel
theorem dX9_forget_5 : decode cX9_forget 5 = .ok (.aload_n 0, 1) := by decide +kernel
theorem dX9_forget_6 : decode cX9_forget 6 = .ok (.iconst 0, 1) := by decide +kernel
theorem dX9_forget_7 : decode cX9_forget 7 = .ok (.putfield 93, 3) := by decide +kernel
theorem dX9_forget_10 : decode cX9_forget 10 = .ok (.iload_n 1, 1) := by decide +kernel
theorem dX9_forget_11 : decode cX9_forget 11 = .ok (.ireturn, 1) := by decide +kernel
theorem dX9_isSo_0 : decode cX9_isSo 0 = .ok (.iconst 1, 1) := by decide +kernel
theorem dX9_isSo_1 : decode cX9_isSo 1 = .ok (.istore 4, 2) := by decide +kernel
theorem dX9_isSo_3 : decode cX9_isSo 3 = .ok (.iconst 0, 1) := by decide +kernel
theorem dX9_isSo_4 : decode cX9_isSo 4 = .ok (.istore 5, 2) := by decide +kernel
theorem dX9_isSo_6 : decode cX9_isSo 6 = .ok (.iload 5, 2) := by decide +kernel
theorem dX9_isSo_8 : decode cX9_isSo 8 = .ok (.aload_n 0, 1) := by decide +kernel
theorem dX9_isSo_9 : decode cX9_isSo 9 = .ok (.getfield 93, 3) := by decide +kernel
theorem dX9_isSo_12 : decode cX9_isSo 12 = .ok (.if_icmp .ge 68, 3) := by decide +kernel
theorem dX9_isSo_15 : decode cX9_isSo 15 = .ok (.aload_n 0, 1) := by decide +kernel
theorem dX9_isSo_16 : decode cX9_isSo 16 = .ok (.getfield 28, 3) := by decide +kernel
theorem dX9_isSo_19 : decode cX9_isSo 19 = .ok (.iload 5, 2) := by decide +kernel
theorem dX9_isSo_21 : decode cX9_isSo 21 = .ok (.iaload, 1) := by decide +kernel
theorem dX9_isSo_22 : decode cX9_isSo 22 = .ok (.bipush 100, 2) := by decide +kernel
theorem dX9_isSo_24 : decode cX9_isSo 24 = .ok (.irem, 1) := by decide +kernel
theorem dX9_isSo_25 : decode cX9_isSo 25 = .ok (.iconst 2, 1) := by decide +kernel
theorem dX9_isSo_26 : decode cX9_isSo 26 = .ok (.idiv, 1) := by decide +kernel
theorem dX9_isSo_27 : decode cX9_isSo 27 = .ok (.istore 6, 2) := by decide +kernel
theorem dX9_isSo_29 : decode cX9_isSo 29 = .ok (.iload 4, 2) := by decide +kernel
theorem dX9_isSo_31 : decode cX9_isSo 31 = .ok (.ifCond .eq 40, 3) := by decide +kernel
theorem dX9_isSo_34 : decode cX9_isSo 34 = .ok (.aload_n 0, 1) := by decide +kernel
theorem dX9_isSo_35 : decode cX9_isSo 35 = .ok (.getfield 28, 3) := by decide +kernel
theorem dX9_isSo_38 : decode cX9_isSo 38 = .ok (.iload 5, 2) := by decide +kernel
theorem dX9_isSo_40 : decode cX9_isSo 40 = .ok (.iaload, 1) := by decide +kernel
theorem dX9_isSo_41 : decode cX9_isSo 41 = .ok (.bipush 100, 2) := by decide +kernel
theorem dX9_isSo_43 : decode cX9_isSo 43 = .ok (.idiv, 1) := by decide +kernel
theorem dX9_isSo_44 : decode cX9_isSo 44 = .ok (.iload_n 1, 1) := by decide +kernel
theorem dX9_isSo_45 : decode cX9_isSo 45 = .ok (.if_icmp .ne 22, 3) := by decide +kernel
theorem dX9_isSo_48 : decode cX9_isSo 48 = .ok (.iload_n 2, 1) := by decide +kernel
theorem dX9_isSo_49 : decode cX9_isSo 49 = .ok (.iload_n 3, 1) := by decide +kernel
theorem dX9_isSo_50 : decode cX9_isSo 50 = .ok (.aload_n 0, 1) := by decide +kernel
theorem dX9_isSo_51 : decode cX9_isSo 51 = .ok (.getfield 28, 3) := by decide +kernel
theorem dX9_isSo_54 : decode cX9_isSo 54 = .ok (.iload 5, 2) := by decide +kernel
theorem dX9_isSo_56 : decode cX9_isSo 56 = .ok (.iaload, 1) := by decide +kernel
theorem dX9_isSo_57 : decode cX9_isSo 57 = .ok (.iconst 2, 1) := by decide +kernel
theorem dX9_isSo_58 : decode cX9_isSo 58 = .ok (.irem, 1) := by decide +kernel
theorem dX9_isSo_59 : decode cX9_isSo 59 = .ok (.invokestatic 96, 3) := by decide +kernel
theorem dX9_isSo_62 : decode cX9_isSo 62 = .ok (.iload 6, 2) := by decide +kernel
theorem dX9_isSo_64 : decode cX9_isSo 64 = .ok (.if_icmp .ne 7, 3) := by decide +kernel
theorem dX9_isSo_67 : decode cX9_isSo 67 = .ok (.iconst 1, 1) := by decide +kernel
theorem dX9_isSo_68 : decode cX9_isSo 68 = .ok (.goto 4, 3) := by decide +kernel
theorem dX9_isSo_71 : decode cX9_isSo 71 = .ok (.iconst 0, 1) := by decide +kernel
theorem dX9_isSo_72 : decode cX9_isSo 72 = .ok (.istore 4, 2) := by decide +kernel
theorem dX9_isSo_74 : decode cX9_isSo 74 = .ok (.iinc 5 1, 3) := by decide +kernel
theorem dX9_isSo_77 : decode cX9_isSo 77 = .ok (.goto (-71), 3) := by decide +kernel
theorem dX9_isSo_80 : decode cX9_isSo 80 = .ok (.iload 4, 2) := by decide +kernel
theorem dX9_isSo_82 : decode cX9_isSo 82 = .ok (.ireturn, 1) := by decide +kernel
theorem dX9_kinds_0 : decode cX9_kinds 0 = .ok (.aload_n 0, 1) := by decide +kernel
theorem dX9_kinds_1 : decode cX9_kinds 1 = .ok (.iload_n 1, 1) := by decide +kernel
theorem dX9_kinds_2 : decode cX9_kinds 2 = .ok (.invokevirtual 99, 3) := by decide +kernel
theorem dX9_kinds_5 : decode cX9_kinds 5 = .ok (.ifCond .ne 5, 3) := by decide +kernel
theorem dX9_kinds_8 : decode cX9_kinds 8 = .ok (.iconst (-1), 1) := by decide +kernel
theorem dX9_kinds_9 : decode cX9_kinds 9 = .ok (.ireturn, 1) := by decide +kernel
theorem dX9_kinds_10 : decode cX9_kinds 10 = .ok (.iconst 0, 1) := by decide +kernel
theorem dX9_kinds_11 : decode cX9_kinds 11 = .ok (.istore_n 2, 1) := by decide +kernel
theorem dX9_kinds_12 : decode cX9_kinds 12 = .ok (.iconst 0, 1) := by decide +kernel
theorem dX9_kinds_13 : decode cX9_kinds 13 = .ok (.istore_n 3, 1) := by decide +kernel
theorem dX9_kinds_14 : decode cX9_kinds 14 = .ok (.iload_n 3, 1) := by decide +kernel
theorem dX9_kinds_15 : decode cX9_kinds 15 = .ok (.iconst 4, 1) := by decide +kernel
theorem dX9_kinds_16 : decode cX9_kinds 16 = .ok (.if_icmp .ge 37, 3) := by decide +kernel
theorem dX9_kinds_19 : decode cX9_kinds 19 = .ok (.iload_n 2, 1) := by decide +kernel
theorem dX9_kinds_20 : decode cX9_kinds 20 = .ok (.aload_n 0, 1) := by decide +kernel
theorem dX9_kinds_21 : decode cX9_kinds 21 = .ok (.iload_n 1, 1) := by decide +kernel
theorem dX9_kinds_22 : decode cX9_kinds 22 = .ok (.iload_n 3, 1) := by decide +kernel
theorem dX9_kinds_23 : decode cX9_kinds 23 = .ok (.aload_n 0, 1) := by decide +kernel
theorem dX9_kinds_24 : decode cX9_kinds 24 = .ok (.getfield 13, 3) := by decide +kernel
theorem dX9_kinds_27 : decode cX9_kinds 27 = .ok (.bipush 11, 2) := by decide +kernel
theorem dX9_kinds_29 : decode cX9_kinds 29 = .ok (.iload_n 1, 1) := by decide +kernel
theorem dX9_kinds_30 : decode cX9_kinds 30 = .ok (.iadd, 1) := by decide +kernel
theorem dX9_kinds_31 : decode cX9_kinds 31 = .ok (.iaload, 1) := by decide +kernel
theorem dX9_kinds_32 : decode cX9_kinds 32 = .ok (.invokevirtual 170, 3) := by decide +kernel
theorem dX9_kinds_35 : decode cX9_kinds 35 = .ok (.ifCond .eq 9, 3) := by decide +kernel
theorem dX9_kinds_38 : decode cX9_kinds 38 = .ok (.iconst 1, 1) := by decide +kernel
theorem dX9_kinds_39 : decode cX9_kinds 39 = .ok (.iload_n 3, 1) := by decide +kernel
theorem dX9_kinds_40 : decode cX9_kinds 40 = .ok (.ishl, 1) := by decide +kernel
theorem dX9_kinds_41 : decode cX9_kinds 41 = .ok (.goto 4, 3) := by decide +kernel
theorem dX9_kinds_44 : decode cX9_kinds 44 = .ok (.iconst 0, 1) := by decide +kernel
theorem dX9_kinds_45 : decode cX9_kinds 45 = .ok (.ior, 1) := by decide +kernel
theorem dX9_kinds_46 : decode cX9_kinds 46 = .ok (.istore_n 2, 1) := by decide +kernel
theorem dX9_kinds_47 : decode cX9_kinds 47 = .ok (.iinc 3 1, 3) := by decide +kernel
theorem dX9_kinds_50 : decode cX9_kinds 50 = .ok (.goto (-36), 3) := by decide +kernel
theorem dX9_kinds_53 : decode cX9_kinds 53 = .ok (.iload_n 2, 1) := by decide +kernel
theorem dX9_kinds_54 : decode cX9_kinds 54 = .ok (.ireturn, 1) := by decide +kernel
theorem dX9_takes_0 : decode cX9_takes 0 = .ok (.aload_n 0, 1) := by decide +kernel
theorem dX9_takes_1 : decode cX9_takes 1 = .ok (.iload_n 1, 1) := by decide +kernel
theorem dX9_takes_2 : decode cX9_takes 2 = .ok (.invokevirtual 99, 3) := by decide +kernel
theorem dX9_takes_5 : decode cX9_takes 5 = .ok (.ifCond .eq 12, 3) := by decide +kernel
theorem dX9_takes_8 : decode cX9_takes 8 = .ok (.iload_n 2, 1) := by decide +kernel
theorem dX9_takes_9 : decode cX9_takes 9 = .ok (.iconst 0, 1) := by decide +kernel
theorem dX9_takes_10 : decode cX9_takes 10 = .ok (.iconst 1, 1) := by decide +kernel
theorem dX9_takes_11 : decode cX9_takes 11 = .ok (.invokestatic 50, 3) := by decide +kernel
theorem dX9_takes_14 : decode cX9_takes 14 = .ok (.ifCond .ne 5, 3) := by decide +kernel
theorem dX9_takes_17 : decode cX9_takes 17 = .ok (.iconst (-1), 1) := by decide +kernel
theorem dX9_takes_18 : decode cX9_takes 18 = .ok (.ireturn, 1) := by decide +kernel
theorem dX9_takes_19 : decode cX9_takes 19 = .ok (.iconst 0, 1) := by decide +kernel
theorem dX9_takes_20 : decode cX9_takes 20 = .ok (.istore_n 3, 1) := by decide +kernel
theorem dX9_takes_21 : decode cX9_takes 21 = .ok (.bipush (-4), 2) := by decide +kernel
theorem dX9_takes_23 : decode cX9_takes 23 = .ok (.istore 4, 2) := by decide +kernel
theorem dX9_takes_25 : decode cX9_takes 25 = .ok (.bipush 12, 2) := by decide +kernel
theorem dX9_takes_27 : decode cX9_takes 27 = .ok (.istore 5, 2) := by decide +kernel
theorem dX9_takes_29 : decode cX9_takes 29 = .ok (.iload 5, 2) := by decide +kernel
theorem dX9_takes_31 : decode cX9_takes 31 = .ok (.ifCond .le 53, 3) := by decide +kernel
theorem dX9_takes_34 : decode cX9_takes 34 = .ok (.aload_n 0, 1) := by decide +kernel
theorem dX9_takes_35 : decode cX9_takes 35 = .ok (.iload_n 1, 1) := by decide +kernel
theorem dX9_takes_36 : decode cX9_takes 36 = .ok (.aload_n 0, 1) := by decide +kernel
theorem dX9_takes_37 : decode cX9_takes 37 = .ok (.getfield 13, 3) := by decide +kernel
theorem dX9_takes_40 : decode cX9_takes 40 = .ok (.iconst 5, 1) := by decide +kernel
theorem dX9_takes_41 : decode cX9_takes 41 = .ok (.iload_n 1, 1) := by decide +kernel
theorem dX9_takes_42 : decode cX9_takes 42 = .ok (.iadd, 1) := by decide +kernel
theorem dX9_takes_43 : decode cX9_takes 43 = .ok (.iaload, 1) := by decide +kernel
theorem dX9_takes_44 : decode cX9_takes 44 = .ok (.iload 5, 2) := by decide +kernel
theorem dX9_takes_46 : decode cX9_takes 46 = .ok (.invokevirtual 170, 3) := by decide +kernel
theorem dX9_takes_49 : decode cX9_takes 49 = .ok (.istore 6, 2) := by decide +kernel
theorem dX9_takes_51 : decode cX9_takes 51 = .ok (.iload_n 3, 1) := by decide +kernel
theorem dX9_takes_52 : decode cX9_takes 52 = .ok (.iload 6, 2) := by decide +kernel
theorem dX9_takes_54 : decode cX9_takes 54 = .ok (.ifCond .eq 7, 3) := by decide +kernel
theorem dX9_takes_57 : decode cX9_takes 57 = .ok (.iconst 1, 1) := by decide +kernel
theorem dX9_takes_58 : decode cX9_takes 58 = .ok (.goto 4, 3) := by decide +kernel
theorem dX9_takes_61 : decode cX9_takes 61 = .ok (.iconst 0, 1) := by decide +kernel
theorem dX9_takes_62 : decode cX9_takes 62 = .ok (.iadd, 1) := by decide +kernel
theorem dX9_takes_63 : decode cX9_takes 63 = .ok (.istore_n 3, 1) := by decide +kernel
theorem dX9_takes_64 : decode cX9_takes 64 = .ok (.iload 6, 2) := by decide +kernel
theorem dX9_takes_66 : decode cX9_takes 66 = .ok (.ifCond .eq 8, 3) := by decide +kernel
theorem dX9_takes_69 : decode cX9_takes 69 = .ok (.iload 5, 2) := by decide +kernel
theorem dX9_takes_71 : decode cX9_takes 71 = .ok (.goto 5, 3) := by decide +kernel
theorem dX9_takes_74 : decode cX9_takes 74 = .ok (.iload 4, 2) := by decide +kernel
theorem dX9_takes_76 : decode cX9_takes 76 = .ok (.istore 4, 2) := by decide +kernel
theorem dX9_takes_78 : decode cX9_takes 78 = .ok (.iinc 5 (-1), 3) := by decide +kernel
theorem dX9_takes_81 : decode cX9_takes 81 = .ok (.goto (-52), 3) := by decide +kernel
theorem dX9_takes_84 : decode cX9_takes 84 = .ok (.iload_n 2, 1) := by decide +kernel
theorem dX9_takes_85 : decode cX9_takes 85 = .ok (.ifCond .ne 7, 3) := by decide +kernel
theorem dX9_takes_88 : decode cX9_takes 88 = .ok (.iload_n 3, 1) := by decide +kernel
theorem dX9_takes_89 : decode cX9_takes 89 = .ok (.goto 5, 3) := by decide +kernel
theorem dX9_takes_92 : decode cX9_takes 92 = .ok (.iload 4, 2) := by decide +kernel
theorem dX9_takes_94 : decode cX9_takes 94 = .ok (.ireturn, 1) := by decide +kernel
theorem dX9_must_0 : decode cX9_must 0 = .ok (.iload_n 1, 1) := by decide +kernel
theorem dX9_must_1 : decode cX9_must 1 = .ok (.iconst 0, 1) := by decide +kernel
theorem dX9_must_2 : decode cX9_must 2 = .ok (.bipush 6, 2) := by decide +kernel
theorem dX9_must_4 : decode cX9_must 4 = .ok (.invokestatic 50, 3) := by decide +kernel
theorem dX9_must_7 : decode cX9_must 7 = .ok (.ifCond .eq 22, 3) := by decide +kernel
theorem dX9_must_10 : decode cX9_must 10 = .ok (.iload_n 2, 1) := by decide +kernel
theorem dX9_must_11 : decode cX9_must 11 = .ok (.iconst 0, 1) := by decide +kernel
theorem dX9_must_12 : decode cX9_must 12 = .ok (.bipush 10, 2) := by decide +kernel
theorem dX9_must_14 : decode cX9_must 14 = .ok (.invokestatic 50, 3) := by decide +kernel
theorem dX9_must_17 : decode cX9_must 17 = .ok (.ifCond .eq 12, 3) := by decide +kernel
theorem dX9_must_20 : decode cX9_must 20 = .ok (.iload_n 3, 1) := by decide +kernel
theorem dX9_must_21 : decode cX9_must 21 = .ok (.iconst 0, 1) := by decide +kernel
theorem dX9_must_22 : decode cX9_must 22 = .ok (.iconst 1, 1) := by decide +kernel
theorem dX9_must_23 : decode cX9_must 23 = .ok (.invokestatic 50, 3) := by decide +kernel
theorem dX9_must_26 : decode cX9_must 26 = .ok (.ifCond .ne 5, 3) := by decide +kernel
theorem dX9_must_29 : decode cX9_must 29 = .ok (.iconst (-1), 1) := by decide +kernel
theorem dX9_must_30 : decode cX9_must 30 = .ok (.ireturn, 1) := by decide +kernel
theorem dX9_must_31 : decode cX9_must 31 = .ok (.iconst 1, 1) := by decide +kernel
theorem dX9_must_32 : decode cX9_must 32 = .ok (.istore 4, 2) := by decide +kernel
theorem dX9_must_34 : decode cX9_must 34 = .ok (.iconst 0, 1) := by decide +kernel
theorem dX9_must_35 : decode cX9_must 35 = .ok (.istore 5, 2) := by decide +kernel
theorem dX9_must_37 : decode cX9_must 37 = .ok (.iload 5, 2) := by decide +kernel
theorem dX9_must_39 : decode cX9_must 39 = .ok (.bipush 7, 2) := by decide +kernel
theorem dX9_must_41 : decode cX9_must 41 = .ok (.if_icmp .ge 26, 3) := by decide +kernel
theorem dX9_must_44 : decode cX9_must 44 = .ok (.aload_n 0, 1) := by decide +kernel
theorem dX9_must_45 : decode cX9_must 45 = .ok (.getfield 37, 3) := by decide +kernel
theorem dX9_must_48 : decode cX9_must 48 = .ok (.iload 5, 2) := by decide +kernel
theorem dX9_must_50 : decode cX9_must 50 = .ok (.iload 5, 2) := by decide +kernel
theorem dX9_must_52 : decode cX9_must 52 = .ok (.ifCond .ne 7, 3) := by decide +kernel
theorem dX9_must_55 : decode cX9_must 55 = .ok (.iconst 1, 1) := by decide +kernel
theorem dX9_must_56 : decode cX9_must 56 = .ok (.goto 4, 3) := by decide +kernel
theorem dX9_must_59 : decode cX9_must 59 = .ok (.iconst 0, 1) := by decide +kernel
theorem dX9_must_60 : decode cX9_must 60 = .ok (.iastore, 1) := by decide +kernel
theorem dX9_must_61 : decode cX9_must 61 = .ok (.iinc 5 1, 3) := by decide +kernel
theorem dX9_must_64 : decode cX9_must 64 = .ok (.goto (-27), 3) := by decide +kernel
theorem dX9_must_67 : decode cX9_must 67 = .ok (.iconst 0, 1) := by decide +kernel
theorem dX9_must_68 : decode cX9_must 68 = .ok (.istore 5, 2) := by decide +kernel
theorem dX9_must_70 : decode cX9_must 70 = .ok (.iload 5, 2) := by decide +kernel
theorem dX9_must_72 : decode cX9_must 72 = .ok (.aload_n 0, 1) := by decide +kernel
theorem dX9_must_73 : decode cX9_must 73 = .ok (.iconst 2, 1) := by decide +kernel
theorem dX9_must_74 : decode cX9_must 74 = .ok (.invokevirtual 131, 3) := by decide +kernel
theorem dX9_must_77 : decode cX9_must 77 = .ok (.if_icmp .ge 71, 3) := by decide +kernel
theorem dX9_must_80 : decode cX9_must 80 = .ok (.iload 4, 2) := by decide +kernel
theorem dX9_must_82 : decode cX9_must 82 = .ok (.bipush 10, 2) := by decide +kernel
theorem dX9_must_84 : decode cX9_must 84 = .ok (.imul, 1) := by decide +kernel
theorem dX9_must_85 : decode cX9_must 85 = .ok (.istore 4, 2) := by decide +kernel
theorem dX9_must_87 : decode cX9_must 87 = .ok (.bipush 6, 2) := by decide +kernel
theorem dX9_must_89 : decode cX9_must 89 = .ok (.istore 6, 2) := by decide +kernel
theorem dX9_must_91 : decode cX9_must 91 = .ok (.iload 6, 2) := by decide +kernel
theorem dX9_must_93 : decode cX9_must 93 = .ok (.ifCond .lt 49, 3) := by decide +kernel
theorem dX9_must_96 : decode cX9_must 96 = .ok (.aload_n 0, 1) := by decide +kernel
theorem dX9_must_97 : decode cX9_must 97 = .ok (.getfield 37, 3) := by decide +kernel
theorem dX9_must_100 : decode cX9_must 100 = .ok (.iload 6, 2) := by decide +kernel
theorem dX9_must_102 : decode cX9_must 102 = .ok (.aload_n 0, 1) := by decide +kernel
theorem dX9_must_103 : decode cX9_must 103 = .ok (.getfield 37, 3) := by decide +kernel
theorem dX9_must_106 : decode cX9_must 106 = .ok (.iload 6, 2) := by decide +kernel
theorem dX9_must_108 : decode cX9_must 108 = .ok (.iaload, 1) := by decide +kernel
theorem dX9_must_109 : decode cX9_must 109 = .ok (.bipush 10, 2) := by decide +kernel
theorem dX9_must_111 : decode cX9_must 111 = .ok (.iload_n 2, 1) := by decide +kernel
theorem dX9_must_112 : decode cX9_must 112 = .ok (.isub, 1) := by decide +kernel
theorem dX9_must_113 : decode cX9_must 113 = .ok (.imul, 1) := by decide +kernel
theorem dX9_must_114 : decode cX9_must 114 = .ok (.iload 6, 2) := by decide +kernel
theorem dX9_must_116 : decode cX9_must 116 = .ok (.ifCond .ne 7, 3) := by decide +kernel
theorem dX9_must_119 : decode cX9_must 119 = .ok (.iconst 0, 1) := by decide +kernel
theorem dX9_must_120 : decode cX9_must 120 = .ok (.goto 14, 3) := by decide +kernel
theorem dX9_must_123 : decode cX9_must 123 = .ok (.aload_n 0, 1) := by decide +kernel
theorem dX9_must_124 : decode cX9_must 124 = .ok (.getfield 37, 3) := by decide +kernel
theorem dX9_must_127 : decode cX9_must 127 = .ok (.iload 6, 2) := by decide +kernel
theorem dX9_must_129 : decode cX9_must 129 = .ok (.iconst 1, 1) := by decide +kernel
theorem dX9_must_130 : decode cX9_must 130 = .ok (.isub, 1) := by decide +kernel
theorem dX9_must_131 : decode cX9_must 131 = .ok (.iaload, 1) := by decide +kernel
theorem dX9_must_132 : decode cX9_must 132 = .ok (.iload_n 2, 1) := by decide +kernel
theorem dX9_must_133 : decode cX9_must 133 = .ok (.imul, 1) := by decide +kernel
theorem dX9_must_134 : decode cX9_must 134 = .ok (.iadd, 1) := by decide +kernel
theorem dX9_must_135 : decode cX9_must 135 = .ok (.iastore, 1) := by decide +kernel
theorem dX9_must_136 : decode cX9_must 136 = .ok (.iinc 6 (-1), 3) := by decide +kernel
theorem dX9_must_139 : decode cX9_must 139 = .ok (.goto (-48), 3) := by decide +kernel
theorem dX9_must_142 : decode cX9_must 142 = .ok (.iinc 5 1, 3) := by decide +kernel
theorem dX9_must_145 : decode cX9_must 145 = .ok (.goto (-75), 3) := by decide +kernel
theorem dX9_must_148 : decode cX9_must 148 = .ok (.iconst 0, 1) := by decide +kernel
theorem dX9_must_149 : decode cX9_must 149 = .ok (.istore 5, 2) := by decide +kernel
theorem dX9_must_151 : decode cX9_must 151 = .ok (.iload_n 1, 1) := by decide +kernel
theorem dX9_must_152 : decode cX9_must 152 = .ok (.istore 6, 2) := by decide +kernel
theorem dX9_must_154 : decode cX9_must 154 = .ok (.iload 6, 2) := by decide +kernel
theorem dX9_must_156 : decode cX9_must 156 = .ok (.bipush 7, 2) := by decide +kernel
theorem dX9_must_158 : decode cX9_must 158 = .ok (.if_icmp .ge 21, 3) := by decide +kernel
theorem dX9_must_161 : decode cX9_must 161 = .ok (.iload 5, 2) := by decide +kernel
theorem dX9_must_163 : decode cX9_must 163 = .ok (.aload_n 0, 1) := by decide +kernel
theorem dX9_must_164 : decode cX9_must 164 = .ok (.getfield 37, 3) := by decide +kernel
theorem dX9_must_167 : decode cX9_must 167 = .ok (.iload 6, 2) := by decide +kernel
theorem dX9_must_169 : decode cX9_must 169 = .ok (.iaload, 1) := by decide +kernel
theorem dX9_must_170 : decode cX9_must 170 = .ok (.iadd, 1) := by decide +kernel
theorem dX9_must_171 : decode cX9_must 171 = .ok (.istore 5, 2) := by decide +kernel
theorem dX9_must_173 : decode cX9_must 173 = .ok (.iinc 6 1, 3) := by decide +kernel
theorem dX9_must_176 : decode cX9_must 176 = .ok (.goto (-22), 3) := by decide +kernel
theorem dX9_must_179 : decode cX9_must 179 = .ok (.iload 5, 2) := by decide +kernel
theorem dX9_must_181 : decode cX9_must 181 = .ok (.istore 6, 2) := by decide +kernel
theorem dX9_must_183 : decode cX9_must 183 = .ok (.iload 4, 2) := by decide +kernel
theorem dX9_must_185 : decode cX9_must 185 = .ok (.istore 7, 2) := by decide +kernel
theorem dX9_must_187 : decode cX9_must 187 = .ok (.iload 7, 2) := by decide +kernel
theorem dX9_must_189 : decode cX9_must 189 = .ok (.ifCond .le 21, 3) := by decide +kernel
theorem dX9_must_192 : decode cX9_must 192 = .ok (.iload 6, 2) := by decide +kernel
theorem dX9_must_194 : decode cX9_must 194 = .ok (.iload 7, 2) := by decide +kernel
theorem dX9_must_196 : decode cX9_must 196 = .ok (.irem, 1) := by decide +kernel
theorem dX9_must_197 : decode cX9_must 197 = .ok (.istore 8, 2) := by decide +kernel
theorem dX9_must_199 : decode cX9_must 199 = .ok (.iload 7, 2) := by decide +kernel
theorem dX9_must_201 : decode cX9_must 201 = .ok (.istore 6, 2) := by decide +kernel
theorem dX9_must_203 : decode cX9_must 203 = .ok (.iload 8, 2) := by decide +kernel
theorem dX9_must_205 : decode cX9_must 205 = .ok (.istore 7, 2) := by decide +kernel
theorem dX9_must_207 : decode cX9_must 207 = .ok (.goto (-20), 3) := by decide +kernel
theorem dX9_must_210 : decode cX9_must 210 = .ok (.iload_n 3, 1) := by decide +kernel
theorem dX9_must_211 : decode cX9_must 211 = .ok (.ifCond .ne 11, 3) := by decide +kernel
theorem dX9_must_214 : decode cX9_must 214 = .ok (.iload 5, 2) := by decide +kernel
theorem dX9_must_216 : decode cX9_must 216 = .ok (.iload 6, 2) := by decide +kernel
theorem dX9_must_218 : decode cX9_must 218 = .ok (.idiv, 1) := by decide +kernel
theorem dX9_must_219 : decode cX9_must 219 = .ok (.goto 8, 3) := by decide +kernel
theorem dX9_must_222 : decode cX9_must 222 = .ok (.iload 4, 2) := by decide +kernel
theorem dX9_must_224 : decode cX9_must 224 = .ok (.iload 6, 2) := by decide +kernel
theorem dX9_must_226 : decode cX9_must 226 = .ok (.idiv, 1) := by decide +kernel
theorem dX9_must_227 : decode cX9_must 227 = .ok (.ireturn, 1) := by decide +kernel
theorem dX9_turn_0 : decode cX9_turn 0 = .ok (.iload_n 1, 1) := by decide +kernel
theorem dX9_turn_1 : decode cX9_turn 1 = .ok (.aload_n 0, 1) := by decide +kernel
theorem dX9_turn_2 : decode cX9_turn 2 = .ok (.getfield 13, 3) := by decide +kernel
theorem dX9_turn_5 : decode cX9_turn 5 = .ok (.iconst 0, 1) := by decide +kernel
theorem dX9_turn_6 : decode cX9_turn 6 = .ok (.iaload, 1) := by decide +kernel
theorem dX9_turn_7 : decode cX9_turn 7 = .ok (.irem, 1) := by decide +kernel
theorem dX9_turn_8 : decode cX9_turn 8 = .ok (.istore_n 2, 1) := by decide +kernel
theorem dX9_turn_9 : decode cX9_turn 9 = .ok (.aload_n 0, 1) := by decide +kernel
theorem dX9_turn_10 : decode cX9_turn 10 = .ok (.getfield 19, 3) := by decide +kernel
theorem dX9_turn_13 : decode cX9_turn 13 = .ok (.iload_n 2, 1) := by decide +kernel
theorem dX9_turn_14 : decode cX9_turn 14 = .ok (.iaload, 1) := by decide +kernel
theorem dX9_turn_15 : decode cX9_turn 15 = .ok (.ifCond .ne 21, 3) := by decide +kernel
theorem dX9_turn_18 : decode cX9_turn 18 = .ok (.aload_n 0, 1) := by decide +kernel
theorem dX9_turn_19 : decode cX9_turn 19 = .ok (.invokevirtual 167, 3) := by decide +kernel
theorem dX9_turn_22 : decode cX9_turn 22 = .ok (.bipush (-4), 2) := by decide +kernel
theorem dX9_turn_24 : decode cX9_turn 24 = .ok (.if_icmp .eq 12, 3) := by decide +kernel
theorem dX9_turn_27 : decode cX9_turn 27 = .ok (.aload_n 0, 1) := by decide +kernel
theorem dX9_turn_28 : decode cX9_turn 28 = .ok (.aload_n 0, 1) := by decide +kernel
theorem dX9_turn_29 : decode cX9_turn 29 = .ok (.invokevirtual 167, 3) := by decide +kernel
theorem dX9_turn_32 : decode cX9_turn 32 = .ok (.iload_n 2, 1) := by decide +kernel
theorem dX9_turn_33 : decode cX9_turn 33 = .ok (.invokevirtual 118, 3) := by decide +kernel
theorem dX9_turn_36 : decode cX9_turn 36 = .ok (.iload_n 1, 1) := by decide +kernel
theorem dX9_turn_37 : decode cX9_turn 37 = .ok (.bipush 8, 2) := by decide +kernel
theorem dX9_turn_39 : decode cX9_turn 39 = .ok (.idiv, 1) := by decide +kernel
theorem dX9_turn_40 : decode cX9_turn 40 = .ok (.iconst 3, 1) := by decide +kernel
theorem dX9_turn_41 : decode cX9_turn 41 = .ok (.irem, 1) := by decide +kernel
theorem dX9_turn_42 : decode cX9_turn 42 = .ok (.ifCond .ne 37, 3) := by decide +kernel
theorem dX9_turn_45 : decode cX9_turn 45 = .ok (.aload_n 0, 1) := by decide +kernel
theorem dX9_turn_46 : decode cX9_turn 46 = .ok (.invokevirtual 140, 3) := by decide +kernel
theorem dX9_turn_49 : decode cX9_turn 49 = .ok (.bipush (-4), 2) := by decide +kernel
theorem dX9_turn_51 : decode cX9_turn 51 = .ok (.if_icmp .eq 28, 3) := by decide +kernel
theorem dX9_turn_54 : decode cX9_turn 54 = .ok (.aload_n 0, 1) := by decide +kernel
theorem dX9_turn_55 : decode cX9_turn 55 = .ok (.invokevirtual 128, 3) := by decide +kernel
theorem dX9_turn_58 : decode cX9_turn 58 = .ok (.iconst 1, 1) := by decide +kernel
theorem dX9_turn_59 : decode cX9_turn 59 = .ok (.if_icmp .le 20, 3) := by decide +kernel
theorem dX9_turn_62 : decode cX9_turn 62 = .ok (.aload_n 0, 1) := by decide +kernel
theorem dX9_turn_63 : decode cX9_turn 63 = .ok (.iconst 2, 1) := by decide +kernel
theorem dX9_turn_64 : decode cX9_turn 64 = .ok (.invokevirtual 131, 3) := by decide +kernel
theorem dX9_turn_67 : decode cX9_turn 67 = .ok (.ifCond .le 12, 3) := by decide +kernel
theorem dX9_turn_70 : decode cX9_turn 70 = .ok (.aload_n 0, 1) := by decide +kernel
theorem dX9_turn_71 : decode cX9_turn 71 = .ok (.aload_n 0, 1) := by decide +kernel
theorem dX9_turn_72 : decode cX9_turn 72 = .ok (.invokevirtual 140, 3) := by decide +kernel
theorem dX9_turn_75 : decode cX9_turn 75 = .ok (.invokevirtual 134, 3) := by decide +kernel
theorem dX9_turn_78 : decode cX9_turn 78 = .ok (.pop, 1) := by decide +kernel
theorem dX9_turn_79 : decode cX9_turn 79 = .ok (.aload_n 0, 1) := by decide +kernel
theorem dX9_turn_80 : decode cX9_turn 80 = .ok (.invokevirtual 137, 3) := by decide +kernel
theorem dX9_turn_83 : decode cX9_turn 83 = .ok (.ireturn, 1) := by decide +kernel
theorem dX9_morning_0 : decode cX9_morning 0 = .ok (.iload_n 1, 1) := by decide +kernel
theorem dX9_morning_1 : decode cX9_morning 1 = .ok (.iconst 0, 1) := by decide +kernel
theorem dX9_morning_2 : decode cX9_morning 2 = .ok (.sipush 9999, 3) := by decide +kernel
theorem dX9_morning_5 : decode cX9_morning 5 = .ok (.invokestatic 50, 3) := by decide +kernel
theorem dX9_morning_8 : decode cX9_morning 8 = .ok (.ifCond .eq 22, 3) := by decide +kernel
theorem dX9_morning_11 : decode cX9_morning 11 = .ok (.iload_n 2, 1) := by decide +kernel
theorem dX9_morning_12 : decode cX9_morning 12 = .ok (.iconst 1, 1) := by decide +kernel
theorem dX9_morning_13 : decode cX9_morning 13 = .ok (.bipush 60, 2) := by decide +kernel
theorem dX9_morning_15 : decode cX9_morning 15 = .ok (.invokestatic 50, 3) := by decide +kernel
theorem dX9_morning_18 : decode cX9_morning 18 = .ok (.ifCond .eq 12, 3) := by decide +kernel
theorem dX9_morning_21 : decode cX9_morning 21 = .ok (.iload_n 3, 1) := by decide +kernel
theorem dX9_morning_22 : decode cX9_morning 22 = .ok (.iconst 0, 1) := by decide +kernel
theorem dX9_morning_23 : decode cX9_morning 23 = .ok (.iconst 1, 1) := by decide +kernel
theorem dX9_morning_24 : decode cX9_morning 24 = .ok (.invokestatic 50, 3) := by decide +kernel
theorem dX9_morning_27 : decode cX9_morning 27 = .ok (.ifCond .ne 5, 3) := by decide +kernel
theorem dX9_morning_30 : decode cX9_morning 30 = .ok (.iconst (-1), 1) := by decide +kernel
theorem dX9_morning_31 : decode cX9_morning 31 = .ok (.ireturn, 1) := by decide +kernel
theorem dX9_morning_32 : decode cX9_morning 32 = .ok (.aload_n 0, 1) := by decide +kernel
theorem dX9_morning_33 : decode cX9_morning 33 = .ok (.invokevirtual 158, 3) := by decide +kernel
theorem dX9_morning_36 : decode cX9_morning 36 = .ok (.iconst 0, 1) := by decide +kernel
theorem dX9_morning_37 : decode cX9_morning 37 = .ok (.istore 4, 2) := by decide +kernel
theorem dX9_morning_39 : decode cX9_morning 39 = .ok (.iconst 0, 1) := by decide +kernel
theorem dX9_morning_40 : decode cX9_morning 40 = .ok (.istore 5, 2) := by decide +kernel
theorem dX9_morning_42 : decode cX9_morning 42 = .ok (.iload 5, 2) := by decide +kernel
theorem dX9_morning_44 : decode cX9_morning 44 = .ok (.iload_n 2, 1) := by decide +kernel
theorem dX9_morning_45 : decode cX9_morning 45 = .ok (.if_icmp .ge 48, 3) := by decide +kernel
theorem dX9_morning_48 : decode cX9_morning 48 = .ok (.ldc2_w 173, 3) := by decide +kernel
theorem dX9_morning_51 : decode cX9_morning 51 = .ok (.iload_n 1, 1) := by decide +kernel
theorem dX9_morning_52 : decode cX9_morning 52 = .ok (.i2l, 1) := by decide +kernel
theorem dX9_morning_53 : decode cX9_morning 53 = .ok (.lmul, 1) := by decide +kernel
theorem dX9_morning_54 : decode cX9_morning 54 = .ok (.ldc2_w 175, 3) := by decide +kernel
theorem dX9_morning_57 : decode cX9_morning 57 = .ok (.iload 5, 2) := by decide +kernel
theorem dX9_morning_59 : decode cX9_morning 59 = .ok (.i2l, 1) := by decide +kernel
theorem dX9_morning_60 : decode cX9_morning 60 = .ok (.lmul, 1) := by decide +kernel
theorem dX9_morning_61 : decode cX9_morning 61 = .ok (.ladd, 1) := by decide +kernel
theorem dX9_morning_62 : decode cX9_morning 62 = .ok (.lconst 1, 1) := by decide +kernel
theorem dX9_morning_63 : decode cX9_morning 63 = .ok (.ladd, 1) := by decide +kernel
theorem dX9_morning_64 : decode cX9_morning 64 = .ok (.lstore 6, 2) := by decide +kernel
theorem dX9_morning_66 : decode cX9_morning 66 = .ok (.iload 4, 2) := by decide +kernel
theorem dX9_morning_68 : decode cX9_morning 68 = .ok (.aload_n 0, 1) := by decide +kernel
theorem dX9_morning_69 : decode cX9_morning 69 = .ok (.lload 6, 2) := by decide +kernel
theorem dX9_morning_71 : decode cX9_morning 71 = .ok (.lload 6, 2) := by decide +kernel
theorem dX9_morning_73 : decode cX9_morning 73 = .ok (.lmul, 1) := by decide +kernel
theorem dX9_morning_74 : decode cX9_morning 74 = .ok (.ldc2_w 177, 3) := by decide +kernel
theorem dX9_morning_77 : decode cX9_morning 77 = .ok (.lrem, 1) := by decide +kernel
theorem dX9_morning_78 : decode cX9_morning 78 = .ok (.l2i, 1) := by decide +kernel
theorem dX9_morning_79 : decode cX9_morning 79 = .ok (.iconst 2, 1) := by decide +kernel
theorem dX9_morning_80 : decode cX9_morning 80 = .ok (.idiv, 1) := by decide +kernel
theorem dX9_morning_81 : decode cX9_morning 81 = .ok (.invokevirtual 179, 3) := by decide +kernel
theorem dX9_morning_84 : decode cX9_morning 84 = .ok (.iadd, 1) := by decide +kernel
theorem dX9_morning_85 : decode cX9_morning 85 = .ok (.istore 4, 2) := by decide +kernel
theorem dX9_morning_87 : decode cX9_morning 87 = .ok (.iinc 5 1, 3) := by decide +kernel
theorem dX9_morning_90 : decode cX9_morning 90 = .ok (.goto (-48), 3) := by decide +kernel
theorem dX9_morning_93 : decode cX9_morning 93 = .ok (.iconst 0, 1) := by decide +kernel
theorem dX9_morning_94 : decode cX9_morning 94 = .ok (.istore 5, 2) := by decide +kernel
theorem dX9_morning_96 : decode cX9_morning 96 = .ok (.iconst 0, 1) := by decide +kernel
theorem dX9_morning_97 : decode cX9_morning 97 = .ok (.istore 6, 2) := by decide +kernel
theorem dX9_morning_99 : decode cX9_morning 99 = .ok (.iload 6, 2) := by decide +kernel
theorem dX9_morning_101 : decode cX9_morning 101 = .ok (.aload_n 0, 1) := by decide +kernel
theorem dX9_morning_102 : decode cX9_morning 102 = .ok (.getfield 13, 3) := by decide +kernel
theorem dX9_morning_105 : decode cX9_morning 105 = .ok (.iconst 0, 1) := by decide +kernel
theorem dX9_morning_106 : decode cX9_morning 106 = .ok (.iaload, 1) := by decide +kernel
theorem dX9_morning_107 : decode cX9_morning 107 = .ok (.if_icmp .ge 33, 3) := by decide +kernel
theorem dX9_morning_110 : decode cX9_morning 110 = .ok (.iload 5, 2) := by decide +kernel
theorem dX9_morning_112 : decode cX9_morning 112 = .ok (.aload_n 0, 1) := by decide +kernel
theorem dX9_morning_113 : decode cX9_morning 113 = .ok (.getfield 19, 3) := by decide +kernel
theorem dX9_morning_116 : decode cX9_morning 116 = .ok (.iload 6, 2) := by decide +kernel
theorem dX9_morning_118 : decode cX9_morning 118 = .ok (.iaload, 1) := by decide +kernel
theorem dX9_morning_119 : decode cX9_morning 119 = .ok (.iconst 3, 1) := by decide +kernel
theorem dX9_morning_120 : decode cX9_morning 120 = .ok (.if_icmp .ne 10, 3) := by decide +kernel
theorem dX9_morning_123 : decode cX9_morning 123 = .ok (.iconst 1, 1) := by decide +kernel
theorem dX9_morning_124 : decode cX9_morning 124 = .ok (.iload 6, 2) := by decide +kernel
theorem dX9_morning_126 : decode cX9_morning 126 = .ok (.ishl, 1) := by decide +kernel
theorem dX9_morning_127 : decode cX9_morning 127 = .ok (.goto 4, 3) := by decide +kernel
theorem dX9_morning_130 : decode cX9_morning 130 = .ok (.iconst 0, 1) := by decide +kernel
theorem dX9_morning_131 : decode cX9_morning 131 = .ok (.ior, 1) := by decide +kernel
theorem dX9_morning_132 : decode cX9_morning 132 = .ok (.istore 5, 2) := by decide +kernel
theorem dX9_morning_134 : decode cX9_morning 134 = .ok (.iinc 6 1, 3) := by decide +kernel
theorem dX9_morning_137 : decode cX9_morning 137 = .ok (.goto (-38), 3) := by decide +kernel
theorem dX9_morning_140 : decode cX9_morning 140 = .ok (.aload_n 0, 1) := by decide +kernel
theorem dX9_morning_141 : decode cX9_morning 141 = .ok (.invokevirtual 155, 3) := by decide +kernel
theorem dX9_morning_144 : decode cX9_morning 144 = .ok (.iload_n 3, 1) := by decide +kernel
theorem dX9_morning_145 : decode cX9_morning 145 = .ok (.ifCond .ne 8, 3) := by decide +kernel
theorem dX9_morning_148 : decode cX9_morning 148 = .ok (.iload 5, 2) := by decide +kernel
theorem dX9_morning_150 : decode cX9_morning 150 = .ok (.goto 5, 3) := by decide +kernel
theorem dX9_morning_153 : decode cX9_morning 153 = .ok (.iload 4, 2) := by decide +kernel
theorem dX9_morning_155 : decode cX9_morning 155 = .ok (.ireturn, 1) := by decide +kernel
theorem dX9_keep_0 : decode cX9_keep 0 = .ok (.aload_n 0, 1) := by decide +kernel
theorem dX9_keep_1 : decode cX9_keep 1 = .ok (.getfield 90, 3) := by decide +kernel
theorem dX9_keep_4 : decode cX9_keep 4 = .ok (.iconst 2, 1) := by decide +kernel
theorem dX9_keep_5 : decode cX9_keep 5 = .ok (.if_icmp .ne 6, 3) := by decide +kernel
theorem dX9_keep_8 : decode cX9_keep 8 = .ok (.bipush (-3), 2) := by decide +kernel
theorem dX9_keep_10 : decode cX9_keep 10 = .ok (.ireturn, 1) := by decide +kernel
theorem dX9_keep_11 : decode cX9_keep 11 = .ok (.iconst 0, 1) := by decide +kernel
theorem dX9_keep_12 : decode cX9_keep 12 = .ok (.istore_n 1, 1) := by decide +kernel
theorem dX9_keep_13 : decode cX9_keep 13 = .ok (.iload_n 1, 1) := by decide +kernel
theorem dX9_keep_14 : decode cX9_keep 14 = .ok (.bipush 29, 2) := by decide +kernel
theorem dX9_keep_16 : decode cX9_keep 16 = .ok (.if_icmp .ge 29, 3) := by decide +kernel
theorem dX9_keep_19 : decode cX9_keep 19 = .ok (.aload_n 0, 1) := by decide +kernel
theorem dX9_keep_20 : decode cX9_keep 20 = .ok (.getfield 25, 3) := by decide +kernel
theorem dX9_keep_23 : decode cX9_keep 23 = .ok (.bipush 29, 2) := by decide +kernel
theorem dX9_keep_25 : decode cX9_keep 25 = .ok (.aload_n 0, 1) := by decide +kernel
theorem dX9_keep_26 : decode cX9_keep 26 = .ok (.getfield 90, 3) := by decide +kernel
theorem dX9_keep_29 : decode cX9_keep 29 = .ok (.imul, 1) := by decide +kernel
theorem dX9_keep_30 : decode cX9_keep 30 = .ok (.iload_n 1, 1) := by decide +kernel
theorem dX9_keep_31 : decode cX9_keep 31 = .ok (.iadd, 1) := by decide +kernel
theorem dX9_keep_32 : decode cX9_keep 32 = .ok (.aload_n 0, 1) := by decide +kernel
theorem dX9_keep_33 : decode cX9_keep 33 = .ok (.getfield 19, 3) := by decide +kernel
theorem dX9_keep_36 : decode cX9_keep 36 = .ok (.iload_n 1, 1) := by decide +kernel
theorem dX9_keep_37 : decode cX9_keep 37 = .ok (.iaload, 1) := by decide +kernel
theorem dX9_keep_38 : decode cX9_keep 38 = .ok (.iastore, 1) := by decide +kernel
theorem dX9_keep_39 : decode cX9_keep 39 = .ok (.iinc 1 1, 3) := by decide +kernel
theorem dX9_keep_42 : decode cX9_keep 42 = .ok (.goto (-29), 3) := by decide +kernel
theorem dX9_keep_45 : decode cX9_keep 45 = .ok (.aload_n 0, 1) := by decide +kernel
theorem dX9_keep_46 : decode cX9_keep 46 = .ok (.dup, 1) := by decide +kernel
theorem dX9_keep_47 : decode cX9_keep 47 = .ok (.getfield 90, 3) := by decide +kernel
theorem dX9_keep_50 : decode cX9_keep 50 = .ok (.iconst 1, 1) := by decide +kernel
theorem dX9_keep_51 : decode cX9_keep 51 = .ok (.iadd, 1) := by decide +kernel
theorem dX9_keep_52 : decode cX9_keep 52 = .ok (.putfield 90, 3) := by decide +kernel
theorem dX9_keep_55 : decode cX9_keep 55 = .ok (.aload_n 0, 1) := by decide +kernel
theorem dX9_keep_56 : decode cX9_keep 56 = .ok (.getfield 90, 3) := by decide +kernel
theorem dX9_keep_59 : decode cX9_keep 59 = .ok (.ireturn, 1) := by decide +kernel
theorem dX9_back_0 : decode cX9_back 0 = .ok (.aload_n 0, 1) := by decide +kernel
theorem dX9_back_1 : decode cX9_back 1 = .ok (.getfield 90, 3) := by decide +kernel
theorem dX9_back_4 : decode cX9_back 4 = .ok (.ifCond .ne 6, 3) := by decide +kernel
theorem dX9_back_7 : decode cX9_back 7 = .ok (.bipush (-2), 2) := by decide +kernel
theorem dX9_back_9 : decode cX9_back 9 = .ok (.ireturn, 1) := by decide +kernel
theorem dX9_back_10 : decode cX9_back 10 = .ok (.aload_n 0, 1) := by decide +kernel
theorem dX9_back_11 : decode cX9_back 11 = .ok (.dup, 1) := by decide +kernel
theorem dX9_back_12 : decode cX9_back 12 = .ok (.getfield 90, 3) := by decide +kernel
theorem dX9_back_15 : decode cX9_back 15 = .ok (.iconst 1, 1) := by decide +kernel
theorem dX9_back_16 : decode cX9_back 16 = .ok (.isub, 1) := by decide +kernel
theorem dX9_back_17 : decode cX9_back 17 = .ok (.putfield 90, 3) := by decide +kernel
theorem dX9_back_20 : decode cX9_back 20 = .ok (.iconst 0, 1) := by decide +kernel
theorem dX9_back_21 : decode cX9_back 21 = .ok (.istore_n 1, 1) := by decide +kernel
theorem dX9_back_22 : decode cX9_back 22 = .ok (.iload_n 1, 1) := by decide +kernel
theorem dX9_back_23 : decode cX9_back 23 = .ok (.bipush 29, 2) := by decide +kernel
theorem dX9_back_25 : decode cX9_back 25 = .ok (.if_icmp .ge 29, 3) := by decide +kernel
theorem dX9_back_28 : decode cX9_back 28 = .ok (.aload_n 0, 1) := by decide +kernel
theorem dX9_back_29 : decode cX9_back 29 = .ok (.getfield 19, 3) := by decide +kernel
theorem dX9_back_32 : decode cX9_back 32 = .ok (.iload_n 1, 1) := by decide +kernel
theorem dX9_back_33 : decode cX9_back 33 = .ok (.aload_n 0, 1) := by decide +kernel
theorem dX9_back_34 : decode cX9_back 34 = .ok (.getfield 25, 3) := by decide +kernel
theorem dX9_back_37 : decode cX9_back 37 = .ok (.bipush 29, 2) := by decide +kernel
theorem dX9_back_39 : decode cX9_back 39 = .ok (.aload_n 0, 1) := by decide +kernel
theorem dX9_back_40 : decode cX9_back 40 = .ok (.getfield 90, 3) := by decide +kernel
theorem dX9_back_43 : decode cX9_back 43 = .ok (.imul, 1) := by decide +kernel
theorem dX9_back_44 : decode cX9_back 44 = .ok (.iload_n 1, 1) := by decide +kernel
theorem dX9_back_45 : decode cX9_back 45 = .ok (.iadd, 1) := by decide +kernel
theorem dX9_back_46 : decode cX9_back 46 = .ok (.iaload, 1) := by decide +kernel
theorem dX9_back_47 : decode cX9_back 47 = .ok (.iastore, 1) := by decide +kernel
theorem dX9_back_48 : decode cX9_back 48 = .ok (.iinc 1 1, 3) := by decide +kernel
theorem dX9_back_51 : decode cX9_back 51 = .ok (.goto (-29), 3) := by decide +kernel
theorem dX9_back_54 : decode cX9_back 54 = .ok (.aload_n 0, 1) := by decide +kernel
theorem dX9_back_55 : decode cX9_back 55 = .ok (.iconst 0, 1) := by decide +kernel
theorem dX9_back_56 : decode cX9_back 56 = .ok (.putfield 87, 3) := by decide +kernel
theorem dX9_back_59 : decode cX9_back 59 = .ok (.aload_n 0, 1) := by decide +kernel
theorem dX9_back_60 : decode cX9_back 60 = .ok (.getfield 90, 3) := by decide +kernel
theorem dX9_back_63 : decode cX9_back 63 = .ok (.ireturn, 1) := by decide +kernel
theorem dX9_count_0 : decode cX9_count 0 = .ok (.iconst 0, 1) := by decide +kernel
theorem dX9_count_1 : decode cX9_count 1 = .ok (.istore_n 2, 1) := by decide +kernel
theorem dX9_count_2 : decode cX9_count 2 = .ok (.iconst 0, 1) := by decide +kernel
theorem dX9_count_3 : decode cX9_count 3 = .ok (.istore_n 3, 1) := by decide +kernel
theorem dX9_count_4 : decode cX9_count 4 = .ok (.iload_n 3, 1) := by decide +kernel
theorem dX9_count_5 : decode cX9_count 5 = .ok (.aload_n 0, 1) := by decide +kernel
theorem dX9_count_6 : decode cX9_count 6 = .ok (.getfield 13, 3) := by decide +kernel
theorem dX9_count_9 : decode cX9_count 9 = .ok (.iconst 0, 1) := by decide +kernel
theorem dX9_count_10 : decode cX9_count 10 = .ok (.iaload, 1) := by decide +kernel
theorem dX9_count_11 : decode cX9_count 11 = .ok (.if_icmp .ge 21, 3) := by decide +kernel
theorem dX9_count_14 : decode cX9_count 14 = .ok (.iload_n 2, 1) := by decide +kernel
theorem dX9_count_15 : decode cX9_count 15 = .ok (.aload_n 0, 1) := by decide +kernel
theorem dX9_count_16 : decode cX9_count 16 = .ok (.getfield 19, 3) := by decide +kernel
theorem dX9_count_19 : decode cX9_count 19 = .ok (.bipush 12, 2) := by decide +kernel
theorem dX9_count_21 : decode cX9_count 21 = .ok (.iload_n 3, 1) := by decide +kernel
theorem dX9_count_22 : decode cX9_count 22 = .ok (.iadd, 1) := by decide +kernel
theorem dX9_count_23 : decode cX9_count 23 = .ok (.iaload, 1) := by decide +kernel
theorem dX9_count_24 : decode cX9_count 24 = .ok (.iadd, 1) := by decide +kernel
theorem dX9_count_25 : decode cX9_count 25 = .ok (.istore_n 2, 1) := by decide +kernel
theorem dX9_count_26 : decode cX9_count 26 = .ok (.iinc 3 1, 3) := by decide +kernel
theorem dX9_count_29 : decode cX9_count 29 = .ok (.goto (-25), 3) := by decide +kernel
theorem dX9_count_32 : decode cX9_count 32 = .ok (.iload_n 1, 1) := by decide +kernel
theorem dX9_count_33 : decode cX9_count 33 = .ok (.tableswitch 161 0 13 #[71, 78, 85, 93, 99, 105, 111, 117, 131, 139, 141, 146, 151, 156], 71) := by decide +kernel
theorem dX9_count_104 : decode cX9_count 104 = .ok (.aload_n 0, 1) := by decide +kernel
theorem dX9_count_105 : decode cX9_count 105 = .ok (.getfield 13, 3) := by decide +kernel
theorem dX9_count_108 : decode cX9_count 108 = .ok (.iconst 0, 1) := by decide +kernel
theorem dX9_count_109 : decode cX9_count 109 = .ok (.iaload, 1) := by decide +kernel
theorem dX9_count_110 : decode cX9_count 110 = .ok (.ireturn, 1) := by decide +kernel
theorem dX9_count_111 : decode cX9_count 111 = .ok (.aload_n 0, 1) := by decide +kernel
theorem dX9_count_112 : decode cX9_count 112 = .ok (.getfield 13, 3) := by decide +kernel
theorem dX9_count_115 : decode cX9_count 115 = .ok (.iconst 1, 1) := by decide +kernel
theorem dX9_count_116 : decode cX9_count 116 = .ok (.iaload, 1) := by decide +kernel
theorem dX9_count_117 : decode cX9_count 117 = .ok (.ireturn, 1) := by decide +kernel
theorem dX9_count_118 : decode cX9_count 118 = .ok (.aload_n 0, 1) := by decide +kernel
theorem dX9_count_119 : decode cX9_count 119 = .ok (.getfield 19, 3) := by decide +kernel
theorem dX9_count_122 : decode cX9_count 122 = .ok (.bipush 28, 2) := by decide +kernel
theorem dX9_count_124 : decode cX9_count 124 = .ok (.iaload, 1) := by decide +kernel
theorem dX9_count_125 : decode cX9_count 125 = .ok (.ireturn, 1) := by decide +kernel
theorem dX9_count_126 : decode cX9_count 126 = .ok (.aload_n 0, 1) := by decide +kernel
theorem dX9_count_127 : decode cX9_count 127 = .ok (.iconst 0, 1) := by decide +kernel
theorem dX9_count_128 : decode cX9_count 128 = .ok (.invokevirtual 131, 3) := by decide +kernel
theorem dX9_count_131 : decode cX9_count 131 = .ok (.ireturn, 1) := by decide +kernel
theorem dX9_count_132 : decode cX9_count 132 = .ok (.aload_n 0, 1) := by decide +kernel
theorem dX9_count_133 : decode cX9_count 133 = .ok (.iconst 1, 1) := by decide +kernel
theorem dX9_count_134 : decode cX9_count 134 = .ok (.invokevirtual 131, 3) := by decide +kernel
theorem dX9_count_137 : decode cX9_count 137 = .ok (.ireturn, 1) := by decide +kernel
theorem dX9_count_138 : decode cX9_count 138 = .ok (.aload_n 0, 1) := by decide +kernel
theorem dX9_count_139 : decode cX9_count 139 = .ok (.iconst 2, 1) := by decide +kernel
theorem dX9_count_140 : decode cX9_count 140 = .ok (.invokevirtual 131, 3) := by decide +kernel
theorem dX9_count_143 : decode cX9_count 143 = .ok (.ireturn, 1) := by decide +kernel
theorem dX9_count_144 : decode cX9_count 144 = .ok (.aload_n 0, 1) := by decide +kernel
theorem dX9_count_145 : decode cX9_count 145 = .ok (.iconst 3, 1) := by decide +kernel
theorem dX9_count_146 : decode cX9_count 146 = .ok (.invokevirtual 131, 3) := by decide +kernel
theorem dX9_count_149 : decode cX9_count 149 = .ok (.ireturn, 1) := by decide +kernel
theorem dX9_count_150 : decode cX9_count 150 = .ok (.aload_n 0, 1) := by decide +kernel
theorem dX9_count_151 : decode cX9_count 151 = .ok (.bipush 18, 2) := by decide +kernel
theorem dX9_count_153 : decode cX9_count 153 = .ok (.aload_n 0, 1) := by decide +kernel
theorem dX9_count_154 : decode cX9_count 154 = .ok (.getfield 13, 3) := by decide +kernel
theorem dX9_count_157 : decode cX9_count 157 = .ok (.iconst 1, 1) := by decide +kernel
theorem dX9_count_158 : decode cX9_count 158 = .ok (.iaload, 1) := by decide +kernel
theorem dX9_count_159 : decode cX9_count 159 = .ok (.iconst 0, 1) := by decide +kernel
theorem dX9_count_160 : decode cX9_count 160 = .ok (.invokevirtual 125, 3) := by decide +kernel
theorem dX9_count_163 : decode cX9_count 163 = .ok (.ireturn, 1) := by decide +kernel
theorem dX9_count_164 : decode cX9_count 164 = .ok (.aload_n 0, 1) := by decide +kernel
theorem dX9_count_165 : decode cX9_count 165 = .ok (.getfield 19, 3) := by decide +kernel
theorem dX9_count_168 : decode cX9_count 168 = .ok (.bipush 27, 2) := by decide +kernel
theorem dX9_count_170 : decode cX9_count 170 = .ok (.iaload, 1) := by decide +kernel
theorem dX9_count_171 : decode cX9_count 171 = .ok (.ireturn, 1) := by decide +kernel
theorem dX9_count_172 : decode cX9_count 172 = .ok (.iload_n 2, 1) := by decide +kernel
theorem dX9_count_173 : decode cX9_count 173 = .ok (.ireturn, 1) := by decide +kernel
theorem dX9_count_174 : decode cX9_count 174 = .ok (.aload_n 0, 1) := by decide +kernel
theorem dX9_count_175 : decode cX9_count 175 = .ok (.getfield 93, 3) := by decide +kernel
theorem dX9_count_178 : decode cX9_count 178 = .ok (.ireturn, 1) := by decide +kernel
theorem dX9_count_179 : decode cX9_count 179 = .ok (.aload_n 0, 1) := by decide +kernel
theorem dX9_count_180 : decode cX9_count 180 = .ok (.getfield 87, 3) := by decide +kernel
theorem dX9_count_183 : decode cX9_count 183 = .ok (.ireturn, 1) := by decide +kernel
theorem dX9_count_184 : decode cX9_count 184 = .ok (.aload_n 0, 1) := by decide +kernel
theorem dX9_count_185 : decode cX9_count 185 = .ok (.getfield 90, 3) := by decide +kernel
theorem dX9_count_188 : decode cX9_count 188 = .ok (.ireturn, 1) := by decide +kernel
theorem dX9_count_189 : decode cX9_count 189 = .ok (.aload_n 0, 1) := by decide +kernel
theorem dX9_count_190 : decode cX9_count 190 = .ok (.getfield 54, 3) := by decide +kernel
theorem dX9_count_193 : decode cX9_count 193 = .ok (.ireturn, 1) := by decide +kernel
theorem dX9_count_194 : decode cX9_count 194 = .ok (.iconst (-1), 1) := by decide +kernel
theorem dX9_count_195 : decode cX9_count 195 = .ok (.ireturn, 1) := by decide +kernel
