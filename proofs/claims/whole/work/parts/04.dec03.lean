theorem dX9_why_6 : decode cX9_why 6 = .ok (.ifCond .eq 15, 3) := by decide +kernel
theorem dX9_why_9 : decode cX9_why 9 = .ok (.aload_n 0, 1) := by decide +kernel
theorem dX9_why_10 : decode cX9_why 10 = .ok (.iload_n 2, 1) := by decide +kernel
theorem dX9_why_11 : decode cX9_why 11 = .ok (.invokevirtual 193, 3) := by decide +kernel
theorem dX9_why_14 : decode cX9_why 14 = .ok (.ifCond .eq 7, 3) := by decide +kernel
theorem dX9_why_17 : decode cX9_why 17 = .ok (.iconst 1, 1) := by decide +kernel
theorem dX9_why_18 : decode cX9_why 18 = .ok (.goto 4, 3) := by decide +kernel
theorem dX9_why_21 : decode cX9_why 21 = .ok (.iconst 0, 1) := by decide +kernel
theorem dX9_why_22 : decode cX9_why 22 = .ok (.iconst 1, 1) := by decide +kernel
theorem dX9_why_23 : decode cX9_why 23 = .ok (.iconst 1, 1) := by decide +kernel
theorem dX9_why_24 : decode cX9_why 24 = .ok (.invokevirtual 179, 3) := by decide +kernel
theorem dX9_why_27 : decode cX9_why 27 = .ok (.ifCond .eq 12, 3) := by decide +kernel
theorem dX9_why_30 : decode cX9_why 30 = .ok (.aload_n 0, 1) := by decide +kernel
theorem dX9_why_31 : decode cX9_why 31 = .ok (.iload_n 1, 1) := by decide +kernel
theorem dX9_why_32 : decode cX9_why 32 = .ok (.iload_n 2, 1) := by decide +kernel
theorem dX9_why_33 : decode cX9_why 33 = .ok (.invokevirtual 243, 3) := by decide +kernel
theorem dX9_why_36 : decode cX9_why 36 = .ok (.goto 4, 3) := by decide +kernel
theorem dX9_why_39 : decode cX9_why 39 = .ok (.iconst 0, 1) := by decide +kernel
theorem dX9_why_40 : decode cX9_why 40 = .ok (.ireturn, 1) := by decide +kernel
theorem dX9_worthOf_0 : decode cX9_worthOf 0 = .ok (.iconst 0, 1) := by decide +kernel
theorem dX9_worthOf_1 : decode cX9_worthOf 1 = .ok (.istore_n 3, 1) := by decide +kernel
theorem dX9_worthOf_2 : decode cX9_worthOf 2 = .ok (.iconst 0, 1) := by decide +kernel
theorem dX9_worthOf_3 : decode cX9_worthOf 3 = .ok (.istore 4, 2) := by decide +kernel
theorem dX9_worthOf_5 : decode cX9_worthOf 5 = .ok (.iload 4, 2) := by decide +kernel
theorem dX9_worthOf_7 : decode cX9_worthOf 7 = .ok (.aload_n 0, 1) := by decide +kernel
theorem dX9_worthOf_8 : decode cX9_worthOf 8 = .ok (.getfield 162, 3) := by decide +kernel
theorem dX9_worthOf_11 : decode cX9_worthOf 11 = .ok (.if_icmp .ge 50, 3) := by decide +kernel
theorem dX9_worthOf_14 : decode cX9_worthOf 14 = .ok (.iload_n 3, 1) := by decide +kernel
theorem dX9_worthOf_15 : decode cX9_worthOf 15 = .ok (.iload 4, 2) := by decide +kernel
theorem dX9_worthOf_17 : decode cX9_worthOf 17 = .ok (.iload_n 1, 1) := by decide +kernel
theorem dX9_worthOf_18 : decode cX9_worthOf 18 = .ok (.if_icmp .eq 34, 3) := by decide +kernel
theorem dX9_worthOf_21 : decode cX9_worthOf 21 = .ok (.aload_n 0, 1) := by decide +kernel
theorem dX9_worthOf_22 : decode cX9_worthOf 22 = .ok (.getfield 19, 3) := by decide +kernel
theorem dX9_worthOf_25 : decode cX9_worthOf 25 = .ok (.iload 4, 2) := by decide +kernel
theorem dX9_worthOf_27 : decode cX9_worthOf 27 = .ok (.iaload, 1) := by decide +kernel
theorem dX9_worthOf_28 : decode cX9_worthOf 28 = .ok (.aload_n 0, 1) := by decide +kernel
theorem dX9_worthOf_29 : decode cX9_worthOf 29 = .ok (.getfield 19, 3) := by decide +kernel
theorem dX9_worthOf_32 : decode cX9_worthOf 32 = .ok (.iload_n 1, 1) := by decide +kernel
theorem dX9_worthOf_33 : decode cX9_worthOf 33 = .ok (.iaload, 1) := by decide +kernel
theorem dX9_worthOf_34 : decode cX9_worthOf 34 = .ok (.if_icmp .ne 18, 3) := by decide +kernel
theorem dX9_worthOf_37 : decode cX9_worthOf 37 = .ok (.aload_n 0, 1) := by decide +kernel
theorem dX9_worthOf_38 : decode cX9_worthOf 38 = .ok (.iload 4, 2) := by decide +kernel
theorem dX9_worthOf_40 : decode cX9_worthOf 40 = .ok (.invokevirtual 227, 3) := by decide +kernel
theorem dX9_worthOf_43 : decode cX9_worthOf 43 = .ok (.iload_n 2, 1) := by decide +kernel
theorem dX9_worthOf_44 : decode cX9_worthOf 44 = .ok (.if_icmp .ne 8, 3) := by decide +kernel
theorem dX9_worthOf_47 : decode cX9_worthOf 47 = .ok (.bipush 10, 2) := by decide +kernel
theorem dX9_worthOf_49 : decode cX9_worthOf 49 = .ok (.goto 4, 3) := by decide +kernel
theorem dX9_worthOf_52 : decode cX9_worthOf 52 = .ok (.iconst 0, 1) := by decide +kernel
theorem dX9_worthOf_53 : decode cX9_worthOf 53 = .ok (.iadd, 1) := by decide +kernel
theorem dX9_worthOf_54 : decode cX9_worthOf 54 = .ok (.istore_n 3, 1) := by decide +kernel
theorem dX9_worthOf_55 : decode cX9_worthOf 55 = .ok (.iinc 4 1, 3) := by decide +kernel
theorem dX9_worthOf_58 : decode cX9_worthOf 58 = .ok (.goto (-53), 3) := by decide +kernel
theorem dX9_worthOf_61 : decode cX9_worthOf 61 = .ok (.aload_n 0, 1) := by decide +kernel
theorem dX9_worthOf_62 : decode cX9_worthOf 62 = .ok (.getfield 62, 3) := by decide +kernel
theorem dX9_worthOf_65 : decode cX9_worthOf 65 = .ok (.bipush 10, 2) := by decide +kernel
theorem dX9_worthOf_67 : decode cX9_worthOf 67 = .ok (.iload_n 1, 1) := by decide +kernel
theorem dX9_worthOf_68 : decode cX9_worthOf 68 = .ok (.imul, 1) := by decide +kernel
theorem dX9_worthOf_69 : decode cX9_worthOf 69 = .ok (.iload_n 2, 1) := by decide +kernel
theorem dX9_worthOf_70 : decode cX9_worthOf 70 = .ok (.iadd, 1) := by decide +kernel
theorem dX9_worthOf_71 : decode cX9_worthOf 71 = .ok (.iaload, 1) := by decide +kernel
theorem dX9_worthOf_72 : decode cX9_worthOf 72 = .ok (.istore 4, 2) := by decide +kernel
theorem dX9_worthOf_74 : decode cX9_worthOf 74 = .ok (.aload_n 0, 1) := by decide +kernel
theorem dX9_worthOf_75 : decode cX9_worthOf 75 = .ok (.getfield 22, 3) := by decide +kernel
theorem dX9_worthOf_78 : decode cX9_worthOf 78 = .ok (.iload_n 1, 1) := by decide +kernel
theorem dX9_worthOf_79 : decode cX9_worthOf 79 = .ok (.iaload, 1) := by decide +kernel
theorem dX9_worthOf_80 : decode cX9_worthOf 80 = .ok (.aload_n 0, 1) := by decide +kernel
theorem dX9_worthOf_81 : decode cX9_worthOf 81 = .ok (.getfield 65, 3) := by decide +kernel
theorem dX9_worthOf_84 : decode cX9_worthOf 84 = .ok (.iload_n 2, 1) := by decide +kernel
theorem dX9_worthOf_85 : decode cX9_worthOf 85 = .ok (.iaload, 1) := by decide +kernel
theorem dX9_worthOf_86 : decode cX9_worthOf 86 = .ok (.if_icmp .ge 19, 3) := by decide +kernel
theorem dX9_worthOf_89 : decode cX9_worthOf 89 = .ok (.aload_n 0, 1) := by decide +kernel
theorem dX9_worthOf_90 : decode cX9_worthOf 90 = .ok (.getfield 65, 3) := by decide +kernel
theorem dX9_worthOf_93 : decode cX9_worthOf 93 = .ok (.iload_n 2, 1) := by decide +kernel
theorem dX9_worthOf_94 : decode cX9_worthOf 94 = .ok (.iaload, 1) := by decide +kernel
theorem dX9_worthOf_95 : decode cX9_worthOf 95 = .ok (.aload_n 0, 1) := by decide +kernel
theorem dX9_worthOf_96 : decode cX9_worthOf 96 = .ok (.getfield 22, 3) := by decide +kernel
theorem dX9_worthOf_99 : decode cX9_worthOf 99 = .ok (.iload_n 1, 1) := by decide +kernel
theorem dX9_worthOf_100 : decode cX9_worthOf 100 = .ok (.iaload, 1) := by decide +kernel
theorem dX9_worthOf_101 : decode cX9_worthOf 101 = .ok (.isub, 1) := by decide +kernel
theorem dX9_worthOf_102 : decode cX9_worthOf 102 = .ok (.goto 16, 3) := by decide +kernel
theorem dX9_worthOf_105 : decode cX9_worthOf 105 = .ok (.aload_n 0, 1) := by decide +kernel
theorem dX9_worthOf_106 : decode cX9_worthOf 106 = .ok (.getfield 22, 3) := by decide +kernel
theorem dX9_worthOf_109 : decode cX9_worthOf 109 = .ok (.iload_n 1, 1) := by decide +kernel
theorem dX9_worthOf_110 : decode cX9_worthOf 110 = .ok (.iaload, 1) := by decide +kernel
theorem dX9_worthOf_111 : decode cX9_worthOf 111 = .ok (.aload_n 0, 1) := by decide +kernel
theorem dX9_worthOf_112 : decode cX9_worthOf 112 = .ok (.getfield 65, 3) := by decide +kernel
theorem dX9_worthOf_115 : decode cX9_worthOf 115 = .ok (.iload_n 2, 1) := by decide +kernel
theorem dX9_worthOf_116 : decode cX9_worthOf 116 = .ok (.iaload, 1) := by decide +kernel
theorem dX9_worthOf_117 : decode cX9_worthOf 117 = .ok (.isub, 1) := by decide +kernel
theorem dX9_worthOf_118 : decode cX9_worthOf 118 = .ok (.istore 5, 2) := by decide +kernel
theorem dX9_worthOf_120 : decode cX9_worthOf 120 = .ok (.iload_n 3, 1) := by decide +kernel
theorem dX9_worthOf_121 : decode cX9_worthOf 121 = .ok (.aload_n 0, 1) := by decide +kernel
theorem dX9_worthOf_122 : decode cX9_worthOf 122 = .ok (.getfield 25, 3) := by decide +kernel
theorem dX9_worthOf_125 : decode cX9_worthOf 125 = .ok (.iload_n 1, 1) := by decide +kernel
theorem dX9_worthOf_126 : decode cX9_worthOf 126 = .ok (.iaload, 1) := by decide +kernel
theorem dX9_worthOf_127 : decode cX9_worthOf 127 = .ok (.aload_n 0, 1) := by decide +kernel
theorem dX9_worthOf_128 : decode cX9_worthOf 128 = .ok (.getfield 68, 3) := by decide +kernel
theorem dX9_worthOf_131 : decode cX9_worthOf 131 = .ok (.iload_n 2, 1) := by decide +kernel
theorem dX9_worthOf_132 : decode cX9_worthOf 132 = .ok (.iaload, 1) := by decide +kernel
theorem dX9_worthOf_133 : decode cX9_worthOf 133 = .ok (.if_icmp .ne 8, 3) := by decide +kernel
theorem dX9_worthOf_136 : decode cX9_worthOf 136 = .ok (.bipush 6, 2) := by decide +kernel
theorem dX9_worthOf_138 : decode cX9_worthOf 138 = .ok (.goto 4, 3) := by decide +kernel
theorem dX9_worthOf_141 : decode cX9_worthOf 141 = .ok (.iconst 0, 1) := by decide +kernel
theorem dX9_worthOf_142 : decode cX9_worthOf 142 = .ok (.iadd, 1) := by decide +kernel
theorem dX9_worthOf_143 : decode cX9_worthOf 143 = .ok (.iload 4, 2) := by decide +kernel
theorem dX9_worthOf_145 : decode cX9_worthOf 145 = .ok (.ifCond .ne 7, 3) := by decide +kernel
theorem dX9_worthOf_148 : decode cX9_worthOf 148 = .ok (.iconst 0, 1) := by decide +kernel
theorem dX9_worthOf_149 : decode cX9_worthOf 149 = .ok (.goto 16, 3) := by decide +kernel
theorem dX9_worthOf_152 : decode cX9_worthOf 152 = .ok (.iload 4, 2) := by decide +kernel
theorem dX9_worthOf_154 : decode cX9_worthOf 154 = .ok (.iconst 1, 1) := by decide +kernel
theorem dX9_worthOf_155 : decode cX9_worthOf 155 = .ok (.if_icmp .ne 8, 3) := by decide +kernel
theorem dX9_worthOf_158 : decode cX9_worthOf 158 = .ok (.bipush 8, 2) := by decide +kernel
theorem dX9_worthOf_160 : decode cX9_worthOf 160 = .ok (.goto 5, 3) := by decide +kernel
theorem dX9_worthOf_163 : decode cX9_worthOf 163 = .ok (.bipush (-8), 2) := by decide +kernel
theorem dX9_worthOf_165 : decode cX9_worthOf 165 = .ok (.iadd, 1) := by decide +kernel
theorem dX9_worthOf_166 : decode cX9_worthOf 166 = .ok (.iload 5, 2) := by decide +kernel
theorem dX9_worthOf_168 : decode cX9_worthOf 168 = .ok (.iconst 5, 1) := by decide +kernel
theorem dX9_worthOf_169 : decode cX9_worthOf 169 = .ok (.idiv, 1) := by decide +kernel
theorem dX9_worthOf_170 : decode cX9_worthOf 170 = .ok (.isub, 1) := by decide +kernel
theorem dX9_worthOf_171 : decode cX9_worthOf 171 = .ok (.ireturn, 1) := by decide +kernel
theorem dX9_worth_0 : decode cX9_worth 0 = .ok (.aload_n 0, 1) := by decide +kernel
theorem dX9_worth_1 : decode cX9_worth 1 = .ok (.aload_n 0, 1) := by decide +kernel
theorem dX9_worth_2 : decode cX9_worth 2 = .ok (.iload_n 1, 1) := by decide +kernel
theorem dX9_worth_3 : decode cX9_worth 3 = .ok (.invokevirtual 208, 3) := by decide +kernel
theorem dX9_worth_6 : decode cX9_worth 6 = .ok (.ifCond .eq 15, 3) := by decide +kernel
theorem dX9_worth_9 : decode cX9_worth 9 = .ok (.aload_n 0, 1) := by decide +kernel
theorem dX9_worth_10 : decode cX9_worth 10 = .ok (.iload_n 2, 1) := by decide +kernel
theorem dX9_worth_11 : decode cX9_worth 11 = .ok (.invokevirtual 193, 3) := by decide +kernel
theorem dX9_worth_14 : decode cX9_worth 14 = .ok (.ifCond .eq 7, 3) := by decide +kernel
theorem dX9_worth_17 : decode cX9_worth 17 = .ok (.iconst 1, 1) := by decide +kernel
theorem dX9_worth_18 : decode cX9_worth 18 = .ok (.goto 4, 3) := by decide +kernel
theorem dX9_worth_21 : decode cX9_worth 21 = .ok (.iconst 0, 1) := by decide +kernel
theorem dX9_worth_22 : decode cX9_worth 22 = .ok (.iconst 1, 1) := by decide +kernel
theorem dX9_worth_23 : decode cX9_worth 23 = .ok (.iconst 1, 1) := by decide +kernel
theorem dX9_worth_24 : decode cX9_worth 24 = .ok (.invokevirtual 179, 3) := by decide +kernel
theorem dX9_worth_27 : decode cX9_worth 27 = .ok (.ifCond .eq 12, 3) := by decide +kernel
theorem dX9_worth_30 : decode cX9_worth 30 = .ok (.aload_n 0, 1) := by decide +kernel
theorem dX9_worth_31 : decode cX9_worth 31 = .ok (.iload_n 1, 1) := by decide +kernel
theorem dX9_worth_32 : decode cX9_worth 32 = .ok (.iload_n 2, 1) := by decide +kernel
theorem dX9_worth_33 : decode cX9_worth 33 = .ok (.invokevirtual 246, 3) := by decide +kernel
theorem dX9_worth_36 : decode cX9_worth 36 = .ok (.goto 4, 3) := by decide +kernel
theorem dX9_worth_39 : decode cX9_worth 39 = .ok (.iconst 0, 1) := by decide +kernel
theorem dX9_worth_40 : decode cX9_worth 40 = .ok (.ireturn, 1) := by decide +kernel
theorem dX9_best_0 : decode cX9_best 0 = .ok (.aload_n 0, 1) := by decide +kernel
theorem dX9_best_1 : decode cX9_best 1 = .ok (.aload_n 0, 1) := by decide +kernel
theorem dX9_best_2 : decode cX9_best 2 = .ok (.iload_n 1, 1) := by decide +kernel
theorem dX9_best_3 : decode cX9_best 3 = .ok (.invokevirtual 208, 3) := by decide +kernel
theorem dX9_best_6 : decode cX9_best 6 = .ok (.iconst 1, 1) := by decide +kernel
theorem dX9_best_7 : decode cX9_best 7 = .ok (.iconst 1, 1) := by decide +kernel
theorem dX9_best_8 : decode cX9_best 8 = .ok (.invokevirtual 179, 3) := by decide +kernel
theorem dX9_best_11 : decode cX9_best 11 = .ok (.ifCond .ne 5, 3) := by decide +kernel
theorem dX9_best_14 : decode cX9_best 14 = .ok (.iconst 0, 1) := by decide +kernel
theorem dX9_best_15 : decode cX9_best 15 = .ok (.ireturn, 1) := by decide +kernel
theorem dX9_best_16 : decode cX9_best 16 = .ok (.iconst (-1), 1) := by decide +kernel
theorem dX9_best_17 : decode cX9_best 17 = .ok (.istore_n 2, 1) := by decide +kernel
theorem dX9_best_18 : decode cX9_best 18 = .ok (.iconst 0, 1) := by decide +kernel
theorem dX9_best_19 : decode cX9_best 19 = .ok (.istore_n 3, 1) := by decide +kernel
theorem dX9_best_20 : decode cX9_best 20 = .ok (.iload_n 3, 1) := by decide +kernel
theorem dX9_best_21 : decode cX9_best 21 = .ok (.aload_n 0, 1) := by decide +kernel
theorem dX9_best_22 : decode cX9_best 22 = .ok (.getfield 169, 3) := by decide +kernel
theorem dX9_best_25 : decode cX9_best 25 = .ok (.if_icmp .ge 44, 3) := by decide +kernel
theorem dX9_best_28 : decode cX9_best 28 = .ok (.aload_n 0, 1) := by decide +kernel
theorem dX9_best_29 : decode cX9_best 29 = .ok (.iload_n 1, 1) := by decide +kernel
theorem dX9_best_30 : decode cX9_best 30 = .ok (.iload_n 3, 1) := by decide +kernel
theorem dX9_best_31 : decode cX9_best 31 = .ok (.invokevirtual 243, 3) := by decide +kernel
theorem dX9_best_34 : decode cX9_best 34 = .ok (.ifCond .ne 27, 3) := by decide +kernel
theorem dX9_best_37 : decode cX9_best 37 = .ok (.iload_n 2, 1) := by decide +kernel
theorem dX9_best_38 : decode cX9_best 38 = .ok (.iconst (-1), 1) := by decide +kernel
theorem dX9_best_39 : decode cX9_best 39 = .ok (.if_icmp .eq 18, 3) := by decide +kernel
theorem dX9_best_42 : decode cX9_best 42 = .ok (.aload_n 0, 1) := by decide +kernel
theorem dX9_best_43 : decode cX9_best 43 = .ok (.iload_n 1, 1) := by decide +kernel
theorem dX9_best_44 : decode cX9_best 44 = .ok (.iload_n 3, 1) := by decide +kernel
theorem dX9_best_45 : decode cX9_best 45 = .ok (.invokevirtual 246, 3) := by decide +kernel
theorem dX9_best_48 : decode cX9_best 48 = .ok (.aload_n 0, 1) := by decide +kernel
theorem dX9_best_49 : decode cX9_best 49 = .ok (.iload_n 1, 1) := by decide +kernel
theorem dX9_best_50 : decode cX9_best 50 = .ok (.iload_n 2, 1) := by decide +kernel
theorem dX9_best_51 : decode cX9_best 51 = .ok (.invokevirtual 246, 3) := by decide +kernel
theorem dX9_best_54 : decode cX9_best 54 = .ok (.if_icmp .le 7, 3) := by decide +kernel
theorem dX9_best_57 : decode cX9_best 57 = .ok (.iload_n 3, 1) := by decide +kernel
theorem dX9_best_58 : decode cX9_best 58 = .ok (.goto 4, 3) := by decide +kernel
theorem dX9_best_61 : decode cX9_best 61 = .ok (.iload_n 2, 1) := by decide +kernel
theorem dX9_best_62 : decode cX9_best 62 = .ok (.istore_n 2, 1) := by decide +kernel
theorem dX9_best_63 : decode cX9_best 63 = .ok (.iinc 3 1, 3) := by decide +kernel
theorem dX9_best_66 : decode cX9_best 66 = .ok (.goto (-46), 3) := by decide +kernel
theorem dX9_best_69 : decode cX9_best 69 = .ok (.iload_n 2, 1) := by decide +kernel
theorem dX9_best_70 : decode cX9_best 70 = .ok (.ireturn, 1) := by decide +kernel
theorem dX9_ends_0 : decode cX9_ends 0 = .ok (.aload_n 0, 1) := by decide +kernel
theorem dX9_ends_1 : decode cX9_ends 1 = .ok (.getfield 34, 3) := by decide +kernel
theorem dX9_ends_4 : decode cX9_ends 4 = .ok (.iload_n 1, 1) := by decide +kernel
theorem dX9_ends_5 : decode cX9_ends 5 = .ok (.iaload, 1) := by decide +kernel
theorem dX9_ends_6 : decode cX9_ends 6 = .ok (.iconst (-1), 1) := by decide +kernel
theorem dX9_ends_7 : decode cX9_ends 7 = .ok (.if_icmp .eq 25, 3) := by decide +kernel
theorem dX9_ends_10 : decode cX9_ends 10 = .ok (.aload_n 0, 1) := by decide +kernel
theorem dX9_ends_11 : decode cX9_ends 11 = .ok (.getfield 134, 3) := by decide +kernel
theorem dX9_ends_14 : decode cX9_ends 14 = .ok (.aload_n 0, 1) := by decide +kernel
theorem dX9_ends_15 : decode cX9_ends 15 = .ok (.getfield 34, 3) := by decide +kernel
theorem dX9_ends_18 : decode cX9_ends 18 = .ok (.iload_n 1, 1) := by decide +kernel
theorem dX9_ends_19 : decode cX9_ends 19 = .ok (.iaload, 1) := by decide +kernel
theorem dX9_ends_20 : decode cX9_ends 20 = .ok (.aload_n 0, 1) := by decide +kernel
theorem dX9_ends_21 : decode cX9_ends 21 = .ok (.getfield 187, 3) := by decide +kernel
theorem dX9_ends_24 : decode cX9_ends 24 = .ok (.iastore, 1) := by decide +kernel
theorem dX9_ends_25 : decode cX9_ends 25 = .ok (.aload_n 0, 1) := by decide +kernel
theorem dX9_ends_26 : decode cX9_ends 26 = .ok (.getfield 34, 3) := by decide +kernel
theorem dX9_ends_29 : decode cX9_ends 29 = .ok (.iload_n 1, 1) := by decide +kernel
theorem dX9_ends_30 : decode cX9_ends 30 = .ok (.iconst (-1), 1) := by decide +kernel
theorem dX9_ends_31 : decode cX9_ends 31 = .ok (.iastore, 1) := by decide +kernel
theorem dX9_ends_32 : decode cX9_ends 32 = .ok (.return_, 1) := by decide +kernel
theorem dX9_begins_0 : decode cX9_begins 0 = .ok (.aload_n 0, 1) := by decide +kernel
theorem dX9_begins_1 : decode cX9_begins 1 = .ok (.iload_n 1, 1) := by decide +kernel
theorem dX9_begins_2 : decode cX9_begins 2 = .ok (.invokevirtual 249, 3) := by decide +kernel
theorem dX9_begins_5 : decode cX9_begins 5 = .ok (.aload_n 0, 1) := by decide +kernel
theorem dX9_begins_6 : decode cX9_begins 6 = .ok (.getfield 125, 3) := by decide +kernel
theorem dX9_begins_9 : decode cX9_begins 9 = .ok (.aload_n 0, 1) := by decide +kernel
theorem dX9_begins_10 : decode cX9_begins 10 = .ok (.getfield 253, 3) := by decide +kernel
theorem dX9_begins_13 : decode cX9_begins 13 = .ok (.iload_n 1, 1) := by decide +kernel
theorem dX9_begins_14 : decode cX9_begins 14 = .ok (.iastore, 1) := by decide +kernel
theorem dX9_begins_15 : decode cX9_begins 15 = .ok (.aload_n 0, 1) := by decide +kernel
theorem dX9_begins_16 : decode cX9_begins 16 = .ok (.getfield 128, 3) := by decide +kernel
theorem dX9_begins_19 : decode cX9_begins 19 = .ok (.aload_n 0, 1) := by decide +kernel
theorem dX9_begins_20 : decode cX9_begins 20 = .ok (.getfield 253, 3) := by decide +kernel
theorem dX9_begins_23 : decode cX9_begins 23 = .ok (.iload_n 2, 1) := by decide +kernel
theorem dX9_begins_24 : decode cX9_begins 24 = .ok (.iastore, 1) := by decide +kernel
theorem dX9_begins_25 : decode cX9_begins 25 = .ok (.aload_n 0, 1) := by decide +kernel
theorem dX9_begins_26 : decode cX9_begins 26 = .ok (.getfield 131, 3) := by decide +kernel
theorem dX9_begins_29 : decode cX9_begins 29 = .ok (.aload_n 0, 1) := by decide +kernel
theorem dX9_begins_30 : decode cX9_begins 30 = .ok (.getfield 253, 3) := by decide +kernel
theorem dX9_begins_33 : decode cX9_begins 33 = .ok (.aload_n 0, 1) := by decide +kernel
theorem dX9_begins_34 : decode cX9_begins 34 = .ok (.getfield 187, 3) := by decide +kernel
theorem dX9_begins_37 : decode cX9_begins 37 = .ok (.iastore, 1) := by decide +kernel
theorem dX9_begins_38 : decode cX9_begins 38 = .ok (.aload_n 0, 1) := by decide +kernel
theorem dX9_begins_39 : decode cX9_begins 39 = .ok (.getfield 134, 3) := by decide +kernel
theorem dX9_begins_42 : decode cX9_begins 42 = .ok (.aload_n 0, 1) := by decide +kernel
theorem dX9_begins_43 : decode cX9_begins 43 = .ok (.getfield 253, 3) := by decide +kernel
theorem dX9_begins_46 : decode cX9_begins 46 = .ok (.iconst (-1), 1) := by decide +kernel
theorem dX9_begins_47 : decode cX9_begins 47 = .ok (.iastore, 1) := by decide +kernel
theorem dX9_begins_48 : decode cX9_begins 48 = .ok (.aload_n 0, 1) := by decide +kernel
theorem dX9_begins_49 : decode cX9_begins 49 = .ok (.getfield 137, 3) := by decide +kernel
theorem dX9_begins_52 : decode cX9_begins 52 = .ok (.aload_n 0, 1) := by decide +kernel
theorem dX9_begins_53 : decode cX9_begins 53 = .ok (.getfield 253, 3) := by decide +kernel
theorem dX9_begins_56 : decode cX9_begins 56 = .ok (.aload_n 0, 1) := by decide +kernel
theorem dX9_begins_57 : decode cX9_begins 57 = .ok (.iload_n 1, 1) := by decide +kernel
theorem dX9_begins_58 : decode cX9_begins 58 = .ok (.aload_n 0, 1) := by decide +kernel
theorem dX9_begins_59 : decode cX9_begins 59 = .ok (.getfield 187, 3) := by decide +kernel
theorem dX9_begins_62 : decode cX9_begins 62 = .ok (.invokevirtual 220, 3) := by decide +kernel
theorem dX9_begins_65 : decode cX9_begins 65 = .ok (.iastore, 1) := by decide +kernel
theorem dX9_begins_66 : decode cX9_begins 66 = .ok (.aload_n 0, 1) := by decide +kernel
theorem dX9_begins_67 : decode cX9_begins 67 = .ok (.getfield 34, 3) := by decide +kernel
theorem dX9_begins_70 : decode cX9_begins 70 = .ok (.iload_n 1, 1) := by decide +kernel
theorem dX9_begins_71 : decode cX9_begins 71 = .ok (.aload_n 0, 1) := by decide +kernel
theorem dX9_begins_72 : decode cX9_begins 72 = .ok (.getfield 253, 3) := by decide +kernel
theorem dX9_begins_75 : decode cX9_begins 75 = .ok (.iastore, 1) := by decide +kernel
theorem dX9_begins_76 : decode cX9_begins 76 = .ok (.aload_n 0, 1) := by decide +kernel
theorem dX9_begins_77 : decode cX9_begins 77 = .ok (.getfield 37, 3) := by decide +kernel
theorem dX9_begins_80 : decode cX9_begins 80 = .ok (.iload_n 1, 1) := by decide +kernel
theorem dX9_begins_81 : decode cX9_begins 81 = .ok (.dup2, 1) := by decide +kernel
theorem dX9_begins_82 : decode cX9_begins 82 = .ok (.iaload, 1) := by decide +kernel
theorem dX9_begins_83 : decode cX9_begins 83 = .ok (.iconst 1, 1) := by decide +kernel
theorem dX9_begins_84 : decode cX9_begins 84 = .ok (.iadd, 1) := by decide +kernel
theorem dX9_begins_85 : decode cX9_begins 85 = .ok (.iastore, 1) := by decide +kernel
theorem dX9_begins_86 : decode cX9_begins 86 = .ok (.aload_n 0, 1) := by decide +kernel
theorem dX9_begins_87 : decode cX9_begins 87 = .ok (.getfield 43, 3) := by decide +kernel
theorem dX9_begins_90 : decode cX9_begins 90 = .ok (.iload_n 1, 1) := by decide +kernel
theorem dX9_begins_91 : decode cX9_begins 91 = .ok (.iconst 0, 1) := by decide +kernel
theorem dX9_begins_92 : decode cX9_begins 92 = .ok (.bastore, 1) := by decide +kernel
theorem dX9_begins_93 : decode cX9_begins 93 = .ok (.aload_n 0, 1) := by decide +kernel
theorem dX9_begins_94 : decode cX9_begins 94 = .ok (.dup, 1) := by decide +kernel
theorem dX9_begins_95 : decode cX9_begins 95 = .ok (.getfield 253, 3) := by decide +kernel
theorem dX9_begins_98 : decode cX9_begins 98 = .ok (.iconst 1, 1) := by decide +kernel
theorem dX9_begins_99 : decode cX9_begins 99 = .ok (.iadd, 1) := by decide +kernel
theorem dX9_begins_100 : decode cX9_begins 100 = .ok (.putfield 253, 3) := by decide +kernel
theorem dX9_begins_103 : decode cX9_begins 103 = .ok (.aload_n 0, 1) := by decide +kernel
theorem dX9_begins_104 : decode cX9_begins 104 = .ok (.getfield 253, 3) := by decide +kernel
theorem dX9_begins_107 : decode cX9_begins 107 = .ok (.iconst 1, 1) := by decide +kernel
theorem dX9_begins_108 : decode cX9_begins 108 = .ok (.isub, 1) := by decide +kernel
theorem dX9_begins_109 : decode cX9_begins 109 = .ok (.ireturn, 1) := by decide +kernel
theorem dX9_place_0 : decode cX9_place 0 = .ok (.aload_n 0, 1) := by decide +kernel
theorem dX9_place_1 : decode cX9_place 1 = .ok (.iload_n 1, 1) := by decide +kernel
theorem dX9_place_2 : decode cX9_place 2 = .ok (.invokevirtual 208, 3) := by decide +kernel
theorem dX9_place_5 : decode cX9_place 5 = .ok (.ifCond .eq 15, 3) := by decide +kernel
theorem dX9_place_8 : decode cX9_place 8 = .ok (.aload_n 0, 1) := by decide +kernel
theorem dX9_place_9 : decode cX9_place 9 = .ok (.iload_n 2, 1) := by decide +kernel
theorem dX9_place_10 : decode cX9_place 10 = .ok (.invokevirtual 193, 3) := by decide +kernel
theorem dX9_place_13 : decode cX9_place 13 = .ok (.ifCond .eq 7, 3) := by decide +kernel
theorem dX9_place_16 : decode cX9_place 16 = .ok (.iconst 1, 1) := by decide +kernel
theorem dX9_place_17 : decode cX9_place 17 = .ok (.goto 4, 3) := by decide +kernel
theorem dX9_place_20 : decode cX9_place 20 = .ok (.iconst 0, 1) := by decide +kernel
theorem dX9_place_21 : decode cX9_place 21 = .ok (.istore_n 3, 1) := by decide +kernel
theorem dX9_place_22 : decode cX9_place 22 = .ok (.aload_n 0, 1) := by decide +kernel
theorem dX9_place_23 : decode cX9_place 23 = .ok (.iload_n 3, 1) := by decide +kernel
theorem dX9_place_24 : decode cX9_place 24 = .ok (.iload_n 3, 1) := by decide +kernel
theorem dX9_place_25 : decode cX9_place 25 = .ok (.ifCond .eq 34, 3) := by decide +kernel
theorem dX9_place_28 : decode cX9_place 28 = .ok (.aload_n 0, 1) := by decide +kernel
theorem dX9_place_29 : decode cX9_place 29 = .ok (.iload_n 1, 1) := by decide +kernel
theorem dX9_place_30 : decode cX9_place 30 = .ok (.invokevirtual 227, 3) := by decide +kernel
theorem dX9_place_33 : decode cX9_place 33 = .ok (.iload_n 2, 1) := by decide +kernel
theorem dX9_place_34 : decode cX9_place 34 = .ok (.if_icmp .eq 25, 3) := by decide +kernel
theorem dX9_place_37 : decode cX9_place 37 = .ok (.aload_n 0, 1) := by decide +kernel
theorem dX9_place_38 : decode cX9_place 38 = .ok (.iload_n 1, 1) := by decide +kernel
theorem dX9_place_39 : decode cX9_place 39 = .ok (.iload_n 2, 1) := by decide +kernel
theorem dX9_place_40 : decode cX9_place 40 = .ok (.invokevirtual 243, 3) := by decide +kernel
theorem dX9_place_43 : decode cX9_place 43 = .ok (.ifCond .ne 16, 3) := by decide +kernel
theorem dX9_place_46 : decode cX9_place 46 = .ok (.aload_n 0, 1) := by decide +kernel
theorem dX9_place_47 : decode cX9_place 47 = .ok (.getfield 253, 3) := by decide +kernel
theorem dX9_place_50 : decode cX9_place 50 = .ok (.bipush 100, 2) := by decide +kernel
theorem dX9_place_52 : decode cX9_place 52 = .ok (.if_icmp .ge 7, 3) := by decide +kernel
theorem dX9_place_55 : decode cX9_place 55 = .ok (.iconst 1, 1) := by decide +kernel
theorem dX9_place_56 : decode cX9_place 56 = .ok (.goto 4, 3) := by decide +kernel
theorem dX9_place_59 : decode cX9_place 59 = .ok (.iconst 0, 1) := by decide +kernel
theorem dX9_place_60 : decode cX9_place 60 = .ok (.iconst 1, 1) := by decide +kernel
theorem dX9_place_61 : decode cX9_place 61 = .ok (.invokevirtual 179, 3) := by decide +kernel
theorem dX9_place_64 : decode cX9_place 64 = .ok (.ifCond .ne 5, 3) := by decide +kernel
theorem dX9_place_67 : decode cX9_place 67 = .ok (.iconst 0, 1) := by decide +kernel
theorem dX9_place_68 : decode cX9_place 68 = .ok (.ireturn, 1) := by decide +kernel
theorem dX9_place_69 : decode cX9_place 69 = .ok (.aload_n 0, 1) := by decide +kernel
theorem dX9_place_70 : decode cX9_place 70 = .ok (.iload_n 1, 1) := by decide +kernel
theorem dX9_place_71 : decode cX9_place 71 = .ok (.iload_n 2, 1) := by decide +kernel
theorem dX9_place_72 : decode cX9_place 72 = .ok (.invokevirtual 256, 3) := by decide +kernel
theorem dX9_place_75 : decode cX9_place 75 = .ok (.ireturn, 1) := by decide +kernel
theorem dX9_countsWaiting_0 : decode cX9_countsWaiting 0 = .ok (.iconst 0, 1) := by decide +kernel
theorem dX9_countsWaiting_1 : decode cX9_countsWaiting 1 = .ok (.istore_n 2, 1) := by decide +kernel
theorem dX9_countsWaiting_2 : decode cX9_countsWaiting 2 = .ok (.iconst 0, 1) := by decide +kernel
theorem dX9_countsWaiting_3 : decode cX9_countsWaiting 3 = .ok (.istore_n 3, 1) := by decide +kernel
theorem dX9_countsWaiting_4 : decode cX9_countsWaiting 4 = .ok (.iload_n 3, 1) := by decide +kernel
theorem dX9_countsWaiting_5 : decode cX9_countsWaiting 5 = .ok (.aload_n 0, 1) := by decide +kernel
theorem dX9_countsWaiting_6 : decode cX9_countsWaiting 6 = .ok (.getfield 162, 3) := by decide +kernel
theorem dX9_countsWaiting_9 : decode cX9_countsWaiting 9 = .ok (.if_icmp .ge 56, 3) := by decide +kernel
theorem dX9_countsWaiting_12 : decode cX9_countsWaiting 12 = .ok (.aload_n 0, 1) := by decide +kernel
theorem dX9_countsWaiting_13 : decode cX9_countsWaiting 13 = .ok (.getfield 19, 3) := by decide +kernel
theorem dX9_countsWaiting_16 : decode cX9_countsWaiting 16 = .ok (.iload_n 3, 1) := by decide +kernel
theorem dX9_countsWaiting_17 : decode cX9_countsWaiting 17 = .ok (.iaload, 1) := by decide +kernel
theorem dX9_countsWaiting_18 : decode cX9_countsWaiting 18 = .ok (.iload_n 1, 1) := by decide +kernel
theorem dX9_countsWaiting_19 : decode cX9_countsWaiting 19 = .ok (.if_icmp .ne 40, 3) := by decide +kernel
theorem dX9_countsWaiting_22 : decode cX9_countsWaiting 22 = .ok (.aload_n 0, 1) := by decide +kernel
theorem dX9_countsWaiting_23 : decode cX9_countsWaiting 23 = .ok (.getfield 34, 3) := by decide +kernel
theorem dX9_countsWaiting_26 : decode cX9_countsWaiting 26 = .ok (.iload_n 3, 1) := by decide +kernel
theorem dX9_countsWaiting_27 : decode cX9_countsWaiting 27 = .ok (.iaload, 1) := by decide +kernel
theorem dX9_countsWaiting_28 : decode cX9_countsWaiting 28 = .ok (.iconst (-1), 1) := by decide +kernel
theorem dX9_countsWaiting_29 : decode cX9_countsWaiting 29 = .ok (.if_icmp .ne 30, 3) := by decide +kernel
theorem dX9_countsWaiting_32 : decode cX9_countsWaiting 32 = .ok (.aload_n 0, 1) := by decide +kernel
theorem dX9_countsWaiting_33 : decode cX9_countsWaiting 33 = .ok (.iload_n 3, 1) := by decide +kernel
theorem dX9_countsWaiting_34 : decode cX9_countsWaiting 34 = .ok (.aload_n 0, 1) := by decide +kernel
theorem dX9_countsWaiting_35 : decode cX9_countsWaiting 35 = .ok (.getfield 187, 3) := by decide +kernel
theorem dX9_countsWaiting_38 : decode cX9_countsWaiting 38 = .ok (.invokevirtual 234, 3) := by decide +kernel
theorem dX9_countsWaiting_41 : decode cX9_countsWaiting 41 = .ok (.ifCond .ne 18, 3) := by decide +kernel
theorem dX9_countsWaiting_44 : decode cX9_countsWaiting 44 = .ok (.iload_n 2, 1) := by decide +kernel
theorem dX9_countsWaiting_45 : decode cX9_countsWaiting 45 = .ok (.iconst 5, 1) := by decide +kernel
theorem dX9_countsWaiting_46 : decode cX9_countsWaiting 46 = .ok (.if_icmp .ge 10, 3) := by decide +kernel
theorem dX9_countsWaiting_49 : decode cX9_countsWaiting 49 = .ok (.aload_n 0, 1) := by decide +kernel
theorem dX9_countsWaiting_50 : decode cX9_countsWaiting 50 = .ok (.getfield 140, 3) := by decide +kernel
theorem dX9_countsWaiting_53 : decode cX9_countsWaiting 53 = .ok (.iload_n 2, 1) := by decide +kernel
theorem dX9_countsWaiting_54 : decode cX9_countsWaiting 54 = .ok (.iload_n 3, 1) := by decide +kernel
theorem dX9_countsWaiting_55 : decode cX9_countsWaiting 55 = .ok (.iastore, 1) := by decide +kernel
theorem dX9_countsWaiting_56 : decode cX9_countsWaiting 56 = .ok (.iinc 2 1, 3) := by decide +kernel
theorem dX9_countsWaiting_59 : decode cX9_countsWaiting 59 = .ok (.iinc 3 1, 3) := by decide +kernel
theorem dX9_countsWaiting_62 : decode cX9_countsWaiting 62 = .ok (.goto (-58), 3) := by decide +kernel
theorem dX9_countsWaiting_65 : decode cX9_countsWaiting 65 = .ok (.iload_n 2, 1) := by decide +kernel
theorem dX9_countsWaiting_66 : decode cX9_countsWaiting 66 = .ok (.ireturn, 1) := by decide +kernel
theorem dX9_valueOf_0 : decode cX9_valueOf 0 = .ok (.iconst 0, 1) := by decide +kernel
theorem dX9_valueOf_1 : decode cX9_valueOf 1 = .ok (.istore_n 1, 1) := by decide +kernel
theorem dX9_valueOf_2 : decode cX9_valueOf 2 = .ok (.iconst 0, 1) := by decide +kernel
theorem dX9_valueOf_3 : decode cX9_valueOf 3 = .ok (.istore_n 2, 1) := by decide +kernel
theorem dX9_valueOf_4 : decode cX9_valueOf 4 = .ok (.iconst 0, 1) := by decide +kernel
theorem dX9_valueOf_5 : decode cX9_valueOf 5 = .ok (.istore_n 3, 1) := by decide +kernel
theorem dX9_valueOf_6 : decode cX9_valueOf 6 = .ok (.iconst 0, 1) := by decide +kernel
theorem dX9_valueOf_7 : decode cX9_valueOf 7 = .ok (.istore 4, 2) := by decide +kernel
theorem dX9_valueOf_9 : decode cX9_valueOf 9 = .ok (.iload 4, 2) := by decide +kernel
theorem dX9_valueOf_11 : decode cX9_valueOf 11 = .ok (.aload_n 0, 1) := by decide +kernel
theorem dX9_valueOf_12 : decode cX9_valueOf 12 = .ok (.getfield 259, 3) := by decide +kernel
theorem dX9_valueOf_15 : decode cX9_valueOf 15 = .ok (.if_icmp .ge 130, 3) := by decide +kernel
theorem dX9_valueOf_18 : decode cX9_valueOf 18 = .ok (.aload_n 0, 1) := by decide +kernel
theorem dX9_valueOf_19 : decode cX9_valueOf 19 = .ok (.getfield 143, 3) := by decide +kernel
theorem dX9_valueOf_22 : decode cX9_valueOf 22 = .ok (.iload 4, 2) := by decide +kernel
theorem dX9_valueOf_24 : decode cX9_valueOf 24 = .ok (.iaload, 1) := by decide +kernel
theorem dX9_valueOf_25 : decode cX9_valueOf 25 = .ok (.istore 5, 2) := by decide +kernel
theorem dX9_valueOf_27 : decode cX9_valueOf 27 = .ok (.iload 5, 2) := by decide +kernel
theorem dX9_valueOf_29 : decode cX9_valueOf 29 = .ok (.aload_n 0, 1) := by decide +kernel
theorem dX9_valueOf_30 : decode cX9_valueOf 30 = .ok (.getfield 169, 3) := by decide +kernel
theorem dX9_valueOf_33 : decode cX9_valueOf 33 = .ok (.if_icmp .ge 106, 3) := by decide +kernel
theorem dX9_valueOf_36 : decode cX9_valueOf 36 = .ok (.iconst 0, 1) := by decide +kernel
theorem dX9_valueOf_37 : decode cX9_valueOf 37 = .ok (.istore 6, 2) := by decide +kernel
theorem dX9_valueOf_39 : decode cX9_valueOf 39 = .ok (.iconst 0, 1) := by decide +kernel
theorem dX9_valueOf_40 : decode cX9_valueOf 40 = .ok (.istore 7, 2) := by decide +kernel
theorem dX9_valueOf_42 : decode cX9_valueOf 42 = .ok (.iload 7, 2) := by decide +kernel
theorem dX9_valueOf_44 : decode cX9_valueOf 44 = .ok (.iload 4, 2) := by decide +kernel
theorem dX9_valueOf_46 : decode cX9_valueOf 46 = .ok (.if_icmp .ge 31, 3) := by decide +kernel
theorem dX9_valueOf_49 : decode cX9_valueOf 49 = .ok (.iload 6, 2) := by decide +kernel
theorem dX9_valueOf_51 : decode cX9_valueOf 51 = .ok (.aload_n 0, 1) := by decide +kernel
theorem dX9_valueOf_52 : decode cX9_valueOf 52 = .ok (.getfield 143, 3) := by decide +kernel
theorem dX9_valueOf_55 : decode cX9_valueOf 55 = .ok (.iload 7, 2) := by decide +kernel
theorem dX9_valueOf_57 : decode cX9_valueOf 57 = .ok (.iaload, 1) := by decide +kernel
theorem dX9_valueOf_58 : decode cX9_valueOf 58 = .ok (.iload 5, 2) := by decide +kernel
theorem dX9_valueOf_60 : decode cX9_valueOf 60 = .ok (.if_icmp .ne 7, 3) := by decide +kernel
theorem dX9_valueOf_63 : decode cX9_valueOf 63 = .ok (.iconst 1, 1) := by decide +kernel
theorem dX9_valueOf_64 : decode cX9_valueOf 64 = .ok (.goto 4, 3) := by decide +kernel
theorem dX9_valueOf_67 : decode cX9_valueOf 67 = .ok (.iconst 0, 1) := by decide +kernel
theorem dX9_valueOf_68 : decode cX9_valueOf 68 = .ok (.iadd, 1) := by decide +kernel
theorem dX9_valueOf_69 : decode cX9_valueOf 69 = .ok (.istore 6, 2) := by decide +kernel
theorem dX9_valueOf_71 : decode cX9_valueOf 71 = .ok (.iinc 7 1, 3) := by decide +kernel
theorem dX9_valueOf_74 : decode cX9_valueOf 74 = .ok (.goto (-32), 3) := by decide +kernel
theorem dX9_valueOf_77 : decode cX9_valueOf 77 = .ok (.aload_n 0, 1) := by decide +kernel
theorem dX9_valueOf_78 : decode cX9_valueOf 78 = .ok (.getfield 149, 3) := by decide +kernel
theorem dX9_valueOf_81 : decode cX9_valueOf 81 = .ok (.bipush 10, 2) := by decide +kernel
theorem dX9_valueOf_83 : decode cX9_valueOf 83 = .ok (.iload 4, 2) := by decide +kernel
theorem dX9_valueOf_85 : decode cX9_valueOf 85 = .ok (.imul, 1) := by decide +kernel
theorem dX9_valueOf_86 : decode cX9_valueOf 86 = .ok (.iload 5, 2) := by decide +kernel
theorem dX9_valueOf_88 : decode cX9_valueOf 88 = .ok (.iadd, 1) := by decide +kernel
theorem dX9_valueOf_89 : decode cX9_valueOf 89 = .ok (.baload, 1) := by decide +kernel
theorem dX9_valueOf_90 : decode cX9_valueOf 90 = .ok (.ifCond .eq 15, 3) := by decide +kernel
theorem dX9_valueOf_93 : decode cX9_valueOf 93 = .ok (.iload 6, 2) := by decide +kernel
theorem dX9_valueOf_95 : decode cX9_valueOf 95 = .ok (.aload_n 0, 1) := by decide +kernel
theorem dX9_valueOf_96 : decode cX9_valueOf 96 = .ok (.getfield 155, 3) := by decide +kernel
theorem dX9_valueOf_99 : decode cX9_valueOf 99 = .ok (.iload 5, 2) := by decide +kernel
theorem dX9_valueOf_101 : decode cX9_valueOf 101 = .ok (.iaload, 1) := by decide +kernel
theorem dX9_valueOf_102 : decode cX9_valueOf 102 = .ok (.if_icmp .ne 5, 3) := by decide +kernel
theorem dX9_valueOf_105 : decode cX9_valueOf 105 = .ok (.iconst (-1), 1) := by decide +kernel
theorem dX9_valueOf_106 : decode cX9_valueOf 106 = .ok (.ireturn, 1) := by decide +kernel
theorem dX9_valueOf_107 : decode cX9_valueOf 107 = .ok (.iinc 1 1, 3) := by decide +kernel
theorem dX9_valueOf_110 : decode cX9_valueOf 110 = .ok (.iload_n 2, 1) := by decide +kernel
theorem dX9_valueOf_111 : decode cX9_valueOf 111 = .ok (.iload 6, 2) := by decide +kernel
theorem dX9_valueOf_113 : decode cX9_valueOf 113 = .ok (.ifCond .ne 7, 3) := by decide +kernel
theorem dX9_valueOf_116 : decode cX9_valueOf 116 = .ok (.iconst 1, 1) := by decide +kernel
theorem dX9_valueOf_117 : decode cX9_valueOf 117 = .ok (.goto 4, 3) := by decide +kernel
theorem dX9_valueOf_120 : decode cX9_valueOf 120 = .ok (.iconst 0, 1) := by decide +kernel
theorem dX9_valueOf_121 : decode cX9_valueOf 121 = .ok (.iadd, 1) := by decide +kernel
theorem dX9_valueOf_122 : decode cX9_valueOf 122 = .ok (.istore_n 2, 1) := by decide +kernel
theorem dX9_valueOf_123 : decode cX9_valueOf 123 = .ok (.iload_n 3, 1) := by decide +kernel
theorem dX9_valueOf_124 : decode cX9_valueOf 124 = .ok (.aload_n 0, 1) := by decide +kernel
theorem dX9_valueOf_125 : decode cX9_valueOf 125 = .ok (.getfield 152, 3) := by decide +kernel
theorem dX9_valueOf_128 : decode cX9_valueOf 128 = .ok (.bipush 10, 2) := by decide +kernel
theorem dX9_valueOf_130 : decode cX9_valueOf 130 = .ok (.iload 4, 2) := by decide +kernel
theorem dX9_valueOf_132 : decode cX9_valueOf 132 = .ok (.imul, 1) := by decide +kernel
theorem dX9_valueOf_133 : decode cX9_valueOf 133 = .ok (.iload 5, 2) := by decide +kernel
theorem dX9_valueOf_135 : decode cX9_valueOf 135 = .ok (.iadd, 1) := by decide +kernel
theorem dX9_valueOf_136 : decode cX9_valueOf 136 = .ok (.iaload, 1) := by decide +kernel
theorem dX9_valueOf_137 : decode cX9_valueOf 137 = .ok (.iadd, 1) := by decide +kernel
theorem dX9_valueOf_138 : decode cX9_valueOf 138 = .ok (.istore_n 3, 1) := by decide +kernel
theorem dX9_valueOf_139 : decode cX9_valueOf 139 = .ok (.iinc 4 1, 3) := by decide +kernel
theorem dX9_valueOf_142 : decode cX9_valueOf 142 = .ok (.goto (-133), 3) := by decide +kernel
theorem dX9_valueOf_145 : decode cX9_valueOf 145 = .ok (.ldc_w 262, 3) := by decide +kernel
theorem dX9_valueOf_148 : decode cX9_valueOf 148 = .ok (.iload_n 1, 1) := by decide +kernel
theorem dX9_valueOf_149 : decode cX9_valueOf 149 = .ok (.imul, 1) := by decide +kernel
theorem dX9_valueOf_150 : decode cX9_valueOf 150 = .ok (.sipush 10000, 3) := by decide +kernel
theorem dX9_valueOf_153 : decode cX9_valueOf 153 = .ok (.bipush 9, 2) := by decide +kernel
theorem dX9_valueOf_155 : decode cX9_valueOf 155 = .ok (.iload_n 2, 1) := by decide +kernel
theorem dX9_valueOf_156 : decode cX9_valueOf 156 = .ok (.isub, 1) := by decide +kernel
theorem dX9_valueOf_157 : decode cX9_valueOf 157 = .ok (.imul, 1) := by decide +kernel
theorem dX9_valueOf_158 : decode cX9_valueOf 158 = .ok (.iadd, 1) := by decide +kernel
theorem dX9_valueOf_159 : decode cX9_valueOf 159 = .ok (.iload_n 3, 1) := by decide +kernel
theorem dX9_valueOf_160 : decode cX9_valueOf 160 = .ok (.iadd, 1) := by decide +kernel
theorem dX9_valueOf_161 : decode cX9_valueOf 161 = .ok (.sipush 2000, 3) := by decide +kernel
theorem dX9_valueOf_164 : decode cX9_valueOf 164 = .ok (.iadd, 1) := by decide +kernel
theorem dX9_valueOf_165 : decode cX9_valueOf 165 = .ok (.ireturn, 1) := by decide +kernel
theorem dX9_isNext_0 : decode cX9_isNext 0 = .ok (.aload_n 0, 1) := by decide +kernel
theorem dX9_isNext_1 : decode cX9_isNext 1 = .ok (.getfield 259, 3) := by decide +kernel
theorem dX9_isNext_4 : decode cX9_isNext 4 = .ok (.iconst 1, 1) := by decide +kernel
theorem dX9_isNext_5 : decode cX9_isNext 5 = .ok (.isub, 1) := by decide +kernel
theorem dX9_isNext_6 : decode cX9_isNext 6 = .ok (.istore_n 1, 1) := by decide +kernel
theorem dX9_isNext_7 : decode cX9_isNext 7 = .ok (.iload_n 1, 1) := by decide +kernel
theorem dX9_isNext_8 : decode cX9_isNext 8 = .ok (.ifCond .lt 29, 3) := by decide +kernel
theorem dX9_isNext_11 : decode cX9_isNext 11 = .ok (.aload_n 0, 1) := by decide +kernel
theorem dX9_isNext_12 : decode cX9_isNext 12 = .ok (.getfield 143, 3) := by decide +kernel
theorem dX9_isNext_15 : decode cX9_isNext 15 = .ok (.iload_n 1, 1) := by decide +kernel
theorem dX9_isNext_16 : decode cX9_isNext 16 = .ok (.iaload, 1) := by decide +kernel
theorem dX9_isNext_17 : decode cX9_isNext 17 = .ok (.aload_n 0, 1) := by decide +kernel
theorem dX9_isNext_18 : decode cX9_isNext 18 = .ok (.getfield 169, 3) := by decide +kernel
theorem dX9_isNext_21 : decode cX9_isNext 21 = .ok (.if_icmp .ne 16, 3) := by decide +kernel
theorem dX9_isNext_24 : decode cX9_isNext 24 = .ok (.aload_n 0, 1) := by decide +kernel
theorem dX9_isNext_25 : decode cX9_isNext 25 = .ok (.getfield 143, 3) := by decide +kernel
theorem dX9_isNext_28 : decode cX9_isNext 28 = .ok (.iload_n 1, 1) := by decide +kernel
theorem dX9_isNext_29 : decode cX9_isNext 29 = .ok (.iconst 0, 1) := by decide +kernel
theorem dX9_isNext_30 : decode cX9_isNext 30 = .ok (.iastore, 1) := by decide +kernel
theorem dX9_isNext_31 : decode cX9_isNext 31 = .ok (.iinc 1 (-1), 3) := by decide +kernel
theorem dX9_isNext_34 : decode cX9_isNext 34 = .ok (.goto (-27), 3) := by decide +kernel
theorem dX9_isNext_37 : decode cX9_isNext 37 = .ok (.iload_n 1, 1) := by decide +kernel
theorem dX9_isNext_38 : decode cX9_isNext 38 = .ok (.ifCond .lt 13, 3) := by decide +kernel
theorem dX9_isNext_41 : decode cX9_isNext 41 = .ok (.aload_n 0, 1) := by decide +kernel
theorem dX9_isNext_42 : decode cX9_isNext 42 = .ok (.getfield 143, 3) := by decide +kernel
theorem dX9_isNext_45 : decode cX9_isNext 45 = .ok (.iload_n 1, 1) := by decide +kernel
theorem dX9_isNext_46 : decode cX9_isNext 46 = .ok (.dup2, 1) := by decide +kernel
theorem dX9_isNext_47 : decode cX9_isNext 47 = .ok (.iaload, 1) := by decide +kernel
theorem dX9_isNext_48 : decode cX9_isNext 48 = .ok (.iconst 1, 1) := by decide +kernel
theorem dX9_isNext_49 : decode cX9_isNext 49 = .ok (.iadd, 1) := by decide +kernel
theorem dX9_isNext_50 : decode cX9_isNext 50 = .ok (.iastore, 1) := by decide +kernel
theorem dX9_isNext_51 : decode cX9_isNext 51 = .ok (.iload_n 1, 1) := by decide +kernel
theorem dX9_isNext_52 : decode cX9_isNext 52 = .ok (.ifCond .lt 7, 3) := by decide +kernel
theorem dX9_isNext_55 : decode cX9_isNext 55 = .ok (.iconst 1, 1) := by decide +kernel
theorem dX9_isNext_56 : decode cX9_isNext 56 = .ok (.goto 4, 3) := by decide +kernel
theorem dX9_isNext_59 : decode cX9_isNext 59 = .ok (.iconst 0, 1) := by decide +kernel
theorem dX9_isNext_60 : decode cX9_isNext 60 = .ok (.ireturn, 1) := by decide +kernel
theorem dX9_finds_0 : decode cX9_finds 0 = .ok (.iconst (-1), 1) := by decide +kernel
theorem dX9_finds_1 : decode cX9_finds 1 = .ok (.istore_n 1, 1) := by decide +kernel
theorem dX9_finds_2 : decode cX9_finds 2 = .ok (.iconst 0, 1) := by decide +kernel
theorem dX9_finds_3 : decode cX9_finds 3 = .ok (.istore_n 2, 1) := by decide +kernel
theorem dX9_finds_4 : decode cX9_finds 4 = .ok (.iconst 0, 1) := by decide +kernel
theorem dX9_finds_5 : decode cX9_finds 5 = .ok (.istore_n 3, 1) := by decide +kernel
theorem dX9_finds_6 : decode cX9_finds 6 = .ok (.iload_n 3, 1) := by decide +kernel
theorem dX9_finds_7 : decode cX9_finds 7 = .ok (.aload_n 0, 1) := by decide +kernel
theorem dX9_finds_8 : decode cX9_finds 8 = .ok (.getfield 259, 3) := by decide +kernel
theorem dX9_finds_11 : decode cX9_finds 11 = .ok (.if_icmp .ge 112, 3) := by decide +kernel
theorem dX9_finds_14 : decode cX9_finds 14 = .ok (.aload_n 0, 1) := by decide +kernel
theorem dX9_finds_15 : decode cX9_finds 15 = .ok (.getfield 143, 3) := by decide +kernel
theorem dX9_finds_18 : decode cX9_finds 18 = .ok (.iload_n 3, 1) := by decide +kernel
theorem dX9_finds_19 : decode cX9_finds 19 = .ok (.iconst 0, 1) := by decide +kernel
theorem dX9_finds_20 : decode cX9_finds 20 = .ok (.iastore, 1) := by decide +kernel
theorem dX9_finds_21 : decode cX9_finds 21 = .ok (.iconst 0, 1) := by decide +kernel
theorem dX9_finds_22 : decode cX9_finds 22 = .ok (.istore 4, 2) := by decide +kernel
theorem dX9_finds_24 : decode cX9_finds 24 = .ok (.iload 4, 2) := by decide +kernel
theorem dX9_finds_26 : decode cX9_finds 26 = .ok (.aload_n 0, 1) := by decide +kernel
theorem dX9_finds_27 : decode cX9_finds 27 = .ok (.getfield 169, 3) := by decide +kernel
theorem dX9_finds_30 : decode cX9_finds 30 = .ok (.if_icmp .ge 87, 3) := by decide +kernel
theorem dX9_finds_33 : decode cX9_finds 33 = .ok (.aload_n 0, 1) := by decide +kernel
theorem dX9_finds_34 : decode cX9_finds 34 = .ok (.getfield 149, 3) := by decide +kernel
theorem dX9_finds_37 : decode cX9_finds 37 = .ok (.bipush 10, 2) := by decide +kernel
theorem dX9_finds_39 : decode cX9_finds 39 = .ok (.iload_n 3, 1) := by decide +kernel
theorem dX9_finds_40 : decode cX9_finds 40 = .ok (.imul, 1) := by decide +kernel
theorem dX9_finds_41 : decode cX9_finds 41 = .ok (.iload 4, 2) := by decide +kernel
theorem dX9_finds_43 : decode cX9_finds 43 = .ok (.iadd, 1) := by decide +kernel
theorem dX9_finds_44 : decode cX9_finds 44 = .ok (.aload_n 0, 1) := by decide +kernel
theorem dX9_finds_45 : decode cX9_finds 45 = .ok (.aload_n 0, 1) := by decide +kernel
theorem dX9_finds_46 : decode cX9_finds 46 = .ok (.getfield 140, 3) := by decide +kernel
theorem dX9_finds_49 : decode cX9_finds 49 = .ok (.iload_n 3, 1) := by decide +kernel
theorem dX9_finds_50 : decode cX9_finds 50 = .ok (.iaload, 1) := by decide +kernel
theorem dX9_finds_51 : decode cX9_finds 51 = .ok (.iload 4, 2) := by decide +kernel
theorem dX9_finds_53 : decode cX9_finds 53 = .ok (.invokevirtual 243, 3) := by decide +kernel
theorem dX9_finds_56 : decode cX9_finds 56 = .ok (.ifCond .ne 7, 3) := by decide +kernel
theorem dX9_finds_59 : decode cX9_finds 59 = .ok (.iconst 1, 1) := by decide +kernel
theorem dX9_finds_60 : decode cX9_finds 60 = .ok (.goto 4, 3) := by decide +kernel
theorem dX9_finds_63 : decode cX9_finds 63 = .ok (.iconst 0, 1) := by decide +kernel
theorem dX9_finds_64 : decode cX9_finds 64 = .ok (.bastore, 1) := by decide +kernel
theorem dX9_finds_65 : decode cX9_finds 65 = .ok (.aload_n 0, 1) := by decide +kernel
theorem dX9_finds_66 : decode cX9_finds 66 = .ok (.getfield 152, 3) := by decide +kernel
theorem dX9_finds_69 : decode cX9_finds 69 = .ok (.bipush 10, 2) := by decide +kernel
theorem dX9_finds_71 : decode cX9_finds 71 = .ok (.iload_n 3, 1) := by decide +kernel
theorem dX9_finds_72 : decode cX9_finds 72 = .ok (.imul, 1) := by decide +kernel
theorem dX9_finds_73 : decode cX9_finds 73 = .ok (.iload 4, 2) := by decide +kernel
theorem dX9_finds_75 : decode cX9_finds 75 = .ok (.iadd, 1) := by decide +kernel
theorem dX9_finds_76 : decode cX9_finds 76 = .ok (.aload_n 0, 1) := by decide +kernel
theorem dX9_finds_77 : decode cX9_finds 77 = .ok (.aload_n 0, 1) := by decide +kernel
theorem dX9_finds_78 : decode cX9_finds 78 = .ok (.getfield 140, 3) := by decide +kernel
theorem dX9_finds_81 : decode cX9_finds 81 = .ok (.iload_n 3, 1) := by decide +kernel
theorem dX9_finds_82 : decode cX9_finds 82 = .ok (.iaload, 1) := by decide +kernel
theorem dX9_finds_83 : decode cX9_finds 83 = .ok (.iload 4, 2) := by decide +kernel
theorem dX9_finds_85 : decode cX9_finds 85 = .ok (.invokevirtual 246, 3) := by decide +kernel
theorem dX9_finds_88 : decode cX9_finds 88 = .ok (.iastore, 1) := by decide +kernel
theorem dX9_finds_89 : decode cX9_finds 89 = .ok (.aload_n 0, 1) := by decide +kernel
theorem dX9_finds_90 : decode cX9_finds 90 = .ok (.getfield 155, 3) := by decide +kernel
theorem dX9_finds_93 : decode cX9_finds 93 = .ok (.iload 4, 2) := by decide +kernel
theorem dX9_finds_95 : decode cX9_finds 95 = .ok (.aload_n 0, 1) := by decide +kernel
theorem dX9_finds_96 : decode cX9_finds 96 = .ok (.getfield 71, 3) := by decide +kernel
theorem dX9_finds_99 : decode cX9_finds 99 = .ok (.iload 4, 2) := by decide +kernel
theorem dX9_finds_101 : decode cX9_finds 101 = .ok (.iaload, 1) := by decide +kernel
theorem dX9_finds_102 : decode cX9_finds 102 = .ok (.aload_n 0, 1) := by decide +kernel
theorem dX9_finds_103 : decode cX9_finds 103 = .ok (.iconst (-1), 1) := by decide +kernel
theorem dX9_finds_104 : decode cX9_finds 104 = .ok (.iload 4, 2) := by decide +kernel
theorem dX9_finds_106 : decode cX9_finds 106 = .ok (.invokevirtual 240, 3) := by decide +kernel
theorem dX9_finds_109 : decode cX9_finds 109 = .ok (.isub, 1) := by decide +kernel
theorem dX9_finds_110 : decode cX9_finds 110 = .ok (.iastore, 1) := by decide +kernel
theorem dX9_finds_111 : decode cX9_finds 111 = .ok (.iinc 4 1, 3) := by decide +kernel
theorem dX9_finds_114 : decode cX9_finds 114 = .ok (.goto (-90), 3) := by decide +kernel
theorem dX9_finds_117 : decode cX9_finds 117 = .ok (.iinc 3 1, 3) := by decide +kernel
theorem dX9_finds_120 : decode cX9_finds 120 = .ok (.goto (-114), 3) := by decide +kernel
theorem dX9_finds_123 : decode cX9_finds 123 = .ok (.iconst 1, 1) := by decide +kernel
theorem dX9_finds_124 : decode cX9_finds 124 = .ok (.istore_n 3, 1) := by decide +kernel
theorem dX9_finds_125 : decode cX9_finds 125 = .ok (.iload_n 3, 1) := by decide +kernel
theorem dX9_finds_126 : decode cX9_finds 126 = .ok (.ifCond .eq 82, 3) := by decide +kernel
theorem dX9_finds_129 : decode cX9_finds 129 = .ok (.aload_n 0, 1) := by decide +kernel
theorem dX9_finds_130 : decode cX9_finds 130 = .ok (.invokevirtual 263, 3) := by decide +kernel
theorem dX9_finds_133 : decode cX9_finds 133 = .ok (.istore 4, 2) := by decide +kernel
theorem dX9_finds_135 : decode cX9_finds 135 = .ok (.iload 4, 2) := by decide +kernel
theorem dX9_finds_137 : decode cX9_finds 137 = .ok (.iload_n 1, 1) := by decide +kernel
theorem dX9_finds_138 : decode cX9_finds 138 = .ok (.if_icmp .le 62, 3) := by decide +kernel
theorem dX9_finds_141 : decode cX9_finds 141 = .ok (.iload 4, 2) := by decide +kernel
theorem dX9_finds_143 : decode cX9_finds 143 = .ok (.istore_n 1, 1) := by decide +kernel
theorem dX9_finds_144 : decode cX9_finds 144 = .ok (.iconst 0, 1) := by decide +kernel
theorem dX9_finds_145 : decode cX9_finds 145 = .ok (.istore_n 2, 1) := by decide +kernel
theorem dX9_finds_146 : decode cX9_finds 146 = .ok (.iconst 0, 1) := by decide +kernel
theorem dX9_finds_147 : decode cX9_finds 147 = .ok (.istore 5, 2) := by decide +kernel
theorem dX9_finds_149 : decode cX9_finds 149 = .ok (.iload 5, 2) := by decide +kernel
theorem dX9_finds_151 : decode cX9_finds 151 = .ok (.aload_n 0, 1) := by decide +kernel
theorem dX9_finds_152 : decode cX9_finds 152 = .ok (.getfield 259, 3) := by decide +kernel
theorem dX9_finds_155 : decode cX9_finds 155 = .ok (.if_icmp .ge 45, 3) := by decide +kernel
theorem dX9_finds_158 : decode cX9_finds 158 = .ok (.aload_n 0, 1) := by decide +kernel
theorem dX9_finds_159 : decode cX9_finds 159 = .ok (.getfield 146, 3) := by decide +kernel
theorem dX9_finds_162 : decode cX9_finds 162 = .ok (.iload 5, 2) := by decide +kernel
theorem dX9_finds_164 : decode cX9_finds 164 = .ok (.aload_n 0, 1) := by decide +kernel
theorem dX9_finds_165 : decode cX9_finds 165 = .ok (.getfield 143, 3) := by decide +kernel
theorem dX9_finds_168 : decode cX9_finds 168 = .ok (.iload 5, 2) := by decide +kernel
theorem dX9_finds_170 : decode cX9_finds 170 = .ok (.iaload, 1) := by decide +kernel
theorem dX9_finds_171 : decode cX9_finds 171 = .ok (.iastore, 1) := by decide +kernel
theorem dX9_finds_172 : decode cX9_finds 172 = .ok (.iload_n 2, 1) := by decide +kernel
theorem dX9_finds_173 : decode cX9_finds 173 = .ok (.aload_n 0, 1) := by decide +kernel
theorem dX9_finds_174 : decode cX9_finds 174 = .ok (.getfield 143, 3) := by decide +kernel
theorem dX9_finds_177 : decode cX9_finds 177 = .ok (.iload 5, 2) := by decide +kernel
theorem dX9_finds_179 : decode cX9_finds 179 = .ok (.iaload, 1) := by decide +kernel
theorem dX9_finds_180 : decode cX9_finds 180 = .ok (.aload_n 0, 1) := by decide +kernel
theorem dX9_finds_181 : decode cX9_finds 181 = .ok (.getfield 169, 3) := by decide +kernel
theorem dX9_finds_184 : decode cX9_finds 184 = .ok (.if_icmp .ge 7, 3) := by decide +kernel
theorem dX9_finds_187 : decode cX9_finds 187 = .ok (.iconst 1, 1) := by decide +kernel
theorem dX9_finds_188 : decode cX9_finds 188 = .ok (.goto 4, 3) := by decide +kernel
theorem dX9_finds_191 : decode cX9_finds 191 = .ok (.iconst 0, 1) := by decide +kernel
theorem dX9_finds_192 : decode cX9_finds 192 = .ok (.iadd, 1) := by decide +kernel
theorem dX9_finds_193 : decode cX9_finds 193 = .ok (.istore_n 2, 1) := by decide +kernel
theorem dX9_finds_194 : decode cX9_finds 194 = .ok (.iinc 5 1, 3) := by decide +kernel
theorem dX9_finds_197 : decode cX9_finds 197 = .ok (.goto (-48), 3) := by decide +kernel
theorem dX9_finds_200 : decode cX9_finds 200 = .ok (.aload_n 0, 1) := by decide +kernel
theorem dX9_finds_201 : decode cX9_finds 201 = .ok (.invokevirtual 266, 3) := by decide +kernel
theorem dX9_finds_204 : decode cX9_finds 204 = .ok (.istore_n 3, 1) := by decide +kernel
theorem dX9_finds_205 : decode cX9_finds 205 = .ok (.goto (-80), 3) := by decide +kernel
theorem dX9_finds_208 : decode cX9_finds 208 = .ok (.iload_n 2, 1) := by decide +kernel
theorem dX9_finds_209 : decode cX9_finds 209 = .ok (.ireturn, 1) := by decide +kernel
theorem dX9_placeAll_0 : decode cX9_placeAll 0 = .ok (.iload_n 1, 1) := by decide +kernel
theorem dX9_placeAll_1 : decode cX9_placeAll 1 = .ok (.iconst 0, 1) := by decide +kernel
theorem dX9_placeAll_2 : decode cX9_placeAll 2 = .ok (.bipush 7, 2) := by decide +kernel
theorem dX9_placeAll_4 : decode cX9_placeAll 4 = .ok (.invokestatic 165, 3) := by decide +kernel
theorem dX9_placeAll_7 : decode cX9_placeAll 7 = .ok (.istore_n 2, 1) := by decide +kernel
theorem dX9_placeAll_8 : decode cX9_placeAll 8 = .ok (.aload_n 0, 1) := by decide +kernel
theorem dX9_placeAll_9 : decode cX9_placeAll 9 = .ok (.iload_n 2, 1) := by decide +kernel
theorem dX9_placeAll_10 : decode cX9_placeAll 10 = .ok (.ifCond .eq 11, 3) := by decide +kernel
theorem dX9_placeAll_13 : decode cX9_placeAll 13 = .ok (.aload_n 0, 1) := by decide +kernel
theorem dX9_placeAll_14 : decode cX9_placeAll 14 = .ok (.iload_n 1, 1) := by decide +kernel
theorem dX9_placeAll_15 : decode cX9_placeAll 15 = .ok (.invokevirtual 270, 3) := by decide +kernel
theorem dX9_placeAll_18 : decode cX9_placeAll 18 = .ok (.goto 4, 3) := by decide +kernel
theorem dX9_placeAll_21 : decode cX9_placeAll 21 = .ok (.iconst 0, 1) := by decide +kernel
theorem dX9_placeAll_22 : decode cX9_placeAll 22 = .ok (.putfield 259, 3) := by decide +kernel
theorem dX9_placeAll_25 : decode cX9_placeAll 25 = .ok (.aload_n 0, 1) := by decide +kernel
theorem dX9_placeAll_26 : decode cX9_placeAll 26 = .ok (.iload_n 2, 1) := by decide +kernel
theorem dX9_placeAll_27 : decode cX9_placeAll 27 = .ok (.aload_n 0, 1) := by decide +kernel
theorem dX9_placeAll_28 : decode cX9_placeAll 28 = .ok (.getfield 259, 3) := by decide +kernel
theorem dX9_placeAll_31 : decode cX9_placeAll 31 = .ok (.iconst 5, 1) := by decide +kernel
theorem dX9_placeAll_32 : decode cX9_placeAll 32 = .ok (.if_icmp .gt 33, 3) := by decide +kernel
theorem dX9_placeAll_35 : decode cX9_placeAll 35 = .ok (.aload_n 0, 1) := by decide +kernel
theorem dX9_placeAll_36 : decode cX9_placeAll 36 = .ok (.getfield 253, 3) := by decide +kernel
theorem dX9_placeAll_39 : decode cX9_placeAll 39 = .ok (.aload_n 0, 1) := by decide +kernel
theorem dX9_placeAll_40 : decode cX9_placeAll 40 = .ok (.getfield 259, 3) := by decide +kernel
theorem dX9_placeAll_43 : decode cX9_placeAll 43 = .ok (.iconst 5, 1) := by decide +kernel
theorem dX9_placeAll_44 : decode cX9_placeAll 44 = .ok (.if_icmp .gt 10, 3) := by decide +kernel
theorem dX9_placeAll_47 : decode cX9_placeAll 47 = .ok (.aload_n 0, 1) := by decide +kernel
theorem dX9_placeAll_48 : decode cX9_placeAll 48 = .ok (.invokevirtual 273, 3) := by decide +kernel
theorem dX9_placeAll_51 : decode cX9_placeAll 51 = .ok (.goto 4, 3) := by decide +kernel
theorem dX9_placeAll_54 : decode cX9_placeAll 54 = .ok (.iconst 0, 1) := by decide +kernel
theorem dX9_placeAll_55 : decode cX9_placeAll 55 = .ok (.iadd, 1) := by decide +kernel
theorem dX9_placeAll_56 : decode cX9_placeAll 56 = .ok (.bipush 100, 2) := by decide +kernel
theorem dX9_placeAll_58 : decode cX9_placeAll 58 = .ok (.if_icmp .gt 7, 3) := by decide +kernel
theorem dX9_placeAll_61 : decode cX9_placeAll 61 = .ok (.iconst 1, 1) := by decide +kernel
theorem dX9_placeAll_62 : decode cX9_placeAll 62 = .ok (.goto 4, 3) := by decide +kernel
theorem dX9_placeAll_65 : decode cX9_placeAll 65 = .ok (.iconst 0, 1) := by decide +kernel
theorem dX9_placeAll_66 : decode cX9_placeAll 66 = .ok (.iconst 1, 1) := by decide +kernel
theorem dX9_placeAll_67 : decode cX9_placeAll 67 = .ok (.invokevirtual 179, 3) := by decide +kernel
theorem dX9_placeAll_70 : decode cX9_placeAll 70 = .ok (.ifCond .ne 5, 3) := by decide +kernel
theorem dX9_placeAll_73 : decode cX9_placeAll 73 = .ok (.iconst 0, 1) := by decide +kernel
theorem dX9_placeAll_74 : decode cX9_placeAll 74 = .ok (.ireturn, 1) := by decide +kernel
theorem dX9_placeAll_75 : decode cX9_placeAll 75 = .ok (.iconst 0, 1) := by decide +kernel
theorem dX9_placeAll_76 : decode cX9_placeAll 76 = .ok (.istore_n 3, 1) := by decide +kernel
theorem dX9_placeAll_77 : decode cX9_placeAll 77 = .ok (.iconst 0, 1) := by decide +kernel
theorem dX9_placeAll_78 : decode cX9_placeAll 78 = .ok (.istore 4, 2) := by decide +kernel
theorem dX9_placeAll_80 : decode cX9_placeAll 80 = .ok (.iload 4, 2) := by decide +kernel
theorem dX9_placeAll_82 : decode cX9_placeAll 82 = .ok (.aload_n 0, 1) := by decide +kernel
theorem dX9_placeAll_83 : decode cX9_placeAll 83 = .ok (.getfield 259, 3) := by decide +kernel
theorem dX9_placeAll_86 : decode cX9_placeAll 86 = .ok (.if_icmp .ge 46, 3) := by decide +kernel
theorem dX9_placeAll_89 : decode cX9_placeAll 89 = .ok (.aload_n 0, 1) := by decide +kernel
theorem dX9_placeAll_90 : decode cX9_placeAll 90 = .ok (.getfield 146, 3) := by decide +kernel
theorem dX9_placeAll_93 : decode cX9_placeAll 93 = .ok (.iload 4, 2) := by decide +kernel
theorem dX9_placeAll_95 : decode cX9_placeAll 95 = .ok (.iaload, 1) := by decide +kernel
theorem dX9_placeAll_96 : decode cX9_placeAll 96 = .ok (.aload_n 0, 1) := by decide +kernel
theorem dX9_placeAll_97 : decode cX9_placeAll 97 = .ok (.getfield 169, 3) := by decide +kernel
theorem dX9_placeAll_100 : decode cX9_placeAll 100 = .ok (.if_icmp .ge 26, 3) := by decide +kernel
theorem dX9_placeAll_103 : decode cX9_placeAll 103 = .ok (.aload_n 0, 1) := by decide +kernel
theorem dX9_placeAll_104 : decode cX9_placeAll 104 = .ok (.aload_n 0, 1) := by decide +kernel
theorem dX9_placeAll_105 : decode cX9_placeAll 105 = .ok (.getfield 140, 3) := by decide +kernel
theorem dX9_placeAll_108 : decode cX9_placeAll 108 = .ok (.iload 4, 2) := by decide +kernel
theorem dX9_placeAll_110 : decode cX9_placeAll 110 = .ok (.iaload, 1) := by decide +kernel
theorem dX9_placeAll_111 : decode cX9_placeAll 111 = .ok (.aload_n 0, 1) := by decide +kernel
theorem dX9_placeAll_112 : decode cX9_placeAll 112 = .ok (.getfield 146, 3) := by decide +kernel
theorem dX9_placeAll_115 : decode cX9_placeAll 115 = .ok (.iload 4, 2) := by decide +kernel
theorem dX9_placeAll_117 : decode cX9_placeAll 117 = .ok (.iaload, 1) := by decide +kernel
theorem dX9_placeAll_118 : decode cX9_placeAll 118 = .ok (.invokevirtual 256, 3) := by decide +kernel
theorem dX9_placeAll_121 : decode cX9_placeAll 121 = .ok (.istore 5, 2) := by decide +kernel
theorem dX9_placeAll_123 : decode cX9_placeAll 123 = .ok (.iinc 3 1, 3) := by decide +kernel
theorem dX9_placeAll_126 : decode cX9_placeAll 126 = .ok (.iinc 4 1, 3) := by decide +kernel
theorem dX9_placeAll_129 : decode cX9_placeAll 129 = .ok (.goto (-49), 3) := by decide +kernel
theorem dX9_placeAll_132 : decode cX9_placeAll 132 = .ok (.iload_n 3, 1) := by decide +kernel
theorem dX9_placeAll_133 : decode cX9_placeAll 133 = .ok (.ireturn, 1) := by decide +kernel
theorem dX9_visits_0 : decode cX9_visits 0 = .ok (.aload_n 0, 1) := by decide +kernel
theorem dX9_visits_1 : decode cX9_visits 1 = .ok (.aload_n 0, 1) := by decide +kernel
theorem dX9_visits_2 : decode cX9_visits 2 = .ok (.iload_n 1, 1) := by decide +kernel
theorem dX9_visits_3 : decode cX9_visits 3 = .ok (.invokevirtual 208, 3) := by decide +kernel
theorem dX9_visits_6 : decode cX9_visits 6 = .ok (.iload_n 2, 1) := by decide +kernel
theorem dX9_visits_7 : decode cX9_visits 7 = .ok (.iconst 0, 1) := by decide +kernel
theorem dX9_visits_8 : decode cX9_visits 8 = .ok (.bipush 30, 2) := by decide +kernel
theorem dX9_visits_10 : decode cX9_visits 10 = .ok (.invokestatic 165, 3) := by decide +kernel
theorem dX9_visits_13 : decode cX9_visits 13 = .ok (.iconst 1, 1) := by decide +kernel
theorem dX9_visits_14 : decode cX9_visits 14 = .ok (.invokevirtual 179, 3) := by decide +kernel
theorem dX9_visits_17 : decode cX9_visits 17 = .ok (.ifCond .ne 5, 3) := by decide +kernel
theorem dX9_visits_20 : decode cX9_visits 20 = .ok (.iconst 0, 1) := by decide +kernel
theorem dX9_visits_21 : decode cX9_visits 21 = .ok (.ireturn, 1) := by decide +kernel
theorem dX9_visits_22 : decode cX9_visits 22 = .ok (.aload_n 0, 1) := by decide +kernel
theorem dX9_visits_23 : decode cX9_visits 23 = .ok (.getfield 40, 3) := by decide +kernel
theorem dX9_visits_26 : decode cX9_visits 26 = .ok (.iload_n 1, 1) := by decide +kernel
theorem dX9_visits_27 : decode cX9_visits 27 = .ok (.iaload, 1) := by decide +kernel
theorem dX9_visits_28 : decode cX9_visits 28 = .ok (.istore_n 3, 1) := by decide +kernel
theorem dX9_visits_29 : decode cX9_visits 29 = .ok (.aload_n 0, 1) := by decide +kernel
theorem dX9_visits_30 : decode cX9_visits 30 = .ok (.getfield 40, 3) := by decide +kernel
theorem dX9_visits_33 : decode cX9_visits 33 = .ok (.iload_n 1, 1) := by decide +kernel
theorem dX9_visits_34 : decode cX9_visits 34 = .ok (.iload_n 2, 1) := by decide +kernel
theorem dX9_visits_35 : decode cX9_visits 35 = .ok (.iastore, 1) := by decide +kernel
theorem dX9_visits_36 : decode cX9_visits 36 = .ok (.iload_n 3, 1) := by decide +kernel
theorem dX9_visits_37 : decode cX9_visits 37 = .ok (.ireturn, 1) := by decide +kernel
theorem dX9_came_0 : decode cX9_came 0 = .ok (.aload_n 0, 1) := by decide +kernel
theorem dX9_came_1 : decode cX9_came 1 = .ok (.aload_n 0, 1) := by decide +kernel
theorem dX9_came_2 : decode cX9_came 2 = .ok (.iload_n 1, 1) := by decide +kernel
theorem dX9_came_3 : decode cX9_came 3 = .ok (.invokevirtual 208, 3) := by decide +kernel
theorem dX9_came_6 : decode cX9_came 6 = .ok (.aload_n 0, 1) := by decide +kernel
theorem dX9_came_7 : decode cX9_came 7 = .ok (.iload_n 1, 1) := by decide +kernel
theorem dX9_came_8 : decode cX9_came 8 = .ok (.invokevirtual 208, 3) := by decide +kernel
theorem dX9_came_11 : decode cX9_came 11 = .ok (.ifCond .eq 17, 3) := by decide +kernel
theorem dX9_came_14 : decode cX9_came 14 = .ok (.aload_n 0, 1) := by decide +kernel
theorem dX9_came_15 : decode cX9_came 15 = .ok (.getfield 34, 3) := by decide +kernel
theorem dX9_came_18 : decode cX9_came 18 = .ok (.iload_n 1, 1) := by decide +kernel
theorem dX9_came_19 : decode cX9_came 19 = .ok (.iaload, 1) := by decide +kernel
theorem dX9_came_20 : decode cX9_came 20 = .ok (.iconst (-1), 1) := by decide +kernel
theorem dX9_came_21 : decode cX9_came 21 = .ok (.if_icmp .eq 7, 3) := by decide +kernel
theorem dX9_came_24 : decode cX9_came 24 = .ok (.iconst 1, 1) := by decide +kernel
theorem dX9_came_25 : decode cX9_came 25 = .ok (.goto 4, 3) := by decide +kernel
theorem dX9_came_28 : decode cX9_came 28 = .ok (.iconst 0, 1) := by decide +kernel
theorem dX9_came_29 : decode cX9_came 29 = .ok (.iconst 1, 1) := by decide +kernel
theorem dX9_came_30 : decode cX9_came 30 = .ok (.invokevirtual 179, 3) := by decide +kernel
theorem dX9_came_33 : decode cX9_came 33 = .ok (.ifCond .eq 10, 3) := by decide +kernel
theorem dX9_came_36 : decode cX9_came 36 = .ok (.aload_n 0, 1) := by decide +kernel
theorem dX9_came_37 : decode cX9_came 37 = .ok (.getfield 43, 3) := by decide +kernel
theorem dX9_came_40 : decode cX9_came 40 = .ok (.iload_n 1, 1) := by decide +kernel
theorem dX9_came_41 : decode cX9_came 41 = .ok (.iconst 1, 1) := by decide +kernel
theorem dX9_came_42 : decode cX9_came 42 = .ok (.bastore, 1) := by decide +kernel
theorem dX9_came_43 : decode cX9_came 43 = .ok (.return_, 1) := by decide +kernel
theorem dX9_pay_0 : decode cX9_pay 0 = .ok (.aload_n 0, 1) := by decide +kernel
theorem dX9_pay_1 : decode cX9_pay 1 = .ok (.aload_n 0, 1) := by decide +kernel
theorem dX9_pay_2 : decode cX9_pay 2 = .ok (.iload_n 1, 1) := by decide +kernel
theorem dX9_pay_3 : decode cX9_pay 3 = .ok (.invokevirtual 193, 3) := by decide +kernel
theorem dX9_pay_6 : decode cX9_pay 6 = .ok (.iload_n 2, 1) := by decide +kernel
theorem dX9_pay_7 : decode cX9_pay 7 = .ok (.iconst 1, 1) := by decide +kernel
theorem dX9_pay_8 : decode cX9_pay 8 = .ok (.ldc_w 276, 3) := by decide +kernel
theorem dX9_pay_11 : decode cX9_pay 11 = .ok (.invokestatic 165, 3) := by decide +kernel
theorem dX9_pay_14 : decode cX9_pay 14 = .ok (.iconst 1, 1) := by decide +kernel
theorem dX9_pay_15 : decode cX9_pay 15 = .ok (.invokevirtual 179, 3) := by decide +kernel
theorem dX9_pay_18 : decode cX9_pay 18 = .ok (.ifCond .ne 5, 3) := by decide +kernel
theorem dX9_pay_21 : decode cX9_pay 21 = .ok (.iconst 0, 1) := by decide +kernel
theorem dX9_pay_22 : decode cX9_pay 22 = .ok (.ireturn, 1) := by decide +kernel
theorem dX9_pay_23 : decode cX9_pay 23 = .ok (.aload_n 0, 1) := by decide +kernel
theorem dX9_pay_24 : decode cX9_pay 24 = .ok (.getfield 77, 3) := by decide +kernel
theorem dX9_pay_27 : decode cX9_pay 27 = .ok (.iload_n 1, 1) := by decide +kernel
theorem dX9_pay_28 : decode cX9_pay 28 = .ok (.dup2, 1) := by decide +kernel
theorem dX9_pay_29 : decode cX9_pay 29 = .ok (.iaload, 1) := by decide +kernel
theorem dX9_pay_30 : decode cX9_pay 30 = .ok (.iload_n 2, 1) := by decide +kernel
theorem dX9_pay_31 : decode cX9_pay 31 = .ok (.iadd, 1) := by decide +kernel
theorem dX9_pay_32 : decode cX9_pay 32 = .ok (.iastore, 1) := by decide +kernel
theorem dX9_pay_33 : decode cX9_pay 33 = .ok (.aload_n 0, 1) := by decide +kernel
theorem dX9_pay_34 : decode cX9_pay 34 = .ok (.getfield 74, 3) := by decide +kernel
theorem dX9_pay_37 : decode cX9_pay 37 = .ok (.iload_n 1, 1) := by decide +kernel
theorem dX9_pay_38 : decode cX9_pay 38 = .ok (.iaload, 1) := by decide +kernel
theorem dX9_pay_39 : decode cX9_pay 39 = .ok (.aload_n 0, 1) := by decide +kernel
theorem dX9_pay_40 : decode cX9_pay 40 = .ok (.getfield 77, 3) := by decide +kernel
theorem dX9_pay_43 : decode cX9_pay 43 = .ok (.iload_n 1, 1) := by decide +kernel
theorem dX9_pay_44 : decode cX9_pay 44 = .ok (.iaload, 1) := by decide +kernel
theorem dX9_pay_45 : decode cX9_pay 45 = .ok (.isub, 1) := by decide +kernel
theorem dX9_pay_46 : decode cX9_pay 46 = .ok (.ireturn, 1) := by decide +kernel
theorem dX9_owed_0 : decode cX9_owed 0 = .ok (.aload_n 0, 1) := by decide +kernel
theorem dX9_owed_1 : decode cX9_owed 1 = .ok (.aload_n 0, 1) := by decide +kernel
theorem dX9_owed_2 : decode cX9_owed 2 = .ok (.iload_n 1, 1) := by decide +kernel
theorem dX9_owed_3 : decode cX9_owed 3 = .ok (.invokevirtual 193, 3) := by decide +kernel
theorem dX9_owed_6 : decode cX9_owed 6 = .ok (.iconst 1, 1) := by decide +kernel
theorem dX9_owed_7 : decode cX9_owed 7 = .ok (.iconst 1, 1) := by decide +kernel
theorem dX9_owed_8 : decode cX9_owed 8 = .ok (.invokevirtual 179, 3) := by decide +kernel
theorem dX9_owed_11 : decode cX9_owed 11 = .ok (.ifCond .eq 19, 3) := by decide +kernel
theorem dX9_owed_14 : decode cX9_owed 14 = .ok (.aload_n 0, 1) := by decide +kernel
theorem dX9_owed_15 : decode cX9_owed 15 = .ok (.getfield 74, 3) := by decide +kernel
theorem dX9_owed_18 : decode cX9_owed 18 = .ok (.iload_n 1, 1) := by decide +kernel
theorem dX9_owed_19 : decode cX9_owed 19 = .ok (.iaload, 1) := by decide +kernel
theorem dX9_owed_20 : decode cX9_owed 20 = .ok (.aload_n 0, 1) := by decide +kernel
theorem dX9_owed_21 : decode cX9_owed 21 = .ok (.getfield 77, 3) := by decide +kernel
theorem dX9_owed_24 : decode cX9_owed 24 = .ok (.iload_n 1, 1) := by decide +kernel
theorem dX9_owed_25 : decode cX9_owed 25 = .ok (.iaload, 1) := by decide +kernel
theorem dX9_owed_26 : decode cX9_owed 26 = .ok (.isub, 1) := by decide +kernel
theorem dX9_owed_27 : decode cX9_owed 27 = .ok (.goto 4, 3) := by decide +kernel
theorem dX9_owed_30 : decode cX9_owed 30 = .ok (.iconst 0, 1) := by decide +kernel
theorem dX9_owed_31 : decode cX9_owed 31 = .ok (.ireturn, 1) := by decide +kernel
theorem dX9_handOver_0 : decode cX9_handOver 0 = .ok (.aload_n 0, 1) := by decide +kernel
theorem dX9_handOver_1 : decode cX9_handOver 1 = .ok (.aload_n 0, 1) := by decide +kernel
theorem dX9_handOver_2 : decode cX9_handOver 2 = .ok (.iload_n 1, 1) := by decide +kernel
theorem dX9_handOver_3 : decode cX9_handOver 3 = .ok (.invokevirtual 208, 3) := by decide +kernel
theorem dX9_handOver_6 : decode cX9_handOver 6 = .ok (.ifCond .eq 16, 3) := by decide +kernel
theorem dX9_handOver_9 : decode cX9_handOver 9 = .ok (.iload_n 2, 1) := by decide +kernel
theorem dX9_handOver_10 : decode cX9_handOver 10 = .ok (.iconst 0, 1) := by decide +kernel
theorem dX9_handOver_11 : decode cX9_handOver 11 = .ok (.iconst 4, 1) := by decide +kernel
theorem dX9_handOver_12 : decode cX9_handOver 12 = .ok (.invokestatic 165, 3) := by decide +kernel
theorem dX9_handOver_15 : decode cX9_handOver 15 = .ok (.ifCond .eq 7, 3) := by decide +kernel
theorem dX9_handOver_18 : decode cX9_handOver 18 = .ok (.iconst 1, 1) := by decide +kernel
theorem dX9_handOver_19 : decode cX9_handOver 19 = .ok (.goto 4, 3) := by decide +kernel
theorem dX9_handOver_22 : decode cX9_handOver 22 = .ok (.iconst 0, 1) := by decide +kernel
theorem dX9_handOver_23 : decode cX9_handOver 23 = .ok (.iconst 1, 1) := by decide +kernel
theorem dX9_handOver_24 : decode cX9_handOver 24 = .ok (.iconst 1, 1) := by decide +kernel
theorem dX9_handOver_25 : decode cX9_handOver 25 = .ok (.invokevirtual 179, 3) := by decide +kernel
theorem dX9_handOver_28 : decode cX9_handOver 28 = .ok (.ifCond .ne 5, 3) := by decide +kernel
theorem dX9_handOver_31 : decode cX9_handOver 31 = .ok (.iconst 0, 1) := by decide +kernel
theorem dX9_handOver_32 : decode cX9_handOver 32 = .ok (.ireturn, 1) := by decide +kernel
theorem dX9_handOver_33 : decode cX9_handOver 33 = .ok (.aload_n 0, 1) := by decide +kernel
theorem dX9_handOver_34 : decode cX9_handOver 34 = .ok (.getfield 28, 3) := by decide +kernel
theorem dX9_handOver_37 : decode cX9_handOver 37 = .ok (.iload_n 1, 1) := by decide +kernel
theorem dX9_handOver_38 : decode cX9_handOver 38 = .ok (.iaload, 1) := by decide +kernel
theorem dX9_handOver_39 : decode cX9_handOver 39 = .ok (.istore_n 3, 1) := by decide +kernel
theorem dX9_handOver_40 : decode cX9_handOver 40 = .ok (.aload_n 0, 1) := by decide +kernel
theorem dX9_handOver_41 : decode cX9_handOver 41 = .ok (.getfield 28, 3) := by decide +kernel
theorem dX9_handOver_44 : decode cX9_handOver 44 = .ok (.iload_n 1, 1) := by decide +kernel
theorem dX9_handOver_45 : decode cX9_handOver 45 = .ok (.iload_n 2, 1) := by decide +kernel
theorem dX9_handOver_46 : decode cX9_handOver 46 = .ok (.iastore, 1) := by decide +kernel
theorem dX9_handOver_47 : decode cX9_handOver 47 = .ok (.iload_n 3, 1) := by decide +kernel
theorem dX9_handOver_48 : decode cX9_handOver 48 = .ok (.ireturn, 1) := by decide +kernel
theorem dX9_load_0 : decode cX9_load 0 = .ok (.aload_n 0, 1) := by decide +kernel
theorem dX9_load_1 : decode cX9_load 1 = .ok (.iload_n 1, 1) := by decide +kernel
theorem dX9_load_2 : decode cX9_load 2 = .ok (.iconst 0, 1) := by decide +kernel
theorem dX9_load_3 : decode cX9_load 3 = .ok (.iconst 4, 1) := by decide +kernel
theorem dX9_load_4 : decode cX9_load 4 = .ok (.invokestatic 165, 3) := by decide +kernel
theorem dX9_load_7 : decode cX9_load 7 = .ok (.iconst 1, 1) := by decide +kernel
theorem dX9_load_8 : decode cX9_load 8 = .ok (.iconst 1, 1) := by decide +kernel
theorem dX9_load_9 : decode cX9_load 9 = .ok (.invokevirtual 179, 3) := by decide +kernel
theorem dX9_load_12 : decode cX9_load 12 = .ok (.ifCond .eq 11, 3) := by decide +kernel
theorem dX9_load_15 : decode cX9_load 15 = .ok (.aload_n 0, 1) := by decide +kernel
theorem dX9_load_16 : decode cX9_load 16 = .ok (.iload_n 1, 1) := by decide +kernel
theorem dX9_load_17 : decode cX9_load 17 = .ok (.invokevirtual 176, 3) := by decide +kernel
theorem dX9_load_20 : decode cX9_load 20 = .ok (.goto 4, 3) := by decide +kernel
theorem dX9_load_23 : decode cX9_load 23 = .ok (.iconst 0, 1) := by decide +kernel
theorem dX9_load_24 : decode cX9_load 24 = .ok (.ireturn, 1) := by decide +kernel
theorem dX9_visited_0 : decode cX9_visited 0 = .ok (.aload_n 0, 1) := by decide +kernel
theorem dX9_visited_1 : decode cX9_visited 1 = .ok (.getfield 43, 3) := by decide +kernel
theorem dX9_visited_4 : decode cX9_visited 4 = .ok (.iload_n 1, 1) := by decide +kernel
theorem dX9_visited_5 : decode cX9_visited 5 = .ok (.baload, 1) := by decide +kernel
theorem dX9_visited_6 : decode cX9_visited 6 = .ok (.istore_n 2, 1) := by decide +kernel
theorem dX9_visited_7 : decode cX9_visited 7 = .ok (.aload_n 0, 1) := by decide +kernel
theorem dX9_visited_8 : decode cX9_visited 8 = .ok (.getfield 43, 3) := by decide +kernel
theorem dX9_visited_11 : decode cX9_visited 11 = .ok (.iload_n 1, 1) := by decide +kernel
theorem dX9_visited_12 : decode cX9_visited 12 = .ok (.iconst 0, 1) := by decide +kernel
theorem dX9_visited_13 : decode cX9_visited 13 = .ok (.bastore, 1) := by decide +kernel
theorem dX9_visited_14 : decode cX9_visited 14 = .ok (.aload_n 0, 1) := by decide +kernel
theorem dX9_visited_15 : decode cX9_visited 15 = .ok (.getfield 47, 3) := by decide +kernel
theorem dX9_visited_18 : decode cX9_visited 18 = .ok (.iload_n 1, 1) := by decide +kernel
theorem dX9_visited_19 : decode cX9_visited 19 = .ok (.dup2, 1) := by decide +kernel
theorem dX9_visited_20 : decode cX9_visited 20 = .ok (.iaload, 1) := by decide +kernel
theorem dX9_visited_21 : decode cX9_visited 21 = .ok (.iload_n 2, 1) := by decide +kernel
theorem dX9_visited_22 : decode cX9_visited 22 = .ok (.ifCond .eq 7, 3) := by decide +kernel
theorem dX9_visited_25 : decode cX9_visited 25 = .ok (.iconst 1, 1) := by decide +kernel
theorem dX9_visited_26 : decode cX9_visited 26 = .ok (.goto 4, 3) := by decide +kernel
theorem dX9_visited_29 : decode cX9_visited 29 = .ok (.iconst 0, 1) := by decide +kernel
theorem dX9_visited_30 : decode cX9_visited 30 = .ok (.iadd, 1) := by decide +kernel
theorem dX9_visited_31 : decode cX9_visited 31 = .ok (.iastore, 1) := by decide +kernel
theorem dX9_visited_32 : decode cX9_visited 32 = .ok (.aload_n 0, 1) := by decide +kernel
theorem dX9_visited_33 : decode cX9_visited 33 = .ok (.getfield 50, 3) := by decide +kernel
theorem dX9_visited_36 : decode cX9_visited 36 = .ok (.iload_n 1, 1) := by decide +kernel
theorem dX9_visited_37 : decode cX9_visited 37 = .ok (.dup2, 1) := by decide +kernel
theorem dX9_visited_38 : decode cX9_visited 38 = .ok (.iaload, 1) := by decide +kernel
theorem dX9_visited_39 : decode cX9_visited 39 = .ok (.iload_n 2, 1) := by decide +kernel
theorem dX9_visited_40 : decode cX9_visited 40 = .ok (.ifCond .eq 7, 3) := by decide +kernel
theorem dX9_visited_43 : decode cX9_visited 43 = .ok (.iconst 0, 1) := by decide +kernel
theorem dX9_visited_44 : decode cX9_visited 44 = .ok (.goto 4, 3) := by decide +kernel
theorem dX9_visited_47 : decode cX9_visited 47 = .ok (.iconst 1, 1) := by decide +kernel
theorem dX9_visited_48 : decode cX9_visited 48 = .ok (.iadd, 1) := by decide +kernel
theorem dX9_visited_49 : decode cX9_visited 49 = .ok (.iastore, 1) := by decide +kernel
theorem dX9_visited_50 : decode cX9_visited 50 = .ok (.aload_n 0, 1) := by decide +kernel
theorem dX9_visited_51 : decode cX9_visited 51 = .ok (.getfield 53, 3) := by decide +kernel
theorem dX9_visited_54 : decode cX9_visited 54 = .ok (.iload_n 1, 1) := by decide +kernel
theorem dX9_visited_55 : decode cX9_visited 55 = .ok (.iload_n 2, 1) := by decide +kernel
theorem dX9_visited_56 : decode cX9_visited 56 = .ok (.ifCond .eq 14, 3) := by decide +kernel
theorem dX9_visited_59 : decode cX9_visited 59 = .ok (.aload_n 0, 1) := by decide +kernel
theorem dX9_visited_60 : decode cX9_visited 60 = .ok (.getfield 53, 3) := by decide +kernel
theorem dX9_visited_63 : decode cX9_visited 63 = .ok (.iload_n 1, 1) := by decide +kernel
theorem dX9_visited_64 : decode cX9_visited 64 = .ok (.iaload, 1) := by decide +kernel
theorem dX9_visited_65 : decode cX9_visited 65 = .ok (.iconst 1, 1) := by decide +kernel
theorem dX9_visited_66 : decode cX9_visited 66 = .ok (.iadd, 1) := by decide +kernel
theorem dX9_visited_67 : decode cX9_visited 67 = .ok (.goto 4, 3) := by decide +kernel
theorem dX9_visited_70 : decode cX9_visited 70 = .ok (.iconst 0, 1) := by decide +kernel
theorem dX9_visited_71 : decode cX9_visited 71 = .ok (.iastore, 1) := by decide +kernel
theorem dX9_visited_72 : decode cX9_visited 72 = .ok (.aload_n 0, 1) := by decide +kernel
theorem dX9_visited_73 : decode cX9_visited 73 = .ok (.getfield 56, 3) := by decide +kernel
theorem dX9_visited_76 : decode cX9_visited 76 = .ok (.iload_n 1, 1) := by decide +kernel
theorem dX9_visited_77 : decode cX9_visited 77 = .ok (.iload_n 2, 1) := by decide +kernel
theorem dX9_visited_78 : decode cX9_visited 78 = .ok (.ifCond .eq 7, 3) := by decide +kernel
theorem dX9_visited_81 : decode cX9_visited 81 = .ok (.iconst 0, 1) := by decide +kernel
theorem dX9_visited_82 : decode cX9_visited 82 = .ok (.goto 11, 3) := by decide +kernel
theorem dX9_visited_85 : decode cX9_visited 85 = .ok (.aload_n 0, 1) := by decide +kernel
theorem dX9_visited_86 : decode cX9_visited 86 = .ok (.getfield 56, 3) := by decide +kernel
theorem dX9_visited_89 : decode cX9_visited 89 = .ok (.iload_n 1, 1) := by decide +kernel
theorem dX9_visited_90 : decode cX9_visited 90 = .ok (.iaload, 1) := by decide +kernel
theorem dX9_visited_91 : decode cX9_visited 91 = .ok (.iconst 1, 1) := by decide +kernel
theorem dX9_visited_92 : decode cX9_visited 92 = .ok (.iadd, 1) := by decide +kernel
theorem dX9_visited_93 : decode cX9_visited 93 = .ok (.iastore, 1) := by decide +kernel
theorem dX9_visited_94 : decode cX9_visited 94 = .ok (.aload_n 0, 1) := by decide +kernel
theorem dX9_visited_95 : decode cX9_visited 95 = .ok (.getfield 59, 3) := by decide +kernel
theorem dX9_visited_98 : decode cX9_visited 98 = .ok (.iload_n 1, 1) := by decide +kernel
theorem dX9_visited_99 : decode cX9_visited 99 = .ok (.aload_n 0, 1) := by decide +kernel
theorem dX9_visited_100 : decode cX9_visited 100 = .ok (.getfield 56, 3) := by decide +kernel
theorem dX9_visited_103 : decode cX9_visited 103 = .ok (.iload_n 1, 1) := by decide +kernel
theorem dX9_visited_104 : decode cX9_visited 104 = .ok (.iaload, 1) := by decide +kernel
theorem dX9_visited_105 : decode cX9_visited 105 = .ok (.iconst 3, 1) := by decide +kernel
theorem dX9_visited_106 : decode cX9_visited 106 = .ok (.if_icmp .ge 22, 3) := by decide +kernel
theorem dX9_visited_109 : decode cX9_visited 109 = .ok (.aload_n 0, 1) := by decide +kernel
theorem dX9_visited_110 : decode cX9_visited 110 = .ok (.getfield 59, 3) := by decide +kernel
theorem dX9_visited_113 : decode cX9_visited 113 = .ok (.iload_n 1, 1) := by decide +kernel
theorem dX9_visited_114 : decode cX9_visited 114 = .ok (.baload, 1) := by decide +kernel
theorem dX9_visited_115 : decode cX9_visited 115 = .ok (.ifCond .eq 17, 3) := by decide +kernel
theorem dX9_visited_118 : decode cX9_visited 118 = .ok (.aload_n 0, 1) := by decide +kernel
theorem dX9_visited_119 : decode cX9_visited 119 = .ok (.getfield 53, 3) := by decide +kernel
theorem dX9_visited_122 : decode cX9_visited 122 = .ok (.iload_n 1, 1) := by decide +kernel
theorem dX9_visited_123 : decode cX9_visited 123 = .ok (.iaload, 1) := by decide +kernel
theorem dX9_visited_124 : decode cX9_visited 124 = .ok (.iconst 3, 1) := by decide +kernel
theorem dX9_visited_125 : decode cX9_visited 125 = .ok (.if_icmp .ge 7, 3) := by decide +kernel
theorem dX9_visited_128 : decode cX9_visited 128 = .ok (.iconst 1, 1) := by decide +kernel
theorem dX9_visited_129 : decode cX9_visited 129 = .ok (.goto 4, 3) := by decide +kernel
theorem dX9_visited_132 : decode cX9_visited 132 = .ok (.iconst 0, 1) := by decide +kernel
theorem dX9_visited_133 : decode cX9_visited 133 = .ok (.bastore, 1) := by decide +kernel
theorem dX9_visited_134 : decode cX9_visited 134 = .ok (.return_, 1) := by decide +kernel
theorem dX9_passes_0 : decode cX9_passes 0 = .ok (.iconst 0, 1) := by decide +kernel
theorem dX9_passes_1 : decode cX9_passes 1 = .ok (.istore_n 1, 1) := by decide +kernel
theorem dX9_passes_2 : decode cX9_passes 2 = .ok (.iload_n 1, 1) := by decide +kernel
theorem dX9_passes_3 : decode cX9_passes 3 = .ok (.aload_n 0, 1) := by decide +kernel
theorem dX9_passes_4 : decode cX9_passes 4 = .ok (.getfield 162, 3) := by decide +kernel
theorem dX9_passes_7 : decode cX9_passes 7 = .ok (.if_icmp .ge 56, 3) := by decide +kernel
theorem dX9_passes_10 : decode cX9_passes 10 = .ok (.aload_n 0, 1) := by decide +kernel
theorem dX9_passes_11 : decode cX9_passes 11 = .ok (.getfield 34, 3) := by decide +kernel
theorem dX9_passes_14 : decode cX9_passes 14 = .ok (.iload_n 1, 1) := by decide +kernel
theorem dX9_passes_15 : decode cX9_passes 15 = .ok (.iaload, 1) := by decide +kernel
theorem dX9_passes_16 : decode cX9_passes 16 = .ok (.iconst (-1), 1) := by decide +kernel
theorem dX9_passes_17 : decode cX9_passes 17 = .ok (.if_icmp .eq 40, 3) := by decide +kernel
theorem dX9_passes_20 : decode cX9_passes 20 = .ok (.aload_n 0, 1) := by decide +kernel
theorem dX9_passes_21 : decode cX9_passes 21 = .ok (.getfield 74, 3) := by decide +kernel
theorem dX9_passes_24 : decode cX9_passes 24 = .ok (.aload_n 0, 1) := by decide +kernel
theorem dX9_passes_25 : decode cX9_passes 25 = .ok (.iload_n 1, 1) := by decide +kernel
theorem dX9_passes_26 : decode cX9_passes 26 = .ok (.invokevirtual 227, 3) := by decide +kernel
theorem dX9_passes_29 : decode cX9_passes 29 = .ok (.dup2, 1) := by decide +kernel
theorem dX9_passes_30 : decode cX9_passes 30 = .ok (.iaload, 1) := by decide +kernel
theorem dX9_passes_31 : decode cX9_passes 31 = .ok (.bipush 10, 2) := by decide +kernel
theorem dX9_passes_33 : decode cX9_passes 33 = .ok (.aload_n 0, 1) := by decide +kernel
theorem dX9_passes_34 : decode cX9_passes 34 = .ok (.iload_n 1, 1) := by decide +kernel
theorem dX9_passes_35 : decode cX9_passes 35 = .ok (.aload_n 0, 1) := by decide +kernel
theorem dX9_passes_36 : decode cX9_passes 36 = .ok (.getfield 187, 3) := by decide +kernel
theorem dX9_passes_39 : decode cX9_passes 39 = .ok (.invokevirtual 224, 3) := by decide +kernel
theorem dX9_passes_42 : decode cX9_passes 42 = .ok (.iadd, 1) := by decide +kernel
theorem dX9_passes_43 : decode cX9_passes 43 = .ok (.iconst 5, 1) := by decide +kernel
theorem dX9_passes_44 : decode cX9_passes 44 = .ok (.aload_n 0, 1) := by decide +kernel
theorem dX9_passes_45 : decode cX9_passes 45 = .ok (.getfield 16, 3) := by decide +kernel
theorem dX9_passes_48 : decode cX9_passes 48 = .ok (.iload_n 1, 1) := by decide +kernel
theorem dX9_passes_49 : decode cX9_passes 49 = .ok (.iaload, 1) := by decide +kernel
theorem dX9_passes_50 : decode cX9_passes 50 = .ok (.invokestatic 172, 3) := by decide +kernel
theorem dX9_passes_53 : decode cX9_passes 53 = .ok (.imul, 1) := by decide +kernel
theorem dX9_passes_54 : decode cX9_passes 54 = .ok (.iadd, 1) := by decide +kernel
theorem dX9_passes_55 : decode cX9_passes 55 = .ok (.iadd, 1) := by decide +kernel
theorem dX9_passes_56 : decode cX9_passes 56 = .ok (.iastore, 1) := by decide +kernel
theorem dX9_passes_57 : decode cX9_passes 57 = .ok (.iinc 1 1, 3) := by decide +kernel
theorem dX9_passes_60 : decode cX9_passes 60 = .ok (.goto (-58), 3) := by decide +kernel
theorem dX9_passes_63 : decode cX9_passes 63 = .ok (.aload_n 0, 1) := by decide +kernel
theorem dX9_passes_64 : decode cX9_passes 64 = .ok (.dup, 1) := by decide +kernel
theorem dX9_passes_65 : decode cX9_passes 65 = .ok (.getfield 187, 3) := by decide +kernel
theorem dX9_passes_68 : decode cX9_passes 68 = .ok (.iconst 1, 1) := by decide +kernel
theorem dX9_passes_69 : decode cX9_passes 69 = .ok (.iadd, 1) := by decide +kernel
theorem dX9_passes_70 : decode cX9_passes 70 = .ok (.putfield 187, 3) := by decide +kernel
theorem dX9_passes_73 : decode cX9_passes 73 = .ok (.iconst 0, 1) := by decide +kernel
theorem dX9_passes_74 : decode cX9_passes 74 = .ok (.istore_n 1, 1) := by decide +kernel
theorem dX9_passes_75 : decode cX9_passes 75 = .ok (.iload_n 1, 1) := by decide +kernel
theorem dX9_passes_76 : decode cX9_passes 76 = .ok (.aload_n 0, 1) := by decide +kernel
theorem dX9_passes_77 : decode cX9_passes 77 = .ok (.getfield 162, 3) := by decide +kernel
theorem dX9_passes_80 : decode cX9_passes 80 = .ok (.if_icmp .ge 86, 3) := by decide +kernel
theorem dX9_passes_83 : decode cX9_passes 83 = .ok (.aload_n 0, 1) := by decide +kernel
theorem dX9_passes_84 : decode cX9_passes 84 = .ok (.getfield 34, 3) := by decide +kernel
theorem dX9_passes_87 : decode cX9_passes 87 = .ok (.iload_n 1, 1) := by decide +kernel
theorem dX9_passes_88 : decode cX9_passes 88 = .ok (.iaload, 1) := by decide +kernel
theorem dX9_passes_89 : decode cX9_passes 89 = .ok (.iconst (-1), 1) := by decide +kernel
theorem dX9_passes_90 : decode cX9_passes 90 = .ok (.if_icmp .eq 70, 3) := by decide +kernel
theorem dX9_passes_93 : decode cX9_passes 93 = .ok (.aload_n 0, 1) := by decide +kernel
theorem dX9_passes_94 : decode cX9_passes 94 = .ok (.iload_n 1, 1) := by decide +kernel
theorem dX9_passes_95 : decode cX9_passes 95 = .ok (.aload_n 0, 1) := by decide +kernel
theorem dX9_passes_96 : decode cX9_passes 96 = .ok (.getfield 187, 3) := by decide +kernel
theorem dX9_passes_99 : decode cX9_passes 99 = .ok (.invokevirtual 234, 3) := by decide +kernel
theorem dX9_passes_102 : decode cX9_passes 102 = .ok (.istore_n 2, 1) := by decide +kernel
theorem dX9_passes_103 : decode cX9_passes 103 = .ok (.iload_n 2, 1) := by decide +kernel
theorem dX9_passes_104 : decode cX9_passes 104 = .ok (.ifCond .eq 16, 3) := by decide +kernel
theorem dX9_passes_107 : decode cX9_passes 107 = .ok (.iload_n 2, 1) := by decide +kernel
theorem dX9_passes_108 : decode cX9_passes 108 = .ok (.iconst 2, 1) := by decide +kernel
theorem dX9_passes_109 : decode cX9_passes 109 = .ok (.if_icmp .eq 11, 3) := by decide +kernel
theorem dX9_passes_112 : decode cX9_passes 112 = .ok (.aload_n 0, 1) := by decide +kernel
theorem dX9_passes_113 : decode cX9_passes 113 = .ok (.iload_n 1, 1) := by decide +kernel
theorem dX9_passes_114 : decode cX9_passes 114 = .ok (.invokevirtual 249, 3) := by decide +kernel
theorem dX9_passes_117 : decode cX9_passes 117 = .ok (.goto 43, 3) := by decide +kernel
theorem dX9_passes_120 : decode cX9_passes 120 = .ok (.aload_n 0, 1) := by decide +kernel
theorem dX9_passes_121 : decode cX9_passes 121 = .ok (.getfield 40, 3) := by decide +kernel
theorem dX9_passes_124 : decode cX9_passes 124 = .ok (.iload_n 1, 1) := by decide +kernel
theorem dX9_passes_125 : decode cX9_passes 125 = .ok (.iaload, 1) := by decide +kernel
theorem dX9_passes_126 : decode cX9_passes 126 = .ok (.ifCond .le 34, 3) := by decide +kernel
theorem dX9_passes_129 : decode cX9_passes 129 = .ok (.aload_n 0, 1) := by decide +kernel
theorem dX9_passes_130 : decode cX9_passes 130 = .ok (.getfield 187, 3) := by decide +kernel
theorem dX9_passes_133 : decode cX9_passes 133 = .ok (.aload_n 0, 1) := by decide +kernel
theorem dX9_passes_134 : decode cX9_passes 134 = .ok (.getfield 131, 3) := by decide +kernel
theorem dX9_passes_137 : decode cX9_passes 137 = .ok (.aload_n 0, 1) := by decide +kernel
theorem dX9_passes_138 : decode cX9_passes 138 = .ok (.getfield 34, 3) := by decide +kernel
theorem dX9_passes_141 : decode cX9_passes 141 = .ok (.iload_n 1, 1) := by decide +kernel
theorem dX9_passes_142 : decode cX9_passes 142 = .ok (.iaload, 1) := by decide +kernel
theorem dX9_passes_143 : decode cX9_passes 143 = .ok (.iaload, 1) := by decide +kernel
theorem dX9_passes_144 : decode cX9_passes 144 = .ok (.isub, 1) := by decide +kernel
theorem dX9_passes_145 : decode cX9_passes 145 = .ok (.aload_n 0, 1) := by decide +kernel
theorem dX9_passes_146 : decode cX9_passes 146 = .ok (.getfield 40, 3) := by decide +kernel
theorem dX9_passes_149 : decode cX9_passes 149 = .ok (.iload_n 1, 1) := by decide +kernel
theorem dX9_passes_150 : decode cX9_passes 150 = .ok (.iaload, 1) := by decide +kernel
theorem dX9_passes_151 : decode cX9_passes 151 = .ok (.irem, 1) := by decide +kernel
theorem dX9_passes_152 : decode cX9_passes 152 = .ok (.ifCond .ne 8, 3) := by decide +kernel
theorem dX9_passes_155 : decode cX9_passes 155 = .ok (.aload_n 0, 1) := by decide +kernel
theorem dX9_passes_156 : decode cX9_passes 156 = .ok (.iload_n 1, 1) := by decide +kernel
theorem dX9_passes_157 : decode cX9_passes 157 = .ok (.invokevirtual 277, 3) := by decide +kernel
theorem dX9_passes_160 : decode cX9_passes 160 = .ok (.iinc 1 1, 3) := by decide +kernel
theorem dX9_passes_163 : decode cX9_passes 163 = .ok (.goto (-88), 3) := by decide +kernel
theorem dX9_passes_166 : decode cX9_passes 166 = .ok (.return_, 1) := by decide +kernel
theorem dX9_pass_0 : decode cX9_pass 0 = .ok (.aload_n 0, 1) := by decide +kernel
theorem dX9_pass_1 : decode cX9_pass 1 = .ok (.iload_n 1, 1) := by decide +kernel
theorem dX9_pass_2 : decode cX9_pass 2 = .ok (.iconst 1, 1) := by decide +kernel
theorem dX9_pass_3 : decode cX9_pass 3 = .ok (.sipush 400, 3) := by decide +kernel
theorem dX9_pass_6 : decode cX9_pass 6 = .ok (.invokestatic 165, 3) := by decide +kernel
theorem dX9_pass_9 : decode cX9_pass 9 = .ok (.aload_n 0, 1) := by decide +kernel
theorem dX9_pass_10 : decode cX9_pass 10 = .ok (.getfield 187, 3) := by decide +kernel
theorem dX9_pass_13 : decode cX9_pass 13 = .ok (.iload_n 1, 1) := by decide +kernel
theorem dX9_pass_14 : decode cX9_pass 14 = .ok (.iadd, 1) := by decide +kernel
theorem dX9_pass_15 : decode cX9_pass 15 = .ok (.sipush 12000, 3) := by decide +kernel
theorem dX9_pass_18 : decode cX9_pass 18 = .ok (.if_icmp .gt 7, 3) := by decide +kernel
theorem dX9_pass_21 : decode cX9_pass 21 = .ok (.iconst 1, 1) := by decide +kernel
theorem dX9_pass_22 : decode cX9_pass 22 = .ok (.goto 4, 3) := by decide +kernel
theorem dX9_pass_25 : decode cX9_pass 25 = .ok (.iconst 0, 1) := by decide +kernel
theorem dX9_pass_26 : decode cX9_pass 26 = .ok (.iconst 1, 1) := by decide +kernel
theorem dX9_pass_27 : decode cX9_pass 27 = .ok (.invokevirtual 179, 3) := by decide +kernel
theorem dX9_pass_30 : decode cX9_pass 30 = .ok (.ifCond .ne 5, 3) := by decide +kernel
theorem dX9_pass_33 : decode cX9_pass 33 = .ok (.iconst 0, 1) := by decide +kernel
theorem dX9_pass_34 : decode cX9_pass 34 = .ok (.ireturn, 1) := by decide +kernel
theorem dX9_pass_35 : decode cX9_pass 35 = .ok (.iconst 0, 1) := by decide +kernel
theorem dX9_pass_36 : decode cX9_pass 36 = .ok (.istore_n 2, 1) := by decide +kernel
theorem dX9_pass_37 : decode cX9_pass 37 = .ok (.iload_n 2, 1) := by decide +kernel
theorem dX9_pass_38 : decode cX9_pass 38 = .ok (.iload_n 1, 1) := by decide +kernel
theorem dX9_pass_39 : decode cX9_pass 39 = .ok (.if_icmp .ge 13, 3) := by decide +kernel
theorem dX9_pass_42 : decode cX9_pass 42 = .ok (.aload_n 0, 1) := by decide +kernel
theorem dX9_pass_43 : decode cX9_pass 43 = .ok (.invokevirtual 280, 3) := by decide +kernel
theorem dX9_pass_46 : decode cX9_pass 46 = .ok (.iinc 2 1, 3) := by decide +kernel
theorem dX9_pass_49 : decode cX9_pass 49 = .ok (.goto (-12), 3) := by decide +kernel
theorem dX9_pass_52 : decode cX9_pass 52 = .ok (.aload_n 0, 1) := by decide +kernel
theorem dX9_pass_53 : decode cX9_pass 53 = .ok (.getfield 187, 3) := by decide +kernel
theorem dX9_pass_56 : decode cX9_pass 56 = .ok (.ireturn, 1) := by decide +kernel
theorem dX9_childIs_0 : decode cX9_childIs 0 = .ok (.aload_n 0, 1) := by decide +kernel
theorem dX9_childIs_1 : decode cX9_childIs 1 = .ok (.aload_n 0, 1) := by decide +kernel
theorem dX9_childIs_2 : decode cX9_childIs 2 = .ok (.iload_n 1, 1) := by decide +kernel
theorem dX9_childIs_3 : decode cX9_childIs 3 = .ok (.invokevirtual 208, 3) := by decide +kernel
theorem dX9_childIs_6 : decode cX9_childIs 6 = .ok (.iload_n 2, 1) := by decide +kernel
theorem dX9_childIs_7 : decode cX9_childIs 7 = .ok (.iconst 0, 1) := by decide +kernel
theorem dX9_childIs_8 : decode cX9_childIs 8 = .ok (.bipush 6, 2) := by decide +kernel
theorem dX9_childIs_10 : decode cX9_childIs 10 = .ok (.invokestatic 165, 3) := by decide +kernel
theorem dX9_childIs_13 : decode cX9_childIs 13 = .ok (.iconst 1, 1) := by decide +kernel
theorem dX9_childIs_14 : decode cX9_childIs 14 = .ok (.invokevirtual 179, 3) := by decide +kernel
theorem dX9_childIs_17 : decode cX9_childIs 17 = .ok (.ifCond .ne 5, 3) := by decide +kernel
theorem dX9_childIs_20 : decode cX9_childIs 20 = .ok (.iconst 0, 1) := by decide +kernel
theorem dX9_childIs_21 : decode cX9_childIs 21 = .ok (.ireturn, 1) := by decide +kernel
theorem dX9_childIs_22 : decode cX9_childIs 22 = .ok (.iload_n 2, 1) := by decide +kernel
theorem dX9_childIs_23 : decode cX9_childIs 23 = .ok (.tableswitch 89 0 5 #[37, 43, 53, 60, 67, 74], 37) := by decide +kernel
theorem dX9_childIs_60 : decode cX9_childIs 60 = .ok (.aload_n 0, 1) := by decide +kernel
theorem dX9_childIs_61 : decode cX9_childIs 61 = .ok (.iload_n 1, 1) := by decide +kernel
theorem dX9_childIs_62 : decode cX9_childIs 62 = .ok (.invokevirtual 227, 3) := by decide +kernel
theorem dX9_childIs_65 : decode cX9_childIs 65 = .ok (.ireturn, 1) := by decide +kernel
theorem dX9_childIs_66 : decode cX9_childIs 66 = .ok (.aload_n 0, 1) := by decide +kernel
theorem dX9_childIs_67 : decode cX9_childIs 67 = .ok (.iload_n 1, 1) := by decide +kernel
theorem dX9_childIs_68 : decode cX9_childIs 68 = .ok (.aload_n 0, 1) := by decide +kernel
theorem dX9_childIs_69 : decode cX9_childIs 69 = .ok (.getfield 187, 3) := by decide +kernel
theorem dX9_childIs_72 : decode cX9_childIs 72 = .ok (.invokevirtual 224, 3) := by decide +kernel
theorem dX9_childIs_75 : decode cX9_childIs 75 = .ok (.ireturn, 1) := by decide +kernel
theorem dX9_childIs_76 : decode cX9_childIs 76 = .ok (.aload_n 0, 1) := by decide +kernel
theorem dX9_childIs_77 : decode cX9_childIs 77 = .ok (.getfield 37, 3) := by decide +kernel
theorem dX9_childIs_80 : decode cX9_childIs 80 = .ok (.iload_n 1, 1) := by decide +kernel
theorem dX9_childIs_81 : decode cX9_childIs 81 = .ok (.iaload, 1) := by decide +kernel
theorem dX9_childIs_82 : decode cX9_childIs 82 = .ok (.ireturn, 1) := by decide +kernel
theorem dX9_childIs_83 : decode cX9_childIs 83 = .ok (.aload_n 0, 1) := by decide +kernel
theorem dX9_childIs_84 : decode cX9_childIs 84 = .ok (.getfield 47, 3) := by decide +kernel
theorem dX9_childIs_87 : decode cX9_childIs 87 = .ok (.iload_n 1, 1) := by decide +kernel
theorem dX9_childIs_88 : decode cX9_childIs 88 = .ok (.iaload, 1) := by decide +kernel
theorem dX9_childIs_89 : decode cX9_childIs 89 = .ok (.ireturn, 1) := by decide +kernel
theorem dX9_childIs_90 : decode cX9_childIs 90 = .ok (.aload_n 0, 1) := by decide +kernel
theorem dX9_childIs_91 : decode cX9_childIs 91 = .ok (.getfield 50, 3) := by decide +kernel
theorem dX9_childIs_94 : decode cX9_childIs 94 = .ok (.iload_n 1, 1) := by decide +kernel
theorem dX9_childIs_95 : decode cX9_childIs 95 = .ok (.iaload, 1) := by decide +kernel
theorem dX9_childIs_96 : decode cX9_childIs 96 = .ok (.ireturn, 1) := by decide +kernel
theorem dX9_childIs_97 : decode cX9_childIs 97 = .ok (.aload_n 0, 1) := by decide +kernel
theorem dX9_childIs_98 : decode cX9_childIs 98 = .ok (.getfield 59, 3) := by decide +kernel
theorem dX9_childIs_101 : decode cX9_childIs 101 = .ok (.iload_n 1, 1) := by decide +kernel
theorem dX9_childIs_102 : decode cX9_childIs 102 = .ok (.baload, 1) := by decide +kernel
theorem dX9_childIs_103 : decode cX9_childIs 103 = .ok (.ifCond .eq 7, 3) := by decide +kernel
theorem dX9_childIs_106 : decode cX9_childIs 106 = .ok (.iconst 1, 1) := by decide +kernel
theorem dX9_childIs_107 : decode cX9_childIs 107 = .ok (.goto 4, 3) := by decide +kernel
theorem dX9_childIs_110 : decode cX9_childIs 110 = .ok (.iconst 0, 1) := by decide +kernel
theorem dX9_childIs_111 : decode cX9_childIs 111 = .ok (.ireturn, 1) := by decide +kernel
theorem dX9_childIs_112 : decode cX9_childIs 112 = .ok (.aload_n 0, 1) := by decide +kernel
theorem dX9_childIs_113 : decode cX9_childIs 113 = .ok (.getfield 28, 3) := by decide +kernel
theorem dX9_childIs_116 : decode cX9_childIs 116 = .ok (.iload_n 1, 1) := by decide +kernel
theorem dX9_childIs_117 : decode cX9_childIs 117 = .ok (.iaload, 1) := by decide +kernel
theorem dX9_childIs_118 : decode cX9_childIs 118 = .ok (.ireturn, 1) := by decide +kernel
theorem dX9_stay_0 : decode cX9_stay 0 = .ok (.aload_n 0, 1) := by decide +kernel
theorem dX9_stay_1 : decode cX9_stay 1 = .ok (.iload_n 1, 1) := by decide +kernel
theorem dX9_stay_2 : decode cX9_stay 2 = .ok (.iconst 0, 1) := by decide +kernel
theorem dX9_stay_3 : decode cX9_stay 3 = .ok (.aload_n 0, 1) := by decide +kernel
theorem dX9_stay_4 : decode cX9_stay 4 = .ok (.getfield 253, 3) := by decide +kernel
theorem dX9_stay_7 : decode cX9_stay 7 = .ok (.iconst 1, 1) := by decide +kernel
theorem dX9_stay_8 : decode cX9_stay 8 = .ok (.isub, 1) := by decide +kernel
theorem dX9_stay_9 : decode cX9_stay 9 = .ok (.invokestatic 165, 3) := by decide +kernel
theorem dX9_stay_12 : decode cX9_stay 12 = .ok (.iload_n 2, 1) := by decide +kernel
theorem dX9_stay_13 : decode cX9_stay 13 = .ok (.iconst 0, 1) := by decide +kernel
theorem dX9_stay_14 : decode cX9_stay 14 = .ok (.iconst 4, 1) := by decide +kernel
theorem dX9_stay_15 : decode cX9_stay 15 = .ok (.invokestatic 165, 3) := by decide +kernel
theorem dX9_stay_18 : decode cX9_stay 18 = .ok (.iconst 1, 1) := by decide +kernel
theorem dX9_stay_19 : decode cX9_stay 19 = .ok (.invokevirtual 179, 3) := by decide +kernel
theorem dX9_stay_22 : decode cX9_stay 22 = .ok (.ifCond .ne 5, 3) := by decide +kernel
theorem dX9_stay_25 : decode cX9_stay 25 = .ok (.iconst 0, 1) := by decide +kernel
theorem dX9_stay_26 : decode cX9_stay 26 = .ok (.ireturn, 1) := by decide +kernel
theorem dX9_stay_27 : decode cX9_stay 27 = .ok (.iload_n 2, 1) := by decide +kernel
theorem dX9_stay_28 : decode cX9_stay 28 = .ok (.ifCond .ne 12, 3) := by decide +kernel
theorem dX9_stay_31 : decode cX9_stay 31 = .ok (.aload_n 0, 1) := by decide +kernel
theorem dX9_stay_32 : decode cX9_stay 32 = .ok (.getfield 125, 3) := by decide +kernel
theorem dX9_stay_35 : decode cX9_stay 35 = .ok (.iload_n 1, 1) := by decide +kernel
theorem dX9_stay_36 : decode cX9_stay 36 = .ok (.iaload, 1) := by decide +kernel
theorem dX9_stay_37 : decode cX9_stay 37 = .ok (.goto 51, 3) := by decide +kernel
theorem dX9_stay_40 : decode cX9_stay 40 = .ok (.iload_n 2, 1) := by decide +kernel
theorem dX9_stay_41 : decode cX9_stay 41 = .ok (.iconst 1, 1) := by decide +kernel
theorem dX9_stay_42 : decode cX9_stay 42 = .ok (.if_icmp .ne 12, 3) := by decide +kernel
theorem dX9_stay_45 : decode cX9_stay 45 = .ok (.aload_n 0, 1) := by decide +kernel
theorem dX9_stay_46 : decode cX9_stay 46 = .ok (.getfield 128, 3) := by decide +kernel
theorem dX9_stay_49 : decode cX9_stay 49 = .ok (.iload_n 1, 1) := by decide +kernel
theorem dX9_stay_50 : decode cX9_stay 50 = .ok (.iaload, 1) := by decide +kernel
theorem dX9_stay_51 : decode cX9_stay 51 = .ok (.goto 37, 3) := by decide +kernel
theorem dX9_stay_54 : decode cX9_stay 54 = .ok (.iload_n 2, 1) := by decide +kernel
theorem dX9_stay_55 : decode cX9_stay 55 = .ok (.iconst 2, 1) := by decide +kernel
theorem dX9_stay_56 : decode cX9_stay 56 = .ok (.if_icmp .ne 12, 3) := by decide +kernel
theorem dX9_stay_59 : decode cX9_stay 59 = .ok (.aload_n 0, 1) := by decide +kernel
theorem dX9_stay_60 : decode cX9_stay 60 = .ok (.getfield 131, 3) := by decide +kernel
theorem dX9_stay_63 : decode cX9_stay 63 = .ok (.iload_n 1, 1) := by decide +kernel
theorem dX9_stay_64 : decode cX9_stay 64 = .ok (.iaload, 1) := by decide +kernel
theorem dX9_stay_65 : decode cX9_stay 65 = .ok (.goto 23, 3) := by decide +kernel
theorem dX9_stay_68 : decode cX9_stay 68 = .ok (.iload_n 2, 1) := by decide +kernel
theorem dX9_stay_69 : decode cX9_stay 69 = .ok (.iconst 3, 1) := by decide +kernel
theorem dX9_stay_70 : decode cX9_stay 70 = .ok (.if_icmp .ne 12, 3) := by decide +kernel
theorem dX9_stay_73 : decode cX9_stay 73 = .ok (.aload_n 0, 1) := by decide +kernel
theorem dX9_stay_74 : decode cX9_stay 74 = .ok (.getfield 134, 3) := by decide +kernel
theorem dX9_stay_77 : decode cX9_stay 77 = .ok (.iload_n 1, 1) := by decide +kernel
theorem dX9_stay_78 : decode cX9_stay 78 = .ok (.iaload, 1) := by decide +kernel
theorem dX9_stay_79 : decode cX9_stay 79 = .ok (.goto 9, 3) := by decide +kernel
theorem dX9_stay_82 : decode cX9_stay 82 = .ok (.aload_n 0, 1) := by decide +kernel
theorem dX9_stay_83 : decode cX9_stay 83 = .ok (.getfield 137, 3) := by decide +kernel
theorem dX9_stay_86 : decode cX9_stay 86 = .ok (.iload_n 1, 1) := by decide +kernel
theorem dX9_stay_87 : decode cX9_stay 87 = .ok (.iaload, 1) := by decide +kernel
theorem dX9_stay_88 : decode cX9_stay 88 = .ok (.ireturn, 1) := by decide +kernel
theorem dX9_wasAllowed_0 : decode cX9_wasAllowed 0 = .ok (.aload_n 0, 1) := by decide +kernel
theorem dX9_wasAllowed_1 : decode cX9_wasAllowed 1 = .ok (.iload_n 1, 1) := by decide +kernel
theorem dX9_wasAllowed_2 : decode cX9_wasAllowed 2 = .ok (.iconst 0, 1) := by decide +kernel
theorem dX9_wasAllowed_3 : decode cX9_wasAllowed 3 = .ok (.aload_n 0, 1) := by decide +kernel
theorem dX9_wasAllowed_4 : decode cX9_wasAllowed 4 = .ok (.getfield 253, 3) := by decide +kernel
theorem dX9_wasAllowed_7 : decode cX9_wasAllowed 7 = .ok (.iconst 1, 1) := by decide +kernel
theorem dX9_wasAllowed_8 : decode cX9_wasAllowed 8 = .ok (.isub, 1) := by decide +kernel
theorem dX9_wasAllowed_9 : decode cX9_wasAllowed 9 = .ok (.invokestatic 165, 3) := by decide +kernel
theorem dX9_wasAllowed_12 : decode cX9_wasAllowed 12 = .ok (.iconst 1, 1) := by decide +kernel
theorem dX9_wasAllowed_13 : decode cX9_wasAllowed 13 = .ok (.iconst 1, 1) := by decide +kernel
theorem dX9_wasAllowed_14 : decode cX9_wasAllowed 14 = .ok (.invokevirtual 179, 3) := by decide +kernel
theorem dX9_wasAllowed_17 : decode cX9_wasAllowed 17 = .ok (.ifCond .eq 32, 3) := by decide +kernel
theorem dX9_wasAllowed_20 : decode cX9_wasAllowed 20 = .ok (.aload_n 0, 1) := by decide +kernel
theorem dX9_wasAllowed_21 : decode cX9_wasAllowed 21 = .ok (.aload_n 0, 1) := by decide +kernel
theorem dX9_wasAllowed_22 : decode cX9_wasAllowed 22 = .ok (.getfield 125, 3) := by decide +kernel
theorem dX9_wasAllowed_25 : decode cX9_wasAllowed 25 = .ok (.iload_n 1, 1) := by decide +kernel
theorem dX9_wasAllowed_26 : decode cX9_wasAllowed 26 = .ok (.iaload, 1) := by decide +kernel
theorem dX9_wasAllowed_27 : decode cX9_wasAllowed 27 = .ok (.aload_n 0, 1) := by decide +kernel
theorem dX9_wasAllowed_28 : decode cX9_wasAllowed 28 = .ok (.getfield 128, 3) := by decide +kernel
theorem dX9_wasAllowed_31 : decode cX9_wasAllowed 31 = .ok (.iload_n 1, 1) := by decide +kernel
theorem dX9_wasAllowed_32 : decode cX9_wasAllowed 32 = .ok (.iaload, 1) := by decide +kernel
theorem dX9_wasAllowed_33 : decode cX9_wasAllowed 33 = .ok (.aload_n 0, 1) := by decide +kernel
theorem dX9_wasAllowed_34 : decode cX9_wasAllowed 34 = .ok (.getfield 131, 3) := by decide +kernel
theorem dX9_wasAllowed_37 : decode cX9_wasAllowed 37 = .ok (.iload_n 1, 1) := by decide +kernel
theorem dX9_wasAllowed_38 : decode cX9_wasAllowed 38 = .ok (.iaload, 1) := by decide +kernel
theorem dX9_wasAllowed_39 : decode cX9_wasAllowed 39 = .ok (.invokevirtual 237, 3) := by decide +kernel
theorem dX9_wasAllowed_42 : decode cX9_wasAllowed 42 = .ok (.ifCond .ne 7, 3) := by decide +kernel
theorem dX9_wasAllowed_45 : decode cX9_wasAllowed 45 = .ok (.iconst 1, 1) := by decide +kernel
theorem dX9_wasAllowed_46 : decode cX9_wasAllowed 46 = .ok (.goto 4, 3) := by decide +kernel
theorem dX9_wasAllowed_49 : decode cX9_wasAllowed 49 = .ok (.iconst 0, 1) := by decide +kernel
theorem dX9_wasAllowed_50 : decode cX9_wasAllowed 50 = .ok (.ireturn, 1) := by decide +kernel
theorem dX9_blacken_0 : decode cX9_blacken 0 = .ok (.aload_n 0, 1) := by decide +kernel
theorem dX9_blacken_1 : decode cX9_blacken 1 = .ok (.aload_n 0, 1) := by decide +kernel
theorem dX9_blacken_2 : decode cX9_blacken 2 = .ok (.iload_n 1, 1) := by decide +kernel
theorem dX9_blacken_3 : decode cX9_blacken 3 = .ok (.invokevirtual 193, 3) := by decide +kernel
theorem dX9_blacken_6 : decode cX9_blacken 6 = .ok (.iconst 1, 1) := by decide +kernel
theorem dX9_blacken_7 : decode cX9_blacken 7 = .ok (.iconst 1, 1) := by decide +kernel
theorem dX9_blacken_8 : decode cX9_blacken 8 = .ok (.invokevirtual 179, 3) := by decide +kernel
theorem dX9_blacken_11 : decode cX9_blacken 11 = .ok (.ifCond .ne 5, 3) := by decide +kernel
theorem dX9_blacken_14 : decode cX9_blacken 14 = .ok (.iconst 0, 1) := by decide +kernel
theorem dX9_blacken_15 : decode cX9_blacken 15 = .ok (.ireturn, 1) := by decide +kernel
theorem dX9_blacken_16 : decode cX9_blacken 16 = .ok (.aload_n 0, 1) := by decide +kernel
theorem dX9_blacken_17 : decode cX9_blacken 17 = .ok (.getfield 80, 3) := by decide +kernel
theorem dX9_blacken_20 : decode cX9_blacken 20 = .ok (.iload_n 1, 1) := by decide +kernel
theorem dX9_blacken_21 : decode cX9_blacken 21 = .ok (.baload, 1) := by decide +kernel
theorem dX9_blacken_22 : decode cX9_blacken 22 = .ok (.istore_n 3, 1) := by decide +kernel
theorem dX9_blacken_23 : decode cX9_blacken 23 = .ok (.aload_n 0, 1) := by decide +kernel
theorem dX9_blacken_24 : decode cX9_blacken 24 = .ok (.getfield 80, 3) := by decide +kernel
theorem dX9_blacken_27 : decode cX9_blacken 27 = .ok (.iload_n 1, 1) := by decide +kernel
theorem dX9_blacken_28 : decode cX9_blacken 28 = .ok (.iload_n 2, 1) := by decide +kernel
theorem dX9_blacken_29 : decode cX9_blacken 29 = .ok (.bastore, 1) := by decide +kernel
theorem dX9_blacken_30 : decode cX9_blacken 30 = .ok (.iload_n 3, 1) := by decide +kernel
theorem dX9_blacken_31 : decode cX9_blacken 31 = .ok (.ireturn, 1) := by decide +kernel
theorem dX9_file_0 : decode cX9_file 0 = .ok (.aload_n 0, 1) := by decide +kernel
theorem dX9_file_1 : decode cX9_file 1 = .ok (.iload_n 1, 1) := by decide +kernel
theorem dX9_file_2 : decode cX9_file 2 = .ok (.invokevirtual 208, 3) := by decide +kernel
theorem dX9_file_5 : decode cX9_file 5 = .ok (.ifCond .eq 11, 3) := by decide +kernel
theorem dX9_file_8 : decode cX9_file 8 = .ok (.iload_n 2, 1) := by decide +kernel
theorem dX9_file_9 : decode cX9_file 9 = .ok (.ifCond .lt 7, 3) := by decide +kernel
theorem dX9_file_12 : decode cX9_file 12 = .ok (.iconst 1, 1) := by decide +kernel
theorem dX9_file_13 : decode cX9_file 13 = .ok (.goto 4, 3) := by decide +kernel
theorem dX9_file_16 : decode cX9_file 16 = .ok (.iconst 0, 1) := by decide +kernel
theorem dX9_file_17 : decode cX9_file 17 = .ok (.istore_n 3, 1) := by decide +kernel
theorem dX9_file_18 : decode cX9_file 18 = .ok (.aload_n 0, 1) := by decide +kernel
theorem dX9_file_19 : decode cX9_file 19 = .ok (.iload_n 3, 1) := by decide +kernel
theorem dX9_file_20 : decode cX9_file 20 = .ok (.iload_n 3, 1) := by decide +kernel
theorem dX9_file_21 : decode cX9_file 21 = .ok (.ifCond .eq 21, 3) := by decide +kernel
theorem dX9_file_24 : decode cX9_file 24 = .ok (.aload_n 0, 1) := by decide +kernel
theorem dX9_file_25 : decode cX9_file 25 = .ok (.iload_n 1, 1) := by decide +kernel
theorem dX9_file_26 : decode cX9_file 26 = .ok (.aload_n 0, 1) := by decide +kernel
theorem dX9_file_27 : decode cX9_file 27 = .ok (.getfield 187, 3) := by decide +kernel
theorem dX9_file_30 : decode cX9_file 30 = .ok (.invokevirtual 224, 3) := by decide +kernel
theorem dX9_file_33 : decode cX9_file 33 = .ok (.bipush 18, 2) := by decide +kernel
theorem dX9_file_35 : decode cX9_file 35 = .ok (.if_icmp .lt 7, 3) := by decide +kernel
theorem dX9_file_38 : decode cX9_file 38 = .ok (.iconst 1, 1) := by decide +kernel
theorem dX9_file_39 : decode cX9_file 39 = .ok (.goto 4, 3) := by decide +kernel
theorem dX9_file_42 : decode cX9_file 42 = .ok (.iconst 0, 1) := by decide +kernel
theorem dX9_file_43 : decode cX9_file 43 = .ok (.iconst 1, 1) := by decide +kernel
theorem dX9_file_44 : decode cX9_file 44 = .ok (.invokevirtual 179, 3) := by decide +kernel
theorem dX9_file_47 : decode cX9_file 47 = .ok (.ifCond .ne 5, 3) := by decide +kernel
theorem dX9_file_50 : decode cX9_file 50 = .ok (.iconst 0, 1) := by decide +kernel
theorem dX9_file_51 : decode cX9_file 51 = .ok (.ireturn, 1) := by decide +kernel
theorem dX9_file_52 : decode cX9_file 52 = .ok (.iload_n 2, 1) := by decide +kernel
theorem dX9_file_53 : decode cX9_file 53 = .ok (.istore 4, 2) := by decide +kernel
theorem dX9_file_55 : decode cX9_file 55 = .ok (.iconst 0, 1) := by decide +kernel
theorem dX9_file_56 : decode cX9_file 56 = .ok (.istore 5, 2) := by decide +kernel
theorem dX9_file_58 : decode cX9_file 58 = .ok (.iload 5, 2) := by decide +kernel
theorem dX9_file_60 : decode cX9_file 60 = .ok (.aload_n 0, 1) := by decide +kernel
theorem dX9_file_61 : decode cX9_file 61 = .ok (.getfield 253, 3) := by decide +kernel
theorem dX9_file_64 : decode cX9_file 64 = .ok (.if_icmp .ge 56, 3) := by decide +kernel
theorem dX9_file_67 : decode cX9_file 67 = .ok (.aload_n 0, 1) := by decide +kernel
theorem dX9_file_68 : decode cX9_file 68 = .ok (.getfield 125, 3) := by decide +kernel
theorem dX9_file_71 : decode cX9_file 71 = .ok (.iload 5, 2) := by decide +kernel
theorem dX9_file_73 : decode cX9_file 73 = .ok (.iaload, 1) := by decide +kernel
theorem dX9_file_74 : decode cX9_file 74 = .ok (.iload_n 1, 1) := by decide +kernel
theorem dX9_file_75 : decode cX9_file 75 = .ok (.if_icmp .ne 39, 3) := by decide +kernel
theorem dX9_file_78 : decode cX9_file 78 = .ok (.iload 4, 2) := by decide +kernel
theorem dX9_file_80 : decode cX9_file 80 = .ok (.ifCond .ne 31, 3) := by decide +kernel
theorem dX9_file_83 : decode cX9_file 83 = .ok (.aload_n 0, 1) := by decide +kernel
theorem dX9_file_84 : decode cX9_file 84 = .ok (.getfield 80, 3) := by decide +kernel
theorem dX9_file_87 : decode cX9_file 87 = .ok (.aload_n 0, 1) := by decide +kernel
theorem dX9_file_88 : decode cX9_file 88 = .ok (.getfield 128, 3) := by decide +kernel
theorem dX9_file_91 : decode cX9_file 91 = .ok (.iload 5, 2) := by decide +kernel
theorem dX9_file_93 : decode cX9_file 93 = .ok (.iaload, 1) := by decide +kernel
theorem dX9_file_94 : decode cX9_file 94 = .ok (.baload, 1) := by decide +kernel
theorem dX9_file_95 : decode cX9_file 95 = .ok (.ifCond .eq 8, 3) := by decide +kernel
theorem dX9_file_98 : decode cX9_file 98 = .ok (.bipush (-2), 2) := by decide +kernel
theorem dX9_file_100 : decode cX9_file 100 = .ok (.goto 10, 3) := by decide +kernel
theorem dX9_file_103 : decode cX9_file 103 = .ok (.aload_n 0, 1) := by decide +kernel
theorem dX9_file_104 : decode cX9_file 104 = .ok (.getfield 128, 3) := by decide +kernel
theorem dX9_file_107 : decode cX9_file 107 = .ok (.iload 5, 2) := by decide +kernel
theorem dX9_file_109 : decode cX9_file 109 = .ok (.iaload, 1) := by decide +kernel
theorem dX9_file_110 : decode cX9_file 110 = .ok (.ireturn, 1) := by decide +kernel
theorem dX9_file_111 : decode cX9_file 111 = .ok (.iinc 4 (-1), 3) := by decide +kernel
theorem dX9_file_114 : decode cX9_file 114 = .ok (.iinc 5 1, 3) := by decide +kernel
theorem dX9_file_117 : decode cX9_file 117 = .ok (.goto (-59), 3) := by decide +kernel
theorem dX9_file_120 : decode cX9_file 120 = .ok (.iconst (-1), 1) := by decide +kernel
theorem dX9_file_121 : decode cX9_file 121 = .ok (.ireturn, 1) := by decide +kernel
theorem dJ6_bitCount_0f7a4_0 : decode cJ6_bitCount_0f7a4 0 = .ok (.iload_n 0, 1) := by decide +kernel
theorem dJ6_bitCount_0f7a4_1 : decode cJ6_bitCount_0f7a4 1 = .ok (.iload_n 0, 1) := by decide +kernel
theorem dJ6_bitCount_0f7a4_2 : decode cJ6_bitCount_0f7a4 2 = .ok (.iconst 1, 1) := by decide +kernel
theorem dJ6_bitCount_0f7a4_3 : decode cJ6_bitCount_0f7a4 3 = .ok (.iushr, 1) := by decide +kernel
theorem dJ6_bitCount_0f7a4_4 : decode cJ6_bitCount_0f7a4 4 = .ok (.ldc_w 265, 3) := by decide +kernel
theorem dJ6_bitCount_0f7a4_7 : decode cJ6_bitCount_0f7a4 7 = .ok (.iand, 1) := by decide +kernel
theorem dJ6_bitCount_0f7a4_8 : decode cJ6_bitCount_0f7a4 8 = .ok (.isub, 1) := by decide +kernel
theorem dJ6_bitCount_0f7a4_9 : decode cJ6_bitCount_0f7a4 9 = .ok (.istore_n 0, 1) := by decide +kernel
theorem dJ6_bitCount_0f7a4_10 : decode cJ6_bitCount_0f7a4 10 = .ok (.iload_n 0, 1) := by decide +kernel
theorem dJ6_bitCount_0f7a4_11 : decode cJ6_bitCount_0f7a4 11 = .ok (.ldc_w 266, 3) := by decide +kernel
theorem dJ6_bitCount_0f7a4_14 : decode cJ6_bitCount_0f7a4 14 = .ok (.iand, 1) := by decide +kernel
theorem dJ6_bitCount_0f7a4_15 : decode cJ6_bitCount_0f7a4 15 = .ok (.iload_n 0, 1) := by decide +kernel
theorem dJ6_bitCount_0f7a4_16 : decode cJ6_bitCount_0f7a4 16 = .ok (.iconst 2, 1) := by decide +kernel
theorem dJ6_bitCount_0f7a4_17 : decode cJ6_bitCount_0f7a4 17 = .ok (.iushr, 1) := by decide +kernel
theorem dJ6_bitCount_0f7a4_18 : decode cJ6_bitCount_0f7a4 18 = .ok (.ldc_w 266, 3) := by decide +kernel
theorem dJ6_bitCount_0f7a4_21 : decode cJ6_bitCount_0f7a4 21 = .ok (.iand, 1) := by decide +kernel
theorem dJ6_bitCount_0f7a4_22 : decode cJ6_bitCount_0f7a4 22 = .ok (.iadd, 1) := by decide +kernel
theorem dJ6_bitCount_0f7a4_23 : decode cJ6_bitCount_0f7a4 23 = .ok (.istore_n 0, 1) := by decide +kernel
theorem dJ6_bitCount_0f7a4_24 : decode cJ6_bitCount_0f7a4 24 = .ok (.iload_n 0, 1) := by decide +kernel
theorem dJ6_bitCount_0f7a4_25 : decode cJ6_bitCount_0f7a4 25 = .ok (.iload_n 0, 1) := by decide +kernel
theorem dJ6_bitCount_0f7a4_26 : decode cJ6_bitCount_0f7a4 26 = .ok (.iconst 4, 1) := by decide +kernel
theorem dJ6_bitCount_0f7a4_27 : decode cJ6_bitCount_0f7a4 27 = .ok (.iushr, 1) := by decide +kernel
theorem dJ6_bitCount_0f7a4_28 : decode cJ6_bitCount_0f7a4 28 = .ok (.iadd, 1) := by decide +kernel
theorem dJ6_bitCount_0f7a4_29 : decode cJ6_bitCount_0f7a4 29 = .ok (.ldc_w 267, 3) := by decide +kernel
theorem dJ6_bitCount_0f7a4_32 : decode cJ6_bitCount_0f7a4 32 = .ok (.iand, 1) := by decide +kernel
theorem dJ6_bitCount_0f7a4_33 : decode cJ6_bitCount_0f7a4 33 = .ok (.istore_n 0, 1) := by decide +kernel
theorem dJ6_bitCount_0f7a4_34 : decode cJ6_bitCount_0f7a4 34 = .ok (.iload_n 0, 1) := by decide +kernel
theorem dJ6_bitCount_0f7a4_35 : decode cJ6_bitCount_0f7a4 35 = .ok (.iload_n 0, 1) := by decide +kernel
theorem dJ6_bitCount_0f7a4_36 : decode cJ6_bitCount_0f7a4 36 = .ok (.bipush 8, 2) := by decide +kernel
