theorem dX7_isSign_20 : decode cX7_isSign 20 = .ok (.iconst 0, 1) := by decide +kernel
theorem dX7_isSign_21 : decode cX7_isSign 21 = .ok (.ireturn, 1) := by decide +kernel
theorem dX7_isWord_0 : decode cX7_isWord 0 = .ok (.aload_n 0, 1) := by decide +kernel
theorem dX7_isWord_1 : decode cX7_isWord 1 = .ok (.aload_n 1, 1) := by decide +kernel
theorem dX7_isWord_2 : decode cX7_isWord 2 = .ok (.invokevirtual 50, 3) := by decide +kernel
theorem dX7_isWord_5 : decode cX7_isWord 5 = .ok (.ifCond .ne 7, 3) := by decide +kernel
theorem dX7_isWord_8 : decode cX7_isWord 8 = .ok (.iconst 1, 1) := by decide +kernel
theorem dX7_isWord_9 : decode cX7_isWord 9 = .ok (.goto 4, 3) := by decide +kernel
theorem dX7_isWord_12 : decode cX7_isWord 12 = .ok (.iconst 0, 1) := by decide +kernel
theorem dX7_isWord_13 : decode cX7_isWord 13 = .ok (.ireturn, 1) := by decide +kernel
theorem dX7_wordIn_0 : decode cX7_wordIn 0 = .ok (.aload_n 0, 1) := by decide +kernel
theorem dX7_wordIn_1 : decode cX7_wordIn 1 = .ok (.getfield 43, 3) := by decide +kernel
theorem dX7_wordIn_4 : decode cX7_wordIn 4 = .ok (.iconst 1, 1) := by decide +kernel
theorem dX7_wordIn_5 : decode cX7_wordIn 5 = .ok (.if_icmp .eq 5, 3) := by decide +kernel
theorem dX7_wordIn_8 : decode cX7_wordIn 8 = .ok (.iconst (-1), 1) := by decide +kernel
theorem dX7_wordIn_9 : decode cX7_wordIn 9 = .ok (.ireturn, 1) := by decide +kernel
theorem dX7_wordIn_10 : decode cX7_wordIn 10 = .ok (.aload_n 0, 1) := by decide +kernel
theorem dX7_wordIn_11 : decode cX7_wordIn 11 = .ok (.getfield 25, 3) := by decide +kernel
theorem dX7_wordIn_14 : decode cX7_wordIn 14 = .ok (.aload_n 0, 1) := by decide +kernel
theorem dX7_wordIn_15 : decode cX7_wordIn 15 = .ok (.getfield 34, 3) := by decide +kernel
theorem dX7_wordIn_18 : decode cX7_wordIn 18 = .ok (.isub, 1) := by decide +kernel
theorem dX7_wordIn_19 : decode cX7_wordIn 19 = .ok (.istore_n 2, 1) := by decide +kernel
theorem dX7_wordIn_20 : decode cX7_wordIn 20 = .ok (.iconst 0, 1) := by decide +kernel
theorem dX7_wordIn_21 : decode cX7_wordIn 21 = .ok (.istore_n 3, 1) := by decide +kernel
theorem dX7_wordIn_22 : decode cX7_wordIn 22 = .ok (.iconst 0, 1) := by decide +kernel
theorem dX7_wordIn_23 : decode cX7_wordIn 23 = .ok (.istore 4, 2) := by decide +kernel
theorem dX7_wordIn_25 : decode cX7_wordIn 25 = .ok (.iconst 1, 1) := by decide +kernel
theorem dX7_wordIn_26 : decode cX7_wordIn 26 = .ok (.istore 5, 2) := by decide +kernel
theorem dX7_wordIn_28 : decode cX7_wordIn 28 = .ok (.iconst 0, 1) := by decide +kernel
theorem dX7_wordIn_29 : decode cX7_wordIn 29 = .ok (.istore 6, 2) := by decide +kernel
theorem dX7_wordIn_31 : decode cX7_wordIn 31 = .ok (.iload 6, 2) := by decide +kernel
theorem dX7_wordIn_33 : decode cX7_wordIn 33 = .ok (.aload_n 1, 1) := by decide +kernel
theorem dX7_wordIn_34 : decode cX7_wordIn 34 = .ok (.invokevirtual 54, 3) := by decide +kernel
theorem dX7_wordIn_37 : decode cX7_wordIn 37 = .ok (.if_icmp .gt 96, 3) := by decide +kernel
theorem dX7_wordIn_40 : decode cX7_wordIn 40 = .ok (.iload 6, 2) := by decide +kernel
theorem dX7_wordIn_42 : decode cX7_wordIn 42 = .ok (.aload_n 1, 1) := by decide +kernel
theorem dX7_wordIn_43 : decode cX7_wordIn 43 = .ok (.invokevirtual 54, 3) := by decide +kernel
theorem dX7_wordIn_46 : decode cX7_wordIn 46 = .ok (.if_icmp .ge 59, 3) := by decide +kernel
theorem dX7_wordIn_49 : decode cX7_wordIn 49 = .ok (.aload_n 1, 1) := by decide +kernel
theorem dX7_wordIn_50 : decode cX7_wordIn 50 = .ok (.iload 6, 2) := by decide +kernel
theorem dX7_wordIn_52 : decode cX7_wordIn 52 = .ok (.invokevirtual 59, 3) := by decide +kernel
theorem dX7_wordIn_55 : decode cX7_wordIn 55 = .ok (.bipush 32, 2) := by decide +kernel
theorem dX7_wordIn_57 : decode cX7_wordIn 57 = .ok (.if_icmp .eq 48, 3) := by decide +kernel
theorem dX7_wordIn_60 : decode cX7_wordIn 60 = .ok (.iload 5, 2) := by decide +kernel
theorem dX7_wordIn_62 : decode cX7_wordIn 62 = .ok (.ifCond .eq 34, 3) := by decide +kernel
theorem dX7_wordIn_65 : decode cX7_wordIn 65 = .ok (.iload 4, 2) := by decide +kernel
theorem dX7_wordIn_67 : decode cX7_wordIn 67 = .ok (.iload_n 2, 1) := by decide +kernel
theorem dX7_wordIn_68 : decode cX7_wordIn 68 = .ok (.if_icmp .ge 28, 3) := by decide +kernel
theorem dX7_wordIn_71 : decode cX7_wordIn 71 = .ok (.aload_n 0, 1) := by decide +kernel
theorem dX7_wordIn_72 : decode cX7_wordIn 72 = .ok (.getfield 9, 3) := by decide +kernel
theorem dX7_wordIn_75 : decode cX7_wordIn 75 = .ok (.aload_n 0, 1) := by decide +kernel
theorem dX7_wordIn_76 : decode cX7_wordIn 76 = .ok (.getfield 34, 3) := by decide +kernel
theorem dX7_wordIn_79 : decode cX7_wordIn 79 = .ok (.iload 4, 2) := by decide +kernel
theorem dX7_wordIn_81 : decode cX7_wordIn 81 = .ok (.iadd, 1) := by decide +kernel
theorem dX7_wordIn_82 : decode cX7_wordIn 82 = .ok (.iaload, 1) := by decide +kernel
theorem dX7_wordIn_83 : decode cX7_wordIn 83 = .ok (.aload_n 1, 1) := by decide +kernel
theorem dX7_wordIn_84 : decode cX7_wordIn 84 = .ok (.iload 6, 2) := by decide +kernel
theorem dX7_wordIn_86 : decode cX7_wordIn 86 = .ok (.invokevirtual 59, 3) := by decide +kernel
theorem dX7_wordIn_89 : decode cX7_wordIn 89 = .ok (.if_icmp .ne 7, 3) := by decide +kernel
theorem dX7_wordIn_92 : decode cX7_wordIn 92 = .ok (.iconst 1, 1) := by decide +kernel
theorem dX7_wordIn_93 : decode cX7_wordIn 93 = .ok (.goto 4, 3) := by decide +kernel
theorem dX7_wordIn_96 : decode cX7_wordIn 96 = .ok (.iconst 0, 1) := by decide +kernel
theorem dX7_wordIn_97 : decode cX7_wordIn 97 = .ok (.istore 5, 2) := by decide +kernel
theorem dX7_wordIn_99 : decode cX7_wordIn 99 = .ok (.iinc 4 1, 3) := by decide +kernel
theorem dX7_wordIn_102 : decode cX7_wordIn 102 = .ok (.goto 25, 3) := by decide +kernel
theorem dX7_wordIn_105 : decode cX7_wordIn 105 = .ok (.iload 5, 2) := by decide +kernel
theorem dX7_wordIn_107 : decode cX7_wordIn 107 = .ok (.ifCond .eq 11, 3) := by decide +kernel
theorem dX7_wordIn_110 : decode cX7_wordIn 110 = .ok (.iload 4, 2) := by decide +kernel
theorem dX7_wordIn_112 : decode cX7_wordIn 112 = .ok (.iload_n 2, 1) := by decide +kernel
theorem dX7_wordIn_113 : decode cX7_wordIn 113 = .ok (.if_icmp .ne 5, 3) := by decide +kernel
theorem dX7_wordIn_116 : decode cX7_wordIn 116 = .ok (.iload_n 3, 1) := by decide +kernel
theorem dX7_wordIn_117 : decode cX7_wordIn 117 = .ok (.ireturn, 1) := by decide +kernel
theorem dX7_wordIn_118 : decode cX7_wordIn 118 = .ok (.iinc 3 1, 3) := by decide +kernel
theorem dX7_wordIn_121 : decode cX7_wordIn 121 = .ok (.iconst 0, 1) := by decide +kernel
theorem dX7_wordIn_122 : decode cX7_wordIn 122 = .ok (.istore 4, 2) := by decide +kernel
theorem dX7_wordIn_124 : decode cX7_wordIn 124 = .ok (.iconst 1, 1) := by decide +kernel
theorem dX7_wordIn_125 : decode cX7_wordIn 125 = .ok (.istore 5, 2) := by decide +kernel
theorem dX7_wordIn_127 : decode cX7_wordIn 127 = .ok (.iinc 6 1, 3) := by decide +kernel
theorem dX7_wordIn_130 : decode cX7_wordIn 130 = .ok (.goto (-99), 3) := by decide +kernel
theorem dX7_wordIn_133 : decode cX7_wordIn 133 = .ok (.iconst (-1), 1) := by decide +kernel
theorem dX7_wordIn_134 : decode cX7_wordIn 134 = .ok (.ireturn, 1) := by decide +kernel
theorem dX7_takeNumber_0 : decode cX7_takeNumber 0 = .ok (.aload_n 0, 1) := by decide +kernel
theorem dX7_takeNumber_1 : decode cX7_takeNumber 1 = .ok (.getfield 40, 3) := by decide +kernel
theorem dX7_takeNumber_4 : decode cX7_takeNumber 4 = .ok (.istore_n 3, 1) := by decide +kernel
theorem dX7_takeNumber_5 : decode cX7_takeNumber 5 = .ok (.aload_n 0, 1) := by decide +kernel
theorem dX7_takeNumber_6 : decode cX7_takeNumber 6 = .ok (.getfield 43, 3) := by decide +kernel
theorem dX7_takeNumber_9 : decode cX7_takeNumber 9 = .ok (.iconst 2, 1) := by decide +kernel
theorem dX7_takeNumber_10 : decode cX7_takeNumber 10 = .ok (.if_icmp .eq 11, 3) := by decide +kernel
theorem dX7_takeNumber_13 : decode cX7_takeNumber 13 = .ok (.aload_n 0, 1) := by decide +kernel
theorem dX7_takeNumber_14 : decode cX7_takeNumber 14 = .ok (.iconst 0, 1) := by decide +kernel
theorem dX7_takeNumber_15 : decode cX7_takeNumber 15 = .ok (.invokevirtual 46, 3) := by decide +kernel
theorem dX7_takeNumber_18 : decode cX7_takeNumber 18 = .ok (.goto 25, 3) := by decide +kernel
theorem dX7_takeNumber_21 : decode cX7_takeNumber 21 = .ok (.iload_n 3, 1) := by decide +kernel
theorem dX7_takeNumber_22 : decode cX7_takeNumber 22 = .ok (.iload_n 1, 1) := by decide +kernel
theorem dX7_takeNumber_23 : decode cX7_takeNumber 23 = .ok (.if_icmp .lt 8, 3) := by decide +kernel
theorem dX7_takeNumber_26 : decode cX7_takeNumber 26 = .ok (.iload_n 3, 1) := by decide +kernel
theorem dX7_takeNumber_27 : decode cX7_takeNumber 27 = .ok (.iload_n 2, 1) := by decide +kernel
theorem dX7_takeNumber_28 : decode cX7_takeNumber 28 = .ok (.if_icmp .le 11, 3) := by decide +kernel
theorem dX7_takeNumber_31 : decode cX7_takeNumber 31 = .ok (.aload_n 0, 1) := by decide +kernel
theorem dX7_takeNumber_32 : decode cX7_takeNumber 32 = .ok (.iconst 1, 1) := by decide +kernel
theorem dX7_takeNumber_33 : decode cX7_takeNumber 33 = .ok (.invokevirtual 46, 3) := by decide +kernel
theorem dX7_takeNumber_36 : decode cX7_takeNumber 36 = .ok (.goto 7, 3) := by decide +kernel
theorem dX7_takeNumber_39 : decode cX7_takeNumber 39 = .ok (.aload_n 0, 1) := by decide +kernel
theorem dX7_takeNumber_40 : decode cX7_takeNumber 40 = .ok (.invokevirtual 31, 3) := by decide +kernel
theorem dX7_takeNumber_43 : decode cX7_takeNumber 43 = .ok (.iload_n 3, 1) := by decide +kernel
theorem dX7_takeNumber_44 : decode cX7_takeNumber 44 = .ok (.ireturn, 1) := by decide +kernel
theorem dX8_init_0 : decode cX8_init 0 = .ok (.aload_n 0, 1) := by decide +kernel
theorem dX8_init_1 : decode cX8_init 1 = .ok (.invokespecial 1, 3) := by decide +kernel
theorem dX8_init_4 : decode cX8_init 4 = .ok (.aload_n 0, 1) := by decide +kernel
theorem dX8_init_5 : decode cX8_init 5 = .ok (.aload_n 1, 1) := by decide +kernel
theorem dX8_init_6 : decode cX8_init 6 = .ok (.putfield 7, 3) := by decide +kernel
theorem dX8_init_9 : decode cX8_init 9 = .ok (.return_, 1) := by decide +kernel
theorem dX8_sum_0 : decode cX8_sum 0 = .ok (.iconst 0, 1) := by decide +kernel
theorem dX8_sum_1 : decode cX8_sum 1 = .ok (.istore_n 3, 1) := by decide +kernel
theorem dX8_sum_2 : decode cX8_sum 2 = .ok (.iconst 0, 1) := by decide +kernel
theorem dX8_sum_3 : decode cX8_sum 3 = .ok (.istore 4, 2) := by decide +kernel
theorem dX8_sum_5 : decode cX8_sum 5 = .ok (.iload 4, 2) := by decide +kernel
theorem dX8_sum_7 : decode cX8_sum 7 = .ok (.aload_n 0, 1) := by decide +kernel
theorem dX8_sum_8 : decode cX8_sum 8 = .ok (.getfield 7, 3) := by decide +kernel
theorem dX8_sum_11 : decode cX8_sum 11 = .ok (.arraylength, 1) := by decide +kernel
theorem dX8_sum_12 : decode cX8_sum 12 = .ok (.if_icmp .ge 163, 3) := by decide +kernel
theorem dX8_sum_15 : decode cX8_sum 15 = .ok (.aload_n 0, 1) := by decide +kernel
theorem dX8_sum_16 : decode cX8_sum 16 = .ok (.getfield 7, 3) := by decide +kernel
theorem dX8_sum_19 : decode cX8_sum 19 = .ok (.iload 4, 2) := by decide +kernel
theorem dX8_sum_21 : decode cX8_sum 21 = .ok (.iaload, 1) := by decide +kernel
theorem dX8_sum_22 : decode cX8_sum 22 = .ok (.bipush 20, 2) := by decide +kernel
theorem dX8_sum_24 : decode cX8_sum 24 = .ok (.ishr, 1) := by decide +kernel
theorem dX8_sum_25 : decode cX8_sum 25 = .ok (.istore 5, 2) := by decide +kernel
theorem dX8_sum_27 : decode cX8_sum 27 = .ok (.iload 5, 2) := by decide +kernel
theorem dX8_sum_29 : decode cX8_sum 29 = .ok (.iconst 1, 1) := by decide +kernel
theorem dX8_sum_30 : decode cX8_sum 30 = .ok (.if_icmp .gt 31, 3) := by decide +kernel
theorem dX8_sum_33 : decode cX8_sum 33 = .ok (.iload_n 3, 1) := by decide +kernel
theorem dX8_sum_34 : decode cX8_sum 34 = .ok (.aload_n 2, 1) := by decide +kernel
theorem dX8_sum_35 : decode cX8_sum 35 = .ok (.arraylength, 1) := by decide +kernel
theorem dX8_sum_36 : decode cX8_sum 36 = .ok (.if_icmp .ge 133, 3) := by decide +kernel
theorem dX8_sum_39 : decode cX8_sum 39 = .ok (.aload_n 2, 1) := by decide +kernel
theorem dX8_sum_40 : decode cX8_sum 40 = .ok (.iload_n 3, 1) := by decide +kernel
theorem dX8_sum_41 : decode cX8_sum 41 = .ok (.iload 5, 2) := by decide +kernel
theorem dX8_sum_43 : decode cX8_sum 43 = .ok (.aload_n 0, 1) := by decide +kernel
theorem dX8_sum_44 : decode cX8_sum 44 = .ok (.getfield 7, 3) := by decide +kernel
theorem dX8_sum_47 : decode cX8_sum 47 = .ok (.iload 4, 2) := by decide +kernel
theorem dX8_sum_49 : decode cX8_sum 49 = .ok (.iaload, 1) := by decide +kernel
theorem dX8_sum_50 : decode cX8_sum 50 = .ok (.aload_n 1, 1) := by decide +kernel
theorem dX8_sum_51 : decode cX8_sum 51 = .ok (.invokestatic 13, 3) := by decide +kernel
theorem dX8_sum_54 : decode cX8_sum 54 = .ok (.lastore, 1) := by decide +kernel
theorem dX8_sum_55 : decode cX8_sum 55 = .ok (.iinc 3 1, 3) := by decide +kernel
theorem dX8_sum_58 : decode cX8_sum 58 = .ok (.goto 111, 3) := by decide +kernel
theorem dX8_sum_61 : decode cX8_sum 61 = .ok (.iload 5, 2) := by decide +kernel
theorem dX8_sum_63 : decode cX8_sum 63 = .ok (.bipush 14, 2) := by decide +kernel
theorem dX8_sum_65 : decode cX8_sum 65 = .ok (.if_icmp .ne 23, 3) := by decide +kernel
theorem dX8_sum_68 : decode cX8_sum 68 = .ok (.iload_n 3, 1) := by decide +kernel
theorem dX8_sum_69 : decode cX8_sum 69 = .ok (.iconst 1, 1) := by decide +kernel
theorem dX8_sum_70 : decode cX8_sum 70 = .ok (.if_icmp .lt 99, 3) := by decide +kernel
theorem dX8_sum_73 : decode cX8_sum 73 = .ok (.aload_n 2, 1) := by decide +kernel
theorem dX8_sum_74 : decode cX8_sum 74 = .ok (.iload_n 3, 1) := by decide +kernel
theorem dX8_sum_75 : decode cX8_sum 75 = .ok (.iconst 1, 1) := by decide +kernel
theorem dX8_sum_76 : decode cX8_sum 76 = .ok (.isub, 1) := by decide +kernel
theorem dX8_sum_77 : decode cX8_sum 77 = .ok (.lconst 1, 1) := by decide +kernel
theorem dX8_sum_78 : decode cX8_sum 78 = .ok (.aload_n 2, 1) := by decide +kernel
theorem dX8_sum_79 : decode cX8_sum 79 = .ok (.iload_n 3, 1) := by decide +kernel
theorem dX8_sum_80 : decode cX8_sum 80 = .ok (.iconst 1, 1) := by decide +kernel
theorem dX8_sum_81 : decode cX8_sum 81 = .ok (.isub, 1) := by decide +kernel
theorem dX8_sum_82 : decode cX8_sum 82 = .ok (.laload, 1) := by decide +kernel
theorem dX8_sum_83 : decode cX8_sum 83 = .ok (.lsub, 1) := by decide +kernel
theorem dX8_sum_84 : decode cX8_sum 84 = .ok (.lastore, 1) := by decide +kernel
theorem dX8_sum_85 : decode cX8_sum 85 = .ok (.goto 84, 3) := by decide +kernel
theorem dX8_sum_88 : decode cX8_sum 88 = .ok (.iload 5, 2) := by decide +kernel
theorem dX8_sum_90 : decode cX8_sum 90 = .ok (.bipush 15, 2) := by decide +kernel
theorem dX8_sum_92 : decode cX8_sum 92 = .ok (.if_icmp .ne 18, 3) := by decide +kernel
theorem dX8_sum_95 : decode cX8_sum 95 = .ok (.iload_n 3, 1) := by decide +kernel
theorem dX8_sum_96 : decode cX8_sum 96 = .ok (.iconst 1, 1) := by decide +kernel
theorem dX8_sum_97 : decode cX8_sum 97 = .ok (.if_icmp .lt 11, 3) := by decide +kernel
theorem dX8_sum_100 : decode cX8_sum 100 = .ok (.aload_n 2, 1) := by decide +kernel
theorem dX8_sum_101 : decode cX8_sum 101 = .ok (.iload_n 3, 1) := by decide +kernel
theorem dX8_sum_102 : decode cX8_sum 102 = .ok (.iconst 1, 1) := by decide +kernel
theorem dX8_sum_103 : decode cX8_sum 103 = .ok (.isub, 1) := by decide +kernel
theorem dX8_sum_104 : decode cX8_sum 104 = .ok (.laload, 1) := by decide +kernel
theorem dX8_sum_105 : decode cX8_sum 105 = .ok (.goto 4, 3) := by decide +kernel
theorem dX8_sum_108 : decode cX8_sum 108 = .ok (.lconst 0, 1) := by decide +kernel
theorem dX8_sum_109 : decode cX8_sum 109 = .ok (.lreturn, 1) := by decide +kernel
theorem dX8_sum_110 : decode cX8_sum 110 = .ok (.iload 5, 2) := by decide +kernel
theorem dX8_sum_112 : decode cX8_sum 112 = .ok (.bipush 16, 2) := by decide +kernel
theorem dX8_sum_114 : decode cX8_sum 114 = .ok (.if_icmp .ne 29, 3) := by decide +kernel
theorem dX8_sum_117 : decode cX8_sum 117 = .ok (.iload_n 3, 1) := by decide +kernel
theorem dX8_sum_118 : decode cX8_sum 118 = .ok (.iconst 2, 1) := by decide +kernel
theorem dX8_sum_119 : decode cX8_sum 119 = .ok (.if_icmp .lt 19, 3) := by decide +kernel
theorem dX8_sum_122 : decode cX8_sum 122 = .ok (.aload_n 2, 1) := by decide +kernel
theorem dX8_sum_123 : decode cX8_sum 123 = .ok (.iload_n 3, 1) := by decide +kernel
theorem dX8_sum_124 : decode cX8_sum 124 = .ok (.iconst 1, 1) := by decide +kernel
theorem dX8_sum_125 : decode cX8_sum 125 = .ok (.isub, 1) := by decide +kernel
theorem dX8_sum_126 : decode cX8_sum 126 = .ok (.laload, 1) := by decide +kernel
theorem dX8_sum_127 : decode cX8_sum 127 = .ok (.lconst 0, 1) := by decide +kernel
theorem dX8_sum_128 : decode cX8_sum 128 = .ok (.lcmp, 1) := by decide +kernel
theorem dX8_sum_129 : decode cX8_sum 129 = .ok (.ifCond .eq 9, 3) := by decide +kernel
theorem dX8_sum_132 : decode cX8_sum 132 = .ok (.aload_n 2, 1) := by decide +kernel
theorem dX8_sum_133 : decode cX8_sum 133 = .ok (.iload_n 3, 1) := by decide +kernel
theorem dX8_sum_134 : decode cX8_sum 134 = .ok (.iconst 2, 1) := by decide +kernel
theorem dX8_sum_135 : decode cX8_sum 135 = .ok (.isub, 1) := by decide +kernel
theorem dX8_sum_136 : decode cX8_sum 136 = .ok (.laload, 1) := by decide +kernel
theorem dX8_sum_137 : decode cX8_sum 137 = .ok (.lreturn, 1) := by decide +kernel
theorem dX8_sum_138 : decode cX8_sum 138 = .ok (.iconst 0, 1) := by decide +kernel
theorem dX8_sum_139 : decode cX8_sum 139 = .ok (.istore_n 3, 1) := by decide +kernel
theorem dX8_sum_140 : decode cX8_sum 140 = .ok (.goto 29, 3) := by decide +kernel
theorem dX8_sum_143 : decode cX8_sum 143 = .ok (.iload_n 3, 1) := by decide +kernel
theorem dX8_sum_144 : decode cX8_sum 144 = .ok (.iconst 2, 1) := by decide +kernel
theorem dX8_sum_145 : decode cX8_sum 145 = .ok (.if_icmp .lt 24, 3) := by decide +kernel
theorem dX8_sum_148 : decode cX8_sum 148 = .ok (.iinc 3 (-1), 3) := by decide +kernel
theorem dX8_sum_151 : decode cX8_sum 151 = .ok (.aload_n 2, 1) := by decide +kernel
theorem dX8_sum_152 : decode cX8_sum 152 = .ok (.iload_n 3, 1) := by decide +kernel
theorem dX8_sum_153 : decode cX8_sum 153 = .ok (.iconst 1, 1) := by decide +kernel
theorem dX8_sum_154 : decode cX8_sum 154 = .ok (.isub, 1) := by decide +kernel
theorem dX8_sum_155 : decode cX8_sum 155 = .ok (.iload 5, 2) := by decide +kernel
theorem dX8_sum_157 : decode cX8_sum 157 = .ok (.aload_n 2, 1) := by decide +kernel
theorem dX8_sum_158 : decode cX8_sum 158 = .ok (.iload_n 3, 1) := by decide +kernel
theorem dX8_sum_159 : decode cX8_sum 159 = .ok (.iconst 1, 1) := by decide +kernel
theorem dX8_sum_160 : decode cX8_sum 160 = .ok (.isub, 1) := by decide +kernel
theorem dX8_sum_161 : decode cX8_sum 161 = .ok (.laload, 1) := by decide +kernel
theorem dX8_sum_162 : decode cX8_sum 162 = .ok (.aload_n 2, 1) := by decide +kernel
theorem dX8_sum_163 : decode cX8_sum 163 = .ok (.iload_n 3, 1) := by decide +kernel
theorem dX8_sum_164 : decode cX8_sum 164 = .ok (.laload, 1) := by decide +kernel
theorem dX8_sum_165 : decode cX8_sum 165 = .ok (.invokestatic 17, 3) := by decide +kernel
theorem dX8_sum_168 : decode cX8_sum 168 = .ok (.lastore, 1) := by decide +kernel
theorem dX8_sum_169 : decode cX8_sum 169 = .ok (.iinc 4 1, 3) := by decide +kernel
theorem dX8_sum_172 : decode cX8_sum 172 = .ok (.goto (-167), 3) := by decide +kernel
theorem dX8_sum_175 : decode cX8_sum 175 = .ok (.lconst 0, 1) := by decide +kernel
theorem dX8_sum_176 : decode cX8_sum 176 = .ok (.lreturn, 1) := by decide +kernel
theorem dX8_valueOf_0 : decode cX8_valueOf 0 = .ok (.iload_n 1, 1) := by decide +kernel
theorem dX8_valueOf_1 : decode cX8_valueOf 1 = .ok (.ldc 21, 2) := by decide +kernel
theorem dX8_valueOf_3 : decode cX8_valueOf 3 = .ok (.iand, 1) := by decide +kernel
theorem dX8_valueOf_4 : decode cX8_valueOf 4 = .ok (.istore_n 3, 1) := by decide +kernel
theorem dX8_valueOf_5 : decode cX8_valueOf 5 = .ok (.iload_n 0, 1) := by decide +kernel
theorem dX8_valueOf_6 : decode cX8_valueOf 6 = .ok (.ifCond .ne 6, 3) := by decide +kernel
theorem dX8_valueOf_9 : decode cX8_valueOf 9 = .ok (.iload_n 3, 1) := by decide +kernel
theorem dX8_valueOf_10 : decode cX8_valueOf 10 = .ok (.i2l, 1) := by decide +kernel
theorem dX8_valueOf_11 : decode cX8_valueOf 11 = .ok (.lreturn, 1) := by decide +kernel
theorem dX8_valueOf_12 : decode cX8_valueOf 12 = .ok (.iload_n 3, 1) := by decide +kernel
theorem dX8_valueOf_13 : decode cX8_valueOf 13 = .ok (.aload_n 2, 1) := by decide +kernel
theorem dX8_valueOf_14 : decode cX8_valueOf 14 = .ok (.arraylength, 1) := by decide +kernel
theorem dX8_valueOf_15 : decode cX8_valueOf 15 = .ok (.if_icmp .ge 9, 3) := by decide +kernel
theorem dX8_valueOf_18 : decode cX8_valueOf 18 = .ok (.aload_n 2, 1) := by decide +kernel
theorem dX8_valueOf_19 : decode cX8_valueOf 19 = .ok (.iload_n 3, 1) := by decide +kernel
theorem dX8_valueOf_20 : decode cX8_valueOf 20 = .ok (.laload, 1) := by decide +kernel
theorem dX8_valueOf_21 : decode cX8_valueOf 21 = .ok (.goto 4, 3) := by decide +kernel
theorem dX8_valueOf_24 : decode cX8_valueOf 24 = .ok (.lconst 0, 1) := by decide +kernel
theorem dX8_valueOf_25 : decode cX8_valueOf 25 = .ok (.lreturn, 1) := by decide +kernel
theorem dX8_joined_0 : decode cX8_joined 0 = .ok (.iload_n 0, 1) := by decide +kernel
theorem dX8_joined_1 : decode cX8_joined 1 = .ok (.tableswitch 163 2 12 #[59, 63, 67, 71, 85, 99, 111, 123, 135, 147, 159], 59) := by decide +kernel
theorem dX8_joined_60 : decode cX8_joined 60 = .ok (.lload_n 1, 1) := by decide +kernel
theorem dX8_joined_61 : decode cX8_joined 61 = .ok (.lload_n 3, 1) := by decide +kernel
theorem dX8_joined_62 : decode cX8_joined 62 = .ok (.ladd, 1) := by decide +kernel
theorem dX8_joined_63 : decode cX8_joined 63 = .ok (.lreturn, 1) := by decide +kernel
theorem dX8_joined_64 : decode cX8_joined 64 = .ok (.lload_n 1, 1) := by decide +kernel
theorem dX8_joined_65 : decode cX8_joined 65 = .ok (.lload_n 3, 1) := by decide +kernel
theorem dX8_joined_66 : decode cX8_joined 66 = .ok (.lsub, 1) := by decide +kernel
theorem dX8_joined_67 : decode cX8_joined 67 = .ok (.lreturn, 1) := by decide +kernel
theorem dX8_joined_68 : decode cX8_joined 68 = .ok (.lload_n 1, 1) := by decide +kernel
theorem dX8_joined_69 : decode cX8_joined 69 = .ok (.lload_n 3, 1) := by decide +kernel
theorem dX8_joined_70 : decode cX8_joined 70 = .ok (.lmul, 1) := by decide +kernel
theorem dX8_joined_71 : decode cX8_joined 71 = .ok (.lreturn, 1) := by decide +kernel
theorem dX8_joined_72 : decode cX8_joined 72 = .ok (.lload_n 3, 1) := by decide +kernel
theorem dX8_joined_73 : decode cX8_joined 73 = .ok (.lconst 0, 1) := by decide +kernel
theorem dX8_joined_74 : decode cX8_joined 74 = .ok (.lcmp, 1) := by decide +kernel
theorem dX8_joined_75 : decode cX8_joined 75 = .ok (.ifCond .ne 7, 3) := by decide +kernel
theorem dX8_joined_78 : decode cX8_joined 78 = .ok (.lconst 0, 1) := by decide +kernel
theorem dX8_joined_79 : decode cX8_joined 79 = .ok (.goto 6, 3) := by decide +kernel
theorem dX8_joined_82 : decode cX8_joined 82 = .ok (.lload_n 1, 1) := by decide +kernel
theorem dX8_joined_83 : decode cX8_joined 83 = .ok (.lload_n 3, 1) := by decide +kernel
theorem dX8_joined_84 : decode cX8_joined 84 = .ok (.ldiv, 1) := by decide +kernel
theorem dX8_joined_85 : decode cX8_joined 85 = .ok (.lreturn, 1) := by decide +kernel
theorem dX8_joined_86 : decode cX8_joined 86 = .ok (.lload_n 3, 1) := by decide +kernel
theorem dX8_joined_87 : decode cX8_joined 87 = .ok (.lconst 0, 1) := by decide +kernel
theorem dX8_joined_88 : decode cX8_joined 88 = .ok (.lcmp, 1) := by decide +kernel
theorem dX8_joined_89 : decode cX8_joined 89 = .ok (.ifCond .ne 7, 3) := by decide +kernel
theorem dX8_joined_92 : decode cX8_joined 92 = .ok (.lconst 0, 1) := by decide +kernel
theorem dX8_joined_93 : decode cX8_joined 93 = .ok (.goto 6, 3) := by decide +kernel
theorem dX8_joined_96 : decode cX8_joined 96 = .ok (.lload_n 1, 1) := by decide +kernel
theorem dX8_joined_97 : decode cX8_joined 97 = .ok (.lload_n 3, 1) := by decide +kernel
theorem dX8_joined_98 : decode cX8_joined 98 = .ok (.lrem, 1) := by decide +kernel
theorem dX8_joined_99 : decode cX8_joined 99 = .ok (.lreturn, 1) := by decide +kernel
theorem dX8_joined_100 : decode cX8_joined 100 = .ok (.lload_n 1, 1) := by decide +kernel
theorem dX8_joined_101 : decode cX8_joined 101 = .ok (.lload_n 3, 1) := by decide +kernel
theorem dX8_joined_102 : decode cX8_joined 102 = .ok (.lcmp, 1) := by decide +kernel
theorem dX8_joined_103 : decode cX8_joined 103 = .ok (.ifCond .ge 7, 3) := by decide +kernel
theorem dX8_joined_106 : decode cX8_joined 106 = .ok (.lconst 1, 1) := by decide +kernel
theorem dX8_joined_107 : decode cX8_joined 107 = .ok (.goto 4, 3) := by decide +kernel
theorem dX8_joined_110 : decode cX8_joined 110 = .ok (.lconst 0, 1) := by decide +kernel
theorem dX8_joined_111 : decode cX8_joined 111 = .ok (.lreturn, 1) := by decide +kernel
theorem dX8_joined_112 : decode cX8_joined 112 = .ok (.lload_n 1, 1) := by decide +kernel
theorem dX8_joined_113 : decode cX8_joined 113 = .ok (.lload_n 3, 1) := by decide +kernel
theorem dX8_joined_114 : decode cX8_joined 114 = .ok (.lcmp, 1) := by decide +kernel
theorem dX8_joined_115 : decode cX8_joined 115 = .ok (.ifCond .gt 7, 3) := by decide +kernel
theorem dX8_joined_118 : decode cX8_joined 118 = .ok (.lconst 1, 1) := by decide +kernel
theorem dX8_joined_119 : decode cX8_joined 119 = .ok (.goto 4, 3) := by decide +kernel
theorem dX8_joined_122 : decode cX8_joined 122 = .ok (.lconst 0, 1) := by decide +kernel
theorem dX8_joined_123 : decode cX8_joined 123 = .ok (.lreturn, 1) := by decide +kernel
theorem dX8_joined_124 : decode cX8_joined 124 = .ok (.lload_n 1, 1) := by decide +kernel
theorem dX8_joined_125 : decode cX8_joined 125 = .ok (.lload_n 3, 1) := by decide +kernel
theorem dX8_joined_126 : decode cX8_joined 126 = .ok (.lcmp, 1) := by decide +kernel
theorem dX8_joined_127 : decode cX8_joined 127 = .ok (.ifCond .ne 7, 3) := by decide +kernel
theorem dX8_joined_130 : decode cX8_joined 130 = .ok (.lconst 1, 1) := by decide +kernel
theorem dX8_joined_131 : decode cX8_joined 131 = .ok (.goto 4, 3) := by decide +kernel
theorem dX8_joined_134 : decode cX8_joined 134 = .ok (.lconst 0, 1) := by decide +kernel
theorem dX8_joined_135 : decode cX8_joined 135 = .ok (.lreturn, 1) := by decide +kernel
theorem dX8_joined_136 : decode cX8_joined 136 = .ok (.lload_n 1, 1) := by decide +kernel
theorem dX8_joined_137 : decode cX8_joined 137 = .ok (.lload_n 3, 1) := by decide +kernel
theorem dX8_joined_138 : decode cX8_joined 138 = .ok (.lcmp, 1) := by decide +kernel
theorem dX8_joined_139 : decode cX8_joined 139 = .ok (.ifCond .lt 7, 3) := by decide +kernel
theorem dX8_joined_142 : decode cX8_joined 142 = .ok (.lconst 1, 1) := by decide +kernel
theorem dX8_joined_143 : decode cX8_joined 143 = .ok (.goto 4, 3) := by decide +kernel
theorem dX8_joined_146 : decode cX8_joined 146 = .ok (.lconst 0, 1) := by decide +kernel
theorem dX8_joined_147 : decode cX8_joined 147 = .ok (.lreturn, 1) := by decide +kernel
theorem dX8_joined_148 : decode cX8_joined 148 = .ok (.lload_n 1, 1) := by decide +kernel
theorem dX8_joined_149 : decode cX8_joined 149 = .ok (.lload_n 3, 1) := by decide +kernel
theorem dX8_joined_150 : decode cX8_joined 150 = .ok (.lcmp, 1) := by decide +kernel
theorem dX8_joined_151 : decode cX8_joined 151 = .ok (.ifCond .le 7, 3) := by decide +kernel
theorem dX8_joined_154 : decode cX8_joined 154 = .ok (.lconst 1, 1) := by decide +kernel
theorem dX8_joined_155 : decode cX8_joined 155 = .ok (.goto 4, 3) := by decide +kernel
theorem dX8_joined_158 : decode cX8_joined 158 = .ok (.lconst 0, 1) := by decide +kernel
theorem dX8_joined_159 : decode cX8_joined 159 = .ok (.lreturn, 1) := by decide +kernel
theorem dX8_joined_160 : decode cX8_joined 160 = .ok (.lload_n 1, 1) := by decide +kernel
theorem dX8_joined_161 : decode cX8_joined 161 = .ok (.lload_n 3, 1) := by decide +kernel
theorem dX8_joined_162 : decode cX8_joined 162 = .ok (.land, 1) := by decide +kernel
theorem dX8_joined_163 : decode cX8_joined 163 = .ok (.lreturn, 1) := by decide +kernel
theorem dX8_joined_164 : decode cX8_joined 164 = .ok (.lload_n 1, 1) := by decide +kernel
theorem dX8_joined_165 : decode cX8_joined 165 = .ok (.lload_n 3, 1) := by decide +kernel
theorem dX8_joined_166 : decode cX8_joined 166 = .ok (.lor, 1) := by decide +kernel
theorem dX8_joined_167 : decode cX8_joined 167 = .ok (.lreturn, 1) := by decide +kernel
theorem dX9_init_0 : decode cX9_init 0 = .ok (.aload_n 0, 1) := by decide +kernel
theorem dX9_init_1 : decode cX9_init 1 = .ok (.invokespecial 3, 3) := by decide +kernel
theorem dX9_init_4 : decode cX9_init 4 = .ok (.aload_n 0, 1) := by decide +kernel
theorem dX9_init_5 : decode cX9_init 5 = .ok (.sipush 400, 3) := by decide +kernel
theorem dX9_init_8 : decode cX9_init 8 = .ok (.newarray .int, 2) := by decide +kernel
theorem dX9_init_10 : decode cX9_init 10 = .ok (.putfield 9, 3) := by decide +kernel
theorem dX9_init_13 : decode cX9_init 13 = .ok (.aload_n 0, 1) := by decide +kernel
theorem dX9_init_14 : decode cX9_init 14 = .ok (.new 15, 3) := by decide +kernel
theorem dX9_init_17 : decode cX9_init 17 = .ok (.dup, 1) := by decide +kernel
theorem dX9_init_18 : decode cX9_init 18 = .ok (.aload_n 1, 1) := by decide +kernel
theorem dX9_init_19 : decode cX9_init 19 = .ok (.invokespecial 17, 3) := by decide +kernel
theorem dX9_init_22 : decode cX9_init 22 = .ok (.putfield 20, 3) := by decide +kernel
theorem dX9_init_25 : decode cX9_init 25 = .ok (.return_, 1) := by decide +kernel
theorem dX9_readAll_0 : decode cX9_readAll 0 = .ok (.aload_n 0, 1) := by decide +kernel
theorem dX9_readAll_1 : decode cX9_readAll 1 = .ok (.iconst 0, 1) := by decide +kernel
theorem dX9_readAll_2 : decode cX9_readAll 2 = .ok (.putfield 24, 3) := by decide +kernel
theorem dX9_readAll_5 : decode cX9_readAll 5 = .ok (.aload_n 0, 1) := by decide +kernel
theorem dX9_readAll_6 : decode cX9_readAll 6 = .ok (.iconst 0, 1) := by decide +kernel
theorem dX9_readAll_7 : decode cX9_readAll 7 = .ok (.putfield 28, 3) := by decide +kernel
theorem dX9_readAll_10 : decode cX9_readAll 10 = .ok (.aload_n 0, 1) := by decide +kernel
theorem dX9_readAll_11 : decode cX9_readAll 11 = .ok (.getfield 20, 3) := by decide +kernel
theorem dX9_readAll_14 : decode cX9_readAll 14 = .ok (.iload_n 1, 1) := by decide +kernel
theorem dX9_readAll_15 : decode cX9_readAll 15 = .ok (.invokevirtual 31, 3) := by decide +kernel
theorem dX9_readAll_18 : decode cX9_readAll 18 = .ok (.aload_n 0, 1) := by decide +kernel
theorem dX9_readAll_19 : decode cX9_readAll 19 = .ok (.iconst 0, 1) := by decide +kernel
theorem dX9_readAll_20 : decode cX9_readAll 20 = .ok (.invokevirtual 35, 3) := by decide +kernel
theorem dX9_readAll_23 : decode cX9_readAll 23 = .ok (.iconst 1, 1) := by decide +kernel
theorem dX9_readAll_24 : decode cX9_readAll 24 = .ok (.istore_n 2, 1) := by decide +kernel
theorem dX9_readAll_25 : decode cX9_readAll 25 = .ok (.iload_n 2, 1) := by decide +kernel
theorem dX9_readAll_26 : decode cX9_readAll 26 = .ok (.bipush 12, 2) := by decide +kernel
theorem dX9_readAll_28 : decode cX9_readAll 28 = .ok (.if_icmp .gt 33, 3) := by decide +kernel
theorem dX9_readAll_31 : decode cX9_readAll 31 = .ok (.aload_n 0, 1) := by decide +kernel
theorem dX9_readAll_32 : decode cX9_readAll 32 = .ok (.getfield 20, 3) := by decide +kernel
theorem dX9_readAll_35 : decode cX9_readAll 35 = .ok (.bipush 59, 2) := by decide +kernel
theorem dX9_readAll_37 : decode cX9_readAll 37 = .ok (.invokevirtual 38, 3) := by decide +kernel
theorem dX9_readAll_40 : decode cX9_readAll 40 = .ok (.ifCond .eq 21, 3) := by decide +kernel
theorem dX9_readAll_43 : decode cX9_readAll 43 = .ok (.aload_n 0, 1) := by decide +kernel
theorem dX9_readAll_44 : decode cX9_readAll 44 = .ok (.getfield 20, 3) := by decide +kernel
theorem dX9_readAll_47 : decode cX9_readAll 47 = .ok (.invokevirtual 42, 3) := by decide +kernel
theorem dX9_readAll_50 : decode cX9_readAll 50 = .ok (.aload_n 0, 1) := by decide +kernel
theorem dX9_readAll_51 : decode cX9_readAll 51 = .ok (.iload_n 2, 1) := by decide +kernel
theorem dX9_readAll_52 : decode cX9_readAll 52 = .ok (.invokevirtual 35, 3) := by decide +kernel
theorem dX9_readAll_55 : decode cX9_readAll 55 = .ok (.iinc 2 1, 3) := by decide +kernel
theorem dX9_readAll_58 : decode cX9_readAll 58 = .ok (.goto (-33), 3) := by decide +kernel
theorem dX9_readAll_61 : decode cX9_readAll 61 = .ok (.aload_n 0, 1) := by decide +kernel
theorem dX9_readAll_62 : decode cX9_readAll 62 = .ok (.getfield 20, 3) := by decide +kernel
theorem dX9_readAll_65 : decode cX9_readAll 65 = .ok (.invokevirtual 45, 3) := by decide +kernel
theorem dX9_readAll_68 : decode cX9_readAll 68 = .ok (.aload_n 0, 1) := by decide +kernel
theorem dX9_readAll_69 : decode cX9_readAll 69 = .ok (.getfield 20, 3) := by decide +kernel
theorem dX9_readAll_72 : decode cX9_readAll 72 = .ok (.getfield 48, 3) := by decide +kernel
theorem dX9_readAll_75 : decode cX9_readAll 75 = .ok (.ireturn, 1) := by decide +kernel
theorem dX9_made_0 : decode cX9_made 0 = .ok (.new 51, 3) := by decide +kernel
theorem dX9_made_3 : decode cX9_made 3 = .ok (.dup, 1) := by decide +kernel
theorem dX9_made_4 : decode cX9_made 4 = .ok (.aload_n 0, 1) := by decide +kernel
theorem dX9_made_5 : decode cX9_made 5 = .ok (.getfield 9, 3) := by decide +kernel
theorem dX9_made_8 : decode cX9_made 8 = .ok (.aload_n 0, 1) := by decide +kernel
theorem dX9_made_9 : decode cX9_made 9 = .ok (.getfield 24, 3) := by decide +kernel
theorem dX9_made_12 : decode cX9_made 12 = .ok (.invokestatic 53, 3) := by decide +kernel
theorem dX9_made_15 : decode cX9_made 15 = .ok (.invokespecial 59, 3) := by decide +kernel
theorem dX9_made_18 : decode cX9_made 18 = .ok (.areturn, 1) := by decide +kernel
theorem dX9_readClause_0 : decode cX9_readClause 0 = .ok (.aload_n 0, 1) := by decide +kernel
theorem dX9_readClause_1 : decode cX9_readClause 1 = .ok (.getfield 20, 3) := by decide +kernel
theorem dX9_readClause_4 : decode cX9_readClause 4 = .ok (.ldc 60, 2) := by decide +kernel
theorem dX9_readClause_6 : decode cX9_readClause 6 = .ok (.invokevirtual 62, 3) := by decide +kernel
theorem dX9_readClause_9 : decode cX9_readClause 9 = .ok (.ifCond .ne 12, 3) := by decide +kernel
theorem dX9_readClause_12 : decode cX9_readClause 12 = .ok (.aload_n 0, 1) := by decide +kernel
theorem dX9_readClause_13 : decode cX9_readClause 13 = .ok (.getfield 20, 3) := by decide +kernel
theorem dX9_readClause_16 : decode cX9_readClause 16 = .ok (.iconst 0, 1) := by decide +kernel
theorem dX9_readClause_17 : decode cX9_readClause 17 = .ok (.invokevirtual 66, 3) := by decide +kernel
theorem dX9_readClause_20 : decode cX9_readClause 20 = .ok (.return_, 1) := by decide +kernel
theorem dX9_readClause_21 : decode cX9_readClause 21 = .ok (.iload_n 1, 1) := by decide +kernel
theorem dX9_readClause_22 : decode cX9_readClause 22 = .ok (.bipush 12, 2) := by decide +kernel
theorem dX9_readClause_24 : decode cX9_readClause 24 = .ok (.if_icmp .lt 12, 3) := by decide +kernel
theorem dX9_readClause_27 : decode cX9_readClause 27 = .ok (.aload_n 0, 1) := by decide +kernel
theorem dX9_readClause_28 : decode cX9_readClause 28 = .ok (.getfield 20, 3) := by decide +kernel
theorem dX9_readClause_31 : decode cX9_readClause 31 = .ok (.iconst 4, 1) := by decide +kernel
theorem dX9_readClause_32 : decode cX9_readClause 32 = .ok (.invokevirtual 66, 3) := by decide +kernel
theorem dX9_readClause_35 : decode cX9_readClause 35 = .ok (.return_, 1) := by decide +kernel
theorem dX9_readClause_36 : decode cX9_readClause 36 = .ok (.aload_n 0, 1) := by decide +kernel
theorem dX9_readClause_37 : decode cX9_readClause 37 = .ok (.getfield 20, 3) := by decide +kernel
theorem dX9_readClause_40 : decode cX9_readClause 40 = .ok (.invokevirtual 42, 3) := by decide +kernel
theorem dX9_readClause_43 : decode cX9_readClause 43 = .ok (.aload_n 0, 1) := by decide +kernel
theorem dX9_readClause_44 : decode cX9_readClause 44 = .ok (.invokevirtual 69, 3) := by decide +kernel
theorem dX9_readClause_47 : decode cX9_readClause 47 = .ok (.aload_n 0, 1) := by decide +kernel
theorem dX9_readClause_48 : decode cX9_readClause 48 = .ok (.getfield 20, 3) := by decide +kernel
theorem dX9_readClause_51 : decode cX9_readClause 51 = .ok (.ldc 72, 2) := by decide +kernel
theorem dX9_readClause_53 : decode cX9_readClause 53 = .ok (.invokevirtual 62, 3) := by decide +kernel
theorem dX9_readClause_56 : decode cX9_readClause 56 = .ok (.ifCond .eq 25, 3) := by decide +kernel
theorem dX9_readClause_59 : decode cX9_readClause 59 = .ok (.aload_n 0, 1) := by decide +kernel
theorem dX9_readClause_60 : decode cX9_readClause 60 = .ok (.getfield 20, 3) := by decide +kernel
theorem dX9_readClause_63 : decode cX9_readClause 63 = .ok (.invokevirtual 42, 3) := by decide +kernel
theorem dX9_readClause_66 : decode cX9_readClause 66 = .ok (.aload_n 0, 1) := by decide +kernel
theorem dX9_readClause_67 : decode cX9_readClause 67 = .ok (.iconst 0, 1) := by decide +kernel
theorem dX9_readClause_68 : decode cX9_readClause 68 = .ok (.invokevirtual 74, 3) := by decide +kernel
theorem dX9_readClause_71 : decode cX9_readClause 71 = .ok (.aload_n 0, 1) := by decide +kernel
theorem dX9_readClause_72 : decode cX9_readClause 72 = .ok (.bipush 16, 2) := by decide +kernel
theorem dX9_readClause_74 : decode cX9_readClause 74 = .ok (.iconst 0, 1) := by decide +kernel
theorem dX9_readClause_75 : decode cX9_readClause 75 = .ok (.invokevirtual 77, 3) := by decide +kernel
theorem dX9_readClause_78 : decode cX9_readClause 78 = .ok (.goto 10, 3) := by decide +kernel
theorem dX9_readClause_81 : decode cX9_readClause 81 = .ok (.aload_n 0, 1) := by decide +kernel
theorem dX9_readClause_82 : decode cX9_readClause 82 = .ok (.bipush 15, 2) := by decide +kernel
theorem dX9_readClause_84 : decode cX9_readClause 84 = .ok (.iconst 0, 1) := by decide +kernel
theorem dX9_readClause_85 : decode cX9_readClause 85 = .ok (.invokevirtual 77, 3) := by decide +kernel
theorem dX9_readClause_88 : decode cX9_readClause 88 = .ok (.return_, 1) := by decide +kernel
theorem dX9_readTest_0 : decode cX9_readTest 0 = .ok (.iconst 0, 1) := by decide +kernel
theorem dX9_readTest_1 : decode cX9_readTest 1 = .ok (.istore_n 2, 1) := by decide +kernel
theorem dX9_readTest_2 : decode cX9_readTest 2 = .ok (.iload_n 2, 1) := by decide +kernel
theorem dX9_readTest_3 : decode cX9_readTest 3 = .ok (.sipush 400, 3) := by decide +kernel
theorem dX9_readTest_6 : decode cX9_readTest 6 = .ok (.if_icmp .ge 91, 3) := by decide +kernel
theorem dX9_readTest_9 : decode cX9_readTest 9 = .ok (.aload_n 0, 1) := by decide +kernel
theorem dX9_readTest_10 : decode cX9_readTest 10 = .ok (.iload_n 1, 1) := by decide +kernel
theorem dX9_readTest_11 : decode cX9_readTest 11 = .ok (.invokevirtual 81, 3) := by decide +kernel
theorem dX9_readTest_14 : decode cX9_readTest 14 = .ok (.iconst 0, 1) := by decide +kernel
theorem dX9_readTest_15 : decode cX9_readTest 15 = .ok (.istore_n 3, 1) := by decide +kernel
theorem dX9_readTest_16 : decode cX9_readTest 16 = .ok (.iload_n 3, 1) := by decide +kernel
theorem dX9_readTest_17 : decode cX9_readTest 17 = .ok (.sipush 400, 3) := by decide +kernel
theorem dX9_readTest_20 : decode cX9_readTest 20 = .ok (.if_icmp .ge 40, 3) := by decide +kernel
theorem dX9_readTest_23 : decode cX9_readTest 23 = .ok (.aload_n 0, 1) := by decide +kernel
theorem dX9_readTest_24 : decode cX9_readTest 24 = .ok (.getfield 20, 3) := by decide +kernel
theorem dX9_readTest_27 : decode cX9_readTest 27 = .ok (.ldc 84, 2) := by decide +kernel
theorem dX9_readTest_29 : decode cX9_readTest 29 = .ok (.invokevirtual 62, 3) := by decide +kernel
theorem dX9_readTest_32 : decode cX9_readTest 32 = .ok (.ifCond .eq 28, 3) := by decide +kernel
theorem dX9_readTest_35 : decode cX9_readTest 35 = .ok (.aload_n 0, 1) := by decide +kernel
theorem dX9_readTest_36 : decode cX9_readTest 36 = .ok (.getfield 20, 3) := by decide +kernel
theorem dX9_readTest_39 : decode cX9_readTest 39 = .ok (.invokevirtual 42, 3) := by decide +kernel
theorem dX9_readTest_42 : decode cX9_readTest 42 = .ok (.aload_n 0, 1) := by decide +kernel
theorem dX9_readTest_43 : decode cX9_readTest 43 = .ok (.iload_n 1, 1) := by decide +kernel
theorem dX9_readTest_44 : decode cX9_readTest 44 = .ok (.invokevirtual 81, 3) := by decide +kernel
theorem dX9_readTest_47 : decode cX9_readTest 47 = .ok (.aload_n 0, 1) := by decide +kernel
theorem dX9_readTest_48 : decode cX9_readTest 48 = .ok (.bipush 12, 2) := by decide +kernel
theorem dX9_readTest_50 : decode cX9_readTest 50 = .ok (.iconst 0, 1) := by decide +kernel
theorem dX9_readTest_51 : decode cX9_readTest 51 = .ok (.invokevirtual 77, 3) := by decide +kernel
theorem dX9_readTest_54 : decode cX9_readTest 54 = .ok (.iinc 3 1, 3) := by decide +kernel
theorem dX9_readTest_57 : decode cX9_readTest 57 = .ok (.goto (-41), 3) := by decide +kernel
theorem dX9_readTest_60 : decode cX9_readTest 60 = .ok (.iload_n 2, 1) := by decide +kernel
theorem dX9_readTest_61 : decode cX9_readTest 61 = .ok (.ifCond .le 10, 3) := by decide +kernel
theorem dX9_readTest_64 : decode cX9_readTest 64 = .ok (.aload_n 0, 1) := by decide +kernel
theorem dX9_readTest_65 : decode cX9_readTest 65 = .ok (.bipush 13, 2) := by decide +kernel
theorem dX9_readTest_67 : decode cX9_readTest 67 = .ok (.iconst 0, 1) := by decide +kernel
theorem dX9_readTest_68 : decode cX9_readTest 68 = .ok (.invokevirtual 77, 3) := by decide +kernel
theorem dX9_readTest_71 : decode cX9_readTest 71 = .ok (.aload_n 0, 1) := by decide +kernel
theorem dX9_readTest_72 : decode cX9_readTest 72 = .ok (.getfield 20, 3) := by decide +kernel
theorem dX9_readTest_75 : decode cX9_readTest 75 = .ok (.ldc 86, 2) := by decide +kernel
theorem dX9_readTest_77 : decode cX9_readTest 77 = .ok (.invokevirtual 62, 3) := by decide +kernel
theorem dX9_readTest_80 : decode cX9_readTest 80 = .ok (.ifCond .ne 4, 3) := by decide +kernel
theorem dX9_readTest_83 : decode cX9_readTest 83 = .ok (.return_, 1) := by decide +kernel
theorem dX9_readTest_84 : decode cX9_readTest 84 = .ok (.aload_n 0, 1) := by decide +kernel
theorem dX9_readTest_85 : decode cX9_readTest 85 = .ok (.getfield 20, 3) := by decide +kernel
theorem dX9_readTest_88 : decode cX9_readTest 88 = .ok (.invokevirtual 42, 3) := by decide +kernel
theorem dX9_readTest_91 : decode cX9_readTest 91 = .ok (.iinc 2 1, 3) := by decide +kernel
theorem dX9_readTest_94 : decode cX9_readTest 94 = .ok (.goto (-92), 3) := by decide +kernel
theorem dX9_readTest_97 : decode cX9_readTest 97 = .ok (.return_, 1) := by decide +kernel
theorem dX9_readFact_0 : decode cX9_readFact 0 = .ok (.aload_n 0, 1) := by decide +kernel
theorem dX9_readFact_1 : decode cX9_readFact 1 = .ok (.getfield 20, 3) := by decide +kernel
theorem dX9_readFact_4 : decode cX9_readFact 4 = .ok (.ldc 88, 2) := by decide +kernel
theorem dX9_readFact_6 : decode cX9_readFact 6 = .ok (.invokevirtual 62, 3) := by decide +kernel
theorem dX9_readFact_9 : decode cX9_readFact 9 = .ok (.istore_n 2, 1) := by decide +kernel
theorem dX9_readFact_10 : decode cX9_readFact 10 = .ok (.iload_n 2, 1) := by decide +kernel
theorem dX9_readFact_11 : decode cX9_readFact 11 = .ok (.ifCond .ne 97, 3) := by decide +kernel
theorem dX9_readFact_14 : decode cX9_readFact 14 = .ok (.aload_n 0, 1) := by decide +kernel
theorem dX9_readFact_15 : decode cX9_readFact 15 = .ok (.getfield 20, 3) := by decide +kernel
theorem dX9_readFact_18 : decode cX9_readFact 18 = .ok (.bipush 91, 2) := by decide +kernel
theorem dX9_readFact_20 : decode cX9_readFact 20 = .ok (.invokevirtual 38, 3) := by decide +kernel
theorem dX9_readFact_23 : decode cX9_readFact 23 = .ok (.ifCond .ne 85, 3) := by decide +kernel
theorem dX9_readFact_26 : decode cX9_readFact 26 = .ok (.aload_n 0, 1) := by decide +kernel
theorem dX9_readFact_27 : decode cX9_readFact 27 = .ok (.invokevirtual 69, 3) := by decide +kernel
theorem dX9_readFact_30 : decode cX9_readFact 30 = .ok (.aload_n 0, 1) := by decide +kernel
theorem dX9_readFact_31 : decode cX9_readFact 31 = .ok (.invokevirtual 90, 3) := by decide +kernel
theorem dX9_readFact_34 : decode cX9_readFact 34 = .ok (.istore_n 3, 1) := by decide +kernel
theorem dX9_readFact_35 : decode cX9_readFact 35 = .ok (.iload_n 3, 1) := by decide +kernel
theorem dX9_readFact_36 : decode cX9_readFact 36 = .ok (.bipush 7, 2) := by decide +kernel
theorem dX9_readFact_38 : decode cX9_readFact 38 = .ok (.if_icmp .lt 9, 3) := by decide +kernel
theorem dX9_readFact_41 : decode cX9_readFact 41 = .ok (.iload_n 3, 1) := by decide +kernel
theorem dX9_readFact_42 : decode cX9_readFact 42 = .ok (.bipush 11, 2) := by decide +kernel
theorem dX9_readFact_44 : decode cX9_readFact 44 = .ok (.if_icmp .le 14, 3) := by decide +kernel
theorem dX9_readFact_47 : decode cX9_readFact 47 = .ok (.aload_n 0, 1) := by decide +kernel
theorem dX9_readFact_48 : decode cX9_readFact 48 = .ok (.getfield 20, 3) := by decide +kernel
theorem dX9_readFact_51 : decode cX9_readFact 51 = .ok (.iconst 0, 1) := by decide +kernel
theorem dX9_readFact_52 : decode cX9_readFact 52 = .ok (.invokevirtual 66, 3) := by decide +kernel
theorem dX9_readFact_55 : decode cX9_readFact 55 = .ok (.goto 50, 3) := by decide +kernel
theorem dX9_readFact_58 : decode cX9_readFact 58 = .ok (.aload_n 0, 1) := by decide +kernel
theorem dX9_readFact_59 : decode cX9_readFact 59 = .ok (.getfield 28, 3) := by decide +kernel
theorem dX9_readFact_62 : decode cX9_readFact 62 = .ok (.bipush 60, 2) := by decide +kernel
theorem dX9_readFact_64 : decode cX9_readFact 64 = .ok (.if_icmp .lt 14, 3) := by decide +kernel
theorem dX9_readFact_67 : decode cX9_readFact 67 = .ok (.aload_n 0, 1) := by decide +kernel
theorem dX9_readFact_68 : decode cX9_readFact 68 = .ok (.getfield 20, 3) := by decide +kernel
theorem dX9_readFact_71 : decode cX9_readFact 71 = .ok (.iconst 3, 1) := by decide +kernel
theorem dX9_readFact_72 : decode cX9_readFact 72 = .ok (.invokevirtual 66, 3) := by decide +kernel
theorem dX9_readFact_75 : decode cX9_readFact 75 = .ok (.goto 30, 3) := by decide +kernel
theorem dX9_readFact_78 : decode cX9_readFact 78 = .ok (.aload_n 0, 1) := by decide +kernel
theorem dX9_readFact_79 : decode cX9_readFact 79 = .ok (.dup, 1) := by decide +kernel
theorem dX9_readFact_80 : decode cX9_readFact 80 = .ok (.getfield 28, 3) := by decide +kernel
theorem dX9_readFact_83 : decode cX9_readFact 83 = .ok (.iconst 1, 1) := by decide +kernel
theorem dX9_readFact_84 : decode cX9_readFact 84 = .ok (.iadd, 1) := by decide +kernel
theorem dX9_readFact_85 : decode cX9_readFact 85 = .ok (.putfield 28, 3) := by decide +kernel
theorem dX9_readFact_88 : decode cX9_readFact 88 = .ok (.aload_n 0, 1) := by decide +kernel
theorem dX9_readFact_89 : decode cX9_readFact 89 = .ok (.getfield 20, 3) := by decide +kernel
theorem dX9_readFact_92 : decode cX9_readFact 92 = .ok (.invokevirtual 42, 3) := by decide +kernel
theorem dX9_readFact_95 : decode cX9_readFact 95 = .ok (.aload_n 0, 1) := by decide +kernel
theorem dX9_readFact_96 : decode cX9_readFact 96 = .ok (.invokevirtual 69, 3) := by decide +kernel
theorem dX9_readFact_99 : decode cX9_readFact 99 = .ok (.aload_n 0, 1) := by decide +kernel
theorem dX9_readFact_100 : decode cX9_readFact 100 = .ok (.iload_n 3, 1) := by decide +kernel
theorem dX9_readFact_101 : decode cX9_readFact 101 = .ok (.iconst 0, 1) := by decide +kernel
theorem dX9_readFact_102 : decode cX9_readFact 102 = .ok (.invokevirtual 77, 3) := by decide +kernel
theorem dX9_readFact_105 : decode cX9_readFact 105 = .ok (.goto 92, 3) := by decide +kernel
theorem dX9_readFact_108 : decode cX9_readFact 108 = .ok (.iload_n 1, 1) := by decide +kernel
theorem dX9_readFact_109 : decode cX9_readFact 109 = .ok (.bipush 10, 2) := by decide +kernel
theorem dX9_readFact_111 : decode cX9_readFact 111 = .ok (.if_icmp .lt 14, 3) := by decide +kernel
theorem dX9_readFact_114 : decode cX9_readFact 114 = .ok (.aload_n 0, 1) := by decide +kernel
theorem dX9_readFact_115 : decode cX9_readFact 115 = .ok (.getfield 20, 3) := by decide +kernel
theorem dX9_readFact_118 : decode cX9_readFact 118 = .ok (.iconst 2, 1) := by decide +kernel
theorem dX9_readFact_119 : decode cX9_readFact 119 = .ok (.invokevirtual 66, 3) := by decide +kernel
theorem dX9_readFact_122 : decode cX9_readFact 122 = .ok (.goto 75, 3) := by decide +kernel
theorem dX9_readFact_125 : decode cX9_readFact 125 = .ok (.iload_n 2, 1) := by decide +kernel
theorem dX9_readFact_126 : decode cX9_readFact 126 = .ok (.ifCond .eq 27, 3) := by decide +kernel
theorem dX9_readFact_129 : decode cX9_readFact 129 = .ok (.aload_n 0, 1) := by decide +kernel
theorem dX9_readFact_130 : decode cX9_readFact 130 = .ok (.getfield 20, 3) := by decide +kernel
theorem dX9_readFact_133 : decode cX9_readFact 133 = .ok (.invokevirtual 42, 3) := by decide +kernel
theorem dX9_readFact_136 : decode cX9_readFact 136 = .ok (.aload_n 0, 1) := by decide +kernel
theorem dX9_readFact_137 : decode cX9_readFact 137 = .ok (.iload_n 1, 1) := by decide +kernel
theorem dX9_readFact_138 : decode cX9_readFact 138 = .ok (.iconst 1, 1) := by decide +kernel
theorem dX9_readFact_139 : decode cX9_readFact 139 = .ok (.iadd, 1) := by decide +kernel
theorem dX9_readFact_140 : decode cX9_readFact 140 = .ok (.invokevirtual 81, 3) := by decide +kernel
theorem dX9_readFact_143 : decode cX9_readFact 143 = .ok (.aload_n 0, 1) := by decide +kernel
theorem dX9_readFact_144 : decode cX9_readFact 144 = .ok (.bipush 14, 2) := by decide +kernel
theorem dX9_readFact_146 : decode cX9_readFact 146 = .ok (.iconst 0, 1) := by decide +kernel
theorem dX9_readFact_147 : decode cX9_readFact 147 = .ok (.invokevirtual 77, 3) := by decide +kernel
theorem dX9_readFact_150 : decode cX9_readFact 150 = .ok (.goto 47, 3) := by decide +kernel
theorem dX9_readFact_153 : decode cX9_readFact 153 = .ok (.aload_n 0, 1) := by decide +kernel
theorem dX9_readFact_154 : decode cX9_readFact 154 = .ok (.getfield 20, 3) := by decide +kernel
theorem dX9_readFact_157 : decode cX9_readFact 157 = .ok (.invokevirtual 42, 3) := by decide +kernel
theorem dX9_readFact_160 : decode cX9_readFact 160 = .ok (.aload_n 0, 1) := by decide +kernel
theorem dX9_readFact_161 : decode cX9_readFact 161 = .ok (.iload_n 1, 1) := by decide +kernel
theorem dX9_readFact_162 : decode cX9_readFact 162 = .ok (.iconst 1, 1) := by decide +kernel
theorem dX9_readFact_163 : decode cX9_readFact 163 = .ok (.iadd, 1) := by decide +kernel
theorem dX9_readFact_164 : decode cX9_readFact 164 = .ok (.invokevirtual 74, 3) := by decide +kernel
theorem dX9_readFact_167 : decode cX9_readFact 167 = .ok (.aload_n 0, 1) := by decide +kernel
theorem dX9_readFact_168 : decode cX9_readFact 168 = .ok (.getfield 20, 3) := by decide +kernel
theorem dX9_readFact_171 : decode cX9_readFact 171 = .ok (.bipush 93, 2) := by decide +kernel
theorem dX9_readFact_173 : decode cX9_readFact 173 = .ok (.invokevirtual 38, 3) := by decide +kernel
theorem dX9_readFact_176 : decode cX9_readFact 176 = .ok (.ifCond .eq 13, 3) := by decide +kernel
theorem dX9_readFact_179 : decode cX9_readFact 179 = .ok (.aload_n 0, 1) := by decide +kernel
theorem dX9_readFact_180 : decode cX9_readFact 180 = .ok (.getfield 20, 3) := by decide +kernel
theorem dX9_readFact_183 : decode cX9_readFact 183 = .ok (.invokevirtual 42, 3) := by decide +kernel
theorem dX9_readFact_186 : decode cX9_readFact 186 = .ok (.goto 11, 3) := by decide +kernel
theorem dX9_readFact_189 : decode cX9_readFact 189 = .ok (.aload_n 0, 1) := by decide +kernel
theorem dX9_readFact_190 : decode cX9_readFact 190 = .ok (.getfield 20, 3) := by decide +kernel
theorem dX9_readFact_193 : decode cX9_readFact 193 = .ok (.iconst 0, 1) := by decide +kernel
theorem dX9_readFact_194 : decode cX9_readFact 194 = .ok (.invokevirtual 66, 3) := by decide +kernel
theorem dX9_readFact_197 : decode cX9_readFact 197 = .ok (.return_, 1) := by decide +kernel
theorem dX9_readSum_0 : decode cX9_readSum 0 = .ok (.iconst (-1), 1) := by decide +kernel
theorem dX9_readSum_1 : decode cX9_readSum 1 = .ok (.istore_n 1, 1) := by decide +kernel
theorem dX9_readSum_2 : decode cX9_readSum 2 = .ok (.iconst (-1), 1) := by decide +kernel
theorem dX9_readSum_3 : decode cX9_readSum 3 = .ok (.istore_n 2, 1) := by decide +kernel
theorem dX9_readSum_4 : decode cX9_readSum 4 = .ok (.iconst 0, 1) := by decide +kernel
theorem dX9_readSum_5 : decode cX9_readSum 5 = .ok (.istore_n 3, 1) := by decide +kernel
theorem dX9_readSum_6 : decode cX9_readSum 6 = .ok (.iload_n 3, 1) := by decide +kernel
theorem dX9_readSum_7 : decode cX9_readSum 7 = .ok (.sipush 400, 3) := by decide +kernel
theorem dX9_readSum_10 : decode cX9_readSum 10 = .ok (.if_icmp .ge 98, 3) := by decide +kernel
theorem dX9_readSum_13 : decode cX9_readSum 13 = .ok (.aload_n 0, 1) := by decide +kernel
theorem dX9_readSum_14 : decode cX9_readSum 14 = .ok (.invokevirtual 94, 3) := by decide +kernel
theorem dX9_readSum_17 : decode cX9_readSum 17 = .ok (.iload_n 2, 1) := by decide +kernel
theorem dX9_readSum_18 : decode cX9_readSum 18 = .ok (.iconst (-1), 1) := by decide +kernel
theorem dX9_readSum_19 : decode cX9_readSum 19 = .ok (.if_icmp .eq 9, 3) := by decide +kernel
theorem dX9_readSum_22 : decode cX9_readSum 22 = .ok (.aload_n 0, 1) := by decide +kernel
theorem dX9_readSum_23 : decode cX9_readSum 23 = .ok (.iload_n 2, 1) := by decide +kernel
theorem dX9_readSum_24 : decode cX9_readSum 24 = .ok (.iconst 0, 1) := by decide +kernel
theorem dX9_readSum_25 : decode cX9_readSum 25 = .ok (.invokevirtual 77, 3) := by decide +kernel
theorem dX9_readSum_28 : decode cX9_readSum 28 = .ok (.aload_n 0, 1) := by decide +kernel
theorem dX9_readSum_29 : decode cX9_readSum 29 = .ok (.invokevirtual 90, 3) := by decide +kernel
theorem dX9_readSum_32 : decode cX9_readSum 32 = .ok (.istore 4, 2) := by decide +kernel
theorem dX9_readSum_34 : decode cX9_readSum 34 = .ok (.iload 4, 2) := by decide +kernel
theorem dX9_readSum_36 : decode cX9_readSum 36 = .ok (.iconst 4, 1) := by decide +kernel
theorem dX9_readSum_37 : decode cX9_readSum 37 = .ok (.if_icmp .lt 15, 3) := by decide +kernel
theorem dX9_readSum_40 : decode cX9_readSum 40 = .ok (.iload 4, 2) := by decide +kernel
theorem dX9_readSum_42 : decode cX9_readSum 42 = .ok (.bipush 6, 2) := by decide +kernel
theorem dX9_readSum_44 : decode cX9_readSum 44 = .ok (.if_icmp .gt 8, 3) := by decide +kernel
theorem dX9_readSum_47 : decode cX9_readSum 47 = .ok (.iload 4, 2) := by decide +kernel
theorem dX9_readSum_49 : decode cX9_readSum 49 = .ok (.goto 4, 3) := by decide +kernel
theorem dX9_readSum_52 : decode cX9_readSum 52 = .ok (.iconst (-1), 1) := by decide +kernel
theorem dX9_readSum_53 : decode cX9_readSum 53 = .ok (.istore_n 2, 1) := by decide +kernel
theorem dX9_readSum_54 : decode cX9_readSum 54 = .ok (.iload_n 2, 1) := by decide +kernel
theorem dX9_readSum_55 : decode cX9_readSum 55 = .ok (.iconst (-1), 1) := by decide +kernel
theorem dX9_readSum_56 : decode cX9_readSum 56 = .ok (.if_icmp .ne 39, 3) := by decide +kernel
theorem dX9_readSum_59 : decode cX9_readSum 59 = .ok (.iload_n 1, 1) := by decide +kernel
theorem dX9_readSum_60 : decode cX9_readSum 60 = .ok (.iconst (-1), 1) := by decide +kernel
theorem dX9_readSum_61 : decode cX9_readSum 61 = .ok (.if_icmp .eq 9, 3) := by decide +kernel
theorem dX9_readSum_64 : decode cX9_readSum 64 = .ok (.aload_n 0, 1) := by decide +kernel
theorem dX9_readSum_65 : decode cX9_readSum 65 = .ok (.iload_n 1, 1) := by decide +kernel
theorem dX9_readSum_66 : decode cX9_readSum 66 = .ok (.iconst 0, 1) := by decide +kernel
theorem dX9_readSum_67 : decode cX9_readSum 67 = .ok (.invokevirtual 77, 3) := by decide +kernel
theorem dX9_readSum_70 : decode cX9_readSum 70 = .ok (.iload 4, 2) := by decide +kernel
theorem dX9_readSum_72 : decode cX9_readSum 72 = .ok (.iconst 2, 1) := by decide +kernel
theorem dX9_readSum_73 : decode cX9_readSum 73 = .ok (.if_icmp .eq 9, 3) := by decide +kernel
theorem dX9_readSum_76 : decode cX9_readSum 76 = .ok (.iload 4, 2) := by decide +kernel
theorem dX9_readSum_78 : decode cX9_readSum 78 = .ok (.iconst 3, 1) := by decide +kernel
theorem dX9_readSum_79 : decode cX9_readSum 79 = .ok (.if_icmp .ne 8, 3) := by decide +kernel
theorem dX9_readSum_82 : decode cX9_readSum 82 = .ok (.iload 4, 2) := by decide +kernel
theorem dX9_readSum_84 : decode cX9_readSum 84 = .ok (.goto 4, 3) := by decide +kernel
theorem dX9_readSum_87 : decode cX9_readSum 87 = .ok (.iconst (-1), 1) := by decide +kernel
theorem dX9_readSum_88 : decode cX9_readSum 88 = .ok (.istore_n 1, 1) := by decide +kernel
theorem dX9_readSum_89 : decode cX9_readSum 89 = .ok (.iload_n 1, 1) := by decide +kernel
theorem dX9_readSum_90 : decode cX9_readSum 90 = .ok (.iconst (-1), 1) := by decide +kernel
theorem dX9_readSum_91 : decode cX9_readSum 91 = .ok (.if_icmp .ne 4, 3) := by decide +kernel
theorem dX9_readSum_94 : decode cX9_readSum 94 = .ok (.return_, 1) := by decide +kernel
theorem dX9_readSum_95 : decode cX9_readSum 95 = .ok (.aload_n 0, 1) := by decide +kernel
theorem dX9_readSum_96 : decode cX9_readSum 96 = .ok (.getfield 20, 3) := by decide +kernel
theorem dX9_readSum_99 : decode cX9_readSum 99 = .ok (.invokevirtual 42, 3) := by decide +kernel
theorem dX9_readSum_102 : decode cX9_readSum 102 = .ok (.iinc 3 1, 3) := by decide +kernel
theorem dX9_readSum_105 : decode cX9_readSum 105 = .ok (.goto (-99), 3) := by decide +kernel
theorem dX9_readSum_108 : decode cX9_readSum 108 = .ok (.return_, 1) := by decide +kernel
theorem dX9_stepAtHand_0 : decode cX9_stepAtHand 0 = .ok (.aload_n 0, 1) := by decide +kernel
theorem dX9_stepAtHand_1 : decode cX9_stepAtHand 1 = .ok (.getfield 20, 3) := by decide +kernel
theorem dX9_stepAtHand_4 : decode cX9_stepAtHand 4 = .ok (.getfield 97, 3) := by decide +kernel
theorem dX9_stepAtHand_7 : decode cX9_stepAtHand 7 = .ok (.iconst 3, 1) := by decide +kernel
theorem dX9_stepAtHand_8 : decode cX9_stepAtHand 8 = .ok (.if_icmp .eq 5, 3) := by decide +kernel
theorem dX9_stepAtHand_11 : decode cX9_stepAtHand 11 = .ok (.iconst (-1), 1) := by decide +kernel
theorem dX9_stepAtHand_12 : decode cX9_stepAtHand 12 = .ok (.ireturn, 1) := by decide +kernel
theorem dX9_stepAtHand_13 : decode cX9_stepAtHand 13 = .ok (.aload_n 0, 1) := by decide +kernel
theorem dX9_stepAtHand_14 : decode cX9_stepAtHand 14 = .ok (.getfield 20, 3) := by decide +kernel
theorem dX9_stepAtHand_17 : decode cX9_stepAtHand 17 = .ok (.getfield 100, 3) := by decide +kernel
theorem dX9_stepAtHand_20 : decode cX9_stepAtHand 20 = .ok (.lookupswitch 118 #[(37, 100), (42, 96), (43, 92), (45, 94), (47, 98), (60, 103), (61, 109), (62, 115), (316, 106), (318, 112)], 92) := by decide +kernel
theorem dX9_stepAtHand_112 : decode cX9_stepAtHand 112 = .ok (.iconst 2, 1) := by decide +kernel
theorem dX9_stepAtHand_113 : decode cX9_stepAtHand 113 = .ok (.ireturn, 1) := by decide +kernel
theorem dX9_stepAtHand_114 : decode cX9_stepAtHand 114 = .ok (.iconst 3, 1) := by decide +kernel
theorem dX9_stepAtHand_115 : decode cX9_stepAtHand 115 = .ok (.ireturn, 1) := by decide +kernel
theorem dX9_stepAtHand_116 : decode cX9_stepAtHand 116 = .ok (.iconst 4, 1) := by decide +kernel
theorem dX9_stepAtHand_117 : decode cX9_stepAtHand 117 = .ok (.ireturn, 1) := by decide +kernel
theorem dX9_stepAtHand_118 : decode cX9_stepAtHand 118 = .ok (.iconst 5, 1) := by decide +kernel
theorem dX9_stepAtHand_119 : decode cX9_stepAtHand 119 = .ok (.ireturn, 1) := by decide +kernel
theorem dX9_stepAtHand_120 : decode cX9_stepAtHand 120 = .ok (.bipush 6, 2) := by decide +kernel
theorem dX9_stepAtHand_122 : decode cX9_stepAtHand 122 = .ok (.ireturn, 1) := by decide +kernel
theorem dX9_stepAtHand_123 : decode cX9_stepAtHand 123 = .ok (.bipush 7, 2) := by decide +kernel
theorem dX9_stepAtHand_125 : decode cX9_stepAtHand 125 = .ok (.ireturn, 1) := by decide +kernel
theorem dX9_stepAtHand_126 : decode cX9_stepAtHand 126 = .ok (.bipush 8, 2) := by decide +kernel
theorem dX9_stepAtHand_128 : decode cX9_stepAtHand 128 = .ok (.ireturn, 1) := by decide +kernel
theorem dX9_stepAtHand_129 : decode cX9_stepAtHand 129 = .ok (.bipush 9, 2) := by decide +kernel
theorem dX9_stepAtHand_131 : decode cX9_stepAtHand 131 = .ok (.ireturn, 1) := by decide +kernel
theorem dX9_stepAtHand_132 : decode cX9_stepAtHand 132 = .ok (.bipush 10, 2) := by decide +kernel
theorem dX9_stepAtHand_134 : decode cX9_stepAtHand 134 = .ok (.ireturn, 1) := by decide +kernel
theorem dX9_stepAtHand_135 : decode cX9_stepAtHand 135 = .ok (.bipush 11, 2) := by decide +kernel
theorem dX9_stepAtHand_137 : decode cX9_stepAtHand 137 = .ok (.ireturn, 1) := by decide +kernel
theorem dX9_stepAtHand_138 : decode cX9_stepAtHand 138 = .ok (.iconst (-1), 1) := by decide +kernel
theorem dX9_stepAtHand_139 : decode cX9_stepAtHand 139 = .ok (.ireturn, 1) := by decide +kernel
theorem dX9_readValue_0 : decode cX9_readValue 0 = .ok (.aload_n 0, 1) := by decide +kernel
theorem dX9_readValue_1 : decode cX9_readValue 1 = .ok (.getfield 20, 3) := by decide +kernel
theorem dX9_readValue_4 : decode cX9_readValue 4 = .ok (.ldc 103, 2) := by decide +kernel
theorem dX9_readValue_6 : decode cX9_readValue 6 = .ok (.invokevirtual 105, 3) := by decide +kernel
theorem dX9_readValue_9 : decode cX9_readValue 9 = .ok (.istore_n 1, 1) := by decide +kernel
theorem dX9_readValue_10 : decode cX9_readValue 10 = .ok (.iload_n 1, 1) := by decide +kernel
theorem dX9_readValue_11 : decode cX9_readValue 11 = .ok (.iconst (-1), 1) := by decide +kernel
theorem dX9_readValue_12 : decode cX9_readValue 12 = .ok (.if_icmp .ne 25, 3) := by decide +kernel
theorem dX9_readValue_15 : decode cX9_readValue 15 = .ok (.aload_n 0, 1) := by decide +kernel
theorem dX9_readValue_16 : decode cX9_readValue 16 = .ok (.getfield 20, 3) := by decide +kernel
theorem dX9_readValue_19 : decode cX9_readValue 19 = .ok (.getfield 97, 3) := by decide +kernel
theorem dX9_readValue_22 : decode cX9_readValue 22 = .ok (.iconst 2, 1) := by decide +kernel
theorem dX9_readValue_23 : decode cX9_readValue 23 = .ok (.if_icmp .eq 14, 3) := by decide +kernel
theorem dX9_readValue_26 : decode cX9_readValue 26 = .ok (.aload_n 0, 1) := by decide +kernel
theorem dX9_readValue_27 : decode cX9_readValue 27 = .ok (.getfield 20, 3) := by decide +kernel
theorem dX9_readValue_30 : decode cX9_readValue 30 = .ok (.iconst 0, 1) := by decide +kernel
theorem dX9_readValue_31 : decode cX9_readValue 31 = .ok (.invokevirtual 66, 3) := by decide +kernel
theorem dX9_readValue_34 : decode cX9_readValue 34 = .ok (.goto 88, 3) := by decide +kernel
theorem dX9_readValue_37 : decode cX9_readValue 37 = .ok (.aload_n 0, 1) := by decide +kernel
theorem dX9_readValue_38 : decode cX9_readValue 38 = .ok (.getfield 20, 3) := by decide +kernel
theorem dX9_readValue_41 : decode cX9_readValue 41 = .ok (.getfield 109, 3) := by decide +kernel
theorem dX9_readValue_44 : decode cX9_readValue 44 = .ok (.iconst (-1), 1) := by decide +kernel
theorem dX9_readValue_45 : decode cX9_readValue 45 = .ok (.if_icmp .ne 14, 3) := by decide +kernel
theorem dX9_readValue_48 : decode cX9_readValue 48 = .ok (.aload_n 0, 1) := by decide +kernel
theorem dX9_readValue_49 : decode cX9_readValue 49 = .ok (.getfield 20, 3) := by decide +kernel
theorem dX9_readValue_52 : decode cX9_readValue 52 = .ok (.iconst 1, 1) := by decide +kernel
theorem dX9_readValue_53 : decode cX9_readValue 53 = .ok (.invokevirtual 66, 3) := by decide +kernel
theorem dX9_readValue_56 : decode cX9_readValue 56 = .ok (.goto 66, 3) := by decide +kernel
theorem dX9_readValue_59 : decode cX9_readValue 59 = .ok (.aload_n 0, 1) := by decide +kernel
theorem dX9_readValue_60 : decode cX9_readValue 60 = .ok (.getfield 28, 3) := by decide +kernel
theorem dX9_readValue_63 : decode cX9_readValue 63 = .ok (.bipush 60, 2) := by decide +kernel
theorem dX9_readValue_65 : decode cX9_readValue 65 = .ok (.if_icmp .lt 14, 3) := by decide +kernel
theorem dX9_readValue_68 : decode cX9_readValue 68 = .ok (.aload_n 0, 1) := by decide +kernel
theorem dX9_readValue_69 : decode cX9_readValue 69 = .ok (.getfield 20, 3) := by decide +kernel
theorem dX9_readValue_72 : decode cX9_readValue 72 = .ok (.iconst 3, 1) := by decide +kernel
theorem dX9_readValue_73 : decode cX9_readValue 73 = .ok (.invokevirtual 66, 3) := by decide +kernel
theorem dX9_readValue_76 : decode cX9_readValue 76 = .ok (.goto 46, 3) := by decide +kernel
theorem dX9_readValue_79 : decode cX9_readValue 79 = .ok (.aload_n 0, 1) := by decide +kernel
theorem dX9_readValue_80 : decode cX9_readValue 80 = .ok (.dup, 1) := by decide +kernel
theorem dX9_readValue_81 : decode cX9_readValue 81 = .ok (.getfield 28, 3) := by decide +kernel
theorem dX9_readValue_84 : decode cX9_readValue 84 = .ok (.iconst 1, 1) := by decide +kernel
theorem dX9_readValue_85 : decode cX9_readValue 85 = .ok (.iadd, 1) := by decide +kernel
theorem dX9_readValue_86 : decode cX9_readValue 86 = .ok (.putfield 28, 3) := by decide +kernel
theorem dX9_readValue_89 : decode cX9_readValue 89 = .ok (.iload_n 1, 1) := by decide +kernel
theorem dX9_readValue_90 : decode cX9_readValue 90 = .ok (.iconst (-1), 1) := by decide +kernel
theorem dX9_readValue_91 : decode cX9_readValue 91 = .ok (.if_icmp .ne 18, 3) := by decide +kernel
theorem dX9_readValue_94 : decode cX9_readValue 94 = .ok (.aload_n 0, 1) := by decide +kernel
theorem dX9_readValue_95 : decode cX9_readValue 95 = .ok (.iconst 0, 1) := by decide +kernel
theorem dX9_readValue_96 : decode cX9_readValue 96 = .ok (.aload_n 0, 1) := by decide +kernel
theorem dX9_readValue_97 : decode cX9_readValue 97 = .ok (.getfield 20, 3) := by decide +kernel
theorem dX9_readValue_100 : decode cX9_readValue 100 = .ok (.getfield 109, 3) := by decide +kernel
theorem dX9_readValue_103 : decode cX9_readValue 103 = .ok (.invokevirtual 77, 3) := by decide +kernel
theorem dX9_readValue_106 : decode cX9_readValue 106 = .ok (.goto 9, 3) := by decide +kernel
theorem dX9_readValue_109 : decode cX9_readValue 109 = .ok (.aload_n 0, 1) := by decide +kernel
theorem dX9_readValue_110 : decode cX9_readValue 110 = .ok (.iconst 1, 1) := by decide +kernel
theorem dX9_readValue_111 : decode cX9_readValue 111 = .ok (.iload_n 1, 1) := by decide +kernel
theorem dX9_readValue_112 : decode cX9_readValue 112 = .ok (.invokevirtual 77, 3) := by decide +kernel
theorem dX9_readValue_115 : decode cX9_readValue 115 = .ok (.aload_n 0, 1) := by decide +kernel
theorem dX9_readValue_116 : decode cX9_readValue 116 = .ok (.getfield 20, 3) := by decide +kernel
theorem dX9_readValue_119 : decode cX9_readValue 119 = .ok (.invokevirtual 42, 3) := by decide +kernel
theorem dX9_readValue_122 : decode cX9_readValue 122 = .ok (.return_, 1) := by decide +kernel
theorem dX9_putStep_0 : decode cX9_putStep 0 = .ok (.aload_n 0, 1) := by decide +kernel
theorem dX9_putStep_1 : decode cX9_putStep 1 = .ok (.getfield 24, 3) := by decide +kernel
theorem dX9_putStep_4 : decode cX9_putStep 4 = .ok (.aload_n 0, 1) := by decide +kernel
theorem dX9_putStep_5 : decode cX9_putStep 5 = .ok (.getfield 9, 3) := by decide +kernel
theorem dX9_putStep_8 : decode cX9_putStep 8 = .ok (.arraylength, 1) := by decide +kernel
theorem dX9_putStep_9 : decode cX9_putStep 9 = .ok (.if_icmp .ge 28, 3) := by decide +kernel
theorem dX9_putStep_12 : decode cX9_putStep 12 = .ok (.aload_n 0, 1) := by decide +kernel
theorem dX9_putStep_13 : decode cX9_putStep 13 = .ok (.getfield 9, 3) := by decide +kernel
theorem dX9_putStep_16 : decode cX9_putStep 16 = .ok (.aload_n 0, 1) := by decide +kernel
theorem dX9_putStep_17 : decode cX9_putStep 17 = .ok (.getfield 24, 3) := by decide +kernel
theorem dX9_putStep_20 : decode cX9_putStep 20 = .ok (.iload_n 1, 1) := by decide +kernel
theorem dX9_putStep_21 : decode cX9_putStep 21 = .ok (.bipush 20, 2) := by decide +kernel
theorem dX9_putStep_23 : decode cX9_putStep 23 = .ok (.ishl, 1) := by decide +kernel
theorem dX9_putStep_24 : decode cX9_putStep 24 = .ok (.iload_n 2, 1) := by decide +kernel
theorem dX9_putStep_25 : decode cX9_putStep 25 = .ok (.ior, 1) := by decide +kernel
theorem dX9_putStep_26 : decode cX9_putStep 26 = .ok (.iastore, 1) := by decide +kernel
theorem dX9_putStep_27 : decode cX9_putStep 27 = .ok (.aload_n 0, 1) := by decide +kernel
theorem dX9_putStep_28 : decode cX9_putStep 28 = .ok (.dup, 1) := by decide +kernel
theorem dX9_putStep_29 : decode cX9_putStep 29 = .ok (.getfield 24, 3) := by decide +kernel
theorem dX9_putStep_32 : decode cX9_putStep 32 = .ok (.iconst 1, 1) := by decide +kernel
theorem dX9_putStep_33 : decode cX9_putStep 33 = .ok (.iadd, 1) := by decide +kernel
theorem dX9_putStep_34 : decode cX9_putStep 34 = .ok (.putfield 24, 3) := by decide +kernel
theorem dX9_putStep_37 : decode cX9_putStep 37 = .ok (.return_, 1) := by decide +kernel
theorem dX10_init_0 : decode cX10_init 0 = .ok (.aload_n 0, 1) := by decide +kernel
theorem dX10_init_1 : decode cX10_init 1 = .ok (.invokespecial 3, 3) := by decide +kernel
theorem dX10_init_4 : decode cX10_init 4 = .ok (.aload_n 0, 1) := by decide +kernel
theorem dX10_init_5 : decode cX10_init 5 = .ok (.new 9, 3) := by decide +kernel
theorem dX10_init_8 : decode cX10_init 8 = .ok (.dup, 1) := by decide +kernel
theorem dX10_init_9 : decode cX10_init 9 = .ok (.invokespecial 11, 3) := by decide +kernel
theorem dX10_init_12 : decode cX10_init 12 = .ok (.putfield 12, 3) := by decide +kernel
theorem dX10_init_15 : decode cX10_init 15 = .ok (.aload_n 0, 1) := by decide +kernel
theorem dX10_init_16 : decode cX10_init 16 = .ok (.iconst (-1), 1) := by decide +kernel
theorem dX10_init_17 : decode cX10_init 17 = .ok (.putfield 18, 3) := by decide +kernel
theorem dX10_init_20 : decode cX10_init 20 = .ok (.aload_n 0, 1) := by decide +kernel
theorem dX10_init_21 : decode cX10_init 21 = .ok (.sipush 700, 3) := by decide +kernel
theorem dX10_init_24 : decode cX10_init 24 = .ok (.newarray .int, 2) := by decide +kernel
theorem dX10_init_26 : decode cX10_init 26 = .ok (.putfield 24, 3) := by decide +kernel
theorem dX10_init_29 : decode cX10_init 29 = .ok (.aload_n 0, 1) := by decide +kernel
theorem dX10_init_30 : decode cX10_init 30 = .ok (.new 22, 3) := by decide +kernel
theorem dX10_init_33 : decode cX10_init 33 = .ok (.dup, 1) := by decide +kernel
theorem dX10_init_34 : decode cX10_init 34 = .ok (.aload_n 1, 1) := by decide +kernel
theorem dX10_init_35 : decode cX10_init 35 = .ok (.invokespecial 28, 3) := by decide +kernel
theorem dX10_init_38 : decode cX10_init 38 = .ok (.putfield 31, 3) := by decide +kernel
theorem dX10_init_41 : decode cX10_init 41 = .ok (.return_, 1) := by decide +kernel
theorem dX10_open_0 : decode cX10_open 0 = .ok (.aload_n 0, 1) := by decide +kernel
theorem dX10_open_1 : decode cX10_open 1 = .ok (.getfield 31, 3) := by decide +kernel
theorem dX10_open_4 : decode cX10_open 4 = .ok (.getfield 35, 3) := by decide +kernel
theorem dX10_open_7 : decode cX10_open 7 = .ok (.aload_n 1, 1) := by decide +kernel
theorem dX10_open_8 : decode cX10_open 8 = .ok (.invokevirtual 39, 3) := by decide +kernel
theorem dX10_open_11 : decode cX10_open 11 = .ok (.aload_n 0, 1) := by decide +kernel
theorem dX10_open_12 : decode cX10_open 12 = .ok (.getfield 31, 3) := by decide +kernel
theorem dX10_open_15 : decode cX10_open 15 = .ok (.invokevirtual 45, 3) := by decide +kernel
theorem dX10_open_18 : decode cX10_open 18 = .ok (.aload_n 0, 1) := by decide +kernel
theorem dX10_open_19 : decode cX10_open 19 = .ok (.getfield 12, 3) := by decide +kernel
theorem dX10_open_22 : decode cX10_open 22 = .ok (.iconst 0, 1) := by decide +kernel
theorem dX10_open_23 : decode cX10_open 23 = .ok (.putfield 48, 3) := by decide +kernel
theorem dX10_open_26 : decode cX10_open 26 = .ok (.aload_n 0, 1) := by decide +kernel
theorem dX10_open_27 : decode cX10_open 27 = .ok (.iconst 0, 1) := by decide +kernel
theorem dX10_open_28 : decode cX10_open 28 = .ok (.putfield 51, 3) := by decide +kernel
theorem dX10_open_31 : decode cX10_open 31 = .ok (.aload_n 0, 1) := by decide +kernel
theorem dX10_open_32 : decode cX10_open 32 = .ok (.iconst 1, 1) := by decide +kernel
theorem dX10_open_33 : decode cX10_open 33 = .ok (.putfield 54, 3) := by decide +kernel
theorem dX10_open_36 : decode cX10_open 36 = .ok (.return_, 1) := by decide +kernel
theorem dX10_keepForUndo_0 : decode cX10_keepForUndo 0 = .ok (.aload_n 0, 1) := by decide +kernel
theorem dX10_keepForUndo_1 : decode cX10_keepForUndo 1 = .ok (.getfield 31, 3) := by decide +kernel
theorem dX10_keepForUndo_4 : decode cX10_keepForUndo 4 = .ok (.getfield 58, 3) := by decide +kernel
theorem dX10_keepForUndo_7 : decode cX10_keepForUndo 7 = .ok (.iconst 0, 1) := by decide +kernel
theorem dX10_keepForUndo_8 : decode cX10_keepForUndo 8 = .ok (.aload_n 0, 1) := by decide +kernel
theorem dX10_keepForUndo_9 : decode cX10_keepForUndo 9 = .ok (.getfield 24, 3) := by decide +kernel
theorem dX10_keepForUndo_12 : decode cX10_keepForUndo 12 = .ok (.aload_n 0, 1) := by decide +kernel
theorem dX10_keepForUndo_13 : decode cX10_keepForUndo 13 = .ok (.getfield 61, 3) := by decide +kernel
theorem dX10_keepForUndo_16 : decode cX10_keepForUndo 16 = .ok (.bipush 35, 2) := by decide +kernel
theorem dX10_keepForUndo_18 : decode cX10_keepForUndo 18 = .ok (.imul, 1) := by decide +kernel
theorem dX10_keepForUndo_19 : decode cX10_keepForUndo 19 = .ok (.bipush 35, 2) := by decide +kernel
theorem dX10_keepForUndo_21 : decode cX10_keepForUndo 21 = .ok (.invokestatic 64, 3) := by decide +kernel
theorem dX10_keepForUndo_24 : decode cX10_keepForUndo 24 = .ok (.aload_n 0, 1) := by decide +kernel
theorem dX10_keepForUndo_25 : decode cX10_keepForUndo 25 = .ok (.aload_n 0, 1) := by decide +kernel
theorem dX10_keepForUndo_26 : decode cX10_keepForUndo 26 = .ok (.getfield 61, 3) := by decide +kernel
theorem dX10_keepForUndo_29 : decode cX10_keepForUndo 29 = .ok (.iconst 1, 1) := by decide +kernel
theorem dX10_keepForUndo_30 : decode cX10_keepForUndo 30 = .ok (.iadd, 1) := by decide +kernel
theorem dX10_keepForUndo_31 : decode cX10_keepForUndo 31 = .ok (.bipush 20, 2) := by decide +kernel
theorem dX10_keepForUndo_33 : decode cX10_keepForUndo 33 = .ok (.irem, 1) := by decide +kernel
theorem dX10_keepForUndo_34 : decode cX10_keepForUndo 34 = .ok (.putfield 61, 3) := by decide +kernel
theorem dX10_keepForUndo_37 : decode cX10_keepForUndo 37 = .ok (.aload_n 0, 1) := by decide +kernel
theorem dX10_keepForUndo_38 : decode cX10_keepForUndo 38 = .ok (.aload_n 0, 1) := by decide +kernel
theorem dX10_keepForUndo_39 : decode cX10_keepForUndo 39 = .ok (.getfield 51, 3) := by decide +kernel
theorem dX10_keepForUndo_42 : decode cX10_keepForUndo 42 = .ok (.iconst 1, 1) := by decide +kernel
theorem dX10_keepForUndo_43 : decode cX10_keepForUndo 43 = .ok (.iadd, 1) := by decide +kernel
theorem dX10_keepForUndo_44 : decode cX10_keepForUndo 44 = .ok (.bipush 20, 2) := by decide +kernel
theorem dX10_keepForUndo_46 : decode cX10_keepForUndo 46 = .ok (.invokestatic 70, 3) := by decide +kernel
theorem dX10_keepForUndo_49 : decode cX10_keepForUndo 49 = .ok (.putfield 51, 3) := by decide +kernel
theorem dX10_keepForUndo_52 : decode cX10_keepForUndo 52 = .ok (.return_, 1) := by decide +kernel
theorem dX10_undoLast_0 : decode cX10_undoLast 0 = .ok (.aload_n 0, 1) := by decide +kernel
theorem dX10_undoLast_1 : decode cX10_undoLast 1 = .ok (.getfield 51, 3) := by decide +kernel
theorem dX10_undoLast_4 : decode cX10_undoLast 4 = .ok (.ifCond .le 53, 3) := by decide +kernel
theorem dX10_undoLast_7 : decode cX10_undoLast 7 = .ok (.aload_n 0, 1) := by decide +kernel
theorem dX10_undoLast_8 : decode cX10_undoLast 8 = .ok (.aload_n 0, 1) := by decide +kernel
theorem dX10_undoLast_9 : decode cX10_undoLast 9 = .ok (.getfield 61, 3) := by decide +kernel
theorem dX10_undoLast_12 : decode cX10_undoLast 12 = .ok (.bipush 20, 2) := by decide +kernel
theorem dX10_undoLast_14 : decode cX10_undoLast 14 = .ok (.iadd, 1) := by decide +kernel
theorem dX10_undoLast_15 : decode cX10_undoLast 15 = .ok (.iconst 1, 1) := by decide +kernel
theorem dX10_undoLast_16 : decode cX10_undoLast 16 = .ok (.isub, 1) := by decide +kernel
theorem dX10_undoLast_17 : decode cX10_undoLast 17 = .ok (.bipush 20, 2) := by decide +kernel
theorem dX10_undoLast_19 : decode cX10_undoLast 19 = .ok (.irem, 1) := by decide +kernel
theorem dX10_undoLast_20 : decode cX10_undoLast 20 = .ok (.putfield 61, 3) := by decide +kernel
theorem dX10_undoLast_23 : decode cX10_undoLast 23 = .ok (.aload_n 0, 1) := by decide +kernel
theorem dX10_undoLast_24 : decode cX10_undoLast 24 = .ok (.dup, 1) := by decide +kernel
theorem dX10_undoLast_25 : decode cX10_undoLast 25 = .ok (.getfield 51, 3) := by decide +kernel
theorem dX10_undoLast_28 : decode cX10_undoLast 28 = .ok (.iconst 1, 1) := by decide +kernel
theorem dX10_undoLast_29 : decode cX10_undoLast 29 = .ok (.isub, 1) := by decide +kernel
theorem dX10_undoLast_30 : decode cX10_undoLast 30 = .ok (.putfield 51, 3) := by decide +kernel
theorem dX10_undoLast_33 : decode cX10_undoLast 33 = .ok (.aload_n 0, 1) := by decide +kernel
theorem dX10_undoLast_34 : decode cX10_undoLast 34 = .ok (.getfield 24, 3) := by decide +kernel
theorem dX10_undoLast_37 : decode cX10_undoLast 37 = .ok (.aload_n 0, 1) := by decide +kernel
theorem dX10_undoLast_38 : decode cX10_undoLast 38 = .ok (.getfield 61, 3) := by decide +kernel
theorem dX10_undoLast_41 : decode cX10_undoLast 41 = .ok (.bipush 35, 2) := by decide +kernel
theorem dX10_undoLast_43 : decode cX10_undoLast 43 = .ok (.imul, 1) := by decide +kernel
theorem dX10_undoLast_44 : decode cX10_undoLast 44 = .ok (.aload_n 0, 1) := by decide +kernel
theorem dX10_undoLast_45 : decode cX10_undoLast 45 = .ok (.getfield 31, 3) := by decide +kernel
theorem dX10_undoLast_48 : decode cX10_undoLast 48 = .ok (.getfield 58, 3) := by decide +kernel
theorem dX10_undoLast_51 : decode cX10_undoLast 51 = .ok (.iconst 0, 1) := by decide +kernel
theorem dX10_undoLast_52 : decode cX10_undoLast 52 = .ok (.bipush 35, 2) := by decide +kernel
theorem dX10_undoLast_54 : decode cX10_undoLast 54 = .ok (.invokestatic 64, 3) := by decide +kernel
theorem dX10_undoLast_57 : decode cX10_undoLast 57 = .ok (.return_, 1) := by decide +kernel
theorem dX10_copy_0 : decode cX10_copy 0 = .ok (.aload_n 0, 1) := by decide +kernel
theorem dX10_copy_1 : decode cX10_copy 1 = .ok (.getfield 31, 3) := by decide +kernel
theorem dX10_copy_4 : decode cX10_copy 4 = .ok (.aload_n 1, 1) := by decide +kernel
theorem dX10_copy_5 : decode cX10_copy 5 = .ok (.getfield 31, 3) := by decide +kernel
theorem dX10_copy_8 : decode cX10_copy 8 = .ok (.invokevirtual 76, 3) := by decide +kernel
theorem dX10_copy_11 : decode cX10_copy 11 = .ok (.aload_n 0, 1) := by decide +kernel
theorem dX10_copy_12 : decode cX10_copy 12 = .ok (.getfield 12, 3) := by decide +kernel
theorem dX10_copy_15 : decode cX10_copy 15 = .ok (.aload_n 1, 1) := by decide +kernel
theorem dX10_copy_16 : decode cX10_copy 16 = .ok (.getfield 12, 3) := by decide +kernel
theorem dX10_copy_19 : decode cX10_copy 19 = .ok (.invokevirtual 79, 3) := by decide +kernel
theorem dX10_copy_22 : decode cX10_copy 22 = .ok (.aload_n 0, 1) := by decide +kernel
theorem dX10_copy_23 : decode cX10_copy 23 = .ok (.aload_n 1, 1) := by decide +kernel
theorem dX10_copy_24 : decode cX10_copy 24 = .ok (.getfield 54, 3) := by decide +kernel
theorem dX10_copy_27 : decode cX10_copy 27 = .ok (.putfield 54, 3) := by decide +kernel
theorem dX10_copy_30 : decode cX10_copy 30 = .ok (.aload_n 0, 1) := by decide +kernel
theorem dX10_copy_31 : decode cX10_copy 31 = .ok (.aload_n 1, 1) := by decide +kernel
theorem dX10_copy_32 : decode cX10_copy 32 = .ok (.getfield 18, 3) := by decide +kernel
theorem dX10_copy_35 : decode cX10_copy 35 = .ok (.putfield 18, 3) := by decide +kernel
theorem dX10_copy_38 : decode cX10_copy 38 = .ok (.aload_n 0, 1) := by decide +kernel
theorem dX10_copy_39 : decode cX10_copy 39 = .ok (.aload_n 1, 1) := by decide +kernel
theorem dX10_copy_40 : decode cX10_copy 40 = .ok (.getfield 82, 3) := by decide +kernel
theorem dX10_copy_43 : decode cX10_copy 43 = .ok (.putfield 82, 3) := by decide +kernel
theorem dX10_copy_46 : decode cX10_copy 46 = .ok (.aload_n 1, 1) := by decide +kernel
theorem dX10_copy_47 : decode cX10_copy 47 = .ok (.getfield 24, 3) := by decide +kernel
theorem dX10_copy_50 : decode cX10_copy 50 = .ok (.iconst 0, 1) := by decide +kernel
theorem dX10_copy_51 : decode cX10_copy 51 = .ok (.aload_n 0, 1) := by decide +kernel
theorem dX10_copy_52 : decode cX10_copy 52 = .ok (.getfield 24, 3) := by decide +kernel
theorem dX10_copy_55 : decode cX10_copy 55 = .ok (.iconst 0, 1) := by decide +kernel
theorem dX10_copy_56 : decode cX10_copy 56 = .ok (.sipush 700, 3) := by decide +kernel
theorem dX10_copy_59 : decode cX10_copy 59 = .ok (.invokestatic 64, 3) := by decide +kernel
theorem dX10_copy_62 : decode cX10_copy 62 = .ok (.aload_n 0, 1) := by decide +kernel
theorem dX10_copy_63 : decode cX10_copy 63 = .ok (.aload_n 1, 1) := by decide +kernel
theorem dX10_copy_64 : decode cX10_copy 64 = .ok (.getfield 61, 3) := by decide +kernel
theorem dX10_copy_67 : decode cX10_copy 67 = .ok (.putfield 61, 3) := by decide +kernel
theorem dX10_copy_70 : decode cX10_copy 70 = .ok (.aload_n 0, 1) := by decide +kernel
theorem dX10_copy_71 : decode cX10_copy 71 = .ok (.aload_n 1, 1) := by decide +kernel
theorem dX10_copy_72 : decode cX10_copy 72 = .ok (.getfield 51, 3) := by decide +kernel
theorem dX10_copy_75 : decode cX10_copy 75 = .ok (.putfield 51, 3) := by decide +kernel
theorem dX10_copy_78 : decode cX10_copy 78 = .ok (.return_, 1) := by decide +kernel
theorem dX11_init_0 : decode cX11_init 0 = .ok (.aload_n 0, 1) := by decide +kernel
theorem dX11_init_1 : decode cX11_init 1 = .ok (.invokespecial 1, 3) := by decide +kernel
theorem dX11_init_4 : decode cX11_init 4 = .ok (.aload_n 0, 1) := by decide +kernel
theorem dX11_init_5 : decode cX11_init 5 = .ok (.sipush 400, 3) := by decide +kernel
theorem dX11_init_8 : decode cX11_init 8 = .ok (.newarray .int, 2) := by decide +kernel
theorem dX11_init_10 : decode cX11_init 10 = .ok (.putfield 9, 3) := by decide +kernel
theorem dX11_init_13 : decode cX11_init 13 = .ok (.aload_n 0, 1) := by decide +kernel
theorem dX11_init_14 : decode cX11_init 14 = .ok (.new 13, 3) := by decide +kernel
theorem dX11_init_17 : decode cX11_init 17 = .ok (.dup, 1) := by decide +kernel
theorem dX11_init_18 : decode cX11_init 18 = .ok (.aload_n 0, 1) := by decide +kernel
theorem dX11_init_19 : decode cX11_init 19 = .ok (.getfield 9, 3) := by decide +kernel
theorem dX11_init_22 : decode cX11_init 22 = .ok (.invokespecial 15, 3) := by decide +kernel
theorem dX11_init_25 : decode cX11_init 25 = .ok (.putfield 18, 3) := by decide +kernel
theorem dX11_init_28 : decode cX11_init 28 = .ok (.aload_n 0, 1) := by decide +kernel
theorem dX11_init_29 : decode cX11_init 29 = .ok (.new 22, 3) := by decide +kernel
theorem dX11_init_32 : decode cX11_init 32 = .ok (.dup, 1) := by decide +kernel
theorem dX11_init_33 : decode cX11_init 33 = .ok (.aload_n 0, 1) := by decide +kernel
theorem dX11_init_34 : decode cX11_init 34 = .ok (.getfield 9, 3) := by decide +kernel
theorem dX11_init_37 : decode cX11_init 37 = .ok (.invokespecial 24, 3) := by decide +kernel
theorem dX11_init_40 : decode cX11_init 40 = .ok (.putfield 25, 3) := by decide +kernel
theorem dX11_init_43 : decode cX11_init 43 = .ok (.aload_n 0, 1) := by decide +kernel
theorem dX11_init_44 : decode cX11_init 44 = .ok (.bipush 6, 2) := by decide +kernel
theorem dX11_init_46 : decode cX11_init 46 = .ok (.anewarray 29, 3) := by decide +kernel
theorem dX11_init_49 : decode cX11_init 49 = .ok (.putfield 31, 3) := by decide +kernel
theorem dX11_init_52 : decode cX11_init 52 = .ok (.aload_n 0, 1) := by decide +kernel
theorem dX11_init_53 : decode cX11_init 53 = .ok (.new 35, 3) := by decide +kernel
theorem dX11_init_56 : decode cX11_init 56 = .ok (.dup, 1) := by decide +kernel
theorem dX11_init_57 : decode cX11_init 57 = .ok (.invokespecial 37, 3) := by decide +kernel
theorem dX11_init_60 : decode cX11_init 60 = .ok (.putfield 38, 3) := by decide +kernel
theorem dX11_init_63 : decode cX11_init 63 = .ok (.aload_n 0, 1) := by decide +kernel
theorem dX11_init_64 : decode cX11_init 64 = .ok (.new 42, 3) := by decide +kernel
theorem dX11_init_67 : decode cX11_init 67 = .ok (.dup, 1) := by decide +kernel
theorem dX11_init_68 : decode cX11_init 68 = .ok (.aload_n 0, 1) := by decide +kernel
theorem dX11_init_69 : decode cX11_init 69 = .ok (.getfield 38, 3) := by decide +kernel
theorem dX11_init_72 : decode cX11_init 72 = .ok (.invokespecial 44, 3) := by decide +kernel
theorem dX11_init_75 : decode cX11_init 75 = .ok (.putfield 47, 3) := by decide +kernel
theorem dX11_init_78 : decode cX11_init 78 = .ok (.aload_n 0, 1) := by decide +kernel
theorem dX11_init_79 : decode cX11_init 79 = .ok (.aload_n 0, 1) := by decide +kernel
theorem dX11_init_80 : decode cX11_init 80 = .ok (.getfield 47, 3) := by decide +kernel
theorem dX11_init_83 : decode cX11_init 83 = .ok (.getfield 51, 3) := by decide +kernel
theorem dX11_init_86 : decode cX11_init 86 = .ok (.putfield 55, 3) := by decide +kernel
theorem dX11_init_89 : decode cX11_init 89 = .ok (.aload_n 0, 1) := by decide +kernel
theorem dX11_init_90 : decode cX11_init 90 = .ok (.new 56, 3) := by decide +kernel
theorem dX11_init_93 : decode cX11_init 93 = .ok (.dup, 1) := by decide +kernel
theorem dX11_init_94 : decode cX11_init 94 = .ok (.aload_n 0, 1) := by decide +kernel
theorem dX11_init_95 : decode cX11_init 95 = .ok (.getfield 55, 3) := by decide +kernel
theorem dX11_init_98 : decode cX11_init 98 = .ok (.aload_n 0, 1) := by decide +kernel
theorem dX11_init_99 : decode cX11_init 99 = .ok (.getfield 38, 3) := by decide +kernel
theorem dX11_init_102 : decode cX11_init 102 = .ok (.invokespecial 58, 3) := by decide +kernel
theorem dX11_init_105 : decode cX11_init 105 = .ok (.putfield 61, 3) := by decide +kernel
theorem dX11_init_108 : decode cX11_init 108 = .ok (.aload_n 0, 1) := by decide +kernel
theorem dX11_init_109 : decode cX11_init 109 = .ok (.iconst 4, 1) := by decide +kernel
theorem dX11_init_110 : decode cX11_init 110 = .ok (.anewarray 42, 3) := by decide +kernel
theorem dX11_init_113 : decode cX11_init 113 = .ok (.putfield 65, 3) := by decide +kernel
theorem dX11_init_116 : decode cX11_init 116 = .ok (.return_, 1) := by decide +kernel
theorem dX11_feed_0 : decode cX11_feed 0 = .ok (.aload_n 0, 1) := by decide +kernel
theorem dX11_feed_1 : decode cX11_feed 1 = .ok (.getfield 69, 3) := by decide +kernel
theorem dX11_feed_4 : decode cX11_feed 4 = .ok (.bipush 20, 2) := by decide +kernel
theorem dX11_feed_6 : decode cX11_feed 6 = .ok (.iadd, 1) := by decide +kernel
theorem dX11_feed_7 : decode cX11_feed 7 = .ok (.sipush 400, 3) := by decide +kernel
theorem dX11_feed_10 : decode cX11_feed 10 = .ok (.if_icmp .le 5, 3) := by decide +kernel
theorem dX11_feed_13 : decode cX11_feed 13 = .ok (.iconst (-1), 1) := by decide +kernel
theorem dX11_feed_14 : decode cX11_feed 14 = .ok (.ireturn, 1) := by decide +kernel
theorem dX11_feed_15 : decode cX11_feed 15 = .ok (.aload_n 0, 1) := by decide +kernel
theorem dX11_feed_16 : decode cX11_feed 16 = .ok (.iload_n 1, 1) := by decide +kernel
theorem dX11_feed_17 : decode cX11_feed 17 = .ok (.invokevirtual 73, 3) := by decide +kernel
theorem dX11_feed_20 : decode cX11_feed 20 = .ok (.aload_n 0, 1) := by decide +kernel
theorem dX11_feed_21 : decode cX11_feed 21 = .ok (.iload_n 2, 1) := by decide +kernel
theorem dX11_feed_22 : decode cX11_feed 22 = .ok (.invokevirtual 73, 3) := by decide +kernel
theorem dX11_feed_25 : decode cX11_feed 25 = .ok (.aload_n 0, 1) := by decide +kernel
theorem dX11_feed_26 : decode cX11_feed 26 = .ok (.iload_n 3, 1) := by decide +kernel
theorem dX11_feed_27 : decode cX11_feed 27 = .ok (.invokevirtual 73, 3) := by decide +kernel
theorem dX11_feed_30 : decode cX11_feed 30 = .ok (.aload_n 0, 1) := by decide +kernel
theorem dX11_feed_31 : decode cX11_feed 31 = .ok (.iload 4, 2) := by decide +kernel
theorem dX11_feed_33 : decode cX11_feed 33 = .ok (.invokevirtual 73, 3) := by decide +kernel
theorem dX11_feed_36 : decode cX11_feed 36 = .ok (.aload_n 0, 1) := by decide +kernel
theorem dX11_feed_37 : decode cX11_feed 37 = .ok (.iload 5, 2) := by decide +kernel
theorem dX11_feed_39 : decode cX11_feed 39 = .ok (.invokevirtual 73, 3) := by decide +kernel
theorem dX11_feed_42 : decode cX11_feed 42 = .ok (.aload_n 0, 1) := by decide +kernel
theorem dX11_feed_43 : decode cX11_feed 43 = .ok (.getfield 69, 3) := by decide +kernel
theorem dX11_feed_46 : decode cX11_feed 46 = .ok (.ireturn, 1) := by decide +kernel
theorem dX11_putFour_0 : decode cX11_putFour 0 = .ok (.bipush 24, 2) := by decide +kernel
theorem dX11_putFour_2 : decode cX11_putFour 2 = .ok (.istore_n 2, 1) := by decide +kernel
theorem dX11_putFour_3 : decode cX11_putFour 3 = .ok (.iload_n 2, 1) := by decide +kernel
theorem dX11_putFour_4 : decode cX11_putFour 4 = .ok (.ifCond .lt 45, 3) := by decide +kernel
theorem dX11_putFour_7 : decode cX11_putFour 7 = .ok (.aload_n 0, 1) := by decide +kernel
theorem dX11_putFour_8 : decode cX11_putFour 8 = .ok (.getfield 69, 3) := by decide +kernel
theorem dX11_putFour_11 : decode cX11_putFour 11 = .ok (.sipush 400, 3) := by decide +kernel
theorem dX11_putFour_14 : decode cX11_putFour 14 = .ok (.if_icmp .ge 35, 3) := by decide +kernel
theorem dX11_putFour_17 : decode cX11_putFour 17 = .ok (.aload_n 0, 1) := by decide +kernel
theorem dX11_putFour_18 : decode cX11_putFour 18 = .ok (.getfield 9, 3) := by decide +kernel
theorem dX11_putFour_21 : decode cX11_putFour 21 = .ok (.aload_n 0, 1) := by decide +kernel
theorem dX11_putFour_22 : decode cX11_putFour 22 = .ok (.getfield 69, 3) := by decide +kernel
theorem dX11_putFour_25 : decode cX11_putFour 25 = .ok (.iload_n 1, 1) := by decide +kernel
theorem dX11_putFour_26 : decode cX11_putFour 26 = .ok (.iload_n 2, 1) := by decide +kernel
theorem dX11_putFour_27 : decode cX11_putFour 27 = .ok (.ishr, 1) := by decide +kernel
theorem dX11_putFour_28 : decode cX11_putFour 28 = .ok (.sipush 255, 3) := by decide +kernel
theorem dX11_putFour_31 : decode cX11_putFour 31 = .ok (.iand, 1) := by decide +kernel
theorem dX11_putFour_32 : decode cX11_putFour 32 = .ok (.iastore, 1) := by decide +kernel
theorem dX11_putFour_33 : decode cX11_putFour 33 = .ok (.aload_n 0, 1) := by decide +kernel
theorem dX11_putFour_34 : decode cX11_putFour 34 = .ok (.dup, 1) := by decide +kernel
theorem dX11_putFour_35 : decode cX11_putFour 35 = .ok (.getfield 69, 3) := by decide +kernel
theorem dX11_putFour_38 : decode cX11_putFour 38 = .ok (.iconst 1, 1) := by decide +kernel
theorem dX11_putFour_39 : decode cX11_putFour 39 = .ok (.iadd, 1) := by decide +kernel
theorem dX11_putFour_40 : decode cX11_putFour 40 = .ok (.putfield 69, 3) := by decide +kernel
theorem dX11_putFour_43 : decode cX11_putFour 43 = .ok (.iinc 2 (-8), 3) := by decide +kernel
theorem dX11_putFour_46 : decode cX11_putFour 46 = .ok (.goto (-43), 3) := by decide +kernel
theorem dX11_putFour_49 : decode cX11_putFour 49 = .ok (.return_, 1) := by decide +kernel
theorem dX11_end_0 : decode cX11_end 0 = .ok (.iload_n 1, 1) := by decide +kernel
theorem dX11_end_1 : decode cX11_end 1 = .ok (.ifCond .lt 11, 3) := by decide +kernel
theorem dX11_end_4 : decode cX11_end 4 = .ok (.iload_n 1, 1) := by decide +kernel
theorem dX11_end_5 : decode cX11_end 5 = .ok (.aload_n 0, 1) := by decide +kernel
theorem dX11_end_6 : decode cX11_end 6 = .ok (.getfield 69, 3) := by decide +kernel
theorem dX11_end_9 : decode cX11_end 9 = .ok (.if_icmp .le 5, 3) := by decide +kernel
theorem dX11_end_12 : decode cX11_end 12 = .ok (.iconst (-1), 1) := by decide +kernel
theorem dX11_end_13 : decode cX11_end 13 = .ok (.ireturn, 1) := by decide +kernel
theorem dX11_end_14 : decode cX11_end 14 = .ok (.aload_n 0, 1) := by decide +kernel
theorem dX11_end_15 : decode cX11_end 15 = .ok (.iload_n 1, 1) := by decide +kernel
theorem dX11_end_16 : decode cX11_end 16 = .ok (.putfield 69, 3) := by decide +kernel
theorem dX11_end_19 : decode cX11_end 19 = .ok (.iload_n 1, 1) := by decide +kernel
theorem dX11_end_20 : decode cX11_end 20 = .ok (.ireturn, 1) := by decide +kernel
theorem dX11_hall_0 : decode cX11_hall 0 = .ok (.aload_n 0, 1) := by decide +kernel
theorem dX11_hall_1 : decode cX11_hall 1 = .ok (.getfield 18, 3) := by decide +kernel
theorem dX11_hall_4 : decode cX11_hall 4 = .ok (.aload_n 0, 1) := by decide +kernel
theorem dX11_hall_5 : decode cX11_hall 5 = .ok (.getfield 69, 3) := by decide +kernel
theorem dX11_hall_8 : decode cX11_hall 8 = .ok (.invokevirtual 77, 3) := by decide +kernel
theorem dX11_hall_11 : decode cX11_hall 11 = .ok (.istore_n 1, 1) := by decide +kernel
theorem dX11_hall_12 : decode cX11_hall 12 = .ok (.aload_n 0, 1) := by decide +kernel
theorem dX11_hall_13 : decode cX11_hall 13 = .ok (.iconst 0, 1) := by decide +kernel
theorem dX11_hall_14 : decode cX11_hall 14 = .ok (.putfield 69, 3) := by decide +kernel
theorem dX11_hall_17 : decode cX11_hall 17 = .ok (.iload_n 1, 1) := by decide +kernel
theorem dX11_hall_18 : decode cX11_hall 18 = .ok (.ifCond .eq 8, 3) := by decide +kernel
theorem dX11_hall_21 : decode cX11_hall 21 = .ok (.bipush (-2), 2) := by decide +kernel
theorem dX11_hall_23 : decode cX11_hall 23 = .ok (.iload_n 1, 1) := by decide +kernel
theorem dX11_hall_24 : decode cX11_hall 24 = .ok (.isub, 1) := by decide +kernel
theorem dX11_hall_25 : decode cX11_hall 25 = .ok (.ireturn, 1) := by decide +kernel
theorem dX11_hall_26 : decode cX11_hall 26 = .ok (.aload_n 0, 1) := by decide +kernel
theorem dX11_hall_27 : decode cX11_hall 27 = .ok (.getfield 47, 3) := by decide +kernel
theorem dX11_hall_30 : decode cX11_hall 30 = .ok (.aload_n 0, 1) := by decide +kernel
theorem dX11_hall_31 : decode cX11_hall 31 = .ok (.getfield 18, 3) := by decide +kernel
theorem dX11_hall_34 : decode cX11_hall 34 = .ok (.getfield 81, 3) := by decide +kernel
theorem dX11_hall_37 : decode cX11_hall 37 = .ok (.invokevirtual 85, 3) := by decide +kernel
theorem dX11_hall_40 : decode cX11_hall 40 = .ok (.aload_n 0, 1) := by decide +kernel
theorem dX11_hall_41 : decode cX11_hall 41 = .ok (.getfield 55, 3) := by decide +kernel
theorem dX11_hall_44 : decode cX11_hall 44 = .ok (.getfield 89, 3) := by decide +kernel
theorem dX11_hall_47 : decode cX11_hall 47 = .ok (.getfield 92, 3) := by decide +kernel
theorem dX11_hall_50 : decode cX11_hall 50 = .ok (.ireturn, 1) := by decide +kernel
theorem dX11_rule_0 : decode cX11_rule 0 = .ok (.aload_n 0, 1) := by decide +kernel
theorem dX11_rule_1 : decode cX11_rule 1 = .ok (.getfield 97, 3) := by decide +kernel
theorem dX11_rule_4 : decode cX11_rule 4 = .ok (.bipush 6, 2) := by decide +kernel
theorem dX11_rule_6 : decode cX11_rule 6 = .ok (.if_icmp .lt 5, 3) := by decide +kernel
theorem dX11_rule_9 : decode cX11_rule 9 = .ok (.iconst (-1), 1) := by decide +kernel
theorem dX11_rule_10 : decode cX11_rule 10 = .ok (.ireturn, 1) := by decide +kernel
theorem dX11_rule_11 : decode cX11_rule 11 = .ok (.aload_n 0, 1) := by decide +kernel
theorem dX11_rule_12 : decode cX11_rule 12 = .ok (.getfield 25, 3) := by decide +kernel
theorem dX11_rule_15 : decode cX11_rule 15 = .ok (.aload_n 0, 1) := by decide +kernel
theorem dX11_rule_16 : decode cX11_rule 16 = .ok (.getfield 69, 3) := by decide +kernel
theorem dX11_rule_19 : decode cX11_rule 19 = .ok (.invokevirtual 100, 3) := by decide +kernel
theorem dX11_rule_22 : decode cX11_rule 22 = .ok (.istore_n 1, 1) := by decide +kernel
theorem dX11_rule_23 : decode cX11_rule 23 = .ok (.aload_n 0, 1) := by decide +kernel
theorem dX11_rule_24 : decode cX11_rule 24 = .ok (.iconst 0, 1) := by decide +kernel
theorem dX11_rule_25 : decode cX11_rule 25 = .ok (.putfield 69, 3) := by decide +kernel
theorem dX11_rule_28 : decode cX11_rule 28 = .ok (.iload_n 1, 1) := by decide +kernel
theorem dX11_rule_29 : decode cX11_rule 29 = .ok (.ifCond .eq 8, 3) := by decide +kernel
theorem dX11_rule_32 : decode cX11_rule 32 = .ok (.bipush (-2), 2) := by decide +kernel
theorem dX11_rule_34 : decode cX11_rule 34 = .ok (.iload_n 1, 1) := by decide +kernel
theorem dX11_rule_35 : decode cX11_rule 35 = .ok (.isub, 1) := by decide +kernel
theorem dX11_rule_36 : decode cX11_rule 36 = .ok (.ireturn, 1) := by decide +kernel
theorem dX11_rule_37 : decode cX11_rule 37 = .ok (.aload_n 0, 1) := by decide +kernel
theorem dX11_rule_38 : decode cX11_rule 38 = .ok (.getfield 31, 3) := by decide +kernel
theorem dX11_rule_41 : decode cX11_rule 41 = .ok (.aload_n 0, 1) := by decide +kernel
theorem dX11_rule_42 : decode cX11_rule 42 = .ok (.getfield 97, 3) := by decide +kernel
theorem dX11_rule_45 : decode cX11_rule 45 = .ok (.aload_n 0, 1) := by decide +kernel
theorem dX11_rule_46 : decode cX11_rule 46 = .ok (.getfield 25, 3) := by decide +kernel
theorem dX11_rule_49 : decode cX11_rule 49 = .ok (.invokevirtual 101, 3) := by decide +kernel
theorem dX11_rule_52 : decode cX11_rule 52 = .ok (.aastore, 1) := by decide +kernel
theorem dX11_rule_53 : decode cX11_rule 53 = .ok (.aload_n 0, 1) := by decide +kernel
theorem dX11_rule_54 : decode cX11_rule 54 = .ok (.dup, 1) := by decide +kernel
theorem dX11_rule_55 : decode cX11_rule 55 = .ok (.getfield 97, 3) := by decide +kernel
theorem dX11_rule_58 : decode cX11_rule 58 = .ok (.iconst 1, 1) := by decide +kernel
theorem dX11_rule_59 : decode cX11_rule 59 = .ok (.iadd, 1) := by decide +kernel
theorem dX11_rule_60 : decode cX11_rule 60 = .ok (.putfield 97, 3) := by decide +kernel
theorem dX11_rule_63 : decode cX11_rule 63 = .ok (.aload_n 0, 1) := by decide +kernel
theorem dX11_rule_64 : decode cX11_rule 64 = .ok (.getfield 97, 3) := by decide +kernel
theorem dX11_rule_67 : decode cX11_rule 67 = .ok (.iconst 1, 1) := by decide +kernel
theorem dX11_rule_68 : decode cX11_rule 68 = .ok (.isub, 1) := by decide +kernel
theorem dX11_rule_69 : decode cX11_rule 69 = .ok (.ireturn, 1) := by decide +kernel
theorem dX11_force_0 : decode cX11_force 0 = .ok (.iload_n 1, 1) := by decide +kernel
theorem dX11_force_1 : decode cX11_force 1 = .ok (.iconst (-1), 1) := by decide +kernel
theorem dX11_force_2 : decode cX11_force 2 = .ok (.if_icmp .eq 18, 3) := by decide +kernel
theorem dX11_force_5 : decode cX11_force 5 = .ok (.iload_n 1, 1) := by decide +kernel
theorem dX11_force_6 : decode cX11_force 6 = .ok (.ifCond .lt 11, 3) := by decide +kernel
theorem dX11_force_9 : decode cX11_force 9 = .ok (.iload_n 1, 1) := by decide +kernel
theorem dX11_force_10 : decode cX11_force 10 = .ok (.aload_n 0, 1) := by decide +kernel
theorem dX11_force_11 : decode cX11_force 11 = .ok (.getfield 97, 3) := by decide +kernel
theorem dX11_force_14 : decode cX11_force 14 = .ok (.if_icmp .lt 6, 3) := by decide +kernel
theorem dX11_force_17 : decode cX11_force 17 = .ok (.bipush (-2), 2) := by decide +kernel
theorem dX11_force_19 : decode cX11_force 19 = .ok (.ireturn, 1) := by decide +kernel
theorem dX11_force_20 : decode cX11_force 20 = .ok (.aload_n 0, 1) := by decide +kernel
theorem dX11_force_21 : decode cX11_force 21 = .ok (.getfield 47, 3) := by decide +kernel
theorem dX11_force_24 : decode cX11_force 24 = .ok (.getfield 105, 3) := by decide +kernel
theorem dX11_force_27 : decode cX11_force 27 = .ok (.istore_n 2, 1) := by decide +kernel
theorem dX11_force_28 : decode cX11_force 28 = .ok (.aload_n 0, 1) := by decide +kernel
theorem dX11_force_29 : decode cX11_force 29 = .ok (.getfield 47, 3) := by decide +kernel
theorem dX11_force_32 : decode cX11_force 32 = .ok (.iload_n 1, 1) := by decide +kernel
theorem dX11_force_33 : decode cX11_force 33 = .ok (.putfield 105, 3) := by decide +kernel
theorem dX11_force_36 : decode cX11_force 36 = .ok (.aload_n 0, 1) := by decide +kernel
theorem dX11_force_37 : decode cX11_force 37 = .ok (.getfield 55, 3) := by decide +kernel
theorem dX11_force_40 : decode cX11_force 40 = .ok (.aload_n 0, 1) := by decide +kernel
theorem dX11_force_41 : decode cX11_force 41 = .ok (.iload_n 1, 1) := by decide +kernel
theorem dX11_force_42 : decode cX11_force 42 = .ok (.invokevirtual 108, 3) := by decide +kernel
theorem dX11_force_45 : decode cX11_force 45 = .ok (.putfield 112, 3) := by decide +kernel
theorem dX11_force_48 : decode cX11_force 48 = .ok (.iload_n 2, 1) := by decide +kernel
theorem dX11_force_49 : decode cX11_force 49 = .ok (.ireturn, 1) := by decide +kernel
theorem dX11_ruleOf_0 : decode cX11_ruleOf 0 = .ok (.iload_n 1, 1) := by decide +kernel
theorem dX11_ruleOf_1 : decode cX11_ruleOf 1 = .ok (.ifCond .lt 20, 3) := by decide +kernel
theorem dX11_ruleOf_4 : decode cX11_ruleOf 4 = .ok (.iload_n 1, 1) := by decide +kernel
theorem dX11_ruleOf_5 : decode cX11_ruleOf 5 = .ok (.aload_n 0, 1) := by decide +kernel
theorem dX11_ruleOf_6 : decode cX11_ruleOf 6 = .ok (.getfield 97, 3) := by decide +kernel
theorem dX11_ruleOf_9 : decode cX11_ruleOf 9 = .ok (.if_icmp .ge 12, 3) := by decide +kernel
theorem dX11_ruleOf_12 : decode cX11_ruleOf 12 = .ok (.aload_n 0, 1) := by decide +kernel
theorem dX11_ruleOf_13 : decode cX11_ruleOf 13 = .ok (.getfield 31, 3) := by decide +kernel
theorem dX11_ruleOf_16 : decode cX11_ruleOf 16 = .ok (.iload_n 1, 1) := by decide +kernel
theorem dX11_ruleOf_17 : decode cX11_ruleOf 17 = .ok (.aaload, 1) := by decide +kernel
theorem dX11_ruleOf_18 : decode cX11_ruleOf 18 = .ok (.goto 4, 3) := by decide +kernel
theorem dX11_ruleOf_21 : decode cX11_ruleOf 21 = .ok (.aconst_null, 1) := by decide +kernel
theorem dX11_ruleOf_22 : decode cX11_ruleOf 22 = .ok (.areturn, 1) := by decide +kernel
theorem dX11_thing_0 : decode cX11_thing 0 = .ok (.aload_n 0, 1) := by decide +kernel
theorem dX11_thing_1 : decode cX11_thing 1 = .ok (.getfield 55, 3) := by decide +kernel
theorem dX11_thing_4 : decode cX11_thing 4 = .ok (.getfield 89, 3) := by decide +kernel
theorem dX11_thing_7 : decode cX11_thing 7 = .ok (.iload_n 1, 1) := by decide +kernel
theorem dX11_thing_8 : decode cX11_thing 8 = .ok (.invokevirtual 116, 3) := by decide +kernel
theorem dX11_thing_11 : decode cX11_thing 11 = .ok (.ifCond .ne 6, 3) := by decide +kernel
theorem dX11_thing_14 : decode cX11_thing 14 = .ok (.bipush (-2), 2) := by decide +kernel
theorem dX11_thing_16 : decode cX11_thing 16 = .ok (.ireturn, 1) := by decide +kernel
theorem dX11_thing_17 : decode cX11_thing 17 = .ok (.iload_n 2, 1) := by decide +kernel
theorem dX11_thing_18 : decode cX11_thing 18 = .ok (.tableswitch 112 0 5 #[38, 51, 64, 77, 90, 99], 38) := by decide +kernel
theorem dX11_thing_56 : decode cX11_thing 56 = .ok (.aload_n 0, 1) := by decide +kernel
theorem dX11_thing_57 : decode cX11_thing 57 = .ok (.getfield 55, 3) := by decide +kernel
theorem dX11_thing_60 : decode cX11_thing 60 = .ok (.getfield 89, 3) := by decide +kernel
theorem dX11_thing_63 : decode cX11_thing 63 = .ok (.getfield 120, 3) := by decide +kernel
theorem dX11_thing_66 : decode cX11_thing 66 = .ok (.iload_n 1, 1) := by decide +kernel
theorem dX11_thing_67 : decode cX11_thing 67 = .ok (.iaload, 1) := by decide +kernel
theorem dX11_thing_68 : decode cX11_thing 68 = .ok (.ireturn, 1) := by decide +kernel
theorem dX11_thing_69 : decode cX11_thing 69 = .ok (.aload_n 0, 1) := by decide +kernel
theorem dX11_thing_70 : decode cX11_thing 70 = .ok (.getfield 55, 3) := by decide +kernel
theorem dX11_thing_73 : decode cX11_thing 73 = .ok (.getfield 89, 3) := by decide +kernel
theorem dX11_thing_76 : decode cX11_thing 76 = .ok (.getfield 123, 3) := by decide +kernel
theorem dX11_thing_79 : decode cX11_thing 79 = .ok (.iload_n 1, 1) := by decide +kernel
theorem dX11_thing_80 : decode cX11_thing 80 = .ok (.iaload, 1) := by decide +kernel
theorem dX11_thing_81 : decode cX11_thing 81 = .ok (.ireturn, 1) := by decide +kernel
theorem dX11_thing_82 : decode cX11_thing 82 = .ok (.aload_n 0, 1) := by decide +kernel
theorem dX11_thing_83 : decode cX11_thing 83 = .ok (.getfield 55, 3) := by decide +kernel
theorem dX11_thing_86 : decode cX11_thing 86 = .ok (.getfield 89, 3) := by decide +kernel
theorem dX11_thing_89 : decode cX11_thing 89 = .ok (.getfield 126, 3) := by decide +kernel
theorem dX11_thing_92 : decode cX11_thing 92 = .ok (.iload_n 1, 1) := by decide +kernel
theorem dX11_thing_93 : decode cX11_thing 93 = .ok (.iaload, 1) := by decide +kernel
theorem dX11_thing_94 : decode cX11_thing 94 = .ok (.ireturn, 1) := by decide +kernel
theorem dX11_thing_95 : decode cX11_thing 95 = .ok (.aload_n 0, 1) := by decide +kernel
theorem dX11_thing_96 : decode cX11_thing 96 = .ok (.getfield 55, 3) := by decide +kernel
theorem dX11_thing_99 : decode cX11_thing 99 = .ok (.getfield 89, 3) := by decide +kernel
theorem dX11_thing_102 : decode cX11_thing 102 = .ok (.getfield 129, 3) := by decide +kernel
theorem dX11_thing_105 : decode cX11_thing 105 = .ok (.iload_n 1, 1) := by decide +kernel
theorem dX11_thing_106 : decode cX11_thing 106 = .ok (.iaload, 1) := by decide +kernel
theorem dX11_thing_107 : decode cX11_thing 107 = .ok (.ireturn, 1) := by decide +kernel
theorem dX11_thing_108 : decode cX11_thing 108 = .ok (.aload_n 0, 1) := by decide +kernel
theorem dX11_thing_109 : decode cX11_thing 109 = .ok (.getfield 55, 3) := by decide +kernel
theorem dX11_thing_112 : decode cX11_thing 112 = .ok (.iload_n 1, 1) := by decide +kernel
theorem dX11_thing_113 : decode cX11_thing 113 = .ok (.invokevirtual 132, 3) := by decide +kernel
theorem dX11_thing_116 : decode cX11_thing 116 = .ok (.ireturn, 1) := by decide +kernel
theorem dX11_thing_117 : decode cX11_thing 117 = .ok (.aload_n 0, 1) := by decide +kernel
theorem dX11_thing_118 : decode cX11_thing 118 = .ok (.getfield 55, 3) := by decide +kernel
theorem dX11_thing_121 : decode cX11_thing 121 = .ok (.getfield 135, 3) := by decide +kernel
theorem dX11_thing_124 : decode cX11_thing 124 = .ok (.bipush 28, 2) := by decide +kernel
theorem dX11_thing_126 : decode cX11_thing 126 = .ok (.iload_n 1, 1) := by decide +kernel
theorem dX11_thing_127 : decode cX11_thing 127 = .ok (.iadd, 1) := by decide +kernel
theorem dX11_thing_128 : decode cX11_thing 128 = .ok (.iaload, 1) := by decide +kernel
theorem dX11_thing_129 : decode cX11_thing 129 = .ok (.ireturn, 1) := by decide +kernel
theorem dX11_thing_130 : decode cX11_thing 130 = .ok (.bipush (-2), 2) := by decide +kernel
theorem dX11_thing_132 : decode cX11_thing 132 = .ok (.ireturn, 1) := by decide +kernel
theorem dX11_mender_0 : decode cX11_mender 0 = .ok (.aload_n 0, 1) := by decide +kernel
theorem dX11_mender_1 : decode cX11_mender 1 = .ok (.getfield 55, 3) := by decide +kernel
theorem dX11_mender_4 : decode cX11_mender 4 = .ok (.getfield 89, 3) := by decide +kernel
theorem dX11_mender_7 : decode cX11_mender 7 = .ok (.iload_n 1, 1) := by decide +kernel
theorem dX11_mender_8 : decode cX11_mender 8 = .ok (.invokevirtual 138, 3) := by decide +kernel
theorem dX11_mender_11 : decode cX11_mender 11 = .ok (.ifCond .ne 6, 3) := by decide +kernel
theorem dX11_mender_14 : decode cX11_mender 14 = .ok (.bipush (-2), 2) := by decide +kernel
theorem dX11_mender_16 : decode cX11_mender 16 = .ok (.ireturn, 1) := by decide +kernel
theorem dX11_mender_17 : decode cX11_mender 17 = .ok (.iload_n 2, 1) := by decide +kernel
theorem dX11_mender_18 : decode cX11_mender 18 = .ok (.tableswitch 122 0 7 #[46, 58, 71, 84, 97, 97, 97, 97], 46) := by decide +kernel
theorem dX11_mender_64 : decode cX11_mender 64 = .ok (.aload_n 0, 1) := by decide +kernel
theorem dX11_mender_65 : decode cX11_mender 65 = .ok (.getfield 55, 3) := by decide +kernel
theorem dX11_mender_68 : decode cX11_mender 68 = .ok (.getfield 135, 3) := by decide +kernel
theorem dX11_mender_71 : decode cX11_mender 71 = .ok (.iconst 5, 1) := by decide +kernel
theorem dX11_mender_72 : decode cX11_mender 72 = .ok (.iload_n 1, 1) := by decide +kernel
theorem dX11_mender_73 : decode cX11_mender 73 = .ok (.iadd, 1) := by decide +kernel
theorem dX11_mender_74 : decode cX11_mender 74 = .ok (.iaload, 1) := by decide +kernel
theorem dX11_mender_75 : decode cX11_mender 75 = .ok (.ireturn, 1) := by decide +kernel
theorem dX11_mender_76 : decode cX11_mender 76 = .ok (.aload_n 0, 1) := by decide +kernel
theorem dX11_mender_77 : decode cX11_mender 77 = .ok (.getfield 55, 3) := by decide +kernel
theorem dX11_mender_80 : decode cX11_mender 80 = .ok (.getfield 135, 3) := by decide +kernel
theorem dX11_mender_83 : decode cX11_mender 83 = .ok (.bipush 9, 2) := by decide +kernel
theorem dX11_mender_85 : decode cX11_mender 85 = .ok (.iload_n 1, 1) := by decide +kernel
theorem dX11_mender_86 : decode cX11_mender 86 = .ok (.iadd, 1) := by decide +kernel
theorem dX11_mender_87 : decode cX11_mender 87 = .ok (.iaload, 1) := by decide +kernel
theorem dX11_mender_88 : decode cX11_mender 88 = .ok (.ireturn, 1) := by decide +kernel
theorem dX11_mender_89 : decode cX11_mender 89 = .ok (.aload_n 0, 1) := by decide +kernel
theorem dX11_mender_90 : decode cX11_mender 90 = .ok (.getfield 55, 3) := by decide +kernel
theorem dX11_mender_93 : decode cX11_mender 93 = .ok (.getfield 135, 3) := by decide +kernel
theorem dX11_mender_96 : decode cX11_mender 96 = .ok (.bipush 13, 2) := by decide +kernel
theorem dX11_mender_98 : decode cX11_mender 98 = .ok (.iload_n 1, 1) := by decide +kernel
theorem dX11_mender_99 : decode cX11_mender 99 = .ok (.iadd, 1) := by decide +kernel
theorem dX11_mender_100 : decode cX11_mender 100 = .ok (.iaload, 1) := by decide +kernel
theorem dX11_mender_101 : decode cX11_mender 101 = .ok (.ireturn, 1) := by decide +kernel
theorem dX11_mender_102 : decode cX11_mender 102 = .ok (.aload_n 0, 1) := by decide +kernel
theorem dX11_mender_103 : decode cX11_mender 103 = .ok (.getfield 55, 3) := by decide +kernel
theorem dX11_mender_106 : decode cX11_mender 106 = .ok (.getfield 135, 3) := by decide +kernel
theorem dX11_mender_109 : decode cX11_mender 109 = .ok (.bipush 17, 2) := by decide +kernel
theorem dX11_mender_111 : decode cX11_mender 111 = .ok (.iload_n 1, 1) := by decide +kernel
theorem dX11_mender_112 : decode cX11_mender 112 = .ok (.iadd, 1) := by decide +kernel
theorem dX11_mender_113 : decode cX11_mender 113 = .ok (.iaload, 1) := by decide +kernel
theorem dX11_mender_114 : decode cX11_mender 114 = .ok (.ireturn, 1) := by decide +kernel
theorem dX11_mender_115 : decode cX11_mender 115 = .ok (.aload_n 0, 1) := by decide +kernel
theorem dX11_mender_116 : decode cX11_mender 116 = .ok (.getfield 55, 3) := by decide +kernel
theorem dX11_mender_119 : decode cX11_mender 119 = .ok (.getfield 89, 3) := by decide +kernel
theorem dX11_mender_122 : decode cX11_mender 122 = .ok (.iload_n 1, 1) := by decide +kernel
theorem dX11_mender_123 : decode cX11_mender 123 = .ok (.iload_n 2, 1) := by decide +kernel
theorem dX11_mender_124 : decode cX11_mender 124 = .ok (.iconst 4, 1) := by decide +kernel
theorem dX11_mender_125 : decode cX11_mender 125 = .ok (.isub, 1) := by decide +kernel
theorem dX11_mender_126 : decode cX11_mender 126 = .ok (.invokevirtual 141, 3) := by decide +kernel
theorem dX11_mender_129 : decode cX11_mender 129 = .ok (.istore_n 3, 1) := by decide +kernel
theorem dX11_mender_130 : decode cX11_mender 130 = .ok (.iload_n 3, 1) := by decide +kernel
theorem dX11_mender_131 : decode cX11_mender 131 = .ok (.ifCond .le 7, 3) := by decide +kernel
theorem dX11_mender_134 : decode cX11_mender 134 = .ok (.iload_n 3, 1) := by decide +kernel
theorem dX11_mender_135 : decode cX11_mender 135 = .ok (.goto 4, 3) := by decide +kernel
theorem dX11_mender_138 : decode cX11_mender 138 = .ok (.iconst (-1), 1) := by decide +kernel
theorem dX11_mender_139 : decode cX11_mender 139 = .ok (.ireturn, 1) := by decide +kernel
theorem dX11_mender_140 : decode cX11_mender 140 = .ok (.bipush (-2), 2) := by decide +kernel
theorem dX11_mender_142 : decode cX11_mender 142 = .ok (.ireturn, 1) := by decide +kernel
theorem dX11_sort_0 : decode cX11_sort 0 = .ok (.aload_n 0, 1) := by decide +kernel
theorem dX11_sort_1 : decode cX11_sort 1 = .ok (.getfield 55, 3) := by decide +kernel
theorem dX11_sort_4 : decode cX11_sort 4 = .ok (.getfield 89, 3) := by decide +kernel
theorem dX11_sort_7 : decode cX11_sort 7 = .ok (.iload_n 1, 1) := by decide +kernel
theorem dX11_sort_8 : decode cX11_sort 8 = .ok (.invokevirtual 145, 3) := by decide +kernel
theorem dX11_sort_11 : decode cX11_sort 11 = .ok (.ifCond .eq 12, 3) := by decide +kernel
theorem dX11_sort_14 : decode cX11_sort 14 = .ok (.iload_n 2, 1) := by decide +kernel
theorem dX11_sort_15 : decode cX11_sort 15 = .ok (.ifCond .lt 8, 3) := by decide +kernel
theorem dX11_sort_18 : decode cX11_sort 18 = .ok (.iload_n 2, 1) := by decide +kernel
theorem dX11_sort_19 : decode cX11_sort 19 = .ok (.iconst 1, 1) := by decide +kernel
theorem dX11_sort_20 : decode cX11_sort 20 = .ok (.if_icmp .le 5, 3) := by decide +kernel
theorem dX11_sort_23 : decode cX11_sort 23 = .ok (.iconst (-1), 1) := by decide +kernel
theorem dX11_sort_24 : decode cX11_sort 24 = .ok (.ireturn, 1) := by decide +kernel
theorem dX11_sort_25 : decode cX11_sort 25 = .ok (.iload_n 2, 1) := by decide +kernel
theorem dX11_sort_26 : decode cX11_sort 26 = .ok (.ifCond .ne 18, 3) := by decide +kernel
theorem dX11_sort_29 : decode cX11_sort 29 = .ok (.aload_n 0, 1) := by decide +kernel
theorem dX11_sort_30 : decode cX11_sort 30 = .ok (.getfield 55, 3) := by decide +kernel
theorem dX11_sort_33 : decode cX11_sort 33 = .ok (.getfield 89, 3) := by decide +kernel
theorem dX11_sort_36 : decode cX11_sort 36 = .ok (.getfield 148, 3) := by decide +kernel
theorem dX11_sort_39 : decode cX11_sort 39 = .ok (.iload_n 1, 1) := by decide +kernel
theorem dX11_sort_40 : decode cX11_sort 40 = .ok (.iaload, 1) := by decide +kernel
theorem dX11_sort_41 : decode cX11_sort 41 = .ok (.goto 14, 3) := by decide +kernel
theorem dX11_sort_44 : decode cX11_sort 44 = .ok (.aload_n 0, 1) := by decide +kernel
theorem dX11_sort_45 : decode cX11_sort 45 = .ok (.getfield 55, 3) := by decide +kernel
theorem dX11_sort_48 : decode cX11_sort 48 = .ok (.getfield 135, 3) := by decide +kernel
theorem dX11_sort_51 : decode cX11_sort 51 = .ok (.iconst 1, 1) := by decide +kernel
theorem dX11_sort_52 : decode cX11_sort 52 = .ok (.iload_n 1, 1) := by decide +kernel
theorem dX11_sort_53 : decode cX11_sort 53 = .ok (.iadd, 1) := by decide +kernel
theorem dX11_sort_54 : decode cX11_sort 54 = .ok (.iaload, 1) := by decide +kernel
theorem dX11_sort_55 : decode cX11_sort 55 = .ok (.ireturn, 1) := by decide +kernel
theorem dX11_minute_0 : decode cX11_minute 0 = .ok (.aload_n 0, 1) := by decide +kernel
theorem dX11_minute_1 : decode cX11_minute 1 = .ok (.getfield 47, 3) := by decide +kernel
theorem dX11_minute_4 : decode cX11_minute 4 = .ok (.getfield 151, 3) := by decide +kernel
theorem dX11_minute_7 : decode cX11_minute 7 = .ok (.ifCond .eq 16, 3) := by decide +kernel
theorem dX11_minute_10 : decode cX11_minute 10 = .ok (.aload_n 0, 1) := by decide +kernel
theorem dX11_minute_11 : decode cX11_minute 11 = .ok (.getfield 55, 3) := by decide +kernel
theorem dX11_minute_14 : decode cX11_minute 14 = .ok (.invokevirtual 155, 3) := by decide +kernel
theorem dX11_minute_17 : decode cX11_minute 17 = .ok (.sipush 999, 3) := by decide +kernel
theorem dX11_minute_20 : decode cX11_minute 20 = .ok (.if_icmp .lt 5, 3) := by decide +kernel
theorem dX11_minute_23 : decode cX11_minute 23 = .ok (.iconst (-1), 1) := by decide +kernel
theorem dX11_minute_24 : decode cX11_minute 24 = .ok (.ireturn, 1) := by decide +kernel
theorem dX11_minute_25 : decode cX11_minute 25 = .ok (.aload_n 0, 1) := by decide +kernel
theorem dX11_minute_26 : decode cX11_minute 26 = .ok (.getfield 47, 3) := by decide +kernel
theorem dX11_minute_29 : decode cX11_minute 29 = .ok (.invokevirtual 159, 3) := by decide +kernel
theorem dX11_minute_32 : decode cX11_minute 32 = .ok (.aload_n 0, 1) := by decide +kernel
theorem dX11_minute_33 : decode cX11_minute 33 = .ok (.getfield 55, 3) := by decide +kernel
theorem dX11_minute_36 : decode cX11_minute 36 = .ok (.invokevirtual 162, 3) := by decide +kernel
theorem dX11_minute_39 : decode cX11_minute 39 = .ok (.ireturn, 1) := by decide +kernel
theorem dX11_give_0 : decode cX11_give 0 = .ok (.aload_n 0, 1) := by decide +kernel
theorem dX11_give_1 : decode cX11_give 1 = .ok (.getfield 55, 3) := by decide +kernel
theorem dX11_give_4 : decode cX11_give 4 = .ok (.getfield 89, 3) := by decide +kernel
theorem dX11_give_7 : decode cX11_give 7 = .ok (.iload_n 1, 1) := by decide +kernel
theorem dX11_give_8 : decode cX11_give 8 = .ok (.invokevirtual 138, 3) := by decide +kernel
theorem dX11_give_11 : decode cX11_give 11 = .ok (.ifCond .eq 40, 3) := by decide +kernel
theorem dX11_give_14 : decode cX11_give 14 = .ok (.aload_n 0, 1) := by decide +kernel
theorem dX11_give_15 : decode cX11_give 15 = .ok (.getfield 55, 3) := by decide +kernel
theorem dX11_give_18 : decode cX11_give 18 = .ok (.getfield 89, 3) := by decide +kernel
theorem dX11_give_21 : decode cX11_give 21 = .ok (.iload_n 2, 1) := by decide +kernel
theorem dX11_give_22 : decode cX11_give 22 = .ok (.invokevirtual 116, 3) := by decide +kernel
theorem dX11_give_25 : decode cX11_give 25 = .ok (.ifCond .eq 26, 3) := by decide +kernel
theorem dX11_give_28 : decode cX11_give 28 = .ok (.aload_n 0, 1) := by decide +kernel
theorem dX11_give_29 : decode cX11_give 29 = .ok (.getfield 55, 3) := by decide +kernel
theorem dX11_give_32 : decode cX11_give 32 = .ok (.iload_n 1, 1) := by decide +kernel
theorem dX11_give_33 : decode cX11_give 33 = .ok (.invokevirtual 165, 3) := by decide +kernel
theorem dX11_give_36 : decode cX11_give 36 = .ok (.ifCond .eq 15, 3) := by decide +kernel
theorem dX11_give_39 : decode cX11_give 39 = .ok (.aload_n 0, 1) := by decide +kernel
theorem dX11_give_40 : decode cX11_give 40 = .ok (.getfield 55, 3) := by decide +kernel
theorem dX11_give_43 : decode cX11_give 43 = .ok (.iload_n 1, 1) := by decide +kernel
theorem dX11_give_44 : decode cX11_give 44 = .ok (.iload_n 2, 1) := by decide +kernel
theorem dX11_give_45 : decode cX11_give 45 = .ok (.invokevirtual 168, 3) := by decide +kernel
theorem dX11_give_48 : decode cX11_give 48 = .ok (.ifCond .ne 5, 3) := by decide +kernel
theorem dX11_give_51 : decode cX11_give 51 = .ok (.iconst (-1), 1) := by decide +kernel
theorem dX11_give_52 : decode cX11_give 52 = .ok (.ireturn, 1) := by decide +kernel
theorem dX11_give_53 : decode cX11_give 53 = .ok (.aload_n 0, 1) := by decide +kernel
theorem dX11_give_54 : decode cX11_give 54 = .ok (.getfield 47, 3) := by decide +kernel
theorem dX11_give_57 : decode cX11_give 57 = .ok (.invokevirtual 159, 3) := by decide +kernel
theorem dX11_give_60 : decode cX11_give 60 = .ok (.aload_n 0, 1) := by decide +kernel
theorem dX11_give_61 : decode cX11_give 61 = .ok (.getfield 55, 3) := by decide +kernel
theorem dX11_give_64 : decode cX11_give 64 = .ok (.iload_n 1, 1) := by decide +kernel
theorem dX11_give_65 : decode cX11_give 65 = .ok (.iload_n 2, 1) := by decide +kernel
theorem dX11_give_66 : decode cX11_give 66 = .ok (.invokevirtual 172, 3) := by decide +kernel
theorem dX11_give_69 : decode cX11_give 69 = .ok (.aload_n 0, 1) := by decide +kernel
theorem dX11_give_70 : decode cX11_give 70 = .ok (.getfield 55, 3) := by decide +kernel
theorem dX11_give_73 : decode cX11_give 73 = .ok (.getfield 135, 3) := by decide +kernel
theorem dX11_give_76 : decode cX11_give 76 = .ok (.bipush 9, 2) := by decide +kernel
theorem dX11_give_78 : decode cX11_give 78 = .ok (.iload_n 1, 1) := by decide +kernel
theorem dX11_give_79 : decode cX11_give 79 = .ok (.iadd, 1) := by decide +kernel
theorem dX11_give_80 : decode cX11_give 80 = .ok (.iaload, 1) := by decide +kernel
theorem dX11_give_81 : decode cX11_give 81 = .ok (.ireturn, 1) := by decide +kernel
theorem dX11_putDown_0 : decode cX11_putDown 0 = .ok (.aload_n 0, 1) := by decide +kernel
theorem dX11_putDown_1 : decode cX11_putDown 1 = .ok (.getfield 55, 3) := by decide +kernel
theorem dX11_putDown_4 : decode cX11_putDown 4 = .ok (.getfield 89, 3) := by decide +kernel
theorem dX11_putDown_7 : decode cX11_putDown 7 = .ok (.iload_n 1, 1) := by decide +kernel
theorem dX11_putDown_8 : decode cX11_putDown 8 = .ok (.invokevirtual 138, 3) := by decide +kernel
theorem dX11_putDown_11 : decode cX11_putDown 11 = .ok (.ifCond .eq 14, 3) := by decide +kernel
theorem dX11_putDown_14 : decode cX11_putDown 14 = .ok (.aload_n 0, 1) := by decide +kernel
theorem dX11_putDown_15 : decode cX11_putDown 15 = .ok (.getfield 55, 3) := by decide +kernel
theorem dX11_putDown_18 : decode cX11_putDown 18 = .ok (.iload_n 1, 1) := by decide +kernel
theorem dX11_putDown_19 : decode cX11_putDown 19 = .ok (.invokevirtual 165, 3) := by decide +kernel
theorem dX11_putDown_22 : decode cX11_putDown 22 = .ok (.ifCond .eq 5, 3) := by decide +kernel
theorem dX11_putDown_25 : decode cX11_putDown 25 = .ok (.iconst (-1), 1) := by decide +kernel
theorem dX11_putDown_26 : decode cX11_putDown 26 = .ok (.ireturn, 1) := by decide +kernel
theorem dX11_putDown_27 : decode cX11_putDown 27 = .ok (.aload_n 0, 1) := by decide +kernel
theorem dX11_putDown_28 : decode cX11_putDown 28 = .ok (.getfield 47, 3) := by decide +kernel
theorem dX11_putDown_31 : decode cX11_putDown 31 = .ok (.invokevirtual 159, 3) := by decide +kernel
theorem dX11_putDown_34 : decode cX11_putDown 34 = .ok (.aload_n 0, 1) := by decide +kernel
theorem dX11_putDown_35 : decode cX11_putDown 35 = .ok (.getfield 55, 3) := by decide +kernel
theorem dX11_putDown_38 : decode cX11_putDown 38 = .ok (.iload_n 1, 1) := by decide +kernel
theorem dX11_putDown_39 : decode cX11_putDown 39 = .ok (.invokevirtual 176, 3) := by decide +kernel
theorem dX11_putDown_42 : decode cX11_putDown 42 = .ok (.ireturn, 1) := by decide +kernel
theorem dX11_bring_0 : decode cX11_bring 0 = .ok (.aload_n 0, 1) := by decide +kernel
theorem dX11_bring_1 : decode cX11_bring 1 = .ok (.getfield 55, 3) := by decide +kernel
theorem dX11_bring_4 : decode cX11_bring 4 = .ok (.getfield 89, 3) := by decide +kernel
theorem dX11_bring_7 : decode cX11_bring 7 = .ok (.iload_n 1, 1) := by decide +kernel
theorem dX11_bring_8 : decode cX11_bring 8 = .ok (.invokevirtual 145, 3) := by decide +kernel
theorem dX11_bring_11 : decode cX11_bring 11 = .ok (.ifCond .eq 19, 3) := by decide +kernel
theorem dX11_bring_14 : decode cX11_bring 14 = .ok (.aload_n 0, 1) := by decide +kernel
theorem dX11_bring_15 : decode cX11_bring 15 = .ok (.getfield 55, 3) := by decide +kernel
theorem dX11_bring_18 : decode cX11_bring 18 = .ok (.getfield 135, 3) := by decide +kernel
theorem dX11_bring_21 : decode cX11_bring 21 = .ok (.iconst 1, 1) := by decide +kernel
theorem dX11_bring_22 : decode cX11_bring 22 = .ok (.iload_n 1, 1) := by decide +kernel
theorem dX11_bring_23 : decode cX11_bring 23 = .ok (.iadd, 1) := by decide +kernel
theorem dX11_bring_24 : decode cX11_bring 24 = .ok (.iaload, 1) := by decide +kernel
theorem dX11_bring_25 : decode cX11_bring 25 = .ok (.bipush 99, 2) := by decide +kernel
theorem dX11_bring_27 : decode cX11_bring 27 = .ok (.if_icmp .lt 5, 3) := by decide +kernel
theorem dX11_bring_30 : decode cX11_bring 30 = .ok (.iconst (-1), 1) := by decide +kernel
theorem dX11_bring_31 : decode cX11_bring 31 = .ok (.ireturn, 1) := by decide +kernel
theorem dX11_bring_32 : decode cX11_bring 32 = .ok (.aload_n 0, 1) := by decide +kernel
theorem dX11_bring_33 : decode cX11_bring 33 = .ok (.getfield 47, 3) := by decide +kernel
theorem dX11_bring_36 : decode cX11_bring 36 = .ok (.invokevirtual 159, 3) := by decide +kernel
theorem dX11_bring_39 : decode cX11_bring 39 = .ok (.aload_n 0, 1) := by decide +kernel
theorem dX11_bring_40 : decode cX11_bring 40 = .ok (.getfield 55, 3) := by decide +kernel
theorem dX11_bring_43 : decode cX11_bring 43 = .ok (.getfield 135, 3) := by decide +kernel
theorem dX11_bring_46 : decode cX11_bring 46 = .ok (.iconst 1, 1) := by decide +kernel
theorem dX11_bring_47 : decode cX11_bring 47 = .ok (.iload_n 1, 1) := by decide +kernel
theorem dX11_bring_48 : decode cX11_bring 48 = .ok (.iadd, 1) := by decide +kernel
theorem dX11_bring_49 : decode cX11_bring 49 = .ok (.dup2, 1) := by decide +kernel
theorem dX11_bring_50 : decode cX11_bring 50 = .ok (.iaload, 1) := by decide +kernel
theorem dX11_bring_51 : decode cX11_bring 51 = .ok (.iconst 1, 1) := by decide +kernel
theorem dX11_bring_52 : decode cX11_bring 52 = .ok (.iadd, 1) := by decide +kernel
theorem dX11_bring_53 : decode cX11_bring 53 = .ok (.iastore, 1) := by decide +kernel
theorem dX11_bring_54 : decode cX11_bring 54 = .ok (.aload_n 0, 1) := by decide +kernel
theorem dX11_bring_55 : decode cX11_bring 55 = .ok (.getfield 55, 3) := by decide +kernel
theorem dX11_bring_58 : decode cX11_bring 58 = .ok (.getfield 135, 3) := by decide +kernel
theorem dX11_bring_61 : decode cX11_bring 61 = .ok (.iconst 1, 1) := by decide +kernel
theorem dX11_bring_62 : decode cX11_bring 62 = .ok (.iload_n 1, 1) := by decide +kernel
theorem dX11_bring_63 : decode cX11_bring 63 = .ok (.iadd, 1) := by decide +kernel
theorem dX11_bring_64 : decode cX11_bring 64 = .ok (.iaload, 1) := by decide +kernel
theorem dX11_bring_65 : decode cX11_bring 65 = .ok (.ireturn, 1) := by decide +kernel
theorem dX11_coffee_0 : decode cX11_coffee 0 = .ok (.aload_n 0, 1) := by decide +kernel
theorem dX11_coffee_1 : decode cX11_coffee 1 = .ok (.getfield 55, 3) := by decide +kernel
theorem dX11_coffee_4 : decode cX11_coffee 4 = .ok (.getfield 89, 3) := by decide +kernel
theorem dX11_coffee_7 : decode cX11_coffee 7 = .ok (.iload_n 1, 1) := by decide +kernel
theorem dX11_coffee_8 : decode cX11_coffee 8 = .ok (.invokevirtual 138, 3) := by decide +kernel
theorem dX11_coffee_11 : decode cX11_coffee 11 = .ok (.ifCond .eq 40, 3) := by decide +kernel
theorem dX11_coffee_14 : decode cX11_coffee 14 = .ok (.iload_n 2, 1) := by decide +kernel
theorem dX11_coffee_15 : decode cX11_coffee 15 = .ok (.iconst 1, 1) := by decide +kernel
theorem dX11_coffee_16 : decode cX11_coffee 16 = .ok (.if_icmp .lt 35, 3) := by decide +kernel
theorem dX11_coffee_19 : decode cX11_coffee 19 = .ok (.iload_n 2, 1) := by decide +kernel
theorem dX11_coffee_20 : decode cX11_coffee 20 = .ok (.bipush 60, 2) := by decide +kernel
theorem dX11_coffee_22 : decode cX11_coffee 22 = .ok (.if_icmp .gt 29, 3) := by decide +kernel
theorem dX11_coffee_25 : decode cX11_coffee 25 = .ok (.aload_n 0, 1) := by decide +kernel
theorem dX11_coffee_26 : decode cX11_coffee 26 = .ok (.getfield 55, 3) := by decide +kernel
theorem dX11_coffee_29 : decode cX11_coffee 29 = .ok (.iload_n 1, 1) := by decide +kernel
theorem dX11_coffee_30 : decode cX11_coffee 30 = .ok (.invokevirtual 165, 3) := by decide +kernel
theorem dX11_coffee_33 : decode cX11_coffee 33 = .ok (.ifCond .eq 18, 3) := by decide +kernel
theorem dX11_coffee_36 : decode cX11_coffee 36 = .ok (.aload_n 0, 1) := by decide +kernel
theorem dX11_coffee_37 : decode cX11_coffee 37 = .ok (.getfield 55, 3) := by decide +kernel
theorem dX11_coffee_40 : decode cX11_coffee 40 = .ok (.getfield 135, 3) := by decide +kernel
theorem dX11_coffee_43 : decode cX11_coffee 43 = .ok (.bipush 13, 2) := by decide +kernel
theorem dX11_coffee_45 : decode cX11_coffee 45 = .ok (.iload_n 1, 1) := by decide +kernel
theorem dX11_coffee_46 : decode cX11_coffee 46 = .ok (.iadd, 1) := by decide +kernel
theorem dX11_coffee_47 : decode cX11_coffee 47 = .ok (.iaload, 1) := by decide +kernel
theorem dX11_coffee_48 : decode cX11_coffee 48 = .ok (.ifCond .le 5, 3) := by decide +kernel
theorem dX11_coffee_51 : decode cX11_coffee 51 = .ok (.iconst (-1), 1) := by decide +kernel
theorem dX11_coffee_52 : decode cX11_coffee 52 = .ok (.ireturn, 1) := by decide +kernel
theorem dX11_coffee_53 : decode cX11_coffee 53 = .ok (.aload_n 0, 1) := by decide +kernel
theorem dX11_coffee_54 : decode cX11_coffee 54 = .ok (.getfield 47, 3) := by decide +kernel
theorem dX11_coffee_57 : decode cX11_coffee 57 = .ok (.invokevirtual 159, 3) := by decide +kernel
theorem dX11_coffee_60 : decode cX11_coffee 60 = .ok (.aload_n 0, 1) := by decide +kernel
theorem dX11_coffee_61 : decode cX11_coffee 61 = .ok (.getfield 55, 3) := by decide +kernel
theorem dX11_coffee_64 : decode cX11_coffee 64 = .ok (.getfield 135, 3) := by decide +kernel
theorem dX11_coffee_67 : decode cX11_coffee 67 = .ok (.bipush 13, 2) := by decide +kernel
theorem dX11_coffee_69 : decode cX11_coffee 69 = .ok (.iload_n 1, 1) := by decide +kernel
theorem dX11_coffee_70 : decode cX11_coffee 70 = .ok (.iadd, 1) := by decide +kernel
theorem dX11_coffee_71 : decode cX11_coffee 71 = .ok (.iload_n 2, 1) := by decide +kernel
theorem dX11_coffee_72 : decode cX11_coffee 72 = .ok (.iastore, 1) := by decide +kernel
theorem dX11_coffee_73 : decode cX11_coffee 73 = .ok (.aload_n 0, 1) := by decide +kernel
theorem dX11_coffee_74 : decode cX11_coffee 74 = .ok (.getfield 55, 3) := by decide +kernel
theorem dX11_coffee_77 : decode cX11_coffee 77 = .ok (.invokevirtual 179, 3) := by decide +kernel
theorem dX11_coffee_80 : decode cX11_coffee 80 = .ok (.ireturn, 1) := by decide +kernel
theorem dX11_undo_0 : decode cX11_undo 0 = .ok (.aload_n 0, 1) := by decide +kernel
theorem dX11_undo_1 : decode cX11_undo 1 = .ok (.getfield 47, 3) := by decide +kernel
theorem dX11_undo_4 : decode cX11_undo 4 = .ok (.getfield 182, 3) := by decide +kernel
theorem dX11_undo_7 : decode cX11_undo 7 = .ok (.ifCond .gt 6, 3) := by decide +kernel
theorem dX11_undo_10 : decode cX11_undo 10 = .ok (.bipush (-2), 2) := by decide +kernel
theorem dX11_undo_12 : decode cX11_undo 12 = .ok (.ireturn, 1) := by decide +kernel
theorem dX11_undo_13 : decode cX11_undo 13 = .ok (.aload_n 0, 1) := by decide +kernel
theorem dX11_undo_14 : decode cX11_undo 14 = .ok (.getfield 47, 3) := by decide +kernel
theorem dX11_undo_17 : decode cX11_undo 17 = .ok (.invokevirtual 185, 3) := by decide +kernel
theorem dX11_undo_20 : decode cX11_undo 20 = .ok (.aload_n 0, 1) := by decide +kernel
theorem dX11_undo_21 : decode cX11_undo 21 = .ok (.getfield 47, 3) := by decide +kernel
theorem dX11_undo_24 : decode cX11_undo 24 = .ok (.getfield 182, 3) := by decide +kernel
theorem dX11_undo_27 : decode cX11_undo 27 = .ok (.ireturn, 1) := by decide +kernel
theorem dX11_ahead_0 : decode cX11_ahead 0 = .ok (.aload_n 0, 1) := by decide +kernel
theorem dX11_ahead_1 : decode cX11_ahead 1 = .ok (.getfield 47, 3) := by decide +kernel
theorem dX11_ahead_4 : decode cX11_ahead 4 = .ok (.getfield 151, 3) := by decide +kernel
theorem dX11_ahead_7 : decode cX11_ahead 7 = .ok (.ifCond .eq 14, 3) := by decide +kernel
theorem dX11_ahead_10 : decode cX11_ahead 10 = .ok (.iload_n 2, 1) := by decide +kernel
theorem dX11_ahead_11 : decode cX11_ahead 11 = .ok (.ifCond .lt 10, 3) := by decide +kernel
theorem dX11_ahead_14 : decode cX11_ahead 14 = .ok (.iload_n 2, 1) := by decide +kernel
theorem dX11_ahead_15 : decode cX11_ahead 15 = .ok (.sipush 400, 3) := by decide +kernel
theorem dX11_ahead_18 : decode cX11_ahead 18 = .ok (.if_icmp .le 6, 3) := by decide +kernel
theorem dX11_ahead_21 : decode cX11_ahead 21 = .ok (.bipush (-2), 2) := by decide +kernel
theorem dX11_ahead_23 : decode cX11_ahead 23 = .ok (.ireturn, 1) := by decide +kernel
theorem dX11_ahead_24 : decode cX11_ahead 24 = .ok (.iload_n 3, 1) := by decide +kernel
theorem dX11_ahead_25 : decode cX11_ahead 25 = .ok (.tableswitch 106 0 2 #[27, 59, 94], 27) := by decide +kernel
theorem dX11_ahead_52 : decode cX11_ahead 52 = .ok (.aload_n 0, 1) := by decide +kernel
theorem dX11_ahead_53 : decode cX11_ahead 53 = .ok (.getfield 55, 3) := by decide +kernel
theorem dX11_ahead_56 : decode cX11_ahead 56 = .ok (.getfield 89, 3) := by decide +kernel
theorem dX11_ahead_59 : decode cX11_ahead 59 = .ok (.iload_n 1, 1) := by decide +kernel
theorem dX11_ahead_60 : decode cX11_ahead 60 = .ok (.invokevirtual 116, 3) := by decide +kernel
theorem dX11_ahead_63 : decode cX11_ahead 63 = .ok (.ifCond .eq 18, 3) := by decide +kernel
theorem dX11_ahead_66 : decode cX11_ahead 66 = .ok (.aload_n 0, 1) := by decide +kernel
theorem dX11_ahead_67 : decode cX11_ahead 67 = .ok (.getfield 61, 3) := by decide +kernel
theorem dX11_ahead_70 : decode cX11_ahead 70 = .ok (.iload_n 2, 1) := by decide +kernel
theorem dX11_ahead_71 : decode cX11_ahead 71 = .ok (.invokevirtual 188, 3) := by decide +kernel
theorem dX11_ahead_74 : decode cX11_ahead 74 = .ok (.iload_n 1, 1) := by decide +kernel
theorem dX11_ahead_75 : decode cX11_ahead 75 = .ok (.invokevirtual 132, 3) := by decide +kernel
theorem dX11_ahead_78 : decode cX11_ahead 78 = .ok (.goto 5, 3) := by decide +kernel
theorem dX11_ahead_81 : decode cX11_ahead 81 = .ok (.bipush (-2), 2) := by decide +kernel
theorem dX11_ahead_83 : decode cX11_ahead 83 = .ok (.ireturn, 1) := by decide +kernel
theorem dX11_ahead_84 : decode cX11_ahead 84 = .ok (.aload_n 0, 1) := by decide +kernel
theorem dX11_ahead_85 : decode cX11_ahead 85 = .ok (.getfield 55, 3) := by decide +kernel
theorem dX11_ahead_88 : decode cX11_ahead 88 = .ok (.getfield 89, 3) := by decide +kernel
theorem dX11_ahead_91 : decode cX11_ahead 91 = .ok (.iload_n 1, 1) := by decide +kernel
theorem dX11_ahead_92 : decode cX11_ahead 92 = .ok (.invokevirtual 138, 3) := by decide +kernel
theorem dX11_ahead_95 : decode cX11_ahead 95 = .ok (.ifCond .eq 21, 3) := by decide +kernel
theorem dX11_ahead_98 : decode cX11_ahead 98 = .ok (.aload_n 0, 1) := by decide +kernel
theorem dX11_ahead_99 : decode cX11_ahead 99 = .ok (.getfield 61, 3) := by decide +kernel
theorem dX11_ahead_102 : decode cX11_ahead 102 = .ok (.iload_n 2, 1) := by decide +kernel
theorem dX11_ahead_103 : decode cX11_ahead 103 = .ok (.invokevirtual 188, 3) := by decide +kernel
theorem dX11_ahead_106 : decode cX11_ahead 106 = .ok (.getfield 135, 3) := by decide +kernel
theorem dX11_ahead_109 : decode cX11_ahead 109 = .ok (.iconst 5, 1) := by decide +kernel
theorem dX11_ahead_110 : decode cX11_ahead 110 = .ok (.iload_n 1, 1) := by decide +kernel
theorem dX11_ahead_111 : decode cX11_ahead 111 = .ok (.iadd, 1) := by decide +kernel
theorem dX11_ahead_112 : decode cX11_ahead 112 = .ok (.iaload, 1) := by decide +kernel
theorem dX11_ahead_113 : decode cX11_ahead 113 = .ok (.goto 5, 3) := by decide +kernel
theorem dX11_ahead_116 : decode cX11_ahead 116 = .ok (.bipush (-2), 2) := by decide +kernel
theorem dX11_ahead_118 : decode cX11_ahead 118 = .ok (.ireturn, 1) := by decide +kernel
theorem dX11_ahead_119 : decode cX11_ahead 119 = .ok (.aload_n 0, 1) := by decide +kernel
theorem dX11_ahead_120 : decode cX11_ahead 120 = .ok (.getfield 61, 3) := by decide +kernel
theorem dX11_ahead_123 : decode cX11_ahead 123 = .ok (.iload_n 2, 1) := by decide +kernel
theorem dX11_ahead_124 : decode cX11_ahead 124 = .ok (.invokevirtual 188, 3) := by decide +kernel
theorem dX11_ahead_127 : decode cX11_ahead 127 = .ok (.invokevirtual 192, 3) := by decide +kernel
theorem dX11_ahead_130 : decode cX11_ahead 130 = .ok (.ireturn, 1) := by decide +kernel
theorem dX11_ahead_131 : decode cX11_ahead 131 = .ok (.bipush (-2), 2) := by decide +kernel
theorem dX11_ahead_133 : decode cX11_ahead 133 = .ok (.ireturn, 1) := by decide +kernel
theorem dX11_done_0 : decode cX11_done 0 = .ok (.aload_n 0, 1) := by decide +kernel
theorem dX11_done_1 : decode cX11_done 1 = .ok (.getfield 55, 3) := by decide +kernel
theorem dX11_done_4 : decode cX11_done 4 = .ok (.getfield 89, 3) := by decide +kernel
theorem dX11_done_7 : decode cX11_done 7 = .ok (.iload_n 1, 1) := by decide +kernel
theorem dX11_done_8 : decode cX11_done 8 = .ok (.invokevirtual 116, 3) := by decide +kernel
theorem dX11_done_11 : decode cX11_done 11 = .ok (.ifCond .eq 14, 3) := by decide +kernel
theorem dX11_done_14 : decode cX11_done 14 = .ok (.aload_n 0, 1) := by decide +kernel
theorem dX11_done_15 : decode cX11_done 15 = .ok (.getfield 61, 3) := by decide +kernel
theorem dX11_done_18 : decode cX11_done 18 = .ok (.iload_n 1, 1) := by decide +kernel
theorem dX11_done_19 : decode cX11_done 19 = .ok (.invokevirtual 195, 3) := by decide +kernel
theorem dX11_done_22 : decode cX11_done 22 = .ok (.goto 4, 3) := by decide +kernel
theorem dX11_done_25 : decode cX11_done 25 = .ok (.iconst (-1), 1) := by decide +kernel
theorem dX11_done_26 : decode cX11_done 26 = .ok (.ireturn, 1) := by decide +kernel
theorem dX11_waits_0 : decode cX11_waits 0 = .ok (.aload_n 0, 1) := by decide +kernel
theorem dX11_waits_1 : decode cX11_waits 1 = .ok (.getfield 55, 3) := by decide +kernel
theorem dX11_waits_4 : decode cX11_waits 4 = .ok (.getfield 89, 3) := by decide +kernel
theorem dX11_waits_7 : decode cX11_waits 7 = .ok (.iload_n 1, 1) := by decide +kernel
theorem dX11_waits_8 : decode cX11_waits 8 = .ok (.invokevirtual 116, 3) := by decide +kernel
theorem dX11_waits_11 : decode cX11_waits 11 = .ok (.ifCond .eq 15, 3) := by decide +kernel
theorem dX11_waits_14 : decode cX11_waits 14 = .ok (.aload_n 0, 1) := by decide +kernel
theorem dX11_waits_15 : decode cX11_waits 15 = .ok (.getfield 55, 3) := by decide +kernel
theorem dX11_waits_18 : decode cX11_waits 18 = .ok (.iload_n 1, 1) := by decide +kernel
theorem dX11_waits_19 : decode cX11_waits 19 = .ok (.invokevirtual 132, 3) := by decide +kernel
theorem dX11_waits_22 : decode cX11_waits 22 = .ok (.iconst 1, 1) := by decide +kernel
theorem dX11_waits_23 : decode cX11_waits 23 = .ok (.if_icmp .le 5, 3) := by decide +kernel
theorem dX11_waits_26 : decode cX11_waits 26 = .ok (.iconst (-1), 1) := by decide +kernel
theorem dX11_waits_27 : decode cX11_waits 27 = .ok (.ireturn, 1) := by decide +kernel
theorem dX11_waits_28 : decode cX11_waits 28 = .ok (.aload_n 0, 1) := by decide +kernel
theorem dX11_waits_29 : decode cX11_waits 29 = .ok (.getfield 61, 3) := by decide +kernel
theorem dX11_waits_32 : decode cX11_waits 32 = .ok (.iload_n 1, 1) := by decide +kernel
theorem dX11_waits_33 : decode cX11_waits 33 = .ok (.invokevirtual 198, 3) := by decide +kernel
theorem dX11_waits_36 : decode cX11_waits 36 = .ok (.ireturn, 1) := by decide +kernel
theorem dX11_take_0 : decode cX11_take 0 = .ok (.aload_n 0, 1) := by decide +kernel
theorem dX11_take_1 : decode cX11_take 1 = .ok (.getfield 55, 3) := by decide +kernel
theorem dX11_take_4 : decode cX11_take 4 = .ok (.getfield 89, 3) := by decide +kernel
theorem dX11_take_7 : decode cX11_take 7 = .ok (.iload_n 1, 1) := by decide +kernel
theorem dX11_take_8 : decode cX11_take 8 = .ok (.invokevirtual 138, 3) := by decide +kernel
theorem dX11_take_11 : decode cX11_take 11 = .ok (.ifCond .eq 23, 3) := by decide +kernel
theorem dX11_take_14 : decode cX11_take 14 = .ok (.aload_n 0, 1) := by decide +kernel
theorem dX11_take_15 : decode cX11_take 15 = .ok (.getfield 55, 3) := by decide +kernel
theorem dX11_take_18 : decode cX11_take 18 = .ok (.iload_n 1, 1) := by decide +kernel
theorem dX11_take_19 : decode cX11_take 19 = .ok (.invokevirtual 165, 3) := by decide +kernel
theorem dX11_take_22 : decode cX11_take 22 = .ok (.ifCond .eq 12, 3) := by decide +kernel
theorem dX11_take_25 : decode cX11_take 25 = .ok (.iload_n 2, 1) := by decide +kernel
theorem dX11_take_26 : decode cX11_take 26 = .ok (.ifCond .lt 8, 3) := by decide +kernel
theorem dX11_take_29 : decode cX11_take 29 = .ok (.iload_n 2, 1) := by decide +kernel
theorem dX11_take_30 : decode cX11_take 30 = .ok (.iconst 1, 1) := by decide +kernel
theorem dX11_take_31 : decode cX11_take 31 = .ok (.if_icmp .le 6, 3) := by decide +kernel
theorem dX11_take_34 : decode cX11_take 34 = .ok (.bipush (-2), 2) := by decide +kernel
theorem dX11_take_36 : decode cX11_take 36 = .ok (.ireturn, 1) := by decide +kernel
theorem dX11_take_37 : decode cX11_take 37 = .ok (.aload_n 0, 1) := by decide +kernel
theorem dX11_take_38 : decode cX11_take 38 = .ok (.getfield 61, 3) := by decide +kernel
theorem dX11_take_41 : decode cX11_take 41 = .ok (.iload_n 1, 1) := by decide +kernel
theorem dX11_take_42 : decode cX11_take 42 = .ok (.invokevirtual 201, 3) := by decide +kernel
theorem dX11_take_45 : decode cX11_take 45 = .ok (.iload_n 2, 1) := by decide +kernel
theorem dX11_take_46 : decode cX11_take 46 = .ok (.ifCond .ne 13, 3) := by decide +kernel
theorem dX11_take_49 : decode cX11_take 49 = .ok (.aload_n 0, 1) := by decide +kernel
theorem dX11_take_50 : decode cX11_take 50 = .ok (.getfield 61, 3) := by decide +kernel
theorem dX11_take_53 : decode cX11_take 53 = .ok (.getfield 204, 3) := by decide +kernel
theorem dX11_take_56 : decode cX11_take 56 = .ok (.goto 10, 3) := by decide +kernel
theorem dX11_take_59 : decode cX11_take 59 = .ok (.aload_n 0, 1) := by decide +kernel
theorem dX11_take_60 : decode cX11_take 60 = .ok (.getfield 61, 3) := by decide +kernel
theorem dX11_take_63 : decode cX11_take 63 = .ok (.getfield 207, 3) := by decide +kernel
theorem dX11_take_66 : decode cX11_take 66 = .ok (.ireturn, 1) := by decide +kernel
theorem dX11_match_0 : decode cX11_match 0 = .ok (.aload_n 0, 1) := by decide +kernel
theorem dX11_match_1 : decode cX11_match 1 = .ok (.getfield 47, 3) := by decide +kernel
theorem dX11_match_4 : decode cX11_match 4 = .ok (.getfield 151, 3) := by decide +kernel
theorem dX11_match_7 : decode cX11_match 7 = .ok (.ifCond .eq 12, 3) := by decide +kernel
theorem dX11_match_10 : decode cX11_match 10 = .ok (.iload_n 1, 1) := by decide +kernel
theorem dX11_match_11 : decode cX11_match 11 = .ok (.ifCond .lt 8, 3) := by decide +kernel
theorem dX11_match_14 : decode cX11_match 14 = .ok (.iload_n 1, 1) := by decide +kernel
theorem dX11_match_15 : decode cX11_match 15 = .ok (.iconst 5, 1) := by decide +kernel
theorem dX11_match_16 : decode cX11_match 16 = .ok (.if_icmp .le 6, 3) := by decide +kernel
theorem dX11_match_19 : decode cX11_match 19 = .ok (.bipush (-3), 2) := by decide +kernel
theorem dX11_match_21 : decode cX11_match 21 = .ok (.ireturn, 1) := by decide +kernel
theorem dX11_match_22 : decode cX11_match 22 = .ok (.iload_n 1, 1) := by decide +kernel
theorem dX11_match_23 : decode cX11_match 23 = .ok (.iconst 2, 1) := by decide +kernel
theorem dX11_match_24 : decode cX11_match 24 = .ok (.isub, 1) := by decide +kernel
theorem dX11_match_25 : decode cX11_match 25 = .ok (.istore_n 2, 1) := by decide +kernel
theorem dX11_match_26 : decode cX11_match 26 = .ok (.iload_n 2, 1) := by decide +kernel
theorem dX11_match_27 : decode cX11_match 27 = .ok (.ifCond .lt 31, 3) := by decide +kernel
theorem dX11_match_30 : decode cX11_match 30 = .ok (.aload_n 0, 1) := by decide +kernel
theorem dX11_match_31 : decode cX11_match 31 = .ok (.getfield 55, 3) := by decide +kernel
theorem dX11_match_34 : decode cX11_match 34 = .ok (.getfield 89, 3) := by decide +kernel
theorem dX11_match_37 : decode cX11_match 37 = .ok (.iload_n 2, 1) := by decide +kernel
theorem dX11_match_38 : decode cX11_match 38 = .ok (.invokevirtual 138, 3) := by decide +kernel
theorem dX11_match_41 : decode cX11_match 41 = .ok (.ifCond .eq 14, 3) := by decide +kernel
theorem dX11_match_44 : decode cX11_match 44 = .ok (.aload_n 0, 1) := by decide +kernel
theorem dX11_match_45 : decode cX11_match 45 = .ok (.getfield 55, 3) := by decide +kernel
theorem dX11_match_48 : decode cX11_match 48 = .ok (.iload_n 2, 1) := by decide +kernel
theorem dX11_match_49 : decode cX11_match 49 = .ok (.invokevirtual 165, 3) := by decide +kernel
theorem dX11_match_52 : decode cX11_match 52 = .ok (.ifCond .ne 6, 3) := by decide +kernel
theorem dX11_match_55 : decode cX11_match 55 = .ok (.bipush (-2), 2) := by decide +kernel
theorem dX11_match_57 : decode cX11_match 57 = .ok (.ireturn, 1) := by decide +kernel
theorem dX11_match_58 : decode cX11_match 58 = .ok (.aload_n 0, 1) := by decide +kernel
theorem dX11_match_59 : decode cX11_match 59 = .ok (.getfield 61, 3) := by decide +kernel
theorem dX11_match_62 : decode cX11_match 62 = .ok (.invokevirtual 210, 3) := by decide +kernel
theorem dX11_match_65 : decode cX11_match 65 = .ok (.astore_n 3, 1) := by decide +kernel
theorem dX11_match_66 : decode cX11_match 66 = .ok (.iload_n 2, 1) := by decide +kernel
theorem dX11_match_67 : decode cX11_match 67 = .ok (.ifCond .lt 10, 3) := by decide +kernel
theorem dX11_match_70 : decode cX11_match 70 = .ok (.aload_n 3, 1) := by decide +kernel
theorem dX11_match_71 : decode cX11_match 71 = .ok (.getfield 214, 3) := by decide +kernel
theorem dX11_match_74 : decode cX11_match 74 = .ok (.iload_n 2, 1) := by decide +kernel
theorem dX11_match_75 : decode cX11_match 75 = .ok (.iaload, 1) := by decide +kernel
theorem dX11_match_76 : decode cX11_match 76 = .ok (.ireturn, 1) := by decide +kernel
theorem dX11_match_77 : decode cX11_match 77 = .ok (.iload_n 1, 1) := by decide +kernel
theorem dX11_match_78 : decode cX11_match 78 = .ok (.ifCond .ne 10, 3) := by decide +kernel
theorem dX11_match_81 : decode cX11_match 81 = .ok (.aload_n 3, 1) := by decide +kernel
theorem dX11_match_82 : decode cX11_match 82 = .ok (.getfield 219, 3) := by decide +kernel
theorem dX11_match_85 : decode cX11_match 85 = .ok (.goto 7, 3) := by decide +kernel
theorem dX11_match_88 : decode cX11_match 88 = .ok (.aload_n 3, 1) := by decide +kernel
theorem dX11_match_89 : decode cX11_match 89 = .ok (.getfield 222, 3) := by decide +kernel
theorem dX11_match_92 : decode cX11_match 92 = .ok (.ireturn, 1) := by decide +kernel
theorem dX11_swap_0 : decode cX11_swap 0 = .ok (.aload_n 0, 1) := by decide +kernel
theorem dX11_swap_1 : decode cX11_swap 1 = .ok (.getfield 47, 3) := by decide +kernel
theorem dX11_swap_4 : decode cX11_swap 4 = .ok (.getfield 151, 3) := by decide +kernel
theorem dX11_swap_7 : decode cX11_swap 7 = .ok (.ifCond .eq 12, 3) := by decide +kernel
theorem dX11_swap_10 : decode cX11_swap 10 = .ok (.iload_n 1, 1) := by decide +kernel
theorem dX11_swap_11 : decode cX11_swap 11 = .ok (.ifCond .lt 8, 3) := by decide +kernel
theorem dX11_swap_14 : decode cX11_swap 14 = .ok (.iload_n 1, 1) := by decide +kernel
theorem dX11_swap_15 : decode cX11_swap 15 = .ok (.iconst 2, 1) := by decide +kernel
theorem dX11_swap_16 : decode cX11_swap 16 = .ok (.if_icmp .le 5, 3) := by decide +kernel
theorem dX11_swap_19 : decode cX11_swap 19 = .ok (.iconst (-1), 1) := by decide +kernel
theorem dX11_swap_20 : decode cX11_swap 20 = .ok (.ireturn, 1) := by decide +kernel
theorem dX11_swap_21 : decode cX11_swap 21 = .ok (.iconst 0, 1) := by decide +kernel
theorem dX11_swap_22 : decode cX11_swap 22 = .ok (.istore_n 2, 1) := by decide +kernel
theorem dX11_swap_23 : decode cX11_swap 23 = .ok (.bipush (-2), 2) := by decide +kernel
theorem dX11_swap_25 : decode cX11_swap 25 = .ok (.istore_n 3, 1) := by decide +kernel
theorem dX11_swap_26 : decode cX11_swap 26 = .ok (.bipush (-2), 2) := by decide +kernel
theorem dX11_swap_28 : decode cX11_swap 28 = .ok (.istore 4, 2) := by decide +kernel
theorem dX11_swap_30 : decode cX11_swap 30 = .ok (.iconst 0, 1) := by decide +kernel
theorem dX11_swap_31 : decode cX11_swap 31 = .ok (.istore 5, 2) := by decide +kernel
theorem dX11_swap_33 : decode cX11_swap 33 = .ok (.iload 5, 2) := by decide +kernel
theorem dX11_swap_35 : decode cX11_swap 35 = .ok (.aload_n 0, 1) := by decide +kernel
theorem dX11_swap_36 : decode cX11_swap 36 = .ok (.getfield 55, 3) := by decide +kernel
theorem dX11_swap_39 : decode cX11_swap 39 = .ok (.getfield 89, 3) := by decide +kernel
theorem dX11_swap_42 : decode cX11_swap 42 = .ok (.getfield 225, 3) := by decide +kernel
theorem dX11_swap_45 : decode cX11_swap 45 = .ok (.if_icmp .ge 65, 3) := by decide +kernel
theorem dX11_swap_48 : decode cX11_swap 48 = .ok (.iload 5, 2) := by decide +kernel
theorem dX11_swap_50 : decode cX11_swap 50 = .ok (.iconst 1, 1) := by decide +kernel
theorem dX11_swap_51 : decode cX11_swap 51 = .ok (.iadd, 1) := by decide +kernel
theorem dX11_swap_52 : decode cX11_swap 52 = .ok (.istore 6, 2) := by decide +kernel
theorem dX11_swap_54 : decode cX11_swap 54 = .ok (.iload 6, 2) := by decide +kernel
theorem dX11_swap_56 : decode cX11_swap 56 = .ok (.aload_n 0, 1) := by decide +kernel
theorem dX11_swap_57 : decode cX11_swap 57 = .ok (.getfield 55, 3) := by decide +kernel
theorem dX11_swap_60 : decode cX11_swap 60 = .ok (.getfield 89, 3) := by decide +kernel
theorem dX11_swap_63 : decode cX11_swap 63 = .ok (.getfield 225, 3) := by decide +kernel
theorem dX11_swap_66 : decode cX11_swap 66 = .ok (.if_icmp .ge 38, 3) := by decide +kernel
theorem dX11_swap_69 : decode cX11_swap 69 = .ok (.aload_n 0, 1) := by decide +kernel
theorem dX11_swap_70 : decode cX11_swap 70 = .ok (.getfield 55, 3) := by decide +kernel
theorem dX11_swap_73 : decode cX11_swap 73 = .ok (.iload 5, 2) := by decide +kernel
theorem dX11_swap_75 : decode cX11_swap 75 = .ok (.iload 6, 2) := by decide +kernel
theorem dX11_swap_77 : decode cX11_swap 77 = .ok (.invokevirtual 228, 3) := by decide +kernel
theorem dX11_swap_80 : decode cX11_swap 80 = .ok (.istore 7, 2) := by decide +kernel
theorem dX11_swap_82 : decode cX11_swap 82 = .ok (.iload 7, 2) := by decide +kernel
theorem dX11_swap_84 : decode cX11_swap 84 = .ok (.iload_n 2, 1) := by decide +kernel
theorem dX11_swap_85 : decode cX11_swap 85 = .ok (.if_icmp .le 13, 3) := by decide +kernel
theorem dX11_swap_88 : decode cX11_swap 88 = .ok (.iload 7, 2) := by decide +kernel
theorem dX11_swap_90 : decode cX11_swap 90 = .ok (.istore_n 2, 1) := by decide +kernel
theorem dX11_swap_91 : decode cX11_swap 91 = .ok (.iload 5, 2) := by decide +kernel
theorem dX11_swap_93 : decode cX11_swap 93 = .ok (.istore_n 3, 1) := by decide +kernel
theorem dX11_swap_94 : decode cX11_swap 94 = .ok (.iload 6, 2) := by decide +kernel
theorem dX11_swap_96 : decode cX11_swap 96 = .ok (.istore 4, 2) := by decide +kernel
theorem dX11_swap_98 : decode cX11_swap 98 = .ok (.iinc 6 1, 3) := by decide +kernel
theorem dX11_swap_101 : decode cX11_swap 101 = .ok (.goto (-47), 3) := by decide +kernel
theorem dX11_swap_104 : decode cX11_swap 104 = .ok (.iinc 5 1, 3) := by decide +kernel
theorem dX11_swap_107 : decode cX11_swap 107 = .ok (.goto (-74), 3) := by decide +kernel
theorem dX11_swap_110 : decode cX11_swap 110 = .ok (.iload_n 1, 1) := by decide +kernel
theorem dX11_swap_111 : decode cX11_swap 111 = .ok (.ifCond .ne 14, 3) := by decide +kernel
theorem dX11_swap_114 : decode cX11_swap 114 = .ok (.iload_n 2, 1) := by decide +kernel
theorem dX11_swap_115 : decode cX11_swap 115 = .ok (.ifCond .le 7, 3) := by decide +kernel
theorem dX11_swap_118 : decode cX11_swap 118 = .ok (.iload_n 2, 1) := by decide +kernel
theorem dX11_swap_119 : decode cX11_swap 119 = .ok (.goto 5, 3) := by decide +kernel
theorem dX11_swap_122 : decode cX11_swap 122 = .ok (.bipush (-2), 2) := by decide +kernel
theorem dX11_swap_124 : decode cX11_swap 124 = .ok (.ireturn, 1) := by decide +kernel
theorem dX11_swap_125 : decode cX11_swap 125 = .ok (.iload_n 1, 1) := by decide +kernel
theorem dX11_swap_126 : decode cX11_swap 126 = .ok (.iconst 1, 1) := by decide +kernel
theorem dX11_swap_127 : decode cX11_swap 127 = .ok (.if_icmp .ne 7, 3) := by decide +kernel
theorem dX11_swap_130 : decode cX11_swap 130 = .ok (.iload_n 3, 1) := by decide +kernel
theorem dX11_swap_131 : decode cX11_swap 131 = .ok (.goto 5, 3) := by decide +kernel
theorem dX11_swap_134 : decode cX11_swap 134 = .ok (.iload 4, 2) := by decide +kernel
theorem dX11_swap_136 : decode cX11_swap 136 = .ok (.ireturn, 1) := by decide +kernel
theorem dX11_part_0 : decode cX11_part 0 = .ok (.aload_n 0, 1) := by decide +kernel
theorem dX11_part_1 : decode cX11_part 1 = .ok (.getfield 47, 3) := by decide +kernel
theorem dX11_part_4 : decode cX11_part 4 = .ok (.getfield 151, 3) := by decide +kernel
theorem dX11_part_7 : decode cX11_part 7 = .ok (.ifCond .eq 12, 3) := by decide +kernel
theorem dX11_part_10 : decode cX11_part 10 = .ok (.iload_n 1, 1) := by decide +kernel
theorem dX11_part_11 : decode cX11_part 11 = .ok (.ifCond .lt 8, 3) := by decide +kernel
theorem dX11_part_14 : decode cX11_part 14 = .ok (.iload_n 1, 1) := by decide +kernel
theorem dX11_part_15 : decode cX11_part 15 = .ok (.iconst 1, 1) := by decide +kernel
theorem dX11_part_16 : decode cX11_part 16 = .ok (.if_icmp .le 6, 3) := by decide +kernel
theorem dX11_part_19 : decode cX11_part 19 = .ok (.bipush (-2), 2) := by decide +kernel
theorem dX11_part_21 : decode cX11_part 21 = .ok (.ireturn, 1) := by decide +kernel
theorem dX11_part_22 : decode cX11_part 22 = .ok (.aload_n 0, 1) := by decide +kernel
theorem dX11_part_23 : decode cX11_part 23 = .ok (.getfield 61, 3) := by decide +kernel
theorem dX11_part_26 : decode cX11_part 26 = .ok (.invokevirtual 231, 3) := by decide +kernel
theorem dX11_part_29 : decode cX11_part 29 = .ok (.iload_n 1, 1) := by decide +kernel
theorem dX11_part_30 : decode cX11_part 30 = .ok (.ifCond .ne 13, 3) := by decide +kernel
theorem dX11_part_33 : decode cX11_part 33 = .ok (.aload_n 0, 1) := by decide +kernel
theorem dX11_part_34 : decode cX11_part 34 = .ok (.getfield 61, 3) := by decide +kernel
theorem dX11_part_37 : decode cX11_part 37 = .ok (.getfield 204, 3) := by decide +kernel
theorem dX11_part_40 : decode cX11_part 40 = .ok (.goto 10, 3) := by decide +kernel
theorem dX11_part_43 : decode cX11_part 43 = .ok (.aload_n 0, 1) := by decide +kernel
theorem dX11_part_44 : decode cX11_part 44 = .ok (.getfield 61, 3) := by decide +kernel
theorem dX11_part_47 : decode cX11_part 47 = .ok (.getfield 207, 3) := by decide +kernel
theorem dX11_part_50 : decode cX11_part 50 = .ok (.ireturn, 1) := by decide +kernel
theorem dX11_askIn_0 : decode cX11_askIn 0 = .ok (.aload_n 0, 1) := by decide +kernel
theorem dX11_askIn_1 : decode cX11_askIn 1 = .ok (.getfield 47, 3) := by decide +kernel
theorem dX11_askIn_4 : decode cX11_askIn 4 = .ok (.getfield 151, 3) := by decide +kernel
theorem dX11_askIn_7 : decode cX11_askIn 7 = .ok (.ifCond .eq 12, 3) := by decide +kernel
theorem dX11_askIn_10 : decode cX11_askIn 10 = .ok (.iload_n 1, 1) := by decide +kernel
theorem dX11_askIn_11 : decode cX11_askIn 11 = .ok (.ifCond .lt 8, 3) := by decide +kernel
theorem dX11_askIn_14 : decode cX11_askIn 14 = .ok (.iload_n 1, 1) := by decide +kernel
theorem dX11_askIn_15 : decode cX11_askIn 15 = .ok (.iconst 1, 1) := by decide +kernel
theorem dX11_askIn_16 : decode cX11_askIn 16 = .ok (.if_icmp .le 6, 3) := by decide +kernel
theorem dX11_askIn_19 : decode cX11_askIn 19 = .ok (.bipush (-2), 2) := by decide +kernel
theorem dX11_askIn_21 : decode cX11_askIn 21 = .ok (.ireturn, 1) := by decide +kernel
theorem dX11_askIn_22 : decode cX11_askIn 22 = .ok (.aload_n 0, 1) := by decide +kernel
theorem dX11_askIn_23 : decode cX11_askIn 23 = .ok (.getfield 61, 3) := by decide +kernel
theorem dX11_askIn_26 : decode cX11_askIn 26 = .ok (.invokevirtual 234, 3) := by decide +kernel
theorem dX11_askIn_29 : decode cX11_askIn 29 = .ok (.iload_n 1, 1) := by decide +kernel
theorem dX11_askIn_30 : decode cX11_askIn 30 = .ok (.ifCond .ne 13, 3) := by decide +kernel
theorem dX11_askIn_33 : decode cX11_askIn 33 = .ok (.aload_n 0, 1) := by decide +kernel
theorem dX11_askIn_34 : decode cX11_askIn 34 = .ok (.getfield 61, 3) := by decide +kernel
theorem dX11_askIn_37 : decode cX11_askIn 37 = .ok (.getfield 204, 3) := by decide +kernel
theorem dX11_askIn_40 : decode cX11_askIn 40 = .ok (.goto 10, 3) := by decide +kernel
theorem dX11_askIn_43 : decode cX11_askIn 43 = .ok (.aload_n 0, 1) := by decide +kernel
theorem dX11_askIn_44 : decode cX11_askIn 44 = .ok (.getfield 61, 3) := by decide +kernel
theorem dX11_askIn_47 : decode cX11_askIn 47 = .ok (.getfield 207, 3) := by decide +kernel
theorem dX11_askIn_50 : decode cX11_askIn 50 = .ok (.ireturn, 1) := by decide +kernel
theorem dX11_late_0 : decode cX11_late 0 = .ok (.aload_n 0, 1) := by decide +kernel
theorem dX11_late_1 : decode cX11_late 1 = .ok (.getfield 55, 3) := by decide +kernel
theorem dX11_late_4 : decode cX11_late 4 = .ok (.getfield 89, 3) := by decide +kernel
theorem dX11_late_7 : decode cX11_late 7 = .ok (.iload_n 1, 1) := by decide +kernel
theorem dX11_late_8 : decode cX11_late 8 = .ok (.invokevirtual 145, 3) := by decide +kernel
theorem dX11_late_11 : decode cX11_late 11 = .ok (.ifCond .eq 14, 3) := by decide +kernel
theorem dX11_late_14 : decode cX11_late 14 = .ok (.aload_n 0, 1) := by decide +kernel
theorem dX11_late_15 : decode cX11_late 15 = .ok (.getfield 61, 3) := by decide +kernel
theorem dX11_late_18 : decode cX11_late 18 = .ok (.iload_n 1, 1) := by decide +kernel
theorem dX11_late_19 : decode cX11_late 19 = .ok (.invokevirtual 237, 3) := by decide +kernel
theorem dX11_late_22 : decode cX11_late 22 = .ok (.goto 4, 3) := by decide +kernel
theorem dX11_late_25 : decode cX11_late 25 = .ok (.iconst (-1), 1) := by decide +kernel
theorem dX11_late_26 : decode cX11_late 26 = .ok (.ireturn, 1) := by decide +kernel
theorem dX11_idle_0 : decode cX11_idle 0 = .ok (.aload_n 0, 1) := by decide +kernel
theorem dX11_idle_1 : decode cX11_idle 1 = .ok (.getfield 55, 3) := by decide +kernel
theorem dX11_idle_4 : decode cX11_idle 4 = .ok (.getfield 89, 3) := by decide +kernel
theorem dX11_idle_7 : decode cX11_idle 7 = .ok (.iload_n 1, 1) := by decide +kernel
theorem dX11_idle_8 : decode cX11_idle 8 = .ok (.invokevirtual 138, 3) := by decide +kernel
theorem dX11_idle_11 : decode cX11_idle 11 = .ok (.ifCond .eq 14, 3) := by decide +kernel
theorem dX11_idle_14 : decode cX11_idle 14 = .ok (.aload_n 0, 1) := by decide +kernel
theorem dX11_idle_15 : decode cX11_idle 15 = .ok (.getfield 61, 3) := by decide +kernel
theorem dX11_idle_18 : decode cX11_idle 18 = .ok (.iload_n 1, 1) := by decide +kernel
theorem dX11_idle_19 : decode cX11_idle 19 = .ok (.invokevirtual 240, 3) := by decide +kernel
theorem dX11_idle_22 : decode cX11_idle 22 = .ok (.goto 4, 3) := by decide +kernel
theorem dX11_idle_25 : decode cX11_idle 25 = .ok (.iconst (-1), 1) := by decide +kernel
theorem dX11_idle_26 : decode cX11_idle 26 = .ok (.ireturn, 1) := by decide +kernel
theorem dX11_book_0 : decode cX11_book 0 = .ok (.iload_n 1, 1) := by decide +kernel
theorem dX11_book_1 : decode cX11_book 1 = .ok (.iconst (-1), 1) := by decide +kernel
theorem dX11_book_2 : decode cX11_book 2 = .ok (.if_icmp .ne 16, 3) := by decide +kernel
theorem dX11_book_5 : decode cX11_book 5 = .ok (.aload_n 0, 1) := by decide +kernel
theorem dX11_book_6 : decode cX11_book 6 = .ok (.getfield 47, 3) := by decide +kernel
theorem dX11_book_9 : decode cX11_book 9 = .ok (.getfield 243, 3) := by decide +kernel
theorem dX11_book_12 : decode cX11_book 12 = .ok (.iconst 0, 1) := by decide +kernel
theorem dX11_book_13 : decode cX11_book 13 = .ok (.putfield 247, 3) := by decide +kernel
theorem dX11_book_16 : decode cX11_book 16 = .ok (.iconst 0, 1) := by decide +kernel
theorem dX11_book_17 : decode cX11_book 17 = .ok (.ireturn, 1) := by decide +kernel
theorem dX11_book_18 : decode cX11_book 18 = .ok (.iload_n 1, 1) := by decide +kernel
theorem dX11_book_19 : decode cX11_book 19 = .ok (.ifCond .lt 48, 3) := by decide +kernel
theorem dX11_book_22 : decode cX11_book 22 = .ok (.iload_n 1, 1) := by decide +kernel
theorem dX11_book_23 : decode cX11_book 23 = .ok (.sipush 400, 3) := by decide +kernel
theorem dX11_book_26 : decode cX11_book 26 = .ok (.if_icmp .ge 41, 3) := by decide +kernel
theorem dX11_book_29 : decode cX11_book 29 = .ok (.aload_n 0, 1) := by decide +kernel
theorem dX11_book_30 : decode cX11_book 30 = .ok (.getfield 55, 3) := by decide +kernel
theorem dX11_book_33 : decode cX11_book 33 = .ok (.getfield 89, 3) := by decide +kernel
theorem dX11_book_36 : decode cX11_book 36 = .ok (.iload_n 2, 1) := by decide +kernel
theorem dX11_book_37 : decode cX11_book 37 = .ok (.invokevirtual 116, 3) := by decide +kernel
theorem dX11_book_40 : decode cX11_book 40 = .ok (.ifCond .eq 27, 3) := by decide +kernel
theorem dX11_book_43 : decode cX11_book 43 = .ok (.iload_n 3, 1) := by decide +kernel
theorem dX11_book_44 : decode cX11_book 44 = .ok (.ifCond .lt 23, 3) := by decide +kernel
theorem dX11_book_47 : decode cX11_book 47 = .ok (.iload_n 3, 1) := by decide +kernel
theorem dX11_book_48 : decode cX11_book 48 = .ok (.iconst 4, 1) := by decide +kernel
theorem dX11_book_49 : decode cX11_book 49 = .ok (.if_icmp .gt 18, 3) := by decide +kernel
theorem dX11_book_52 : decode cX11_book 52 = .ok (.aload_n 0, 1) := by decide +kernel
theorem dX11_book_53 : decode cX11_book 53 = .ok (.getfield 47, 3) := by decide +kernel
theorem dX11_book_56 : decode cX11_book 56 = .ok (.getfield 243, 3) := by decide +kernel
theorem dX11_book_59 : decode cX11_book 59 = .ok (.getfield 247, 3) := by decide +kernel
theorem dX11_book_62 : decode cX11_book 62 = .ok (.bipush 10, 2) := by decide +kernel
theorem dX11_book_64 : decode cX11_book 64 = .ok (.if_icmp .lt 6, 3) := by decide +kernel
theorem dX11_book_67 : decode cX11_book 67 = .ok (.bipush (-2), 2) := by decide +kernel
theorem dX11_book_69 : decode cX11_book 69 = .ok (.ireturn, 1) := by decide +kernel
theorem dX11_book_70 : decode cX11_book 70 = .ok (.aload_n 0, 1) := by decide +kernel
theorem dX11_book_71 : decode cX11_book 71 = .ok (.getfield 47, 3) := by decide +kernel
theorem dX11_book_74 : decode cX11_book 74 = .ok (.getfield 243, 3) := by decide +kernel
theorem dX11_book_77 : decode cX11_book 77 = .ok (.iload_n 1, 1) := by decide +kernel
theorem dX11_book_78 : decode cX11_book 78 = .ok (.iload_n 2, 1) := by decide +kernel
theorem dX11_book_79 : decode cX11_book 79 = .ok (.iload_n 3, 1) := by decide +kernel
theorem dX11_book_80 : decode cX11_book 80 = .ok (.invokevirtual 252, 3) := by decide +kernel
theorem dX11_book_83 : decode cX11_book 83 = .ok (.aload_n 0, 1) := by decide +kernel
theorem dX11_book_84 : decode cX11_book 84 = .ok (.getfield 47, 3) := by decide +kernel
theorem dX11_book_87 : decode cX11_book 87 = .ok (.getfield 243, 3) := by decide +kernel
theorem dX11_book_90 : decode cX11_book 90 = .ok (.getfield 247, 3) := by decide +kernel
theorem dX11_book_93 : decode cX11_book 93 = .ok (.ireturn, 1) := by decide +kernel
theorem dX11_ruled_0 : decode cX11_ruled 0 = .ok (.aload_n 0, 1) := by decide +kernel
theorem dX11_ruled_1 : decode cX11_ruled 1 = .ok (.getfield 47, 3) := by decide +kernel
theorem dX11_ruled_4 : decode cX11_ruled 4 = .ok (.getfield 151, 3) := by decide +kernel
theorem dX11_ruled_7 : decode cX11_ruled 7 = .ok (.ifCond .eq 12, 3) := by decide +kernel
theorem dX11_ruled_10 : decode cX11_ruled 10 = .ok (.iload_n 1, 1) := by decide +kernel
theorem dX11_ruled_11 : decode cX11_ruled 11 = .ok (.ifCond .lt 8, 3) := by decide +kernel
theorem dX11_ruled_14 : decode cX11_ruled 14 = .ok (.iload_n 1, 1) := by decide +kernel
theorem dX11_ruled_15 : decode cX11_ruled 15 = .ok (.iconst 1, 1) := by decide +kernel
theorem dX11_ruled_16 : decode cX11_ruled 16 = .ok (.if_icmp .le 6, 3) := by decide +kernel
theorem dX11_ruled_19 : decode cX11_ruled 19 = .ok (.bipush (-3), 2) := by decide +kernel
theorem dX11_ruled_21 : decode cX11_ruled 21 = .ok (.ireturn, 1) := by decide +kernel
theorem dX11_ruled_22 : decode cX11_ruled 22 = .ok (.aload_n 0, 1) := by decide +kernel
theorem dX11_ruled_23 : decode cX11_ruled 23 = .ok (.getfield 47, 3) := by decide +kernel
theorem dX11_ruled_26 : decode cX11_ruled 26 = .ok (.getfield 243, 3) := by decide +kernel
theorem dX11_ruled_29 : decode cX11_ruled 29 = .ok (.astore_n 2, 1) := by decide +kernel
theorem dX11_ruled_30 : decode cX11_ruled 30 = .ok (.aload_n 2, 1) := by decide +kernel
theorem dX11_ruled_31 : decode cX11_ruled 31 = .ok (.aload_n 0, 1) := by decide +kernel
theorem dX11_ruled_32 : decode cX11_ruled 32 = .ok (.getfield 31, 3) := by decide +kernel
theorem dX11_ruled_35 : decode cX11_ruled 35 = .ok (.aload_n 0, 1) := by decide +kernel
theorem dX11_ruled_36 : decode cX11_ruled 36 = .ok (.getfield 97, 3) := by decide +kernel
theorem dX11_ruled_39 : decode cX11_ruled 39 = .ok (.aload_n 0, 1) := by decide +kernel
theorem dX11_ruled_40 : decode cX11_ruled 40 = .ok (.getfield 61, 3) := by decide +kernel
theorem dX11_ruled_43 : decode cX11_ruled 43 = .ok (.iconst 0, 1) := by decide +kernel
theorem dX11_ruled_44 : decode cX11_ruled 44 = .ok (.invokevirtual 256, 3) := by decide +kernel
theorem dX11_ruled_47 : decode cX11_ruled 47 = .ok (.iload_n 1, 1) := by decide +kernel
theorem dX11_ruled_48 : decode cX11_ruled 48 = .ok (.ifCond .ne 10, 3) := by decide +kernel
theorem dX11_ruled_51 : decode cX11_ruled 51 = .ok (.aload_n 2, 1) := by decide +kernel
theorem dX11_ruled_52 : decode cX11_ruled 52 = .ok (.getfield 260, 3) := by decide +kernel
theorem dX11_ruled_55 : decode cX11_ruled 55 = .ok (.goto 7, 3) := by decide +kernel
theorem dX11_ruled_58 : decode cX11_ruled 58 = .ok (.aload_n 2, 1) := by decide +kernel
theorem dX11_ruled_59 : decode cX11_ruled 59 = .ok (.getfield 263, 3) := by decide +kernel
theorem dX11_ruled_62 : decode cX11_ruled 62 = .ok (.ireturn, 1) := by decide +kernel
theorem dX11_look_0 : decode cX11_look 0 = .ok (.aload_n 0, 1) := by decide +kernel
theorem dX11_look_1 : decode cX11_look 1 = .ok (.getfield 47, 3) := by decide +kernel
theorem dX11_look_4 : decode cX11_look 4 = .ok (.getfield 151, 3) := by decide +kernel
theorem dX11_look_7 : decode cX11_look 7 = .ok (.ifCond .eq 23, 3) := by decide +kernel
theorem dX11_look_10 : decode cX11_look 10 = .ok (.iload_n 1, 1) := by decide +kernel
theorem dX11_look_11 : decode cX11_look 11 = .ok (.ifCond .lt 19, 3) := by decide +kernel
theorem dX11_look_14 : decode cX11_look 14 = .ok (.iload_n 1, 1) := by decide +kernel
theorem dX11_look_15 : decode cX11_look 15 = .ok (.sipush 400, 3) := by decide +kernel
theorem dX11_look_18 : decode cX11_look 18 = .ok (.if_icmp .ge 12, 3) := by decide +kernel
theorem dX11_look_21 : decode cX11_look 21 = .ok (.iload_n 2, 1) := by decide +kernel
theorem dX11_look_22 : decode cX11_look 22 = .ok (.ifCond .lt 8, 3) := by decide +kernel
theorem dX11_look_25 : decode cX11_look 25 = .ok (.iload_n 2, 1) := by decide +kernel
theorem dX11_look_26 : decode cX11_look 26 = .ok (.iconst 1, 1) := by decide +kernel
theorem dX11_look_27 : decode cX11_look 27 = .ok (.if_icmp .le 5, 3) := by decide +kernel
theorem dX11_look_30 : decode cX11_look 30 = .ok (.iconst (-1), 1) := by decide +kernel
theorem dX11_look_31 : decode cX11_look 31 = .ok (.ireturn, 1) := by decide +kernel
theorem dX11_look_32 : decode cX11_look 32 = .ok (.aload_n 0, 1) := by decide +kernel
theorem dX11_look_33 : decode cX11_look 33 = .ok (.getfield 47, 3) := by decide +kernel
theorem dX11_look_36 : decode cX11_look 36 = .ok (.getfield 243, 3) := by decide +kernel
theorem dX11_look_39 : decode cX11_look 39 = .ok (.astore_n 3, 1) := by decide +kernel
theorem dX11_look_40 : decode cX11_look 40 = .ok (.aload_n 3, 1) := by decide +kernel
theorem dX11_look_41 : decode cX11_look 41 = .ok (.aload_n 0, 1) := by decide +kernel
theorem dX11_look_42 : decode cX11_look 42 = .ok (.getfield 31, 3) := by decide +kernel
theorem dX11_look_45 : decode cX11_look 45 = .ok (.aload_n 0, 1) := by decide +kernel
theorem dX11_look_46 : decode cX11_look 46 = .ok (.getfield 97, 3) := by decide +kernel
theorem dX11_look_49 : decode cX11_look 49 = .ok (.aload_n 0, 1) := by decide +kernel
theorem dX11_look_50 : decode cX11_look 50 = .ok (.getfield 61, 3) := by decide +kernel
theorem dX11_look_53 : decode cX11_look 53 = .ok (.iload_n 1, 1) := by decide +kernel
theorem dX11_look_54 : decode cX11_look 54 = .ok (.invokevirtual 256, 3) := by decide +kernel
theorem dX11_look_57 : decode cX11_look 57 = .ok (.aload_n 3, 1) := by decide +kernel
theorem dX11_look_58 : decode cX11_look 58 = .ok (.aload_n 0, 1) := by decide +kernel
theorem dX11_look_59 : decode cX11_look 59 = .ok (.getfield 55, 3) := by decide +kernel
theorem dX11_look_62 : decode cX11_look 62 = .ok (.getfield 89, 3) := by decide +kernel
theorem dX11_look_65 : decode cX11_look 65 = .ok (.getfield 92, 3) := by decide +kernel
theorem dX11_look_68 : decode cX11_look 68 = .ok (.invokevirtual 266, 3) := by decide +kernel
theorem dX11_look_71 : decode cX11_look 71 = .ok (.istore 4, 2) := by decide +kernel
theorem dX11_look_73 : decode cX11_look 73 = .ok (.aload_n 3, 1) := by decide +kernel
theorem dX11_look_74 : decode cX11_look 74 = .ok (.getfield 260, 3) := by decide +kernel
theorem dX11_look_77 : decode cX11_look 77 = .ok (.ifCond .eq 9, 3) := by decide +kernel
theorem dX11_look_80 : decode cX11_look 80 = .ok (.iload 4, 2) := by decide +kernel
theorem dX11_look_82 : decode cX11_look 82 = .ok (.iconst (-1), 1) := by decide +kernel
theorem dX11_look_83 : decode cX11_look 83 = .ok (.if_icmp .ne 6, 3) := by decide +kernel
theorem dX11_look_86 : decode cX11_look 86 = .ok (.bipush (-2), 2) := by decide +kernel
theorem dX11_look_88 : decode cX11_look 88 = .ok (.ireturn, 1) := by decide +kernel
theorem dX11_look_89 : decode cX11_look 89 = .ok (.iload_n 2, 1) := by decide +kernel
theorem dX11_look_90 : decode cX11_look 90 = .ok (.ifCond .ne 8, 3) := by decide +kernel
theorem dX11_look_93 : decode cX11_look 93 = .ok (.iload 4, 2) := by decide +kernel
theorem dX11_look_95 : decode cX11_look 95 = .ok (.goto 9, 3) := by decide +kernel
theorem dX11_look_98 : decode cX11_look 98 = .ok (.aload_n 3, 1) := by decide +kernel
theorem dX11_look_99 : decode cX11_look 99 = .ok (.iload 4, 2) := by decide +kernel
theorem dX11_look_101 : decode cX11_look 101 = .ok (.invokevirtual 269, 3) := by decide +kernel
theorem dX11_look_104 : decode cX11_look 104 = .ok (.ireturn, 1) := by decide +kernel
theorem dX11_seed_0 : decode cX11_seed 0 = .ok (.iload_n 1, 1) := by decide +kernel
theorem dX11_seed_1 : decode cX11_seed 1 = .ok (.ifCond .ge 5, 3) := by decide +kernel
theorem dX11_seed_4 : decode cX11_seed 4 = .ok (.iconst (-1), 1) := by decide +kernel
theorem dX11_seed_5 : decode cX11_seed 5 = .ok (.ireturn, 1) := by decide +kernel
theorem dX11_seed_6 : decode cX11_seed 6 = .ok (.aload_n 0, 1) := by decide +kernel
theorem dX11_seed_7 : decode cX11_seed 7 = .ok (.getfield 47, 3) := by decide +kernel
theorem dX11_seed_10 : decode cX11_seed 10 = .ok (.getfield 272, 3) := by decide +kernel
theorem dX11_seed_13 : decode cX11_seed 13 = .ok (.istore_n 2, 1) := by decide +kernel
theorem dX11_seed_14 : decode cX11_seed 14 = .ok (.aload_n 0, 1) := by decide +kernel
theorem dX11_seed_15 : decode cX11_seed 15 = .ok (.getfield 47, 3) := by decide +kernel
theorem dX11_seed_18 : decode cX11_seed 18 = .ok (.iload_n 1, 1) := by decide +kernel
theorem dX11_seed_19 : decode cX11_seed 19 = .ok (.putfield 272, 3) := by decide +kernel
theorem dX11_seed_22 : decode cX11_seed 22 = .ok (.iload_n 2, 1) := by decide +kernel
theorem dX11_seed_23 : decode cX11_seed 23 = .ok (.ireturn, 1) := by decide +kernel
theorem dX11_saturdays_0 : decode cX11_saturdays 0 = .ok (.aload_n 0, 1) := by decide +kernel
theorem dX11_saturdays_1 : decode cX11_saturdays 1 = .ok (.getfield 47, 3) := by decide +kernel
theorem dX11_saturdays_4 : decode cX11_saturdays 4 = .ok (.getfield 151, 3) := by decide +kernel
theorem dX11_saturdays_7 : decode cX11_saturdays 7 = .ok (.ifCond .eq 33, 3) := by decide +kernel
theorem dX11_saturdays_10 : decode cX11_saturdays 10 = .ok (.iload_n 1, 1) := by decide +kernel
theorem dX11_saturdays_11 : decode cX11_saturdays 11 = .ok (.iconst 1, 1) := by decide +kernel
theorem dX11_saturdays_12 : decode cX11_saturdays 12 = .ok (.if_icmp .lt 28, 3) := by decide +kernel
theorem dX11_saturdays_15 : decode cX11_saturdays 15 = .ok (.iload_n 1, 1) := by decide +kernel
theorem dX11_saturdays_16 : decode cX11_saturdays 16 = .ok (.bipush 10, 2) := by decide +kernel
theorem dX11_saturdays_18 : decode cX11_saturdays 18 = .ok (.if_icmp .gt 22, 3) := by decide +kernel
theorem dX11_saturdays_21 : decode cX11_saturdays 21 = .ok (.iload_n 2, 1) := by decide +kernel
theorem dX11_saturdays_22 : decode cX11_saturdays 22 = .ok (.ifCond .lt 18, 3) := by decide +kernel
theorem dX11_saturdays_25 : decode cX11_saturdays 25 = .ok (.iload_n 2, 1) := by decide +kernel
theorem dX11_saturdays_26 : decode cX11_saturdays 26 = .ok (.bipush 60, 2) := by decide +kernel
theorem dX11_saturdays_28 : decode cX11_saturdays 28 = .ok (.if_icmp .gt 12, 3) := by decide +kernel
theorem dX11_saturdays_31 : decode cX11_saturdays 31 = .ok (.iload_n 3, 1) := by decide +kernel
theorem dX11_saturdays_32 : decode cX11_saturdays 32 = .ok (.ifCond .lt 8, 3) := by decide +kernel
theorem dX11_saturdays_35 : decode cX11_saturdays 35 = .ok (.iload_n 3, 1) := by decide +kernel
theorem dX11_saturdays_36 : decode cX11_saturdays 36 = .ok (.iconst 1, 1) := by decide +kernel
theorem dX11_saturdays_37 : decode cX11_saturdays 37 = .ok (.if_icmp .le 5, 3) := by decide +kernel
theorem dX11_saturdays_40 : decode cX11_saturdays 40 = .ok (.iconst (-1), 1) := by decide +kernel
theorem dX11_saturdays_41 : decode cX11_saturdays 41 = .ok (.ireturn, 1) := by decide +kernel
theorem dX11_saturdays_42 : decode cX11_saturdays 42 = .ok (.aload_n 0, 1) := by decide +kernel
theorem dX11_saturdays_43 : decode cX11_saturdays 43 = .ok (.getfield 47, 3) := by decide +kernel
theorem dX11_saturdays_46 : decode cX11_saturdays 46 = .ok (.getfield 272, 3) := by decide +kernel
theorem dX11_saturdays_49 : decode cX11_saturdays 49 = .ok (.istore 4, 2) := by decide +kernel
theorem dX11_saturdays_51 : decode cX11_saturdays 51 = .ok (.iconst 0, 1) := by decide +kernel
theorem dX11_saturdays_52 : decode cX11_saturdays 52 = .ok (.istore 5, 2) := by decide +kernel
theorem dX11_saturdays_54 : decode cX11_saturdays 54 = .ok (.iconst 0, 1) := by decide +kernel
theorem dX11_saturdays_55 : decode cX11_saturdays 55 = .ok (.istore 6, 2) := by decide +kernel
theorem dX11_saturdays_57 : decode cX11_saturdays 57 = .ok (.iconst 0, 1) := by decide +kernel
theorem dX11_saturdays_58 : decode cX11_saturdays 58 = .ok (.istore 7, 2) := by decide +kernel
theorem dX11_saturdays_60 : decode cX11_saturdays 60 = .ok (.iload 7, 2) := by decide +kernel
theorem dX11_saturdays_62 : decode cX11_saturdays 62 = .ok (.iload_n 1, 1) := by decide +kernel
theorem dX11_saturdays_63 : decode cX11_saturdays 63 = .ok (.if_icmp .ge 57, 3) := by decide +kernel
theorem dX11_saturdays_66 : decode cX11_saturdays 66 = .ok (.aload_n 0, 1) := by decide +kernel
theorem dX11_saturdays_67 : decode cX11_saturdays 67 = .ok (.getfield 61, 3) := by decide +kernel
theorem dX11_saturdays_70 : decode cX11_saturdays 70 = .ok (.iload 4, 2) := by decide +kernel
theorem dX11_saturdays_72 : decode cX11_saturdays 72 = .ok (.iload_n 2, 1) := by decide +kernel
theorem dX11_saturdays_73 : decode cX11_saturdays 73 = .ok (.iconst 1, 1) := by decide +kernel
theorem dX11_saturdays_74 : decode cX11_saturdays 74 = .ok (.iadd, 1) := by decide +kernel
theorem dX11_saturdays_75 : decode cX11_saturdays 75 = .ok (.invokevirtual 275, 3) := by decide +kernel
theorem dX11_saturdays_78 : decode cX11_saturdays 78 = .ok (.istore 4, 2) := by decide +kernel
theorem dX11_saturdays_80 : decode cX11_saturdays 80 = .ok (.iload 5, 2) := by decide +kernel
theorem dX11_saturdays_82 : decode cX11_saturdays 82 = .ok (.aload_n 0, 1) := by decide +kernel
theorem dX11_saturdays_83 : decode cX11_saturdays 83 = .ok (.getfield 61, 3) := by decide +kernel
theorem dX11_saturdays_86 : decode cX11_saturdays 86 = .ok (.getfield 278, 3) := by decide +kernel
theorem dX11_saturdays_89 : decode cX11_saturdays 89 = .ok (.invokevirtual 192, 3) := by decide +kernel
theorem dX11_saturdays_92 : decode cX11_saturdays 92 = .ok (.iadd, 1) := by decide +kernel
theorem dX11_saturdays_93 : decode cX11_saturdays 93 = .ok (.istore 5, 2) := by decide +kernel
theorem dX11_saturdays_95 : decode cX11_saturdays 95 = .ok (.iload 6, 2) := by decide +kernel
theorem dX11_saturdays_97 : decode cX11_saturdays 97 = .ok (.aload_n 0, 1) := by decide +kernel
theorem dX11_saturdays_98 : decode cX11_saturdays 98 = .ok (.getfield 61, 3) := by decide +kernel
theorem dX11_saturdays_101 : decode cX11_saturdays 101 = .ok (.getfield 278, 3) := by decide +kernel
theorem dX11_saturdays_104 : decode cX11_saturdays 104 = .ok (.iconst 4, 1) := by decide +kernel
theorem dX11_saturdays_105 : decode cX11_saturdays 105 = .ok (.invokevirtual 281, 3) := by decide +kernel
theorem dX11_saturdays_108 : decode cX11_saturdays 108 = .ok (.invokestatic 284, 3) := by decide +kernel
theorem dX11_saturdays_111 : decode cX11_saturdays 111 = .ok (.iadd, 1) := by decide +kernel
theorem dX11_saturdays_112 : decode cX11_saturdays 112 = .ok (.istore 6, 2) := by decide +kernel
theorem dX11_saturdays_114 : decode cX11_saturdays 114 = .ok (.iinc 7 1, 3) := by decide +kernel
theorem dX11_saturdays_117 : decode cX11_saturdays 117 = .ok (.goto (-57), 3) := by decide +kernel
theorem dX11_saturdays_120 : decode cX11_saturdays 120 = .ok (.iload_n 3, 1) := by decide +kernel
theorem dX11_saturdays_121 : decode cX11_saturdays 121 = .ok (.ifCond .ne 8, 3) := by decide +kernel
theorem dX11_saturdays_124 : decode cX11_saturdays 124 = .ok (.iload 5, 2) := by decide +kernel
theorem dX11_saturdays_126 : decode cX11_saturdays 126 = .ok (.goto 5, 3) := by decide +kernel
theorem dX11_saturdays_129 : decode cX11_saturdays 129 = .ok (.iload 6, 2) := by decide +kernel
theorem dX11_saturdays_131 : decode cX11_saturdays 131 = .ok (.ireturn, 1) := by decide +kernel
theorem dX11_count_0 : decode cX11_count 0 = .ok (.iload_n 1, 1) := by decide +kernel
theorem dX11_count_1 : decode cX11_count 1 = .ok (.tableswitch 213 0 16 #[83, 94, 105, 116, 127, 138, 143, 151, 159, 159, 159, 159, 173, 181, 192, 200, 208], 83) := by decide +kernel
theorem dX11_count_84 : decode cX11_count 84 = .ok (.aload_n 0, 1) := by decide +kernel
theorem dX11_count_85 : decode cX11_count 85 = .ok (.getfield 55, 3) := by decide +kernel
theorem dX11_count_88 : decode cX11_count 88 = .ok (.getfield 89, 3) := by decide +kernel
theorem dX11_count_91 : decode cX11_count 91 = .ok (.getfield 289, 3) := by decide +kernel
theorem dX11_count_94 : decode cX11_count 94 = .ok (.ireturn, 1) := by decide +kernel
theorem dX11_count_95 : decode cX11_count 95 = .ok (.aload_n 0, 1) := by decide +kernel
theorem dX11_count_96 : decode cX11_count 96 = .ok (.getfield 55, 3) := by decide +kernel
theorem dX11_count_99 : decode cX11_count 99 = .ok (.getfield 89, 3) := by decide +kernel
theorem dX11_count_102 : decode cX11_count 102 = .ok (.getfield 292, 3) := by decide +kernel
theorem dX11_count_105 : decode cX11_count 105 = .ok (.ireturn, 1) := by decide +kernel
theorem dX11_count_106 : decode cX11_count 106 = .ok (.aload_n 0, 1) := by decide +kernel
theorem dX11_count_107 : decode cX11_count 107 = .ok (.getfield 55, 3) := by decide +kernel
theorem dX11_count_110 : decode cX11_count 110 = .ok (.getfield 89, 3) := by decide +kernel
theorem dX11_count_113 : decode cX11_count 113 = .ok (.getfield 295, 3) := by decide +kernel
theorem dX11_count_116 : decode cX11_count 116 = .ok (.ireturn, 1) := by decide +kernel
theorem dX11_count_117 : decode cX11_count 117 = .ok (.aload_n 0, 1) := by decide +kernel
theorem dX11_count_118 : decode cX11_count 118 = .ok (.getfield 55, 3) := by decide +kernel
theorem dX11_count_121 : decode cX11_count 121 = .ok (.getfield 89, 3) := by decide +kernel
theorem dX11_count_124 : decode cX11_count 124 = .ok (.getfield 225, 3) := by decide +kernel
theorem dX11_count_127 : decode cX11_count 127 = .ok (.ireturn, 1) := by decide +kernel
theorem dX11_count_128 : decode cX11_count 128 = .ok (.aload_n 0, 1) := by decide +kernel
theorem dX11_count_129 : decode cX11_count 129 = .ok (.getfield 55, 3) := by decide +kernel
theorem dX11_count_132 : decode cX11_count 132 = .ok (.getfield 89, 3) := by decide +kernel
theorem dX11_count_135 : decode cX11_count 135 = .ok (.getfield 92, 3) := by decide +kernel
theorem dX11_count_138 : decode cX11_count 138 = .ok (.ireturn, 1) := by decide +kernel
theorem dX11_count_139 : decode cX11_count 139 = .ok (.aload_n 0, 1) := by decide +kernel
theorem dX11_count_140 : decode cX11_count 140 = .ok (.getfield 97, 3) := by decide +kernel
theorem dX11_count_143 : decode cX11_count 143 = .ok (.ireturn, 1) := by decide +kernel
theorem dX11_count_144 : decode cX11_count 144 = .ok (.aload_n 0, 1) := by decide +kernel
theorem dX11_count_145 : decode cX11_count 145 = .ok (.getfield 47, 3) := by decide +kernel
theorem dX11_count_148 : decode cX11_count 148 = .ok (.getfield 105, 3) := by decide +kernel
theorem dX11_count_151 : decode cX11_count 151 = .ok (.ireturn, 1) := by decide +kernel
theorem dX11_count_152 : decode cX11_count 152 = .ok (.aload_n 0, 1) := by decide +kernel
theorem dX11_count_153 : decode cX11_count 153 = .ok (.getfield 55, 3) := by decide +kernel
theorem dX11_count_156 : decode cX11_count 156 = .ok (.invokevirtual 155, 3) := by decide +kernel
theorem dX11_count_159 : decode cX11_count 159 = .ok (.ireturn, 1) := by decide +kernel
theorem dX11_count_160 : decode cX11_count 160 = .ok (.aload_n 0, 1) := by decide +kernel
theorem dX11_count_161 : decode cX11_count 161 = .ok (.getfield 55, 3) := by decide +kernel
theorem dX11_count_164 : decode cX11_count 164 = .ok (.iconst 1, 1) := by decide +kernel
theorem dX11_count_165 : decode cX11_count 165 = .ok (.iload_n 1, 1) := by decide +kernel
theorem dX11_count_166 : decode cX11_count 166 = .ok (.iadd, 1) := by decide +kernel
theorem dX11_count_167 : decode cX11_count 167 = .ok (.bipush 8, 2) := by decide +kernel
theorem dX11_count_169 : decode cX11_count 169 = .ok (.isub, 1) := by decide +kernel
theorem dX11_count_170 : decode cX11_count 170 = .ok (.invokevirtual 281, 3) := by decide +kernel
theorem dX11_count_173 : decode cX11_count 173 = .ok (.ireturn, 1) := by decide +kernel
theorem dX11_count_174 : decode cX11_count 174 = .ok (.aload_n 0, 1) := by decide +kernel
theorem dX11_count_175 : decode cX11_count 175 = .ok (.getfield 55, 3) := by decide +kernel
theorem dX11_count_178 : decode cX11_count 178 = .ok (.invokevirtual 192, 3) := by decide +kernel
theorem dX11_count_181 : decode cX11_count 181 = .ok (.ireturn, 1) := by decide +kernel
theorem dX11_count_182 : decode cX11_count 182 = .ok (.aload_n 0, 1) := by decide +kernel
theorem dX11_count_183 : decode cX11_count 183 = .ok (.getfield 47, 3) := by decide +kernel
theorem dX11_count_186 : decode cX11_count 186 = .ok (.getfield 243, 3) := by decide +kernel
theorem dX11_count_189 : decode cX11_count 189 = .ok (.getfield 247, 3) := by decide +kernel
theorem dX11_count_192 : decode cX11_count 192 = .ok (.ireturn, 1) := by decide +kernel
theorem dX11_count_193 : decode cX11_count 193 = .ok (.aload_n 0, 1) := by decide +kernel
theorem dX11_count_194 : decode cX11_count 194 = .ok (.getfield 47, 3) := by decide +kernel
theorem dX11_count_197 : decode cX11_count 197 = .ok (.getfield 182, 3) := by decide +kernel
theorem dX11_count_200 : decode cX11_count 200 = .ok (.ireturn, 1) := by decide +kernel
theorem dX11_count_201 : decode cX11_count 201 = .ok (.aload_n 0, 1) := by decide +kernel
theorem dX11_count_202 : decode cX11_count 202 = .ok (.getfield 47, 3) := by decide +kernel
theorem dX11_count_205 : decode cX11_count 205 = .ok (.getfield 272, 3) := by decide +kernel
theorem dX11_count_208 : decode cX11_count 208 = .ok (.ireturn, 1) := by decide +kernel
theorem dX11_count_209 : decode cX11_count 209 = .ok (.aload_n 0, 1) := by decide +kernel
theorem dX11_count_210 : decode cX11_count 210 = .ok (.getfield 69, 3) := by decide +kernel
theorem dX11_count_213 : decode cX11_count 213 = .ok (.ireturn, 1) := by decide +kernel
theorem dX11_count_214 : decode cX11_count 214 = .ok (.iconst (-1), 1) := by decide +kernel
theorem dX11_count_215 : decode cX11_count 215 = .ok (.ireturn, 1) := by decide +kernel
theorem dX11_image_0 : decode cX11_image 0 = .ok (.iload_n 1, 1) := by decide +kernel
theorem dX11_image_1 : decode cX11_image 1 = .ok (.ifCond .lt 8, 3) := by decide +kernel
theorem dX11_image_4 : decode cX11_image 4 = .ok (.iload_n 1, 1) := by decide +kernel
theorem dX11_image_5 : decode cX11_image 5 = .ok (.iconst 4, 1) := by decide +kernel
theorem dX11_image_6 : decode cX11_image 6 = .ok (.if_icmp .lt 5, 3) := by decide +kernel
theorem dX11_image_9 : decode cX11_image 9 = .ok (.iconst (-1), 1) := by decide +kernel
theorem dX11_image_10 : decode cX11_image 10 = .ok (.ireturn, 1) := by decide +kernel
theorem dX11_image_11 : decode cX11_image 11 = .ok (.aload_n 0, 1) := by decide +kernel
theorem dX11_image_12 : decode cX11_image 12 = .ok (.getfield 65, 3) := by decide +kernel
theorem dX11_image_15 : decode cX11_image 15 = .ok (.iload_n 1, 1) := by decide +kernel
theorem dX11_image_16 : decode cX11_image 16 = .ok (.aaload, 1) := by decide +kernel
theorem dX11_image_17 : decode cX11_image 17 = .ok (.ifnonnull 20, 3) := by decide +kernel
theorem dX11_image_20 : decode cX11_image 20 = .ok (.aload_n 0, 1) := by decide +kernel
theorem dX11_image_21 : decode cX11_image 21 = .ok (.getfield 65, 3) := by decide +kernel
theorem dX11_image_24 : decode cX11_image 24 = .ok (.iload_n 1, 1) := by decide +kernel
theorem dX11_image_25 : decode cX11_image 25 = .ok (.new 42, 3) := by decide +kernel
theorem dX11_image_28 : decode cX11_image 28 = .ok (.dup, 1) := by decide +kernel
theorem dX11_image_29 : decode cX11_image 29 = .ok (.aload_n 0, 1) := by decide +kernel
theorem dX11_image_30 : decode cX11_image 30 = .ok (.getfield 38, 3) := by decide +kernel
theorem dX11_image_33 : decode cX11_image 33 = .ok (.invokespecial 44, 3) := by decide +kernel
theorem dX11_image_36 : decode cX11_image 36 = .ok (.aastore, 1) := by decide +kernel
theorem dX11_image_37 : decode cX11_image 37 = .ok (.aload_n 0, 1) := by decide +kernel
theorem dX11_image_38 : decode cX11_image 38 = .ok (.getfield 65, 3) := by decide +kernel
theorem dX11_image_41 : decode cX11_image 41 = .ok (.iload_n 1, 1) := by decide +kernel
theorem dX11_image_42 : decode cX11_image 42 = .ok (.aaload, 1) := by decide +kernel
theorem dX11_image_43 : decode cX11_image 43 = .ok (.aload_n 0, 1) := by decide +kernel
theorem dX11_image_44 : decode cX11_image 44 = .ok (.getfield 47, 3) := by decide +kernel
theorem dX11_image_47 : decode cX11_image 47 = .ok (.invokevirtual 298, 3) := by decide +kernel
theorem dX11_image_50 : decode cX11_image 50 = .ok (.aload_n 0, 1) := by decide +kernel
theorem dX11_image_51 : decode cX11_image 51 = .ok (.getfield 55, 3) := by decide +kernel
theorem dX11_image_54 : decode cX11_image 54 = .ok (.invokevirtual 155, 3) := by decide +kernel
theorem dX11_image_57 : decode cX11_image 57 = .ok (.ireturn, 1) := by decide +kernel
theorem dX11_back_0 : decode cX11_back 0 = .ok (.iload_n 1, 1) := by decide +kernel
theorem dX11_back_1 : decode cX11_back 1 = .ok (.ifCond .lt 17, 3) := by decide +kernel
theorem dX11_back_4 : decode cX11_back 4 = .ok (.iload_n 1, 1) := by decide +kernel
theorem dX11_back_5 : decode cX11_back 5 = .ok (.iconst 4, 1) := by decide +kernel
theorem dX11_back_6 : decode cX11_back 6 = .ok (.if_icmp .ge 12, 3) := by decide +kernel
theorem dX11_back_9 : decode cX11_back 9 = .ok (.aload_n 0, 1) := by decide +kernel
theorem dX11_back_10 : decode cX11_back 10 = .ok (.getfield 65, 3) := by decide +kernel
theorem dX11_back_13 : decode cX11_back 13 = .ok (.iload_n 1, 1) := by decide +kernel
theorem dX11_back_14 : decode cX11_back 14 = .ok (.aaload, 1) := by decide +kernel
theorem dX11_back_15 : decode cX11_back 15 = .ok (.ifnonnull 5, 3) := by decide +kernel
theorem dX11_back_18 : decode cX11_back 18 = .ok (.iconst (-1), 1) := by decide +kernel
theorem dX11_back_19 : decode cX11_back 19 = .ok (.ireturn, 1) := by decide +kernel
theorem dX11_back_20 : decode cX11_back 20 = .ok (.aload_n 0, 1) := by decide +kernel
theorem dX11_back_21 : decode cX11_back 21 = .ok (.getfield 47, 3) := by decide +kernel
theorem dX11_back_24 : decode cX11_back 24 = .ok (.aload_n 0, 1) := by decide +kernel
theorem dX11_back_25 : decode cX11_back 25 = .ok (.getfield 65, 3) := by decide +kernel
theorem dX11_back_28 : decode cX11_back 28 = .ok (.iload_n 1, 1) := by decide +kernel
theorem dX11_back_29 : decode cX11_back 29 = .ok (.aaload, 1) := by decide +kernel
theorem dX11_back_30 : decode cX11_back 30 = .ok (.invokevirtual 298, 3) := by decide +kernel
theorem dX11_back_33 : decode cX11_back 33 = .ok (.aload_n 0, 1) := by decide +kernel
theorem dX11_back_34 : decode cX11_back 34 = .ok (.getfield 55, 3) := by decide +kernel
theorem dX11_back_37 : decode cX11_back 37 = .ok (.invokevirtual 155, 3) := by decide +kernel
theorem dX11_back_40 : decode cX11_back 40 = .ok (.ireturn, 1) := by decide +kernel
theorem dX12_init_0 : decode cX12_init 0 = .ok (.aload_n 0, 1) := by decide +kernel
theorem dX12_init_1 : decode cX12_init 1 = .ok (.invokespecial 3, 3) := by decide +kernel
theorem dX12_init_4 : decode cX12_init 4 = .ok (.aload_n 0, 1) := by decide +kernel
theorem dX12_init_5 : decode cX12_init 5 = .ok (.bipush 9, 2) := by decide +kernel
theorem dX12_init_7 : decode cX12_init 7 = .ok (.newarray .int, 2) := by decide +kernel
theorem dX12_init_9 : decode cX12_init 9 = .ok (.dup, 1) := by decide +kernel
theorem dX12_init_10 : decode cX12_init 10 = .ok (.iconst 0, 1) := by decide +kernel
theorem dX12_init_11 : decode cX12_init 11 = .ok (.iconst 0, 1) := by decide +kernel
theorem dX12_init_12 : decode cX12_init 12 = .ok (.iastore, 1) := by decide +kernel
theorem dX12_init_13 : decode cX12_init 13 = .ok (.dup, 1) := by decide +kernel
theorem dX12_init_14 : decode cX12_init 14 = .ok (.iconst 1, 1) := by decide +kernel
theorem dX12_init_15 : decode cX12_init 15 = .ok (.iconst 0, 1) := by decide +kernel
theorem dX12_init_16 : decode cX12_init 16 = .ok (.iastore, 1) := by decide +kernel
theorem dX12_init_17 : decode cX12_init 17 = .ok (.dup, 1) := by decide +kernel
theorem dX12_init_18 : decode cX12_init 18 = .ok (.iconst 2, 1) := by decide +kernel
theorem dX12_init_19 : decode cX12_init 19 = .ok (.iconst 0, 1) := by decide +kernel
theorem dX12_init_20 : decode cX12_init 20 = .ok (.iastore, 1) := by decide +kernel
theorem dX12_init_21 : decode cX12_init 21 = .ok (.dup, 1) := by decide +kernel
theorem dX12_init_22 : decode cX12_init 22 = .ok (.iconst 3, 1) := by decide +kernel
theorem dX12_init_23 : decode cX12_init 23 = .ok (.iconst 0, 1) := by decide +kernel
theorem dX12_init_24 : decode cX12_init 24 = .ok (.iastore, 1) := by decide +kernel
theorem dX12_init_25 : decode cX12_init 25 = .ok (.dup, 1) := by decide +kernel
theorem dX12_init_26 : decode cX12_init 26 = .ok (.iconst 4, 1) := by decide +kernel
theorem dX12_init_27 : decode cX12_init 27 = .ok (.iconst 0, 1) := by decide +kernel
theorem dX12_init_28 : decode cX12_init 28 = .ok (.iastore, 1) := by decide +kernel
theorem dX12_init_29 : decode cX12_init 29 = .ok (.dup, 1) := by decide +kernel
theorem dX12_init_30 : decode cX12_init 30 = .ok (.iconst 5, 1) := by decide +kernel
theorem dX12_init_31 : decode cX12_init 31 = .ok (.iconst 0, 1) := by decide +kernel
theorem dX12_init_32 : decode cX12_init 32 = .ok (.iastore, 1) := by decide +kernel
theorem dX12_init_33 : decode cX12_init 33 = .ok (.dup, 1) := by decide +kernel
theorem dX12_init_34 : decode cX12_init 34 = .ok (.bipush 6, 2) := by decide +kernel
theorem dX12_init_36 : decode cX12_init 36 = .ok (.iconst 0, 1) := by decide +kernel
theorem dX12_init_37 : decode cX12_init 37 = .ok (.iastore, 1) := by decide +kernel
theorem dX12_init_38 : decode cX12_init 38 = .ok (.dup, 1) := by decide +kernel
theorem dX12_init_39 : decode cX12_init 39 = .ok (.bipush 7, 2) := by decide +kernel
theorem dX12_init_41 : decode cX12_init 41 = .ok (.iconst 0, 1) := by decide +kernel
theorem dX12_init_42 : decode cX12_init 42 = .ok (.iastore, 1) := by decide +kernel
theorem dX12_init_43 : decode cX12_init 43 = .ok (.dup, 1) := by decide +kernel
theorem dX12_init_44 : decode cX12_init 44 = .ok (.bipush 8, 2) := by decide +kernel
theorem dX12_init_46 : decode cX12_init 46 = .ok (.iconst (-1), 1) := by decide +kernel
theorem dX12_init_47 : decode cX12_init 47 = .ok (.iastore, 1) := by decide +kernel
theorem dX12_init_48 : decode cX12_init 48 = .ok (.putfield 9, 3) := by decide +kernel
theorem dX12_init_51 : decode cX12_init 51 = .ok (.aload_n 0, 1) := by decide +kernel
theorem dX12_init_52 : decode cX12_init 52 = .ok (.iconst 4, 1) := by decide +kernel
theorem dX12_init_53 : decode cX12_init 53 = .ok (.newarray .int, 2) := by decide +kernel
theorem dX12_init_55 : decode cX12_init 55 = .ok (.putfield 13, 3) := by decide +kernel
theorem dX12_init_58 : decode cX12_init 58 = .ok (.aload_n 0, 1) := by decide +kernel
theorem dX12_init_59 : decode cX12_init 59 = .ok (.iconst 4, 1) := by decide +kernel
theorem dX12_init_60 : decode cX12_init 60 = .ok (.newarray .int, 2) := by decide +kernel
theorem dX12_init_62 : decode cX12_init 62 = .ok (.putfield 16, 3) := by decide +kernel
theorem dX12_init_65 : decode cX12_init 65 = .ok (.aload_n 0, 1) := by decide +kernel
theorem dX12_init_66 : decode cX12_init 66 = .ok (.bipush 16, 2) := by decide +kernel
theorem dX12_init_68 : decode cX12_init 68 = .ok (.newarray .int, 2) := by decide +kernel
theorem dX12_init_70 : decode cX12_init 70 = .ok (.putfield 19, 3) := by decide +kernel
theorem dX12_init_73 : decode cX12_init 73 = .ok (.aload_n 0, 1) := by decide +kernel
theorem dX12_init_74 : decode cX12_init 74 = .ok (.iconst 4, 1) := by decide +kernel
theorem dX12_init_75 : decode cX12_init 75 = .ok (.newarray .int, 2) := by decide +kernel
theorem dX12_init_77 : decode cX12_init 77 = .ok (.putfield 22, 3) := by decide +kernel
theorem dX12_init_80 : decode cX12_init 80 = .ok (.aload_n 0, 1) := by decide +kernel
theorem dX12_init_81 : decode cX12_init 81 = .ok (.iconst 4, 1) := by decide +kernel
theorem dX12_init_82 : decode cX12_init 82 = .ok (.newarray .int, 2) := by decide +kernel
theorem dX12_init_84 : decode cX12_init 84 = .ok (.putfield 25, 3) := by decide +kernel
theorem dX12_init_87 : decode cX12_init 87 = .ok (.aload_n 0, 1) := by decide +kernel
theorem dX12_init_88 : decode cX12_init 88 = .ok (.iconst 4, 1) := by decide +kernel
theorem dX12_init_89 : decode cX12_init 89 = .ok (.newarray .int, 2) := by decide +kernel
theorem dX12_init_91 : decode cX12_init 91 = .ok (.putfield 28, 3) := by decide +kernel
theorem dX12_init_94 : decode cX12_init 94 = .ok (.aload_n 0, 1) := by decide +kernel
theorem dX12_init_95 : decode cX12_init 95 = .ok (.iconst 4, 1) := by decide +kernel
theorem dX12_init_96 : decode cX12_init 96 = .ok (.newarray .int, 2) := by decide +kernel
theorem dX12_init_98 : decode cX12_init 98 = .ok (.putfield 31, 3) := by decide +kernel
theorem dX12_init_101 : decode cX12_init 101 = .ok (.aload_n 0, 1) := by decide +kernel
theorem dX12_init_102 : decode cX12_init 102 = .ok (.bipush 7, 2) := by decide +kernel
theorem dX12_init_104 : decode cX12_init 104 = .ok (.newarray .int, 2) := by decide +kernel
theorem dX12_init_106 : decode cX12_init 106 = .ok (.putfield 34, 3) := by decide +kernel
theorem dX12_init_109 : decode cX12_init 109 = .ok (.aload_n 0, 1) := by decide +kernel
theorem dX12_init_110 : decode cX12_init 110 = .ok (.bipush 7, 2) := by decide +kernel
theorem dX12_init_112 : decode cX12_init 112 = .ok (.newarray .int, 2) := by decide +kernel
theorem dX12_init_114 : decode cX12_init 114 = .ok (.putfield 37, 3) := by decide +kernel
theorem dX12_init_117 : decode cX12_init 117 = .ok (.aload_n 0, 1) := by decide +kernel
theorem dX12_init_118 : decode cX12_init 118 = .ok (.bipush 7, 2) := by decide +kernel
theorem dX12_init_120 : decode cX12_init 120 = .ok (.newarray .int, 2) := by decide +kernel
theorem dX12_init_122 : decode cX12_init 122 = .ok (.putfield 40, 3) := by decide +kernel
theorem dX12_init_125 : decode cX12_init 125 = .ok (.aload_n 0, 1) := by decide +kernel
theorem dX12_init_126 : decode cX12_init 126 = .ok (.bipush 7, 2) := by decide +kernel
theorem dX12_init_128 : decode cX12_init 128 = .ok (.newarray .int, 2) := by decide +kernel
theorem dX12_init_130 : decode cX12_init 130 = .ok (.putfield 43, 3) := by decide +kernel
theorem dX12_init_133 : decode cX12_init 133 = .ok (.aload_n 0, 1) := by decide +kernel
theorem dX12_init_134 : decode cX12_init 134 = .ok (.bipush 7, 2) := by decide +kernel
theorem dX12_init_136 : decode cX12_init 136 = .ok (.newarray .int, 2) := by decide +kernel
theorem dX12_init_138 : decode cX12_init 138 = .ok (.putfield 46, 3) := by decide +kernel
theorem dX12_init_141 : decode cX12_init 141 = .ok (.aload_n 0, 1) := by decide +kernel
theorem dX12_init_142 : decode cX12_init 142 = .ok (.bipush 7, 2) := by decide +kernel
theorem dX12_init_144 : decode cX12_init 144 = .ok (.newarray .int, 2) := by decide +kernel
theorem dX12_init_146 : decode cX12_init 146 = .ok (.putfield 49, 3) := by decide +kernel
theorem dX12_init_149 : decode cX12_init 149 = .ok (.aload_n 0, 1) := by decide +kernel
theorem dX12_init_150 : decode cX12_init 150 = .ok (.bipush 10, 2) := by decide +kernel
theorem dX12_init_152 : decode cX12_init 152 = .ok (.newarray .int, 2) := by decide +kernel
theorem dX12_init_154 : decode cX12_init 154 = .ok (.putfield 52, 3) := by decide +kernel
theorem dX12_init_157 : decode cX12_init 157 = .ok (.aload_n 0, 1) := by decide +kernel
theorem dX12_init_158 : decode cX12_init 158 = .ok (.bipush 10, 2) := by decide +kernel
theorem dX12_init_160 : decode cX12_init 160 = .ok (.newarray .int, 2) := by decide +kernel
theorem dX12_init_162 : decode cX12_init 162 = .ok (.putfield 55, 3) := by decide +kernel
theorem dX12_init_165 : decode cX12_init 165 = .ok (.aload_n 0, 1) := by decide +kernel
theorem dX12_init_166 : decode cX12_init 166 = .ok (.bipush 10, 2) := by decide +kernel
theorem dX12_init_168 : decode cX12_init 168 = .ok (.newarray .int, 2) := by decide +kernel
theorem dX12_init_170 : decode cX12_init 170 = .ok (.putfield 58, 3) := by decide +kernel
theorem dX12_init_173 : decode cX12_init 173 = .ok (.aload_n 0, 1) := by decide +kernel
theorem dX12_init_174 : decode cX12_init 174 = .ok (.iconst 4, 1) := by decide +kernel
theorem dX12_init_175 : decode cX12_init 175 = .ok (.newarray .int, 2) := by decide +kernel
theorem dX12_init_177 : decode cX12_init 177 = .ok (.putfield 61, 3) := by decide +kernel
theorem dX12_init_180 : decode cX12_init 180 = .ok (.aload_n 0, 1) := by decide +kernel
theorem dX12_init_181 : decode cX12_init 181 = .ok (.iconst 5, 1) := by decide +kernel
theorem dX12_init_182 : decode cX12_init 182 = .ok (.newarray .int, 2) := by decide +kernel
theorem dX12_init_184 : decode cX12_init 184 = .ok (.putfield 64, 3) := by decide +kernel
theorem dX12_init_187 : decode cX12_init 187 = .ok (.aload_n 0, 1) := by decide +kernel
theorem dX12_init_188 : decode cX12_init 188 = .ok (.iconst 4, 1) := by decide +kernel
theorem dX12_init_189 : decode cX12_init 189 = .ok (.newarray .int, 2) := by decide +kernel
theorem dX12_init_191 : decode cX12_init 191 = .ok (.putfield 67, 3) := by decide +kernel
theorem dX12_init_194 : decode cX12_init 194 = .ok (.aload_n 0, 1) := by decide +kernel
theorem dX12_init_195 : decode cX12_init 195 = .ok (.iconst 4, 1) := by decide +kernel
theorem dX12_init_196 : decode cX12_init 196 = .ok (.newarray .int, 2) := by decide +kernel
theorem dX12_init_198 : decode cX12_init 198 = .ok (.putfield 70, 3) := by decide +kernel
theorem dX12_init_201 : decode cX12_init 201 = .ok (.aload_n 0, 1) := by decide +kernel
theorem dX12_init_202 : decode cX12_init 202 = .ok (.bipush 16, 2) := by decide +kernel
theorem dX12_init_204 : decode cX12_init 204 = .ok (.newarray .int, 2) := by decide +kernel
theorem dX12_init_206 : decode cX12_init 206 = .ok (.putfield 73, 3) := by decide +kernel
theorem dX12_init_209 : decode cX12_init 209 = .ok (.aload_n 0, 1) := by decide +kernel
theorem dX12_init_210 : decode cX12_init 210 = .ok (.bipush 7, 2) := by decide +kernel
theorem dX12_init_212 : decode cX12_init 212 = .ok (.newarray .int, 2) := by decide +kernel
theorem dX12_init_214 : decode cX12_init 214 = .ok (.putfield 76, 3) := by decide +kernel
theorem dX12_init_217 : decode cX12_init 217 = .ok (.aload_n 0, 1) := by decide +kernel
theorem dX12_init_218 : decode cX12_init 218 = .ok (.bipush 7, 2) := by decide +kernel
theorem dX12_init_220 : decode cX12_init 220 = .ok (.newarray .int, 2) := by decide +kernel
theorem dX12_init_222 : decode cX12_init 222 = .ok (.putfield 79, 3) := by decide +kernel
theorem dX12_init_225 : decode cX12_init 225 = .ok (.aload_n 0, 1) := by decide +kernel
theorem dX12_init_226 : decode cX12_init 226 = .ok (.bipush 7, 2) := by decide +kernel
theorem dX12_init_228 : decode cX12_init 228 = .ok (.newarray .int, 2) := by decide +kernel
theorem dX12_init_230 : decode cX12_init 230 = .ok (.putfield 82, 3) := by decide +kernel
theorem dX12_init_233 : decode cX12_init 233 = .ok (.aload_n 0, 1) := by decide +kernel
theorem dX12_init_234 : decode cX12_init 234 = .ok (.bipush 7, 2) := by decide +kernel
theorem dX12_init_236 : decode cX12_init 236 = .ok (.newarray .int, 2) := by decide +kernel
theorem dX12_init_238 : decode cX12_init 238 = .ok (.putfield 85, 3) := by decide +kernel
theorem dX12_init_241 : decode cX12_init 241 = .ok (.aload_n 0, 1) := by decide +kernel
theorem dX12_init_242 : decode cX12_init 242 = .ok (.bipush 12, 2) := by decide +kernel
theorem dX12_init_244 : decode cX12_init 244 = .ok (.putfield 88, 3) := by decide +kernel
theorem dX12_init_247 : decode cX12_init 247 = .ok (.aload_n 0, 1) := by decide +kernel
theorem dX12_init_248 : decode cX12_init 248 = .ok (.sipush 400, 3) := by decide +kernel
theorem dX12_init_251 : decode cX12_init 251 = .ok (.newarray .byte, 2) := by decide +kernel
theorem dX12_init_253 : decode cX12_init 253 = .ok (.putfield 92, 3) := by decide +kernel
theorem dX12_init_256 : decode cX12_init 256 = .ok (.aload_n 0, 1) := by decide +kernel
theorem dX12_init_257 : decode cX12_init 257 = .ok (.sipush 1800, 3) := by decide +kernel
theorem dX12_init_260 : decode cX12_init 260 = .ok (.newarray .int, 2) := by decide +kernel
theorem dX12_init_262 : decode cX12_init 262 = .ok (.putfield 96, 3) := by decide +kernel
theorem dX12_init_265 : decode cX12_init 265 = .ok (.aload_n 0, 1) := by decide +kernel
theorem dX12_init_266 : decode cX12_init 266 = .ok (.sipush 1800, 3) := by decide +kernel
theorem dX12_init_269 : decode cX12_init 269 = .ok (.newarray .int, 2) := by decide +kernel
theorem dX12_init_271 : decode cX12_init 271 = .ok (.putfield 99, 3) := by decide +kernel
theorem dX12_init_274 : decode cX12_init 274 = .ok (.aload_n 0, 1) := by decide +kernel
theorem dX12_init_275 : decode cX12_init 275 = .ok (.bipush 6, 2) := by decide +kernel
theorem dX12_init_277 : decode cX12_init 277 = .ok (.newarray .int, 2) := by decide +kernel
theorem dX12_init_279 : decode cX12_init 279 = .ok (.putfield 102, 3) := by decide +kernel
theorem dX12_init_282 : decode cX12_init 282 = .ok (.aload_n 0, 1) := by decide +kernel
theorem dX12_init_283 : decode cX12_init 283 = .ok (.bipush 72, 2) := by decide +kernel
theorem dX12_init_285 : decode cX12_init 285 = .ok (.newarray .int, 2) := by decide +kernel
theorem dX12_init_287 : decode cX12_init 287 = .ok (.putfield 105, 3) := by decide +kernel
theorem dX12_init_290 : decode cX12_init 290 = .ok (.aload_n 0, 1) := by decide +kernel
theorem dX12_init_291 : decode cX12_init 291 = .ok (.bipush 72, 2) := by decide +kernel
theorem dX12_init_293 : decode cX12_init 293 = .ok (.newarray .int, 2) := by decide +kernel
theorem dX12_init_295 : decode cX12_init 295 = .ok (.putfield 108, 3) := by decide +kernel
theorem dX12_init_298 : decode cX12_init 298 = .ok (.aload_n 0, 1) := by decide +kernel
theorem dX12_init_299 : decode cX12_init 299 = .ok (.bipush 72, 2) := by decide +kernel
theorem dX12_init_301 : decode cX12_init 301 = .ok (.newarray .int, 2) := by decide +kernel
theorem dX12_init_303 : decode cX12_init 303 = .ok (.putfield 111, 3) := by decide +kernel
theorem dX12_init_306 : decode cX12_init 306 = .ok (.aload_n 0, 1) := by decide +kernel
theorem dX12_init_307 : decode cX12_init 307 = .ok (.sipush 402, 3) := by decide +kernel
theorem dX12_init_310 : decode cX12_init 310 = .ok (.newarray .int, 2) := by decide +kernel
theorem dX12_init_312 : decode cX12_init 312 = .ok (.putfield 114, 3) := by decide +kernel
theorem dX12_init_315 : decode cX12_init 315 = .ok (.aload_n 0, 1) := by decide +kernel
theorem dX12_init_316 : decode cX12_init 316 = .ok (.bipush 12, 2) := by decide +kernel
theorem dX12_init_318 : decode cX12_init 318 = .ok (.newarray .long, 2) := by decide +kernel
theorem dX12_init_320 : decode cX12_init 320 = .ok (.putfield 117, 3) := by decide +kernel
theorem dX12_init_323 : decode cX12_init 323 = .ok (.aload_n 0, 1) := by decide +kernel
theorem dX12_init_324 : decode cX12_init 324 = .ok (.sipush 300, 3) := by decide +kernel
theorem dX12_init_327 : decode cX12_init 327 = .ok (.newarray .long, 2) := by decide +kernel
theorem dX12_init_329 : decode cX12_init 329 = .ok (.putfield 121, 3) := by decide +kernel
theorem dX12_init_332 : decode cX12_init 332 = .ok (.aload_n 0, 1) := by decide +kernel
theorem dX12_init_333 : decode cX12_init 333 = .ok (.sipush 700, 3) := by decide +kernel
theorem dX12_init_336 : decode cX12_init 336 = .ok (.newarray .int, 2) := by decide +kernel
theorem dX12_init_338 : decode cX12_init 338 = .ok (.putfield 124, 3) := by decide +kernel
theorem dX12_init_341 : decode cX12_init 341 = .ok (.aload_n 0, 1) := by decide +kernel
theorem dX12_init_342 : decode cX12_init 342 = .ok (.iconst 1, 1) := by decide +kernel
theorem dX12_init_343 : decode cX12_init 343 = .ok (.newarray .int, 2) := by decide +kernel
theorem dX12_init_345 : decode cX12_init 345 = .ok (.putfield 127, 3) := by decide +kernel
theorem dX12_init_348 : decode cX12_init 348 = .ok (.aload_n 0, 1) := by decide +kernel
theorem dX12_init_349 : decode cX12_init 349 = .ok (.iconst 4, 1) := by decide +kernel
theorem dX12_init_350 : decode cX12_init 350 = .ok (.newarray .int, 2) := by decide +kernel
theorem dX12_init_352 : decode cX12_init 352 = .ok (.putfield 130, 3) := by decide +kernel
theorem dX12_init_355 : decode cX12_init 355 = .ok (.aload_n 0, 1) := by decide +kernel
theorem dX12_init_356 : decode cX12_init 356 = .ok (.iconst 4, 1) := by decide +kernel
theorem dX12_init_357 : decode cX12_init 357 = .ok (.newarray .int, 2) := by decide +kernel
theorem dX12_init_359 : decode cX12_init 359 = .ok (.putfield 133, 3) := by decide +kernel
theorem dX12_init_362 : decode cX12_init 362 = .ok (.aload_n 0, 1) := by decide +kernel
theorem dX12_init_363 : decode cX12_init 363 = .ok (.iconst 4, 1) := by decide +kernel
theorem dX12_init_364 : decode cX12_init 364 = .ok (.newarray .int, 2) := by decide +kernel
theorem dX12_init_366 : decode cX12_init 366 = .ok (.putfield 136, 3) := by decide +kernel
theorem dX12_init_369 : decode cX12_init 369 = .ok (.aload_n 0, 1) := by decide +kernel
theorem dX12_init_370 : decode cX12_init 370 = .ok (.bipush 7, 2) := by decide +kernel
theorem dX12_init_372 : decode cX12_init 372 = .ok (.newarray .int, 2) := by decide +kernel
theorem dX12_init_374 : decode cX12_init 374 = .ok (.putfield 139, 3) := by decide +kernel
theorem dX12_init_377 : decode cX12_init 377 = .ok (.aload_n 0, 1) := by decide +kernel
theorem dX12_init_378 : decode cX12_init 378 = .ok (.bipush 35, 2) := by decide +kernel
theorem dX12_init_380 : decode cX12_init 380 = .ok (.newarray .int, 2) := by decide +kernel
theorem dX12_init_382 : decode cX12_init 382 = .ok (.putfield 142, 3) := by decide +kernel
theorem dX12_init_385 : decode cX12_init 385 = .ok (.aload_n 0, 1) := by decide +kernel
theorem dX12_init_386 : decode cX12_init 386 = .ok (.sipush 4500, 3) := by decide +kernel
theorem dX12_init_389 : decode cX12_init 389 = .ok (.newarray .int, 2) := by decide +kernel
theorem dX12_init_391 : decode cX12_init 391 = .ok (.putfield 145, 3) := by decide +kernel
theorem dX12_init_394 : decode cX12_init 394 = .ok (.aload_n 0, 1) := by decide +kernel
theorem dX12_init_395 : decode cX12_init 395 = .ok (.iconst 4, 1) := by decide +kernel
theorem dX12_init_396 : decode cX12_init 396 = .ok (.newarray .boolean, 2) := by decide +kernel
theorem dX12_init_398 : decode cX12_init 398 = .ok (.putfield 148, 3) := by decide +kernel
theorem dX12_init_401 : decode cX12_init 401 = .ok (.return_, 1) := by decide +kernel
theorem dX12_in_0 : decode cX12_in 0 = .ok (.lload_n 0, 1) := by decide +kernel
theorem dX12_in_1 : decode cX12_in 1 = .ok (.lload_n 2, 1) := by decide +kernel
theorem dX12_in_2 : decode cX12_in 2 = .ok (.lcmp, 1) := by decide +kernel
theorem dX12_in_3 : decode cX12_in 3 = .ok (.ifCond .lt 14, 3) := by decide +kernel
theorem dX12_in_6 : decode cX12_in 6 = .ok (.lload_n 0, 1) := by decide +kernel
theorem dX12_in_7 : decode cX12_in 7 = .ok (.lload 4, 2) := by decide +kernel
theorem dX12_in_9 : decode cX12_in 9 = .ok (.lcmp, 1) := by decide +kernel
theorem dX12_in_10 : decode cX12_in 10 = .ok (.ifCond .gt 7, 3) := by decide +kernel
theorem dX12_in_13 : decode cX12_in 13 = .ok (.iconst 1, 1) := by decide +kernel
theorem dX12_in_14 : decode cX12_in 14 = .ok (.goto 4, 3) := by decide +kernel
theorem dX12_in_17 : decode cX12_in 17 = .ok (.iconst 0, 1) := by decide +kernel
theorem dX12_in_18 : decode cX12_in 18 = .ok (.ireturn, 1) := by decide +kernel
theorem dX12_has_0 : decode cX12_has 0 = .ok (.iload_n 0, 1) := by decide +kernel
theorem dX12_has_1 : decode cX12_has 1 = .ok (.iload_n 1, 1) := by decide +kernel
theorem dX12_has_2 : decode cX12_has 2 = .ok (.ishr, 1) := by decide +kernel
theorem dX12_has_3 : decode cX12_has 3 = .ok (.iconst 1, 1) := by decide +kernel
theorem dX12_has_4 : decode cX12_has 4 = .ok (.iand, 1) := by decide +kernel
theorem dX12_has_5 : decode cX12_has 5 = .ok (.iconst 1, 1) := by decide +kernel
theorem dX12_has_6 : decode cX12_has 6 = .ok (.if_icmp .ne 7, 3) := by decide +kernel
theorem dX12_has_9 : decode cX12_has 9 = .ok (.iconst 1, 1) := by decide +kernel
theorem dX12_has_10 : decode cX12_has 10 = .ok (.goto 4, 3) := by decide +kernel
theorem dX12_has_13 : decode cX12_has 13 = .ok (.iconst 0, 1) := by decide +kernel
theorem dX12_has_14 : decode cX12_has 14 = .ok (.ireturn, 1) := by decide +kernel
theorem dX12_isHall_0 : decode cX12_isHall 0 = .ok (.aload_n 0, 1) := by decide +kernel
theorem dX12_isHall_1 : decode cX12_isHall 1 = .ok (.getfield 9, 3) := by decide +kernel
theorem dX12_isHall_4 : decode cX12_isHall 4 = .ok (.iconst 0, 1) := by decide +kernel
theorem dX12_isHall_5 : decode cX12_isHall 5 = .ok (.iaload, 1) := by decide +kernel
theorem dX12_isHall_6 : decode cX12_isHall 6 = .ok (.ifCond .le 7, 3) := by decide +kernel
theorem dX12_isHall_9 : decode cX12_isHall 9 = .ok (.iconst 1, 1) := by decide +kernel
theorem dX12_isHall_10 : decode cX12_isHall 10 = .ok (.goto 4, 3) := by decide +kernel
theorem dX12_isHall_13 : decode cX12_isHall 13 = .ok (.iconst 0, 1) := by decide +kernel
theorem dX12_isHall_14 : decode cX12_isHall 14 = .ok (.ireturn, 1) := by decide +kernel
theorem dX12_isSort_0 : decode cX12_isSort 0 = .ok (.iload_n 1, 1) := by decide +kernel
theorem dX12_isSort_1 : decode cX12_isSort 1 = .ok (.i2l, 1) := by decide +kernel
theorem dX12_isSort_2 : decode cX12_isSort 2 = .ok (.lconst 0, 1) := by decide +kernel
theorem dX12_isSort_3 : decode cX12_isSort 3 = .ok (.aload_n 0, 1) := by decide +kernel
theorem dX12_isSort_4 : decode cX12_isSort 4 = .ok (.getfield 9, 3) := by decide +kernel
theorem dX12_isSort_7 : decode cX12_isSort 7 = .ok (.iconst 2, 1) := by decide +kernel
theorem dX12_isSort_8 : decode cX12_isSort 8 = .ok (.iaload, 1) := by decide +kernel
theorem dX12_isSort_9 : decode cX12_isSort 9 = .ok (.iconst 1, 1) := by decide +kernel
theorem dX12_isSort_10 : decode cX12_isSort 10 = .ok (.isub, 1) := by decide +kernel
theorem dX12_isSort_11 : decode cX12_isSort 11 = .ok (.i2l, 1) := by decide +kernel
theorem dX12_isSort_12 : decode cX12_isSort 12 = .ok (.invokestatic 155, 3) := by decide +kernel
theorem dX12_isSort_15 : decode cX12_isSort 15 = .ok (.ireturn, 1) := by decide +kernel
theorem dX12_isMender_0 : decode cX12_isMender 0 = .ok (.iload_n 1, 1) := by decide +kernel
theorem dX12_isMender_1 : decode cX12_isMender 1 = .ok (.i2l, 1) := by decide +kernel
theorem dX12_isMender_2 : decode cX12_isMender 2 = .ok (.lconst 0, 1) := by decide +kernel
theorem dX12_isMender_3 : decode cX12_isMender 3 = .ok (.aload_n 0, 1) := by decide +kernel
theorem dX12_isMender_4 : decode cX12_isMender 4 = .ok (.getfield 9, 3) := by decide +kernel
theorem dX12_isMender_7 : decode cX12_isMender 7 = .ok (.iconst 3, 1) := by decide +kernel
theorem dX12_isMender_8 : decode cX12_isMender 8 = .ok (.iaload, 1) := by decide +kernel
theorem dX12_isMender_9 : decode cX12_isMender 9 = .ok (.iconst 1, 1) := by decide +kernel
theorem dX12_isMender_10 : decode cX12_isMender 10 = .ok (.isub, 1) := by decide +kernel
theorem dX12_isMender_11 : decode cX12_isMender 11 = .ok (.i2l, 1) := by decide +kernel
theorem dX12_isMender_12 : decode cX12_isMender 12 = .ok (.invokestatic 155, 3) := by decide +kernel
theorem dX12_isMender_15 : decode cX12_isMender 15 = .ok (.ireturn, 1) := by decide +kernel
theorem dX12_isThing_0 : decode cX12_isThing 0 = .ok (.iload_n 1, 1) := by decide +kernel
theorem dX12_isThing_1 : decode cX12_isThing 1 = .ok (.i2l, 1) := by decide +kernel
theorem dX12_isThing_2 : decode cX12_isThing 2 = .ok (.lconst 0, 1) := by decide +kernel
theorem dX12_isThing_3 : decode cX12_isThing 3 = .ok (.aload_n 0, 1) := by decide +kernel
theorem dX12_isThing_4 : decode cX12_isThing 4 = .ok (.getfield 9, 3) := by decide +kernel
theorem dX12_isThing_7 : decode cX12_isThing 7 = .ok (.iconst 4, 1) := by decide +kernel
theorem dX12_isThing_8 : decode cX12_isThing 8 = .ok (.iaload, 1) := by decide +kernel
theorem dX12_isThing_9 : decode cX12_isThing 9 = .ok (.iconst 1, 1) := by decide +kernel
theorem dX12_isThing_10 : decode cX12_isThing 10 = .ok (.isub, 1) := by decide +kernel
theorem dX12_isThing_11 : decode cX12_isThing 11 = .ok (.i2l, 1) := by decide +kernel
theorem dX12_isThing_12 : decode cX12_isThing 12 = .ok (.invokestatic 155, 3) := by decide +kernel
theorem dX12_isThing_15 : decode cX12_isThing 15 = .ok (.ireturn, 1) := by decide +kernel
theorem dX12_feed_0 : decode cX12_feed 0 = .ok (.aload_n 0, 1) := by decide +kernel
theorem dX12_feed_1 : decode cX12_feed 1 = .ok (.getfield 159, 3) := by decide +kernel
theorem dX12_feed_4 : decode cX12_feed 4 = .ok (.bipush 20, 2) := by decide +kernel
theorem dX12_feed_6 : decode cX12_feed 6 = .ok (.iadd, 1) := by decide +kernel
theorem dX12_feed_7 : decode cX12_feed 7 = .ok (.sipush 400, 3) := by decide +kernel
theorem dX12_feed_10 : decode cX12_feed 10 = .ok (.if_icmp .le 5, 3) := by decide +kernel
theorem dX12_feed_13 : decode cX12_feed 13 = .ok (.iconst (-1), 1) := by decide +kernel
theorem dX12_feed_14 : decode cX12_feed 14 = .ok (.ireturn, 1) := by decide +kernel
theorem dX12_feed_15 : decode cX12_feed 15 = .ok (.aload_n 0, 1) := by decide +kernel
theorem dX12_feed_16 : decode cX12_feed 16 = .ok (.iload_n 1, 1) := by decide +kernel
theorem dX12_feed_17 : decode cX12_feed 17 = .ok (.invokevirtual 162, 3) := by decide +kernel
theorem dX12_feed_20 : decode cX12_feed 20 = .ok (.aload_n 0, 1) := by decide +kernel
theorem dX12_feed_21 : decode cX12_feed 21 = .ok (.iload_n 2, 1) := by decide +kernel
theorem dX12_feed_22 : decode cX12_feed 22 = .ok (.invokevirtual 162, 3) := by decide +kernel
theorem dX12_feed_25 : decode cX12_feed 25 = .ok (.aload_n 0, 1) := by decide +kernel
theorem dX12_feed_26 : decode cX12_feed 26 = .ok (.iload_n 3, 1) := by decide +kernel
theorem dX12_feed_27 : decode cX12_feed 27 = .ok (.invokevirtual 162, 3) := by decide +kernel
theorem dX12_feed_30 : decode cX12_feed 30 = .ok (.aload_n 0, 1) := by decide +kernel
theorem dX12_feed_31 : decode cX12_feed 31 = .ok (.iload 4, 2) := by decide +kernel
theorem dX12_feed_33 : decode cX12_feed 33 = .ok (.invokevirtual 162, 3) := by decide +kernel
theorem dX12_feed_36 : decode cX12_feed 36 = .ok (.aload_n 0, 1) := by decide +kernel
theorem dX12_feed_37 : decode cX12_feed 37 = .ok (.iload 5, 2) := by decide +kernel
theorem dX12_feed_39 : decode cX12_feed 39 = .ok (.invokevirtual 162, 3) := by decide +kernel
theorem dX12_feed_42 : decode cX12_feed 42 = .ok (.aload_n 0, 1) := by decide +kernel
theorem dX12_feed_43 : decode cX12_feed 43 = .ok (.getfield 159, 3) := by decide +kernel
theorem dX12_feed_46 : decode cX12_feed 46 = .ok (.ireturn, 1) := by decide +kernel
theorem dX12_put_0 : decode cX12_put 0 = .ok (.bipush 24, 2) := by decide +kernel
theorem dX12_put_2 : decode cX12_put 2 = .ok (.istore_n 2, 1) := by decide +kernel
theorem dX12_put_3 : decode cX12_put 3 = .ok (.iload_n 2, 1) := by decide +kernel
theorem dX12_put_4 : decode cX12_put 4 = .ok (.ifCond .lt 32, 3) := by decide +kernel
theorem dX12_put_7 : decode cX12_put 7 = .ok (.aload_n 0, 1) := by decide +kernel
theorem dX12_put_8 : decode cX12_put 8 = .ok (.getfield 92, 3) := by decide +kernel
theorem dX12_put_11 : decode cX12_put 11 = .ok (.aload_n 0, 1) := by decide +kernel
theorem dX12_put_12 : decode cX12_put 12 = .ok (.getfield 159, 3) := by decide +kernel
theorem dX12_put_15 : decode cX12_put 15 = .ok (.iload_n 1, 1) := by decide +kernel
theorem dX12_put_16 : decode cX12_put 16 = .ok (.iload_n 2, 1) := by decide +kernel
theorem dX12_put_17 : decode cX12_put 17 = .ok (.ishr, 1) := by decide +kernel
theorem dX12_put_18 : decode cX12_put 18 = .ok (.i2b, 1) := by decide +kernel
theorem dX12_put_19 : decode cX12_put 19 = .ok (.bastore, 1) := by decide +kernel
theorem dX12_put_20 : decode cX12_put 20 = .ok (.aload_n 0, 1) := by decide +kernel
theorem dX12_put_21 : decode cX12_put 21 = .ok (.dup, 1) := by decide +kernel
theorem dX12_put_22 : decode cX12_put 22 = .ok (.getfield 159, 3) := by decide +kernel
theorem dX12_put_25 : decode cX12_put 25 = .ok (.iconst 1, 1) := by decide +kernel
theorem dX12_put_26 : decode cX12_put 26 = .ok (.iadd, 1) := by decide +kernel
theorem dX12_put_27 : decode cX12_put 27 = .ok (.putfield 159, 3) := by decide +kernel
theorem dX12_put_30 : decode cX12_put 30 = .ok (.iinc 2 (-8), 3) := by decide +kernel
theorem dX12_put_33 : decode cX12_put 33 = .ok (.goto (-30), 3) := by decide +kernel
theorem dX12_put_36 : decode cX12_put 36 = .ok (.return_, 1) := by decide +kernel
theorem dX12_end_0 : decode cX12_end 0 = .ok (.iload_n 1, 1) := by decide +kernel
theorem dX12_end_1 : decode cX12_end 1 = .ok (.ifCond .lt 11, 3) := by decide +kernel
theorem dX12_end_4 : decode cX12_end 4 = .ok (.iload_n 1, 1) := by decide +kernel
theorem dX12_end_5 : decode cX12_end 5 = .ok (.aload_n 0, 1) := by decide +kernel
theorem dX12_end_6 : decode cX12_end 6 = .ok (.getfield 159, 3) := by decide +kernel
theorem dX12_end_9 : decode cX12_end 9 = .ok (.if_icmp .le 5, 3) := by decide +kernel
theorem dX12_end_12 : decode cX12_end 12 = .ok (.iconst (-1), 1) := by decide +kernel
theorem dX12_end_13 : decode cX12_end 13 = .ok (.ireturn, 1) := by decide +kernel
theorem dX12_end_14 : decode cX12_end 14 = .ok (.aload_n 0, 1) := by decide +kernel
theorem dX12_end_15 : decode cX12_end 15 = .ok (.iload_n 1, 1) := by decide +kernel
theorem dX12_end_16 : decode cX12_end 16 = .ok (.putfield 159, 3) := by decide +kernel
theorem dX12_end_19 : decode cX12_end 19 = .ok (.iload_n 1, 1) := by decide +kernel
theorem dX12_end_20 : decode cX12_end 20 = .ok (.ireturn, 1) := by decide +kernel
theorem dX12_wordOf_0 : decode cX12_wordOf 0 = .ok (.iload_n 0, 1) := by decide +kernel
theorem dX12_wordOf_1 : decode cX12_wordOf 1 = .ok (.tableswitch 92 0 10 #[59, 62, 65, 68, 71, 74, 77, 80, 83, 86, 89], 59) := by decide +kernel
theorem dX12_wordOf_60 : decode cX12_wordOf 60 = .ok (.ldc 166, 2) := by decide +kernel
theorem dX12_wordOf_62 : decode cX12_wordOf 62 = .ok (.areturn, 1) := by decide +kernel
theorem dX12_wordOf_63 : decode cX12_wordOf 63 = .ok (.ldc 168, 2) := by decide +kernel
theorem dX12_wordOf_65 : decode cX12_wordOf 65 = .ok (.areturn, 1) := by decide +kernel
theorem dX12_wordOf_66 : decode cX12_wordOf 66 = .ok (.ldc 170, 2) := by decide +kernel
theorem dX12_wordOf_68 : decode cX12_wordOf 68 = .ok (.areturn, 1) := by decide +kernel
theorem dX12_wordOf_69 : decode cX12_wordOf 69 = .ok (.ldc 171, 2) := by decide +kernel
theorem dX12_wordOf_71 : decode cX12_wordOf 71 = .ok (.areturn, 1) := by decide +kernel
theorem dX12_wordOf_72 : decode cX12_wordOf 72 = .ok (.ldc 173, 2) := by decide +kernel
theorem dX12_wordOf_74 : decode cX12_wordOf 74 = .ok (.areturn, 1) := by decide +kernel
theorem dX12_wordOf_75 : decode cX12_wordOf 75 = .ok (.ldc 175, 2) := by decide +kernel
theorem dX12_wordOf_77 : decode cX12_wordOf 77 = .ok (.areturn, 1) := by decide +kernel
theorem dX12_wordOf_78 : decode cX12_wordOf 78 = .ok (.ldc 177, 2) := by decide +kernel
theorem dX12_wordOf_80 : decode cX12_wordOf 80 = .ok (.areturn, 1) := by decide +kernel
theorem dX12_wordOf_81 : decode cX12_wordOf 81 = .ok (.ldc 178, 2) := by decide +kernel
theorem dX12_wordOf_83 : decode cX12_wordOf 83 = .ok (.areturn, 1) := by decide +kernel
theorem dX12_wordOf_84 : decode cX12_wordOf 84 = .ok (.ldc 179, 2) := by decide +kernel
theorem dX12_wordOf_86 : decode cX12_wordOf 86 = .ok (.areturn, 1) := by decide +kernel
theorem dX12_wordOf_87 : decode cX12_wordOf 87 = .ok (.ldc 181, 2) := by decide +kernel
theorem dX12_wordOf_89 : decode cX12_wordOf 89 = .ok (.areturn, 1) := by decide +kernel
theorem dX12_wordOf_90 : decode cX12_wordOf 90 = .ok (.ldc 183, 2) := by decide +kernel
theorem dX12_wordOf_92 : decode cX12_wordOf 92 = .ok (.areturn, 1) := by decide +kernel
theorem dX12_wordOf_93 : decode cX12_wordOf 93 = .ok (.ldc 185, 2) := by decide +kernel
theorem dX12_wordOf_95 : decode cX12_wordOf 95 = .ok (.areturn, 1) := by decide +kernel
theorem dX12_fails_0 : decode cX12_fails 0 = .ok (.aload_n 0, 1) := by decide +kernel
theorem dX12_fails_1 : decode cX12_fails 1 = .ok (.aload_n 0, 1) := by decide +kernel
theorem dX12_fails_2 : decode cX12_fails 2 = .ok (.getfield 187, 3) := by decide +kernel
theorem dX12_fails_5 : decode cX12_fails 5 = .ok (.ifCond .ne 14, 3) := by decide +kernel
theorem dX12_fails_8 : decode cX12_fails 8 = .ok (.iconst 1, 1) := by decide +kernel
theorem dX12_fails_9 : decode cX12_fails 9 = .ok (.bipush 8, 2) := by decide +kernel
theorem dX12_fails_11 : decode cX12_fails 11 = .ok (.iload_n 2, 1) := by decide +kernel
theorem dX12_fails_12 : decode cX12_fails 12 = .ok (.imul, 1) := by decide +kernel
theorem dX12_fails_13 : decode cX12_fails 13 = .ok (.iadd, 1) := by decide +kernel
theorem dX12_fails_14 : decode cX12_fails 14 = .ok (.iload_n 1, 1) := by decide +kernel
theorem dX12_fails_15 : decode cX12_fails 15 = .ok (.iadd, 1) := by decide +kernel
theorem dX12_fails_16 : decode cX12_fails 16 = .ok (.goto 7, 3) := by decide +kernel
theorem dX12_fails_19 : decode cX12_fails 19 = .ok (.aload_n 0, 1) := by decide +kernel
theorem dX12_fails_20 : decode cX12_fails 20 = .ok (.getfield 187, 3) := by decide +kernel
theorem dX12_fails_23 : decode cX12_fails 23 = .ok (.putfield 187, 3) := by decide +kernel
theorem dX12_fails_26 : decode cX12_fails 26 = .ok (.return_, 1) := by decide +kernel
theorem dX12_sign_0 : decode cX12_sign 0 = .ok (.aload_n 0, 1) := by decide +kernel
theorem dX12_sign_1 : decode cX12_sign 1 = .ok (.getfield 190, 3) := by decide +kernel
theorem dX12_sign_4 : decode cX12_sign 4 = .ok (.aload_n 0, 1) := by decide +kernel
theorem dX12_sign_5 : decode cX12_sign 5 = .ok (.getfield 159, 3) := by decide +kernel
theorem dX12_sign_8 : decode cX12_sign 8 = .ok (.if_icmp .ge 19, 3) := by decide +kernel
theorem dX12_sign_11 : decode cX12_sign 11 = .ok (.aload_n 0, 1) := by decide +kernel
theorem dX12_sign_12 : decode cX12_sign 12 = .ok (.getfield 92, 3) := by decide +kernel
theorem dX12_sign_15 : decode cX12_sign 15 = .ok (.aload_n 0, 1) := by decide +kernel
theorem dX12_sign_16 : decode cX12_sign 16 = .ok (.getfield 190, 3) := by decide +kernel
theorem dX12_sign_19 : decode cX12_sign 19 = .ok (.baload, 1) := by decide +kernel
theorem dX12_sign_20 : decode cX12_sign 20 = .ok (.sipush 255, 3) := by decide +kernel
theorem dX12_sign_23 : decode cX12_sign 23 = .ok (.iand, 1) := by decide +kernel
theorem dX12_sign_24 : decode cX12_sign 24 = .ok (.goto 4, 3) := by decide +kernel
theorem dX12_sign_27 : decode cX12_sign 27 = .ok (.iconst (-1), 1) := by decide +kernel
theorem dX12_sign_28 : decode cX12_sign 28 = .ok (.ireturn, 1) := by decide +kernel
theorem dX12_blanks_0 : decode cX12_blanks 0 = .ok (.aload_n 0, 1) := by decide +kernel
theorem dX12_blanks_1 : decode cX12_blanks 1 = .ok (.invokevirtual 193, 3) := by decide +kernel
theorem dX12_blanks_4 : decode cX12_blanks 4 = .ok (.bipush 32, 2) := by decide +kernel
theorem dX12_blanks_6 : decode cX12_blanks 6 = .ok (.if_icmp .ne 16, 3) := by decide +kernel
theorem dX12_blanks_9 : decode cX12_blanks 9 = .ok (.aload_n 0, 1) := by decide +kernel
theorem dX12_blanks_10 : decode cX12_blanks 10 = .ok (.dup, 1) := by decide +kernel
theorem dX12_blanks_11 : decode cX12_blanks 11 = .ok (.getfield 190, 3) := by decide +kernel
theorem dX12_blanks_14 : decode cX12_blanks 14 = .ok (.iconst 1, 1) := by decide +kernel
theorem dX12_blanks_15 : decode cX12_blanks 15 = .ok (.iadd, 1) := by decide +kernel
