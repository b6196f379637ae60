theorem dX12_blanks_16 : decode cX12_blanks 16 = .ok (.putfield 190, 3) := by decide +kernel
theorem dX12_blanks_19 : decode cX12_blanks 19 = .ok (.goto (-19), 3) := by decide +kernel
theorem dX12_blanks_22 : decode cX12_blanks 22 = .ok (.return_, 1) := by decide +kernel
theorem dX12_isDigit_0 : decode cX12_isDigit 0 = .ok (.aload_n 0, 1) := by decide +kernel
theorem dX12_isDigit_1 : decode cX12_isDigit 1 = .ok (.invokevirtual 193, 3) := by decide +kernel
theorem dX12_isDigit_4 : decode cX12_isDigit 4 = .ok (.i2l, 1) := by decide +kernel
theorem dX12_isDigit_5 : decode cX12_isDigit 5 = .ok (.ldc2_w 197, 3) := by decide +kernel
theorem dX12_isDigit_8 : decode cX12_isDigit 8 = .ok (.ldc2_w 199, 3) := by decide +kernel
theorem dX12_isDigit_11 : decode cX12_isDigit 11 = .ok (.invokestatic 155, 3) := by decide +kernel
theorem dX12_isDigit_14 : decode cX12_isDigit 14 = .ok (.ireturn, 1) := by decide +kernel
theorem dX12_stood_0 : decode cX12_stood 0 = .ok (.aload_n 0, 1) := by decide +kernel
theorem dX12_stood_1 : decode cX12_stood 1 = .ok (.getfield 190, 3) := by decide +kernel
theorem dX12_stood_4 : decode cX12_stood 4 = .ok (.istore_n 2, 1) := by decide +kernel
theorem dX12_stood_5 : decode cX12_stood 5 = .ok (.iload_n 2, 1) := by decide +kernel
theorem dX12_stood_6 : decode cX12_stood 6 = .ok (.aload_n 0, 1) := by decide +kernel
theorem dX12_stood_7 : decode cX12_stood 7 = .ok (.getfield 159, 3) := by decide +kernel
theorem dX12_stood_10 : decode cX12_stood 10 = .ok (.if_icmp .ge 31, 3) := by decide +kernel
theorem dX12_stood_13 : decode cX12_stood 13 = .ok (.aload_n 0, 1) := by decide +kernel
theorem dX12_stood_14 : decode cX12_stood 14 = .ok (.getfield 92, 3) := by decide +kernel
theorem dX12_stood_17 : decode cX12_stood 17 = .ok (.iload_n 2, 1) := by decide +kernel
theorem dX12_stood_18 : decode cX12_stood 18 = .ok (.baload, 1) := by decide +kernel
theorem dX12_stood_19 : decode cX12_stood 19 = .ok (.bipush 97, 2) := by decide +kernel
theorem dX12_stood_21 : decode cX12_stood 21 = .ok (.if_icmp .lt 20, 3) := by decide +kernel
theorem dX12_stood_24 : decode cX12_stood 24 = .ok (.aload_n 0, 1) := by decide +kernel
theorem dX12_stood_25 : decode cX12_stood 25 = .ok (.getfield 92, 3) := by decide +kernel
theorem dX12_stood_28 : decode cX12_stood 28 = .ok (.iload_n 2, 1) := by decide +kernel
theorem dX12_stood_29 : decode cX12_stood 29 = .ok (.baload, 1) := by decide +kernel
theorem dX12_stood_30 : decode cX12_stood 30 = .ok (.bipush 122, 2) := by decide +kernel
theorem dX12_stood_32 : decode cX12_stood 32 = .ok (.if_icmp .gt 9, 3) := by decide +kernel
theorem dX12_stood_35 : decode cX12_stood 35 = .ok (.iinc 2 1, 3) := by decide +kernel
theorem dX12_stood_38 : decode cX12_stood 38 = .ok (.goto (-33), 3) := by decide +kernel
theorem dX12_stood_41 : decode cX12_stood 41 = .ok (.iload_n 2, 1) := by decide +kernel
theorem dX12_stood_42 : decode cX12_stood 42 = .ok (.aload_n 0, 1) := by decide +kernel
theorem dX12_stood_43 : decode cX12_stood 43 = .ok (.getfield 190, 3) := by decide +kernel
theorem dX12_stood_46 : decode cX12_stood 46 = .ok (.isub, 1) := by decide +kernel
theorem dX12_stood_47 : decode cX12_stood 47 = .ok (.aload_n 1, 1) := by decide +kernel
theorem dX12_stood_48 : decode cX12_stood 48 = .ok (.invokevirtual 201, 3) := by decide +kernel
theorem dX12_stood_51 : decode cX12_stood 51 = .ok (.if_icmp .ne 7, 3) := by decide +kernel
theorem dX12_stood_54 : decode cX12_stood 54 = .ok (.iconst 1, 1) := by decide +kernel
theorem dX12_stood_55 : decode cX12_stood 55 = .ok (.goto 4, 3) := by decide +kernel
theorem dX12_stood_58 : decode cX12_stood 58 = .ok (.iconst 0, 1) := by decide +kernel
theorem dX12_stood_59 : decode cX12_stood 59 = .ok (.istore_n 3, 1) := by decide +kernel
theorem dX12_stood_60 : decode cX12_stood 60 = .ok (.iconst 0, 1) := by decide +kernel
theorem dX12_stood_61 : decode cX12_stood 61 = .ok (.istore 4, 2) := by decide +kernel
theorem dX12_stood_63 : decode cX12_stood 63 = .ok (.iload 4, 2) := by decide +kernel
theorem dX12_stood_65 : decode cX12_stood 65 = .ok (.aload_n 1, 1) := by decide +kernel
theorem dX12_stood_66 : decode cX12_stood 66 = .ok (.invokevirtual 201, 3) := by decide +kernel
theorem dX12_stood_69 : decode cX12_stood 69 = .ok (.if_icmp .ge 40, 3) := by decide +kernel
theorem dX12_stood_72 : decode cX12_stood 72 = .ok (.iload_n 3, 1) := by decide +kernel
theorem dX12_stood_73 : decode cX12_stood 73 = .ok (.ifCond .eq 36, 3) := by decide +kernel
theorem dX12_stood_76 : decode cX12_stood 76 = .ok (.aload_n 0, 1) := by decide +kernel
theorem dX12_stood_77 : decode cX12_stood 77 = .ok (.getfield 92, 3) := by decide +kernel
theorem dX12_stood_80 : decode cX12_stood 80 = .ok (.aload_n 0, 1) := by decide +kernel
theorem dX12_stood_81 : decode cX12_stood 81 = .ok (.getfield 190, 3) := by decide +kernel
theorem dX12_stood_84 : decode cX12_stood 84 = .ok (.iload 4, 2) := by decide +kernel
theorem dX12_stood_86 : decode cX12_stood 86 = .ok (.iadd, 1) := by decide +kernel
theorem dX12_stood_87 : decode cX12_stood 87 = .ok (.baload, 1) := by decide +kernel
theorem dX12_stood_88 : decode cX12_stood 88 = .ok (.aload_n 1, 1) := by decide +kernel
theorem dX12_stood_89 : decode cX12_stood 89 = .ok (.iload 4, 2) := by decide +kernel
theorem dX12_stood_91 : decode cX12_stood 91 = .ok (.invokevirtual 206, 3) := by decide +kernel
theorem dX12_stood_94 : decode cX12_stood 94 = .ok (.if_icmp .ne 7, 3) := by decide +kernel
theorem dX12_stood_97 : decode cX12_stood 97 = .ok (.iconst 1, 1) := by decide +kernel
theorem dX12_stood_98 : decode cX12_stood 98 = .ok (.goto 4, 3) := by decide +kernel
theorem dX12_stood_101 : decode cX12_stood 101 = .ok (.iconst 0, 1) := by decide +kernel
theorem dX12_stood_102 : decode cX12_stood 102 = .ok (.istore_n 3, 1) := by decide +kernel
theorem dX12_stood_103 : decode cX12_stood 103 = .ok (.iinc 4 1, 3) := by decide +kernel
theorem dX12_stood_106 : decode cX12_stood 106 = .ok (.goto (-43), 3) := by decide +kernel
theorem dX12_stood_109 : decode cX12_stood 109 = .ok (.iload_n 3, 1) := by decide +kernel
theorem dX12_stood_110 : decode cX12_stood 110 = .ok (.ireturn, 1) := by decide +kernel
theorem dX12_takes_0 : decode cX12_takes 0 = .ok (.aload_n 0, 1) := by decide +kernel
theorem dX12_takes_1 : decode cX12_takes 1 = .ok (.invokevirtual 210, 3) := by decide +kernel
theorem dX12_takes_4 : decode cX12_takes 4 = .ok (.aload_n 0, 1) := by decide +kernel
theorem dX12_takes_5 : decode cX12_takes 5 = .ok (.aload_n 1, 1) := by decide +kernel
theorem dX12_takes_6 : decode cX12_takes 6 = .ok (.invokevirtual 213, 3) := by decide +kernel
theorem dX12_takes_9 : decode cX12_takes 9 = .ok (.istore_n 2, 1) := by decide +kernel
theorem dX12_takes_10 : decode cX12_takes 10 = .ok (.aload_n 0, 1) := by decide +kernel
theorem dX12_takes_11 : decode cX12_takes 11 = .ok (.dup, 1) := by decide +kernel
theorem dX12_takes_12 : decode cX12_takes 12 = .ok (.getfield 190, 3) := by decide +kernel
theorem dX12_takes_15 : decode cX12_takes 15 = .ok (.iload_n 2, 1) := by decide +kernel
theorem dX12_takes_16 : decode cX12_takes 16 = .ok (.ifCond .eq 10, 3) := by decide +kernel
theorem dX12_takes_19 : decode cX12_takes 19 = .ok (.aload_n 1, 1) := by decide +kernel
theorem dX12_takes_20 : decode cX12_takes 20 = .ok (.invokevirtual 201, 3) := by decide +kernel
theorem dX12_takes_23 : decode cX12_takes 23 = .ok (.goto 4, 3) := by decide +kernel
theorem dX12_takes_26 : decode cX12_takes 26 = .ok (.iconst 0, 1) := by decide +kernel
theorem dX12_takes_27 : decode cX12_takes 27 = .ok (.iadd, 1) := by decide +kernel
theorem dX12_takes_28 : decode cX12_takes 28 = .ok (.putfield 190, 3) := by decide +kernel
theorem dX12_takes_31 : decode cX12_takes 31 = .ok (.iload_n 2, 1) := by decide +kernel
theorem dX12_takes_32 : decode cX12_takes 32 = .ok (.ireturn, 1) := by decide +kernel
theorem dX12_entry_0 : decode cX12_entry 0 = .ok (.aload_n 0, 1) := by decide +kernel
theorem dX12_entry_1 : decode cX12_entry 1 = .ok (.getfield 187, 3) := by decide +kernel
theorem dX12_entry_4 : decode cX12_entry 4 = .ok (.ifCond .ne 51, 3) := by decide +kernel
theorem dX12_entry_7 : decode cX12_entry 7 = .ok (.aload_n 0, 1) := by decide +kernel
theorem dX12_entry_8 : decode cX12_entry 8 = .ok (.getfield 96, 3) := by decide +kernel
theorem dX12_entry_11 : decode cX12_entry 11 = .ok (.sipush 300, 3) := by decide +kernel
theorem dX12_entry_14 : decode cX12_entry 14 = .ok (.aload_n 0, 1) := by decide +kernel
theorem dX12_entry_15 : decode cX12_entry 15 = .ok (.getfield 217, 3) := by decide +kernel
theorem dX12_entry_18 : decode cX12_entry 18 = .ok (.imul, 1) := by decide +kernel
theorem dX12_entry_19 : decode cX12_entry 19 = .ok (.aload_n 0, 1) := by decide +kernel
theorem dX12_entry_20 : decode cX12_entry 20 = .ok (.getfield 220, 3) := by decide +kernel
theorem dX12_entry_23 : decode cX12_entry 23 = .ok (.iadd, 1) := by decide +kernel
theorem dX12_entry_24 : decode cX12_entry 24 = .ok (.iload_n 1, 1) := by decide +kernel
theorem dX12_entry_25 : decode cX12_entry 25 = .ok (.iastore, 1) := by decide +kernel
theorem dX12_entry_26 : decode cX12_entry 26 = .ok (.aload_n 0, 1) := by decide +kernel
theorem dX12_entry_27 : decode cX12_entry 27 = .ok (.getfield 99, 3) := by decide +kernel
theorem dX12_entry_30 : decode cX12_entry 30 = .ok (.sipush 300, 3) := by decide +kernel
theorem dX12_entry_33 : decode cX12_entry 33 = .ok (.aload_n 0, 1) := by decide +kernel
theorem dX12_entry_34 : decode cX12_entry 34 = .ok (.getfield 217, 3) := by decide +kernel
theorem dX12_entry_37 : decode cX12_entry 37 = .ok (.imul, 1) := by decide +kernel
theorem dX12_entry_38 : decode cX12_entry 38 = .ok (.aload_n 0, 1) := by decide +kernel
theorem dX12_entry_39 : decode cX12_entry 39 = .ok (.getfield 220, 3) := by decide +kernel
theorem dX12_entry_42 : decode cX12_entry 42 = .ok (.iadd, 1) := by decide +kernel
theorem dX12_entry_43 : decode cX12_entry 43 = .ok (.iload_n 2, 1) := by decide +kernel
theorem dX12_entry_44 : decode cX12_entry 44 = .ok (.iastore, 1) := by decide +kernel
theorem dX12_entry_45 : decode cX12_entry 45 = .ok (.aload_n 0, 1) := by decide +kernel
theorem dX12_entry_46 : decode cX12_entry 46 = .ok (.dup, 1) := by decide +kernel
theorem dX12_entry_47 : decode cX12_entry 47 = .ok (.getfield 220, 3) := by decide +kernel
theorem dX12_entry_50 : decode cX12_entry 50 = .ok (.iconst 1, 1) := by decide +kernel
theorem dX12_entry_51 : decode cX12_entry 51 = .ok (.iadd, 1) := by decide +kernel
theorem dX12_entry_52 : decode cX12_entry 52 = .ok (.putfield 220, 3) := by decide +kernel
theorem dX12_entry_55 : decode cX12_entry 55 = .ok (.return_, 1) := by decide +kernel
theorem dX12_isCounted_0 : decode cX12_isCounted 0 = .ok (.aload_n 0, 1) := by decide +kernel
theorem dX12_isCounted_1 : decode cX12_isCounted 1 = .ok (.getfield 223, 3) := by decide +kernel
theorem dX12_isCounted_4 : decode cX12_isCounted 4 = .ok (.bipush 60, 2) := by decide +kernel
theorem dX12_isCounted_6 : decode cX12_isCounted 6 = .ok (.if_icmp .ne 9, 3) := by decide +kernel
theorem dX12_isCounted_9 : decode cX12_isCounted 9 = .ok (.aload_n 0, 1) := by decide +kernel
theorem dX12_isCounted_10 : decode cX12_isCounted 10 = .ok (.iconst 3, 1) := by decide +kernel
theorem dX12_isCounted_11 : decode cX12_isCounted 11 = .ok (.iload_n 1, 1) := by decide +kernel
theorem dX12_isCounted_12 : decode cX12_isCounted 12 = .ok (.invokevirtual 226, 3) := by decide +kernel
theorem dX12_isCounted_15 : decode cX12_isCounted 15 = .ok (.aload_n 0, 1) := by decide +kernel
theorem dX12_isCounted_16 : decode cX12_isCounted 16 = .ok (.dup, 1) := by decide +kernel
theorem dX12_isCounted_17 : decode cX12_isCounted 17 = .ok (.getfield 223, 3) := by decide +kernel
theorem dX12_isCounted_20 : decode cX12_isCounted 20 = .ok (.iconst 1, 1) := by decide +kernel
theorem dX12_isCounted_21 : decode cX12_isCounted 21 = .ok (.iadd, 1) := by decide +kernel
theorem dX12_isCounted_22 : decode cX12_isCounted 22 = .ok (.putfield 223, 3) := by decide +kernel
theorem dX12_isCounted_25 : decode cX12_isCounted 25 = .ok (.return_, 1) := by decide +kernel
theorem dX12_digits_0 : decode cX12_digits 0 = .ok (.aload_n 0, 1) := by decide +kernel
theorem dX12_digits_1 : decode cX12_digits 1 = .ok (.invokevirtual 230, 3) := by decide +kernel
theorem dX12_digits_4 : decode cX12_digits 4 = .ok (.ifCond .ne 14, 3) := by decide +kernel
theorem dX12_digits_7 : decode cX12_digits 7 = .ok (.aload_n 0, 1) := by decide +kernel
theorem dX12_digits_8 : decode cX12_digits 8 = .ok (.iconst 0, 1) := by decide +kernel
theorem dX12_digits_9 : decode cX12_digits 9 = .ok (.aload_n 0, 1) := by decide +kernel
theorem dX12_digits_10 : decode cX12_digits 10 = .ok (.getfield 190, 3) := by decide +kernel
theorem dX12_digits_13 : decode cX12_digits 13 = .ok (.invokevirtual 226, 3) := by decide +kernel
theorem dX12_digits_16 : decode cX12_digits 16 = .ok (.iconst 0, 1) := by decide +kernel
theorem dX12_digits_17 : decode cX12_digits 17 = .ok (.ireturn, 1) := by decide +kernel
theorem dX12_digits_18 : decode cX12_digits 18 = .ok (.aload_n 0, 1) := by decide +kernel
theorem dX12_digits_19 : decode cX12_digits 19 = .ok (.getfield 190, 3) := by decide +kernel
theorem dX12_digits_22 : decode cX12_digits 22 = .ok (.istore_n 2, 1) := by decide +kernel
theorem dX12_digits_23 : decode cX12_digits 23 = .ok (.iconst 0, 1) := by decide +kernel
theorem dX12_digits_24 : decode cX12_digits 24 = .ok (.istore_n 3, 1) := by decide +kernel
theorem dX12_digits_25 : decode cX12_digits 25 = .ok (.aload_n 0, 1) := by decide +kernel
theorem dX12_digits_26 : decode cX12_digits 26 = .ok (.invokevirtual 230, 3) := by decide +kernel
theorem dX12_digits_29 : decode cX12_digits 29 = .ok (.ifCond .eq 43, 3) := by decide +kernel
theorem dX12_digits_32 : decode cX12_digits 32 = .ok (.aload_n 0, 1) := by decide +kernel
theorem dX12_digits_33 : decode cX12_digits 33 = .ok (.getfield 190, 3) := by decide +kernel
theorem dX12_digits_36 : decode cX12_digits 36 = .ok (.iload_n 2, 1) := by decide +kernel
theorem dX12_digits_37 : decode cX12_digits 37 = .ok (.isub, 1) := by decide +kernel
theorem dX12_digits_38 : decode cX12_digits 38 = .ok (.iconst 5, 1) := by decide +kernel
theorem dX12_digits_39 : decode cX12_digits 39 = .ok (.if_icmp .ge 18, 3) := by decide +kernel
theorem dX12_digits_42 : decode cX12_digits 42 = .ok (.bipush 10, 2) := by decide +kernel
theorem dX12_digits_44 : decode cX12_digits 44 = .ok (.iload_n 3, 1) := by decide +kernel
theorem dX12_digits_45 : decode cX12_digits 45 = .ok (.imul, 1) := by decide +kernel
theorem dX12_digits_46 : decode cX12_digits 46 = .ok (.aload_n 0, 1) := by decide +kernel
theorem dX12_digits_47 : decode cX12_digits 47 = .ok (.invokevirtual 193, 3) := by decide +kernel
theorem dX12_digits_50 : decode cX12_digits 50 = .ok (.iadd, 1) := by decide +kernel
theorem dX12_digits_51 : decode cX12_digits 51 = .ok (.bipush 48, 2) := by decide +kernel
theorem dX12_digits_53 : decode cX12_digits 53 = .ok (.isub, 1) := by decide +kernel
theorem dX12_digits_54 : decode cX12_digits 54 = .ok (.goto 4, 3) := by decide +kernel
theorem dX12_digits_57 : decode cX12_digits 57 = .ok (.iload_n 3, 1) := by decide +kernel
theorem dX12_digits_58 : decode cX12_digits 58 = .ok (.istore_n 3, 1) := by decide +kernel
theorem dX12_digits_59 : decode cX12_digits 59 = .ok (.aload_n 0, 1) := by decide +kernel
theorem dX12_digits_60 : decode cX12_digits 60 = .ok (.dup, 1) := by decide +kernel
theorem dX12_digits_61 : decode cX12_digits 61 = .ok (.getfield 190, 3) := by decide +kernel
theorem dX12_digits_64 : decode cX12_digits 64 = .ok (.iconst 1, 1) := by decide +kernel
theorem dX12_digits_65 : decode cX12_digits 65 = .ok (.iadd, 1) := by decide +kernel
theorem dX12_digits_66 : decode cX12_digits 66 = .ok (.putfield 190, 3) := by decide +kernel
theorem dX12_digits_69 : decode cX12_digits 69 = .ok (.goto (-44), 3) := by decide +kernel
theorem dX12_digits_72 : decode cX12_digits 72 = .ok (.aload_n 0, 1) := by decide +kernel
theorem dX12_digits_73 : decode cX12_digits 73 = .ok (.getfield 190, 3) := by decide +kernel
theorem dX12_digits_76 : decode cX12_digits 76 = .ok (.iload_n 2, 1) := by decide +kernel
theorem dX12_digits_77 : decode cX12_digits 77 = .ok (.isub, 1) := by decide +kernel
theorem dX12_digits_78 : decode cX12_digits 78 = .ok (.iconst 5, 1) := by decide +kernel
theorem dX12_digits_79 : decode cX12_digits 79 = .ok (.if_icmp .gt 8, 3) := by decide +kernel
theorem dX12_digits_82 : decode cX12_digits 82 = .ok (.iload_n 3, 1) := by decide +kernel
theorem dX12_digits_83 : decode cX12_digits 83 = .ok (.iload_n 1, 1) := by decide +kernel
theorem dX12_digits_84 : decode cX12_digits 84 = .ok (.if_icmp .le 9, 3) := by decide +kernel
theorem dX12_digits_87 : decode cX12_digits 87 = .ok (.aload_n 0, 1) := by decide +kernel
theorem dX12_digits_88 : decode cX12_digits 88 = .ok (.iconst 1, 1) := by decide +kernel
theorem dX12_digits_89 : decode cX12_digits 89 = .ok (.iload_n 2, 1) := by decide +kernel
theorem dX12_digits_90 : decode cX12_digits 90 = .ok (.invokevirtual 226, 3) := by decide +kernel
theorem dX12_digits_93 : decode cX12_digits 93 = .ok (.iload_n 3, 1) := by decide +kernel
theorem dX12_digits_94 : decode cX12_digits 94 = .ok (.ireturn, 1) := by decide +kernel
theorem dX12_value_0 : decode cX12_value 0 = .ok (.aload_n 0, 1) := by decide +kernel
theorem dX12_value_1 : decode cX12_value 1 = .ok (.invokevirtual 210, 3) := by decide +kernel
theorem dX12_value_4 : decode cX12_value 4 = .ok (.aload_n 0, 1) := by decide +kernel
theorem dX12_value_5 : decode cX12_value 5 = .ok (.getfield 190, 3) := by decide +kernel
theorem dX12_value_8 : decode cX12_value 8 = .ok (.istore_n 1, 1) := by decide +kernel
theorem dX12_value_9 : decode cX12_value 9 = .ok (.aload_n 0, 1) := by decide +kernel
theorem dX12_value_10 : decode cX12_value 10 = .ok (.invokevirtual 230, 3) := by decide +kernel
theorem dX12_value_13 : decode cX12_value 13 = .ok (.ifCond .eq 22, 3) := by decide +kernel
theorem dX12_value_16 : decode cX12_value 16 = .ok (.aload_n 0, 1) := by decide +kernel
theorem dX12_value_17 : decode cX12_value 17 = .ok (.ldc 234, 2) := by decide +kernel
theorem dX12_value_19 : decode cX12_value 19 = .ok (.invokevirtual 235, 3) := by decide +kernel
theorem dX12_value_22 : decode cX12_value 22 = .ok (.istore_n 2, 1) := by decide +kernel
theorem dX12_value_23 : decode cX12_value 23 = .ok (.aload_n 0, 1) := by decide +kernel
theorem dX12_value_24 : decode cX12_value 24 = .ok (.iload_n 1, 1) := by decide +kernel
theorem dX12_value_25 : decode cX12_value 25 = .ok (.invokevirtual 239, 3) := by decide +kernel
theorem dX12_value_28 : decode cX12_value 28 = .ok (.aload_n 0, 1) := by decide +kernel
theorem dX12_value_29 : decode cX12_value 29 = .ok (.iconst 0, 1) := by decide +kernel
theorem dX12_value_30 : decode cX12_value 30 = .ok (.iload_n 2, 1) := by decide +kernel
theorem dX12_value_31 : decode cX12_value 31 = .ok (.invokevirtual 242, 3) := by decide +kernel
theorem dX12_value_34 : decode cX12_value 34 = .ok (.return_, 1) := by decide +kernel
theorem dX12_value_35 : decode cX12_value 35 = .ok (.iconst 0, 1) := by decide +kernel
theorem dX12_value_36 : decode cX12_value 36 = .ok (.istore_n 2, 1) := by decide +kernel
theorem dX12_value_37 : decode cX12_value 37 = .ok (.iload_n 2, 1) := by decide +kernel
theorem dX12_value_38 : decode cX12_value 38 = .ok (.aload_n 0, 1) := by decide +kernel
theorem dX12_value_39 : decode cX12_value 39 = .ok (.getfield 88, 3) := by decide +kernel
theorem dX12_value_42 : decode cX12_value 42 = .ok (.if_icmp .ge 20, 3) := by decide +kernel
theorem dX12_value_45 : decode cX12_value 45 = .ok (.aload_n 0, 1) := by decide +kernel
theorem dX12_value_46 : decode cX12_value 46 = .ok (.iload_n 2, 1) := by decide +kernel
theorem dX12_value_47 : decode cX12_value 47 = .ok (.invokestatic 245, 3) := by decide +kernel
theorem dX12_value_50 : decode cX12_value 50 = .ok (.invokevirtual 213, 3) := by decide +kernel
theorem dX12_value_53 : decode cX12_value 53 = .ok (.ifCond .ne 9, 3) := by decide +kernel
theorem dX12_value_56 : decode cX12_value 56 = .ok (.iinc 2 1, 3) := by decide +kernel
theorem dX12_value_59 : decode cX12_value 59 = .ok (.goto (-22), 3) := by decide +kernel
theorem dX12_value_62 : decode cX12_value 62 = .ok (.iload_n 2, 1) := by decide +kernel
theorem dX12_value_63 : decode cX12_value 63 = .ok (.aload_n 0, 1) := by decide +kernel
theorem dX12_value_64 : decode cX12_value 64 = .ok (.getfield 88, 3) := by decide +kernel
theorem dX12_value_67 : decode cX12_value 67 = .ok (.if_icmp .ne 10, 3) := by decide +kernel
theorem dX12_value_70 : decode cX12_value 70 = .ok (.aload_n 0, 1) := by decide +kernel
theorem dX12_value_71 : decode cX12_value 71 = .ok (.iconst 0, 1) := by decide +kernel
theorem dX12_value_72 : decode cX12_value 72 = .ok (.iload_n 1, 1) := by decide +kernel
theorem dX12_value_73 : decode cX12_value 73 = .ok (.invokevirtual 226, 3) := by decide +kernel
theorem dX12_value_76 : decode cX12_value 76 = .ok (.return_, 1) := by decide +kernel
theorem dX12_value_77 : decode cX12_value 77 = .ok (.aload_n 0, 1) := by decide +kernel
theorem dX12_value_78 : decode cX12_value 78 = .ok (.iload_n 1, 1) := by decide +kernel
theorem dX12_value_79 : decode cX12_value 79 = .ok (.invokevirtual 239, 3) := by decide +kernel
theorem dX12_value_82 : decode cX12_value 82 = .ok (.aload_n 0, 1) := by decide +kernel
theorem dX12_value_83 : decode cX12_value 83 = .ok (.dup, 1) := by decide +kernel
theorem dX12_value_84 : decode cX12_value 84 = .ok (.getfield 190, 3) := by decide +kernel
theorem dX12_value_87 : decode cX12_value 87 = .ok (.iload_n 2, 1) := by decide +kernel
theorem dX12_value_88 : decode cX12_value 88 = .ok (.invokestatic 245, 3) := by decide +kernel
theorem dX12_value_91 : decode cX12_value 91 = .ok (.invokevirtual 201, 3) := by decide +kernel
theorem dX12_value_94 : decode cX12_value 94 = .ok (.iadd, 1) := by decide +kernel
theorem dX12_value_95 : decode cX12_value 95 = .ok (.putfield 190, 3) := by decide +kernel
theorem dX12_value_98 : decode cX12_value 98 = .ok (.aload_n 0, 1) := by decide +kernel
theorem dX12_value_99 : decode cX12_value 99 = .ok (.iconst 1, 1) := by decide +kernel
theorem dX12_value_100 : decode cX12_value 100 = .ok (.iload_n 2, 1) := by decide +kernel
theorem dX12_value_101 : decode cX12_value 101 = .ok (.invokevirtual 242, 3) := by decide +kernel
theorem dX12_value_104 : decode cX12_value 104 = .ok (.return_, 1) := by decide +kernel
theorem dX12_term_0 : decode cX12_term 0 = .ok (.aload_n 0, 1) := by decide +kernel
theorem dX12_term_1 : decode cX12_term 1 = .ok (.invokevirtual 249, 3) := by decide +kernel
theorem dX12_term_4 : decode cX12_term 4 = .ok (.aload_n 0, 1) := by decide +kernel
theorem dX12_term_5 : decode cX12_term 5 = .ok (.invokevirtual 210, 3) := by decide +kernel
theorem dX12_term_8 : decode cX12_term 8 = .ok (.aload_n 0, 1) := by decide +kernel
theorem dX12_term_9 : decode cX12_term 9 = .ok (.getfield 187, 3) := by decide +kernel
theorem dX12_term_12 : decode cX12_term 12 = .ok (.ifCond .ne 88, 3) := by decide +kernel
theorem dX12_term_15 : decode cX12_term 15 = .ok (.aload_n 0, 1) := by decide +kernel
theorem dX12_term_16 : decode cX12_term 16 = .ok (.invokevirtual 193, 3) := by decide +kernel
theorem dX12_term_19 : decode cX12_term 19 = .ok (.bipush 42, 2) := by decide +kernel
theorem dX12_term_21 : decode cX12_term 21 = .ok (.if_icmp .eq 21, 3) := by decide +kernel
theorem dX12_term_24 : decode cX12_term 24 = .ok (.aload_n 0, 1) := by decide +kernel
theorem dX12_term_25 : decode cX12_term 25 = .ok (.invokevirtual 193, 3) := by decide +kernel
theorem dX12_term_28 : decode cX12_term 28 = .ok (.bipush 47, 2) := by decide +kernel
theorem dX12_term_30 : decode cX12_term 30 = .ok (.if_icmp .eq 12, 3) := by decide +kernel
theorem dX12_term_33 : decode cX12_term 33 = .ok (.aload_n 0, 1) := by decide +kernel
theorem dX12_term_34 : decode cX12_term 34 = .ok (.invokevirtual 193, 3) := by decide +kernel
theorem dX12_term_37 : decode cX12_term 37 = .ok (.bipush 37, 2) := by decide +kernel
theorem dX12_term_39 : decode cX12_term 39 = .ok (.if_icmp .ne 61, 3) := by decide +kernel
theorem dX12_term_42 : decode cX12_term 42 = .ok (.aload_n 0, 1) := by decide +kernel
theorem dX12_term_43 : decode cX12_term 43 = .ok (.invokevirtual 193, 3) := by decide +kernel
theorem dX12_term_46 : decode cX12_term 46 = .ok (.bipush 42, 2) := by decide +kernel
theorem dX12_term_48 : decode cX12_term 48 = .ok (.if_icmp .ne 8, 3) := by decide +kernel
theorem dX12_term_51 : decode cX12_term 51 = .ok (.bipush 13, 2) := by decide +kernel
theorem dX12_term_53 : decode cX12_term 53 = .ok (.goto 19, 3) := by decide +kernel
theorem dX12_term_56 : decode cX12_term 56 = .ok (.aload_n 0, 1) := by decide +kernel
theorem dX12_term_57 : decode cX12_term 57 = .ok (.invokevirtual 193, 3) := by decide +kernel
theorem dX12_term_60 : decode cX12_term 60 = .ok (.bipush 47, 2) := by decide +kernel
theorem dX12_term_62 : decode cX12_term 62 = .ok (.if_icmp .ne 8, 3) := by decide +kernel
theorem dX12_term_65 : decode cX12_term 65 = .ok (.bipush 14, 2) := by decide +kernel
theorem dX12_term_67 : decode cX12_term 67 = .ok (.goto 5, 3) := by decide +kernel
theorem dX12_term_70 : decode cX12_term 70 = .ok (.bipush 15, 2) := by decide +kernel
theorem dX12_term_72 : decode cX12_term 72 = .ok (.istore_n 1, 1) := by decide +kernel
theorem dX12_term_73 : decode cX12_term 73 = .ok (.aload_n 0, 1) := by decide +kernel
theorem dX12_term_74 : decode cX12_term 74 = .ok (.dup, 1) := by decide +kernel
theorem dX12_term_75 : decode cX12_term 75 = .ok (.getfield 190, 3) := by decide +kernel
theorem dX12_term_78 : decode cX12_term 78 = .ok (.iconst 1, 1) := by decide +kernel
theorem dX12_term_79 : decode cX12_term 79 = .ok (.iadd, 1) := by decide +kernel
theorem dX12_term_80 : decode cX12_term 80 = .ok (.putfield 190, 3) := by decide +kernel
theorem dX12_term_83 : decode cX12_term 83 = .ok (.aload_n 0, 1) := by decide +kernel
theorem dX12_term_84 : decode cX12_term 84 = .ok (.invokevirtual 249, 3) := by decide +kernel
theorem dX12_term_87 : decode cX12_term 87 = .ok (.aload_n 0, 1) := by decide +kernel
theorem dX12_term_88 : decode cX12_term 88 = .ok (.iload_n 1, 1) := by decide +kernel
theorem dX12_term_89 : decode cX12_term 89 = .ok (.iconst 0, 1) := by decide +kernel
theorem dX12_term_90 : decode cX12_term 90 = .ok (.invokevirtual 242, 3) := by decide +kernel
theorem dX12_term_93 : decode cX12_term 93 = .ok (.aload_n 0, 1) := by decide +kernel
theorem dX12_term_94 : decode cX12_term 94 = .ok (.invokevirtual 210, 3) := by decide +kernel
theorem dX12_term_97 : decode cX12_term 97 = .ok (.goto (-89), 3) := by decide +kernel
theorem dX12_term_100 : decode cX12_term 100 = .ok (.return_, 1) := by decide +kernel
theorem dX12_sum_0 : decode cX12_sum 0 = .ok (.aload_n 0, 1) := by decide +kernel
theorem dX12_sum_1 : decode cX12_sum 1 = .ok (.invokevirtual 252, 3) := by decide +kernel
theorem dX12_sum_4 : decode cX12_sum 4 = .ok (.aload_n 0, 1) := by decide +kernel
theorem dX12_sum_5 : decode cX12_sum 5 = .ok (.getfield 187, 3) := by decide +kernel
theorem dX12_sum_8 : decode cX12_sum 8 = .ok (.ifCond .ne 59, 3) := by decide +kernel
theorem dX12_sum_11 : decode cX12_sum 11 = .ok (.aload_n 0, 1) := by decide +kernel
theorem dX12_sum_12 : decode cX12_sum 12 = .ok (.invokevirtual 193, 3) := by decide +kernel
theorem dX12_sum_15 : decode cX12_sum 15 = .ok (.bipush 43, 2) := by decide +kernel
theorem dX12_sum_17 : decode cX12_sum 17 = .ok (.if_icmp .eq 12, 3) := by decide +kernel
theorem dX12_sum_20 : decode cX12_sum 20 = .ok (.aload_n 0, 1) := by decide +kernel
theorem dX12_sum_21 : decode cX12_sum 21 = .ok (.invokevirtual 193, 3) := by decide +kernel
theorem dX12_sum_24 : decode cX12_sum 24 = .ok (.bipush 45, 2) := by decide +kernel
theorem dX12_sum_26 : decode cX12_sum 26 = .ok (.if_icmp .ne 41, 3) := by decide +kernel
theorem dX12_sum_29 : decode cX12_sum 29 = .ok (.aload_n 0, 1) := by decide +kernel
theorem dX12_sum_30 : decode cX12_sum 30 = .ok (.invokevirtual 193, 3) := by decide +kernel
theorem dX12_sum_33 : decode cX12_sum 33 = .ok (.bipush 43, 2) := by decide +kernel
theorem dX12_sum_35 : decode cX12_sum 35 = .ok (.if_icmp .ne 7, 3) := by decide +kernel
theorem dX12_sum_38 : decode cX12_sum 38 = .ok (.iconst 2, 1) := by decide +kernel
theorem dX12_sum_39 : decode cX12_sum 39 = .ok (.goto 4, 3) := by decide +kernel
theorem dX12_sum_42 : decode cX12_sum 42 = .ok (.iconst 3, 1) := by decide +kernel
theorem dX12_sum_43 : decode cX12_sum 43 = .ok (.istore_n 1, 1) := by decide +kernel
theorem dX12_sum_44 : decode cX12_sum 44 = .ok (.aload_n 0, 1) := by decide +kernel
theorem dX12_sum_45 : decode cX12_sum 45 = .ok (.dup, 1) := by decide +kernel
theorem dX12_sum_46 : decode cX12_sum 46 = .ok (.getfield 190, 3) := by decide +kernel
theorem dX12_sum_49 : decode cX12_sum 49 = .ok (.iconst 1, 1) := by decide +kernel
theorem dX12_sum_50 : decode cX12_sum 50 = .ok (.iadd, 1) := by decide +kernel
theorem dX12_sum_51 : decode cX12_sum 51 = .ok (.putfield 190, 3) := by decide +kernel
theorem dX12_sum_54 : decode cX12_sum 54 = .ok (.aload_n 0, 1) := by decide +kernel
theorem dX12_sum_55 : decode cX12_sum 55 = .ok (.invokevirtual 252, 3) := by decide +kernel
theorem dX12_sum_58 : decode cX12_sum 58 = .ok (.aload_n 0, 1) := by decide +kernel
theorem dX12_sum_59 : decode cX12_sum 59 = .ok (.iload_n 1, 1) := by decide +kernel
theorem dX12_sum_60 : decode cX12_sum 60 = .ok (.iconst 0, 1) := by decide +kernel
theorem dX12_sum_61 : decode cX12_sum 61 = .ok (.invokevirtual 242, 3) := by decide +kernel
theorem dX12_sum_64 : decode cX12_sum 64 = .ok (.goto (-60), 3) := by decide +kernel
theorem dX12_sum_67 : decode cX12_sum 67 = .ok (.return_, 1) := by decide +kernel
theorem dX12_compared_0 : decode cX12_compared 0 = .ok (.aload_n 0, 1) := by decide +kernel
theorem dX12_compared_1 : decode cX12_compared 1 = .ok (.invokevirtual 255, 3) := by decide +kernel
theorem dX12_compared_4 : decode cX12_compared 4 = .ok (.aload_n 0, 1) := by decide +kernel
theorem dX12_compared_5 : decode cX12_compared 5 = .ok (.invokevirtual 193, 3) := by decide +kernel
theorem dX12_compared_8 : decode cX12_compared 8 = .ok (.istore_n 1, 1) := by decide +kernel
theorem dX12_compared_9 : decode cX12_compared 9 = .ok (.iload_n 1, 1) := by decide +kernel
theorem dX12_compared_10 : decode cX12_compared 10 = .ok (.bipush 60, 2) := by decide +kernel
theorem dX12_compared_12 : decode cX12_compared 12 = .ok (.if_icmp .eq 25, 3) := by decide +kernel
theorem dX12_compared_15 : decode cX12_compared 15 = .ok (.iload_n 1, 1) := by decide +kernel
theorem dX12_compared_16 : decode cX12_compared 16 = .ok (.bipush 61, 2) := by decide +kernel
theorem dX12_compared_18 : decode cX12_compared 18 = .ok (.if_icmp .eq 19, 3) := by decide +kernel
theorem dX12_compared_21 : decode cX12_compared 21 = .ok (.iload_n 1, 1) := by decide +kernel
theorem dX12_compared_22 : decode cX12_compared 22 = .ok (.bipush 62, 2) := by decide +kernel
theorem dX12_compared_24 : decode cX12_compared 24 = .ok (.if_icmp .eq 13, 3) := by decide +kernel
theorem dX12_compared_27 : decode cX12_compared 27 = .ok (.aload_n 0, 1) := by decide +kernel
theorem dX12_compared_28 : decode cX12_compared 28 = .ok (.iconst 0, 1) := by decide +kernel
theorem dX12_compared_29 : decode cX12_compared 29 = .ok (.aload_n 0, 1) := by decide +kernel
theorem dX12_compared_30 : decode cX12_compared 30 = .ok (.getfield 190, 3) := by decide +kernel
theorem dX12_compared_33 : decode cX12_compared 33 = .ok (.invokevirtual 226, 3) := by decide +kernel
theorem dX12_compared_36 : decode cX12_compared 36 = .ok (.return_, 1) := by decide +kernel
theorem dX12_compared_37 : decode cX12_compared 37 = .ok (.aload_n 0, 1) := by decide +kernel
theorem dX12_compared_38 : decode cX12_compared 38 = .ok (.aload_n 0, 1) := by decide +kernel
theorem dX12_compared_39 : decode cX12_compared 39 = .ok (.getfield 190, 3) := by decide +kernel
theorem dX12_compared_42 : decode cX12_compared 42 = .ok (.invokevirtual 239, 3) := by decide +kernel
theorem dX12_compared_45 : decode cX12_compared 45 = .ok (.aload_n 0, 1) := by decide +kernel
theorem dX12_compared_46 : decode cX12_compared 46 = .ok (.dup, 1) := by decide +kernel
theorem dX12_compared_47 : decode cX12_compared 47 = .ok (.getfield 190, 3) := by decide +kernel
theorem dX12_compared_50 : decode cX12_compared 50 = .ok (.iconst 1, 1) := by decide +kernel
theorem dX12_compared_51 : decode cX12_compared 51 = .ok (.iadd, 1) := by decide +kernel
theorem dX12_compared_52 : decode cX12_compared 52 = .ok (.putfield 190, 3) := by decide +kernel
theorem dX12_compared_55 : decode cX12_compared 55 = .ok (.iload_n 1, 1) := by decide +kernel
theorem dX12_compared_56 : decode cX12_compared 56 = .ok (.bipush 61, 2) := by decide +kernel
theorem dX12_compared_58 : decode cX12_compared 58 = .ok (.if_icmp .eq 16, 3) := by decide +kernel
theorem dX12_compared_61 : decode cX12_compared 61 = .ok (.aload_n 0, 1) := by decide +kernel
theorem dX12_compared_62 : decode cX12_compared 62 = .ok (.invokevirtual 193, 3) := by decide +kernel
theorem dX12_compared_65 : decode cX12_compared 65 = .ok (.bipush 61, 2) := by decide +kernel
theorem dX12_compared_67 : decode cX12_compared 67 = .ok (.if_icmp .ne 7, 3) := by decide +kernel
theorem dX12_compared_70 : decode cX12_compared 70 = .ok (.iconst 1, 1) := by decide +kernel
theorem dX12_compared_71 : decode cX12_compared 71 = .ok (.goto 4, 3) := by decide +kernel
theorem dX12_compared_74 : decode cX12_compared 74 = .ok (.iconst 0, 1) := by decide +kernel
theorem dX12_compared_75 : decode cX12_compared 75 = .ok (.istore_n 2, 1) := by decide +kernel
theorem dX12_compared_76 : decode cX12_compared 76 = .ok (.aload_n 0, 1) := by decide +kernel
theorem dX12_compared_77 : decode cX12_compared 77 = .ok (.dup, 1) := by decide +kernel
theorem dX12_compared_78 : decode cX12_compared 78 = .ok (.getfield 190, 3) := by decide +kernel
theorem dX12_compared_81 : decode cX12_compared 81 = .ok (.iload_n 2, 1) := by decide +kernel
theorem dX12_compared_82 : decode cX12_compared 82 = .ok (.ifCond .eq 7, 3) := by decide +kernel
theorem dX12_compared_85 : decode cX12_compared 85 = .ok (.iconst 1, 1) := by decide +kernel
theorem dX12_compared_86 : decode cX12_compared 86 = .ok (.goto 4, 3) := by decide +kernel
theorem dX12_compared_89 : decode cX12_compared 89 = .ok (.iconst 0, 1) := by decide +kernel
theorem dX12_compared_90 : decode cX12_compared 90 = .ok (.iadd, 1) := by decide +kernel
theorem dX12_compared_91 : decode cX12_compared 91 = .ok (.putfield 190, 3) := by decide +kernel
theorem dX12_compared_94 : decode cX12_compared 94 = .ok (.aload_n 0, 1) := by decide +kernel
theorem dX12_compared_95 : decode cX12_compared 95 = .ok (.invokevirtual 255, 3) := by decide +kernel
theorem dX12_compared_98 : decode cX12_compared 98 = .ok (.aload_n 0, 1) := by decide +kernel
theorem dX12_compared_99 : decode cX12_compared 99 = .ok (.iload_n 1, 1) := by decide +kernel
theorem dX12_compared_100 : decode cX12_compared 100 = .ok (.bipush 61, 2) := by decide +kernel
theorem dX12_compared_102 : decode cX12_compared 102 = .ok (.if_icmp .ne 8, 3) := by decide +kernel
theorem dX12_compared_105 : decode cX12_compared 105 = .ok (.bipush 6, 2) := by decide +kernel
theorem dX12_compared_107 : decode cX12_compared 107 = .ok (.goto 32, 3) := by decide +kernel
theorem dX12_compared_110 : decode cX12_compared 110 = .ok (.iload_n 1, 1) := by decide +kernel
theorem dX12_compared_111 : decode cX12_compared 111 = .ok (.bipush 60, 2) := by decide +kernel
theorem dX12_compared_113 : decode cX12_compared 113 = .ok (.if_icmp .ne 15, 3) := by decide +kernel
theorem dX12_compared_116 : decode cX12_compared 116 = .ok (.iload_n 2, 1) := by decide +kernel
theorem dX12_compared_117 : decode cX12_compared 117 = .ok (.ifCond .eq 7, 3) := by decide +kernel
theorem dX12_compared_120 : decode cX12_compared 120 = .ok (.iconst 5, 1) := by decide +kernel
theorem dX12_compared_121 : decode cX12_compared 121 = .ok (.goto 18, 3) := by decide +kernel
theorem dX12_compared_124 : decode cX12_compared 124 = .ok (.iconst 4, 1) := by decide +kernel
theorem dX12_compared_125 : decode cX12_compared 125 = .ok (.goto 14, 3) := by decide +kernel
theorem dX12_compared_128 : decode cX12_compared 128 = .ok (.iload_n 2, 1) := by decide +kernel
theorem dX12_compared_129 : decode cX12_compared 129 = .ok (.ifCond .eq 8, 3) := by decide +kernel
theorem dX12_compared_132 : decode cX12_compared 132 = .ok (.bipush 7, 2) := by decide +kernel
theorem dX12_compared_134 : decode cX12_compared 134 = .ok (.goto 5, 3) := by decide +kernel
theorem dX12_compared_137 : decode cX12_compared 137 = .ok (.bipush 8, 2) := by decide +kernel
theorem dX12_compared_139 : decode cX12_compared 139 = .ok (.iconst 0, 1) := by decide +kernel
theorem dX12_compared_140 : decode cX12_compared 140 = .ok (.invokevirtual 242, 3) := by decide +kernel
theorem dX12_compared_143 : decode cX12_compared 143 = .ok (.return_, 1) := by decide +kernel
theorem dX12_top_0 : decode cX12_top 0 = .ok (.aload_n 0, 1) := by decide +kernel
theorem dX12_top_1 : decode cX12_top 1 = .ok (.getfield 258, 3) := by decide +kernel
theorem dX12_top_4 : decode cX12_top 4 = .ok (.ifCond .ne 7, 3) := by decide +kernel
theorem dX12_top_7 : decode cX12_top 7 = .ok (.iconst (-1), 1) := by decide +kernel
theorem dX12_top_8 : decode cX12_top 8 = .ok (.goto 14, 3) := by decide +kernel
theorem dX12_top_11 : decode cX12_top 11 = .ok (.aload_n 0, 1) := by decide +kernel
theorem dX12_top_12 : decode cX12_top 12 = .ok (.getfield 114, 3) := by decide +kernel
theorem dX12_top_15 : decode cX12_top 15 = .ok (.aload_n 0, 1) := by decide +kernel
theorem dX12_top_16 : decode cX12_top 16 = .ok (.getfield 258, 3) := by decide +kernel
theorem dX12_top_19 : decode cX12_top 19 = .ok (.iconst 1, 1) := by decide +kernel
theorem dX12_top_20 : decode cX12_top 20 = .ok (.isub, 1) := by decide +kernel
theorem dX12_top_21 : decode cX12_top 21 = .ok (.iaload, 1) := by decide +kernel
theorem dX12_top_22 : decode cX12_top 22 = .ok (.ireturn, 1) := by decide +kernel
theorem dX12_opens_0 : decode cX12_opens 0 = .ok (.iload_n 1, 1) := by decide +kernel
theorem dX12_opens_1 : decode cX12_opens 1 = .ok (.bipush 9, 2) := by decide +kernel
theorem dX12_opens_3 : decode cX12_opens 3 = .ok (.if_icmp .eq 9, 3) := by decide +kernel
theorem dX12_opens_6 : decode cX12_opens 6 = .ok (.iload_n 1, 1) := by decide +kernel
theorem dX12_opens_7 : decode cX12_opens 7 = .ok (.bipush 12, 2) := by decide +kernel
theorem dX12_opens_9 : decode cX12_opens 9 = .ok (.if_icmp .ne 31, 3) := by decide +kernel
theorem dX12_opens_12 : decode cX12_opens 12 = .ok (.aload_n 0, 1) := by decide +kernel
theorem dX12_opens_13 : decode cX12_opens 13 = .ok (.getfield 261, 3) := by decide +kernel
theorem dX12_opens_16 : decode cX12_opens 16 = .ok (.bipush 10, 2) := by decide +kernel
theorem dX12_opens_18 : decode cX12_opens 18 = .ok (.if_icmp .ne 12, 3) := by decide +kernel
theorem dX12_opens_21 : decode cX12_opens 21 = .ok (.aload_n 0, 1) := by decide +kernel
theorem dX12_opens_22 : decode cX12_opens 22 = .ok (.iconst 2, 1) := by decide +kernel
theorem dX12_opens_23 : decode cX12_opens 23 = .ok (.aload_n 0, 1) := by decide +kernel
theorem dX12_opens_24 : decode cX12_opens 24 = .ok (.getfield 190, 3) := by decide +kernel
theorem dX12_opens_27 : decode cX12_opens 27 = .ok (.invokevirtual 226, 3) := by decide +kernel
theorem dX12_opens_30 : decode cX12_opens 30 = .ok (.aload_n 0, 1) := by decide +kernel
theorem dX12_opens_31 : decode cX12_opens 31 = .ok (.dup, 1) := by decide +kernel
theorem dX12_opens_32 : decode cX12_opens 32 = .ok (.getfield 261, 3) := by decide +kernel
theorem dX12_opens_35 : decode cX12_opens 35 = .ok (.iconst 1, 1) := by decide +kernel
theorem dX12_opens_36 : decode cX12_opens 36 = .ok (.iadd, 1) := by decide +kernel
theorem dX12_opens_37 : decode cX12_opens 37 = .ok (.putfield 261, 3) := by decide +kernel
theorem dX12_opens_40 : decode cX12_opens 40 = .ok (.aload_n 0, 1) := by decide +kernel
theorem dX12_opens_41 : decode cX12_opens 41 = .ok (.getfield 114, 3) := by decide +kernel
theorem dX12_opens_44 : decode cX12_opens 44 = .ok (.aload_n 0, 1) := by decide +kernel
theorem dX12_opens_45 : decode cX12_opens 45 = .ok (.getfield 258, 3) := by decide +kernel
theorem dX12_opens_48 : decode cX12_opens 48 = .ok (.iload_n 1, 1) := by decide +kernel
theorem dX12_opens_49 : decode cX12_opens 49 = .ok (.iastore, 1) := by decide +kernel
theorem dX12_opens_50 : decode cX12_opens 50 = .ok (.aload_n 0, 1) := by decide +kernel
theorem dX12_opens_51 : decode cX12_opens 51 = .ok (.dup, 1) := by decide +kernel
theorem dX12_opens_52 : decode cX12_opens 52 = .ok (.getfield 258, 3) := by decide +kernel
theorem dX12_opens_55 : decode cX12_opens 55 = .ok (.iconst 1, 1) := by decide +kernel
theorem dX12_opens_56 : decode cX12_opens 56 = .ok (.iadd, 1) := by decide +kernel
theorem dX12_opens_57 : decode cX12_opens 57 = .ok (.putfield 258, 3) := by decide +kernel
theorem dX12_opens_60 : decode cX12_opens 60 = .ok (.return_, 1) := by decide +kernel
theorem dX12_answers_0 : decode cX12_answers 0 = .ok (.aload_n 0, 1) := by decide +kernel
theorem dX12_answers_1 : decode cX12_answers 1 = .ok (.invokevirtual 264, 3) := by decide +kernel
theorem dX12_answers_4 : decode cX12_answers 4 = .ok (.iload_n 1, 1) := by decide +kernel
theorem dX12_answers_5 : decode cX12_answers 5 = .ok (.if_icmp .ne 49, 3) := by decide +kernel
theorem dX12_answers_8 : decode cX12_answers 8 = .ok (.aload_n 0, 1) := by decide +kernel
theorem dX12_answers_9 : decode cX12_answers 9 = .ok (.getfield 187, 3) := by decide +kernel
theorem dX12_answers_12 : decode cX12_answers 12 = .ok (.ifCond .ne 42, 3) := by decide +kernel
theorem dX12_answers_15 : decode cX12_answers 15 = .ok (.aload_n 0, 1) := by decide +kernel
theorem dX12_answers_16 : decode cX12_answers 16 = .ok (.iload_n 1, 1) := by decide +kernel
theorem dX12_answers_17 : decode cX12_answers 17 = .ok (.iconst 0, 1) := by decide +kernel
theorem dX12_answers_18 : decode cX12_answers 18 = .ok (.invokevirtual 242, 3) := by decide +kernel
theorem dX12_answers_21 : decode cX12_answers 21 = .ok (.aload_n 0, 1) := by decide +kernel
theorem dX12_answers_22 : decode cX12_answers 22 = .ok (.dup, 1) := by decide +kernel
theorem dX12_answers_23 : decode cX12_answers 23 = .ok (.getfield 258, 3) := by decide +kernel
theorem dX12_answers_26 : decode cX12_answers 26 = .ok (.iconst 1, 1) := by decide +kernel
theorem dX12_answers_27 : decode cX12_answers 27 = .ok (.isub, 1) := by decide +kernel
theorem dX12_answers_28 : decode cX12_answers 28 = .ok (.putfield 258, 3) := by decide +kernel
theorem dX12_answers_31 : decode cX12_answers 31 = .ok (.aload_n 0, 1) := by decide +kernel
theorem dX12_answers_32 : decode cX12_answers 32 = .ok (.dup, 1) := by decide +kernel
theorem dX12_answers_33 : decode cX12_answers 33 = .ok (.getfield 261, 3) := by decide +kernel
theorem dX12_answers_36 : decode cX12_answers 36 = .ok (.iload_n 1, 1) := by decide +kernel
theorem dX12_answers_37 : decode cX12_answers 37 = .ok (.bipush 9, 2) := by decide +kernel
theorem dX12_answers_39 : decode cX12_answers 39 = .ok (.if_icmp .ne 7, 3) := by decide +kernel
theorem dX12_answers_42 : decode cX12_answers 42 = .ok (.iconst 1, 1) := by decide +kernel
theorem dX12_answers_43 : decode cX12_answers 43 = .ok (.goto 4, 3) := by decide +kernel
theorem dX12_answers_46 : decode cX12_answers 46 = .ok (.iconst 0, 1) := by decide +kernel
theorem dX12_answers_47 : decode cX12_answers 47 = .ok (.isub, 1) := by decide +kernel
theorem dX12_answers_48 : decode cX12_answers 48 = .ok (.putfield 261, 3) := by decide +kernel
theorem dX12_answers_51 : decode cX12_answers 51 = .ok (.goto (-51), 3) := by decide +kernel
theorem dX12_answers_54 : decode cX12_answers 54 = .ok (.return_, 1) := by decide +kernel
theorem dX12_fact_0 : decode cX12_fact 0 = .ok (.aload_n 0, 1) := by decide +kernel
theorem dX12_fact_1 : decode cX12_fact 1 = .ok (.invokevirtual 210, 3) := by decide +kernel
theorem dX12_fact_4 : decode cX12_fact 4 = .ok (.aload_n 0, 1) := by decide +kernel
theorem dX12_fact_5 : decode cX12_fact 5 = .ok (.ldc_w 267, 3) := by decide +kernel
theorem dX12_fact_8 : decode cX12_fact 8 = .ok (.invokevirtual 213, 3) := by decide +kernel
theorem dX12_fact_11 : decode cX12_fact 11 = .ok (.ifCond .eq 21, 3) := by decide +kernel
theorem dX12_fact_14 : decode cX12_fact 14 = .ok (.aload_n 0, 1) := by decide +kernel
theorem dX12_fact_15 : decode cX12_fact 15 = .ok (.bipush 9, 2) := by decide +kernel
theorem dX12_fact_17 : decode cX12_fact 17 = .ok (.invokevirtual 269, 3) := by decide +kernel
theorem dX12_fact_20 : decode cX12_fact 20 = .ok (.aload_n 0, 1) := by decide +kernel
theorem dX12_fact_21 : decode cX12_fact 21 = .ok (.dup, 1) := by decide +kernel
theorem dX12_fact_22 : decode cX12_fact 22 = .ok (.getfield 190, 3) := by decide +kernel
theorem dX12_fact_25 : decode cX12_fact 25 = .ok (.iconst 3, 1) := by decide +kernel
theorem dX12_fact_26 : decode cX12_fact 26 = .ok (.iadd, 1) := by decide +kernel
theorem dX12_fact_27 : decode cX12_fact 27 = .ok (.putfield 190, 3) := by decide +kernel
theorem dX12_fact_30 : decode cX12_fact 30 = .ok (.iconst 0, 1) := by decide +kernel
theorem dX12_fact_31 : decode cX12_fact 31 = .ok (.ireturn, 1) := by decide +kernel
theorem dX12_fact_32 : decode cX12_fact 32 = .ok (.aload_n 0, 1) := by decide +kernel
theorem dX12_fact_33 : decode cX12_fact 33 = .ok (.invokevirtual 193, 3) := by decide +kernel
theorem dX12_fact_36 : decode cX12_fact 36 = .ok (.bipush 91, 2) := by decide +kernel
theorem dX12_fact_38 : decode cX12_fact 38 = .ok (.if_icmp .ne 21, 3) := by decide +kernel
theorem dX12_fact_41 : decode cX12_fact 41 = .ok (.aload_n 0, 1) := by decide +kernel
theorem dX12_fact_42 : decode cX12_fact 42 = .ok (.bipush 12, 2) := by decide +kernel
theorem dX12_fact_44 : decode cX12_fact 44 = .ok (.invokevirtual 269, 3) := by decide +kernel
theorem dX12_fact_47 : decode cX12_fact 47 = .ok (.aload_n 0, 1) := by decide +kernel
theorem dX12_fact_48 : decode cX12_fact 48 = .ok (.dup, 1) := by decide +kernel
theorem dX12_fact_49 : decode cX12_fact 49 = .ok (.getfield 190, 3) := by decide +kernel
theorem dX12_fact_52 : decode cX12_fact 52 = .ok (.iconst 1, 1) := by decide +kernel
theorem dX12_fact_53 : decode cX12_fact 53 = .ok (.iadd, 1) := by decide +kernel
theorem dX12_fact_54 : decode cX12_fact 54 = .ok (.putfield 190, 3) := by decide +kernel
theorem dX12_fact_57 : decode cX12_fact 57 = .ok (.iconst 0, 1) := by decide +kernel
theorem dX12_fact_58 : decode cX12_fact 58 = .ok (.ireturn, 1) := by decide +kernel
theorem dX12_fact_59 : decode cX12_fact 59 = .ok (.aload_n 0, 1) := by decide +kernel
theorem dX12_fact_60 : decode cX12_fact 60 = .ok (.invokevirtual 272, 3) := by decide +kernel
theorem dX12_fact_63 : decode cX12_fact 63 = .ok (.iconst 1, 1) := by decide +kernel
theorem dX12_fact_64 : decode cX12_fact 64 = .ok (.ireturn, 1) := by decide +kernel
theorem dX12_test_0 : decode cX12_test 0 = .ok (.aload_n 0, 1) := by decide +kernel
theorem dX12_test_1 : decode cX12_test 1 = .ok (.iconst 0, 1) := by decide +kernel
theorem dX12_test_2 : decode cX12_test 2 = .ok (.putfield 258, 3) := by decide +kernel
theorem dX12_test_5 : decode cX12_test 5 = .ok (.iconst 1, 1) := by decide +kernel
theorem dX12_test_6 : decode cX12_test 6 = .ok (.istore_n 1, 1) := by decide +kernel
theorem dX12_test_7 : decode cX12_test 7 = .ok (.iconst 1, 1) := by decide +kernel
theorem dX12_test_8 : decode cX12_test 8 = .ok (.istore_n 2, 1) := by decide +kernel
theorem dX12_test_9 : decode cX12_test 9 = .ok (.iload_n 2, 1) := by decide +kernel
theorem dX12_test_10 : decode cX12_test 10 = .ok (.ifCond .eq 192, 3) := by decide +kernel
theorem dX12_test_13 : decode cX12_test 13 = .ok (.aload_n 0, 1) := by decide +kernel
theorem dX12_test_14 : decode cX12_test 14 = .ok (.getfield 187, 3) := by decide +kernel
theorem dX12_test_17 : decode cX12_test 17 = .ok (.ifCond .ne 185, 3) := by decide +kernel
theorem dX12_test_20 : decode cX12_test 20 = .ok (.iload_n 1, 1) := by decide +kernel
theorem dX12_test_21 : decode cX12_test 21 = .ok (.ifCond .eq 19, 3) := by decide +kernel
theorem dX12_test_24 : decode cX12_test 24 = .ok (.aload_n 0, 1) := by decide +kernel
theorem dX12_test_25 : decode cX12_test 25 = .ok (.invokevirtual 275, 3) := by decide +kernel
theorem dX12_test_28 : decode cX12_test 28 = .ok (.ifCond .ne 7, 3) := by decide +kernel
theorem dX12_test_31 : decode cX12_test 31 = .ok (.iconst 1, 1) := by decide +kernel
theorem dX12_test_32 : decode cX12_test 32 = .ok (.goto 4, 3) := by decide +kernel
theorem dX12_test_35 : decode cX12_test 35 = .ok (.iconst 0, 1) := by decide +kernel
theorem dX12_test_36 : decode cX12_test 36 = .ok (.istore_n 1, 1) := by decide +kernel
theorem dX12_test_37 : decode cX12_test 37 = .ok (.goto (-28), 3) := by decide +kernel
theorem dX12_test_40 : decode cX12_test 40 = .ok (.aload_n 0, 1) := by decide +kernel
theorem dX12_test_41 : decode cX12_test 41 = .ok (.bipush 9, 2) := by decide +kernel
theorem dX12_test_43 : decode cX12_test 43 = .ok (.invokevirtual 278, 3) := by decide +kernel
theorem dX12_test_46 : decode cX12_test 46 = .ok (.aload_n 0, 1) := by decide +kernel
theorem dX12_test_47 : decode cX12_test 47 = .ok (.invokevirtual 210, 3) := by decide +kernel
theorem dX12_test_50 : decode cX12_test 50 = .ok (.aload_n 0, 1) := by decide +kernel
theorem dX12_test_51 : decode cX12_test 51 = .ok (.ldc_w 281, 3) := by decide +kernel
theorem dX12_test_54 : decode cX12_test 54 = .ok (.invokevirtual 213, 3) := by decide +kernel
theorem dX12_test_57 : decode cX12_test 57 = .ok (.istore_n 3, 1) := by decide +kernel
theorem dX12_test_58 : decode cX12_test 58 = .ok (.aload_n 0, 1) := by decide +kernel
theorem dX12_test_59 : decode cX12_test 59 = .ok (.ldc_w 283, 3) := by decide +kernel
theorem dX12_test_62 : decode cX12_test 62 = .ok (.invokevirtual 213, 3) := by decide +kernel
theorem dX12_test_65 : decode cX12_test 65 = .ok (.istore 4, 2) := by decide +kernel
theorem dX12_test_67 : decode cX12_test 67 = .ok (.aload_n 0, 1) := by decide +kernel
theorem dX12_test_68 : decode cX12_test 68 = .ok (.bipush 10, 2) := by decide +kernel
theorem dX12_test_70 : decode cX12_test 70 = .ok (.invokevirtual 278, 3) := by decide +kernel
theorem dX12_test_73 : decode cX12_test 73 = .ok (.iload_n 3, 1) := by decide +kernel
theorem dX12_test_74 : decode cX12_test 74 = .ok (.ifCond .ne 8, 3) := by decide +kernel
theorem dX12_test_77 : decode cX12_test 77 = .ok (.iload 4, 2) := by decide +kernel
theorem dX12_test_79 : decode cX12_test 79 = .ok (.ifCond .eq 52, 3) := by decide +kernel
theorem dX12_test_82 : decode cX12_test 82 = .ok (.iload 4, 2) := by decide +kernel
theorem dX12_test_84 : decode cX12_test 84 = .ok (.ifCond .eq 9, 3) := by decide +kernel
theorem dX12_test_87 : decode cX12_test 87 = .ok (.aload_n 0, 1) := by decide +kernel
theorem dX12_test_88 : decode cX12_test 88 = .ok (.bipush 11, 2) := by decide +kernel
theorem dX12_test_90 : decode cX12_test 90 = .ok (.invokevirtual 278, 3) := by decide +kernel
theorem dX12_test_93 : decode cX12_test 93 = .ok (.aload_n 0, 1) := by decide +kernel
theorem dX12_test_94 : decode cX12_test 94 = .ok (.iload_n 3, 1) := by decide +kernel
theorem dX12_test_95 : decode cX12_test 95 = .ok (.ifCond .eq 8, 3) := by decide +kernel
theorem dX12_test_98 : decode cX12_test 98 = .ok (.bipush 10, 2) := by decide +kernel
theorem dX12_test_100 : decode cX12_test 100 = .ok (.goto 5, 3) := by decide +kernel
theorem dX12_test_103 : decode cX12_test 103 = .ok (.bipush 11, 2) := by decide +kernel
theorem dX12_test_105 : decode cX12_test 105 = .ok (.invokevirtual 269, 3) := by decide +kernel
theorem dX12_test_108 : decode cX12_test 108 = .ok (.aload_n 0, 1) := by decide +kernel
theorem dX12_test_109 : decode cX12_test 109 = .ok (.dup, 1) := by decide +kernel
theorem dX12_test_110 : decode cX12_test 110 = .ok (.getfield 190, 3) := by decide +kernel
theorem dX12_test_113 : decode cX12_test 113 = .ok (.iload_n 3, 1) := by decide +kernel
theorem dX12_test_114 : decode cX12_test 114 = .ok (.ifCond .eq 7, 3) := by decide +kernel
theorem dX12_test_117 : decode cX12_test 117 = .ok (.iconst 3, 1) := by decide +kernel
theorem dX12_test_118 : decode cX12_test 118 = .ok (.goto 4, 3) := by decide +kernel
theorem dX12_test_121 : decode cX12_test 121 = .ok (.iconst 2, 1) := by decide +kernel
theorem dX12_test_122 : decode cX12_test 122 = .ok (.iadd, 1) := by decide +kernel
theorem dX12_test_123 : decode cX12_test 123 = .ok (.putfield 190, 3) := by decide +kernel
theorem dX12_test_126 : decode cX12_test 126 = .ok (.iconst 1, 1) := by decide +kernel
theorem dX12_test_127 : decode cX12_test 127 = .ok (.istore_n 1, 1) := by decide +kernel
theorem dX12_test_128 : decode cX12_test 128 = .ok (.goto 71, 3) := by decide +kernel
theorem dX12_test_131 : decode cX12_test 131 = .ok (.aload_n 0, 1) := by decide +kernel
theorem dX12_test_132 : decode cX12_test 132 = .ok (.bipush 11, 2) := by decide +kernel
theorem dX12_test_134 : decode cX12_test 134 = .ok (.invokevirtual 278, 3) := by decide +kernel
theorem dX12_test_137 : decode cX12_test 137 = .ok (.aload_n 0, 1) := by decide +kernel
theorem dX12_test_138 : decode cX12_test 138 = .ok (.invokevirtual 264, 3) := by decide +kernel
theorem dX12_test_141 : decode cX12_test 141 = .ok (.bipush 12, 2) := by decide +kernel
theorem dX12_test_143 : decode cX12_test 143 = .ok (.if_icmp .ne 54, 3) := by decide +kernel
theorem dX12_test_146 : decode cX12_test 146 = .ok (.aload_n 0, 1) := by decide +kernel
theorem dX12_test_147 : decode cX12_test 147 = .ok (.invokevirtual 193, 3) := by decide +kernel
theorem dX12_test_150 : decode cX12_test 150 = .ok (.bipush 93, 2) := by decide +kernel
theorem dX12_test_152 : decode cX12_test 152 = .ok (.if_icmp .eq 12, 3) := by decide +kernel
theorem dX12_test_155 : decode cX12_test 155 = .ok (.aload_n 0, 1) := by decide +kernel
theorem dX12_test_156 : decode cX12_test 156 = .ok (.iconst 0, 1) := by decide +kernel
theorem dX12_test_157 : decode cX12_test 157 = .ok (.aload_n 0, 1) := by decide +kernel
theorem dX12_test_158 : decode cX12_test 158 = .ok (.getfield 190, 3) := by decide +kernel
theorem dX12_test_161 : decode cX12_test 161 = .ok (.invokevirtual 226, 3) := by decide +kernel
theorem dX12_test_164 : decode cX12_test 164 = .ok (.aload_n 0, 1) := by decide +kernel
theorem dX12_test_165 : decode cX12_test 165 = .ok (.dup, 1) := by decide +kernel
theorem dX12_test_166 : decode cX12_test 166 = .ok (.getfield 190, 3) := by decide +kernel
theorem dX12_test_169 : decode cX12_test 169 = .ok (.iconst 1, 1) := by decide +kernel
theorem dX12_test_170 : decode cX12_test 170 = .ok (.iadd, 1) := by decide +kernel
theorem dX12_test_171 : decode cX12_test 171 = .ok (.putfield 190, 3) := by decide +kernel
theorem dX12_test_174 : decode cX12_test 174 = .ok (.aload_n 0, 1) := by decide +kernel
theorem dX12_test_175 : decode cX12_test 175 = .ok (.dup, 1) := by decide +kernel
theorem dX12_test_176 : decode cX12_test 176 = .ok (.getfield 258, 3) := by decide +kernel
theorem dX12_test_179 : decode cX12_test 179 = .ok (.iconst 1, 1) := by decide +kernel
theorem dX12_test_180 : decode cX12_test 180 = .ok (.isub, 1) := by decide +kernel
theorem dX12_test_181 : decode cX12_test 181 = .ok (.putfield 258, 3) := by decide +kernel
theorem dX12_test_184 : decode cX12_test 184 = .ok (.aload_n 0, 1) := by decide +kernel
theorem dX12_test_185 : decode cX12_test 185 = .ok (.dup, 1) := by decide +kernel
theorem dX12_test_186 : decode cX12_test 186 = .ok (.getfield 261, 3) := by decide +kernel
theorem dX12_test_189 : decode cX12_test 189 = .ok (.iconst 1, 1) := by decide +kernel
theorem dX12_test_190 : decode cX12_test 190 = .ok (.isub, 1) := by decide +kernel
theorem dX12_test_191 : decode cX12_test 191 = .ok (.putfield 261, 3) := by decide +kernel
theorem dX12_test_194 : decode cX12_test 194 = .ok (.goto 5, 3) := by decide +kernel
theorem dX12_test_197 : decode cX12_test 197 = .ok (.iconst 0, 1) := by decide +kernel
theorem dX12_test_198 : decode cX12_test 198 = .ok (.istore_n 2, 1) := by decide +kernel
theorem dX12_test_199 : decode cX12_test 199 = .ok (.goto (-190), 3) := by decide +kernel
theorem dX12_test_202 : decode cX12_test 202 = .ok (.return_, 1) := by decide +kernel
theorem dX12_amount_0 : decode cX12_amount 0 = .ok (.aload_n 0, 1) := by decide +kernel
theorem dX12_amount_1 : decode cX12_amount 1 = .ok (.invokevirtual 210, 3) := by decide +kernel
theorem dX12_amount_4 : decode cX12_amount 4 = .ok (.aload_n 0, 1) := by decide +kernel
theorem dX12_amount_5 : decode cX12_amount 5 = .ok (.getfield 190, 3) := by decide +kernel
theorem dX12_amount_8 : decode cX12_amount 8 = .ok (.istore_n 3, 1) := by decide +kernel
theorem dX12_amount_9 : decode cX12_amount 9 = .ok (.aload_n 0, 1) := by decide +kernel
theorem dX12_amount_10 : decode cX12_amount 10 = .ok (.getfield 187, 3) := by decide +kernel
theorem dX12_amount_13 : decode cX12_amount 13 = .ok (.ifCond .ne 12, 3) := by decide +kernel
theorem dX12_amount_16 : decode cX12_amount 16 = .ok (.aload_n 0, 1) := by decide +kernel
theorem dX12_amount_17 : decode cX12_amount 17 = .ok (.ldc 234, 2) := by decide +kernel
theorem dX12_amount_19 : decode cX12_amount 19 = .ok (.invokevirtual 235, 3) := by decide +kernel
theorem dX12_amount_22 : decode cX12_amount 22 = .ok (.goto 4, 3) := by decide +kernel
theorem dX12_amount_25 : decode cX12_amount 25 = .ok (.iconst 0, 1) := by decide +kernel
theorem dX12_amount_26 : decode cX12_amount 26 = .ok (.istore 4, 2) := by decide +kernel
theorem dX12_amount_28 : decode cX12_amount 28 = .ok (.aload_n 0, 1) := by decide +kernel
theorem dX12_amount_29 : decode cX12_amount 29 = .ok (.getfield 187, 3) := by decide +kernel
theorem dX12_amount_32 : decode cX12_amount 32 = .ok (.ifCond .ne 22, 3) := by decide +kernel
theorem dX12_amount_35 : decode cX12_amount 35 = .ok (.iload 4, 2) := by decide +kernel
theorem dX12_amount_37 : decode cX12_amount 37 = .ok (.i2l, 1) := by decide +kernel
theorem dX12_amount_38 : decode cX12_amount 38 = .ok (.iload_n 1, 1) := by decide +kernel
theorem dX12_amount_39 : decode cX12_amount 39 = .ok (.i2l, 1) := by decide +kernel
theorem dX12_amount_40 : decode cX12_amount 40 = .ok (.iload_n 2, 1) := by decide +kernel
theorem dX12_amount_41 : decode cX12_amount 41 = .ok (.i2l, 1) := by decide +kernel
theorem dX12_amount_42 : decode cX12_amount 42 = .ok (.invokestatic 155, 3) := by decide +kernel
theorem dX12_amount_45 : decode cX12_amount 45 = .ok (.ifCond .ne 9, 3) := by decide +kernel
theorem dX12_amount_48 : decode cX12_amount 48 = .ok (.aload_n 0, 1) := by decide +kernel
theorem dX12_amount_49 : decode cX12_amount 49 = .ok (.iconst 1, 1) := by decide +kernel
theorem dX12_amount_50 : decode cX12_amount 50 = .ok (.iload_n 3, 1) := by decide +kernel
theorem dX12_amount_51 : decode cX12_amount 51 = .ok (.invokevirtual 226, 3) := by decide +kernel
theorem dX12_amount_54 : decode cX12_amount 54 = .ok (.iload 4, 2) := by decide +kernel
theorem dX12_amount_56 : decode cX12_amount 56 = .ok (.ireturn, 1) := by decide +kernel
theorem dX12_hallWord_0 : decode cX12_hallWord 0 = .ok (.iload_n 0, 1) := by decide +kernel
theorem dX12_hallWord_1 : decode cX12_hallWord 1 = .ok (.tableswitch 44 0 3 #[31, 35, 38, 41], 31) := by decide +kernel
theorem dX12_hallWord_32 : decode cX12_hallWord 32 = .ok (.ldc_w 285, 3) := by decide +kernel
theorem dX12_hallWord_35 : decode cX12_hallWord 35 = .ok (.areturn, 1) := by decide +kernel
theorem dX12_hallWord_36 : decode cX12_hallWord 36 = .ok (.ldc 170, 2) := by decide +kernel
theorem dX12_hallWord_38 : decode cX12_hallWord 38 = .ok (.areturn, 1) := by decide +kernel
theorem dX12_hallWord_39 : decode cX12_hallWord 39 = .ok (.ldc 166, 2) := by decide +kernel
theorem dX12_hallWord_41 : decode cX12_hallWord 41 = .ok (.areturn, 1) := by decide +kernel
theorem dX12_hallWord_42 : decode cX12_hallWord 42 = .ok (.ldc 168, 2) := by decide +kernel
theorem dX12_hallWord_44 : decode cX12_hallWord 44 = .ok (.areturn, 1) := by decide +kernel
theorem dX12_hallWord_45 : decode cX12_hallWord 45 = .ok (.ldc_w 287, 3) := by decide +kernel
theorem dX12_hallWord_48 : decode cX12_hallWord 48 = .ok (.areturn, 1) := by decide +kernel
theorem dX12_readsSkill_0 : decode cX12_readsSkill 0 = .ok (.aload_n 0, 1) := by decide +kernel
theorem dX12_readsSkill_1 : decode cX12_readsSkill 1 = .ok (.iconst 0, 1) := by decide +kernel
theorem dX12_readsSkill_2 : decode cX12_readsSkill 2 = .ok (.aload_n 0, 1) := by decide +kernel
theorem dX12_readsSkill_3 : decode cX12_readsSkill 3 = .ok (.getfield 64, 3) := by decide +kernel
theorem dX12_readsSkill_6 : decode cX12_readsSkill 6 = .ok (.iconst 3, 1) := by decide +kernel
theorem dX12_readsSkill_7 : decode cX12_readsSkill 7 = .ok (.iaload, 1) := by decide +kernel
theorem dX12_readsSkill_8 : decode cX12_readsSkill 8 = .ok (.iconst 1, 1) := by decide +kernel
theorem dX12_readsSkill_9 : decode cX12_readsSkill 9 = .ok (.isub, 1) := by decide +kernel
theorem dX12_readsSkill_10 : decode cX12_readsSkill 10 = .ok (.invokevirtual 288, 3) := by decide +kernel
theorem dX12_readsSkill_13 : decode cX12_readsSkill 13 = .ok (.istore_n 1, 1) := by decide +kernel
theorem dX12_readsSkill_14 : decode cX12_readsSkill 14 = .ok (.aload_n 0, 1) := by decide +kernel
theorem dX12_readsSkill_15 : decode cX12_readsSkill 15 = .ok (.iconst 0, 1) := by decide +kernel
theorem dX12_readsSkill_16 : decode cX12_readsSkill 16 = .ok (.aload_n 0, 1) := by decide +kernel
theorem dX12_readsSkill_17 : decode cX12_readsSkill 17 = .ok (.getfield 64, 3) := by decide +kernel
theorem dX12_readsSkill_20 : decode cX12_readsSkill 20 = .ok (.iconst 2, 1) := by decide +kernel
theorem dX12_readsSkill_21 : decode cX12_readsSkill 21 = .ok (.iaload, 1) := by decide +kernel
theorem dX12_readsSkill_22 : decode cX12_readsSkill 22 = .ok (.iconst 1, 1) := by decide +kernel
theorem dX12_readsSkill_23 : decode cX12_readsSkill 23 = .ok (.isub, 1) := by decide +kernel
theorem dX12_readsSkill_24 : decode cX12_readsSkill 24 = .ok (.invokevirtual 288, 3) := by decide +kernel
theorem dX12_readsSkill_27 : decode cX12_readsSkill 27 = .ok (.istore_n 2, 1) := by decide +kernel
theorem dX12_readsSkill_28 : decode cX12_readsSkill 28 = .ok (.aload_n 0, 1) := by decide +kernel
theorem dX12_readsSkill_29 : decode cX12_readsSkill 29 = .ok (.iconst 1, 1) := by decide +kernel
theorem dX12_readsSkill_30 : decode cX12_readsSkill 30 = .ok (.bipush 60, 2) := by decide +kernel
theorem dX12_readsSkill_32 : decode cX12_readsSkill 32 = .ok (.invokevirtual 288, 3) := by decide +kernel
theorem dX12_readsSkill_35 : decode cX12_readsSkill 35 = .ok (.istore_n 3, 1) := by decide +kernel
theorem dX12_readsSkill_36 : decode cX12_readsSkill 36 = .ok (.aload_n 0, 1) := by decide +kernel
theorem dX12_readsSkill_37 : decode cX12_readsSkill 37 = .ok (.getfield 187, 3) := by decide +kernel
theorem dX12_readsSkill_40 : decode cX12_readsSkill 40 = .ok (.ifCond .ne 14, 3) := by decide +kernel
theorem dX12_readsSkill_43 : decode cX12_readsSkill 43 = .ok (.aload_n 0, 1) := by decide +kernel
theorem dX12_readsSkill_44 : decode cX12_readsSkill 44 = .ok (.getfield 73, 3) := by decide +kernel
theorem dX12_readsSkill_47 : decode cX12_readsSkill 47 = .ok (.iconst 4, 1) := by decide +kernel
theorem dX12_readsSkill_48 : decode cX12_readsSkill 48 = .ok (.iload_n 1, 1) := by decide +kernel
theorem dX12_readsSkill_49 : decode cX12_readsSkill 49 = .ok (.imul, 1) := by decide +kernel
theorem dX12_readsSkill_50 : decode cX12_readsSkill 50 = .ok (.iload_n 2, 1) := by decide +kernel
theorem dX12_readsSkill_51 : decode cX12_readsSkill 51 = .ok (.iadd, 1) := by decide +kernel
theorem dX12_readsSkill_52 : decode cX12_readsSkill 52 = .ok (.iload_n 3, 1) := by decide +kernel
theorem dX12_readsSkill_53 : decode cX12_readsSkill 53 = .ok (.iastore, 1) := by decide +kernel
theorem dX12_readsSkill_54 : decode cX12_readsSkill 54 = .ok (.return_, 1) := by decide +kernel
theorem dX12_readsThing_0 : decode cX12_readsThing 0 = .ok (.aload_n 0, 1) := by decide +kernel
theorem dX12_readsThing_1 : decode cX12_readsThing 1 = .ok (.getfield 64, 3) := by decide +kernel
theorem dX12_readsThing_4 : decode cX12_readsThing 4 = .ok (.iconst 4, 1) := by decide +kernel
theorem dX12_readsThing_5 : decode cX12_readsThing 5 = .ok (.iaload, 1) := by decide +kernel
theorem dX12_readsThing_6 : decode cX12_readsThing 6 = .ok (.istore_n 1, 1) := by decide +kernel
theorem dX12_readsThing_7 : decode cX12_readsThing 7 = .ok (.aload_n 0, 1) := by decide +kernel
theorem dX12_readsThing_8 : decode cX12_readsThing 8 = .ok (.getfield 76, 3) := by decide +kernel
theorem dX12_readsThing_11 : decode cX12_readsThing 11 = .ok (.iload_n 1, 1) := by decide +kernel
theorem dX12_readsThing_12 : decode cX12_readsThing 12 = .ok (.aload_n 0, 1) := by decide +kernel
theorem dX12_readsThing_13 : decode cX12_readsThing 13 = .ok (.iconst 0, 1) := by decide +kernel
theorem dX12_readsThing_14 : decode cX12_readsThing 14 = .ok (.aload_n 0, 1) := by decide +kernel
theorem dX12_readsThing_15 : decode cX12_readsThing 15 = .ok (.getfield 64, 3) := by decide +kernel
theorem dX12_readsThing_18 : decode cX12_readsThing 18 = .ok (.iconst 2, 1) := by decide +kernel
theorem dX12_readsThing_19 : decode cX12_readsThing 19 = .ok (.iaload, 1) := by decide +kernel
theorem dX12_readsThing_20 : decode cX12_readsThing 20 = .ok (.iconst 1, 1) := by decide +kernel
theorem dX12_readsThing_21 : decode cX12_readsThing 21 = .ok (.isub, 1) := by decide +kernel
theorem dX12_readsThing_22 : decode cX12_readsThing 22 = .ok (.invokevirtual 288, 3) := by decide +kernel
theorem dX12_readsThing_25 : decode cX12_readsThing 25 = .ok (.iastore, 1) := by decide +kernel
theorem dX12_readsThing_26 : decode cX12_readsThing 26 = .ok (.aload_n 0, 1) := by decide +kernel
theorem dX12_readsThing_27 : decode cX12_readsThing 27 = .ok (.getfield 79, 3) := by decide +kernel
theorem dX12_readsThing_30 : decode cX12_readsThing 30 = .ok (.iload_n 1, 1) := by decide +kernel
theorem dX12_readsThing_31 : decode cX12_readsThing 31 = .ok (.aload_n 0, 1) := by decide +kernel
theorem dX12_readsThing_32 : decode cX12_readsThing 32 = .ok (.iconst 0, 1) := by decide +kernel
theorem dX12_readsThing_33 : decode cX12_readsThing 33 = .ok (.sipush 299, 3) := by decide +kernel
theorem dX12_readsThing_36 : decode cX12_readsThing 36 = .ok (.invokevirtual 288, 3) := by decide +kernel
theorem dX12_readsThing_39 : decode cX12_readsThing 39 = .ok (.iastore, 1) := by decide +kernel
theorem dX12_readsThing_40 : decode cX12_readsThing 40 = .ok (.aload_n 0, 1) := by decide +kernel
theorem dX12_readsThing_41 : decode cX12_readsThing 41 = .ok (.getfield 82, 3) := by decide +kernel
theorem dX12_readsThing_44 : decode cX12_readsThing 44 = .ok (.iload_n 1, 1) := by decide +kernel
theorem dX12_readsThing_45 : decode cX12_readsThing 45 = .ok (.aload_n 0, 1) := by decide +kernel
theorem dX12_readsThing_46 : decode cX12_readsThing 46 = .ok (.iconst 1, 1) := by decide +kernel
theorem dX12_readsThing_47 : decode cX12_readsThing 47 = .ok (.bipush 30, 2) := by decide +kernel
theorem dX12_readsThing_49 : decode cX12_readsThing 49 = .ok (.invokevirtual 288, 3) := by decide +kernel
theorem dX12_readsThing_52 : decode cX12_readsThing 52 = .ok (.iastore, 1) := by decide +kernel
theorem dX12_readsThing_53 : decode cX12_readsThing 53 = .ok (.aload_n 0, 1) := by decide +kernel
theorem dX12_readsThing_54 : decode cX12_readsThing 54 = .ok (.getfield 85, 3) := by decide +kernel
theorem dX12_readsThing_57 : decode cX12_readsThing 57 = .ok (.iload_n 1, 1) := by decide +kernel
theorem dX12_readsThing_58 : decode cX12_readsThing 58 = .ok (.aload_n 0, 1) := by decide +kernel
theorem dX12_readsThing_59 : decode cX12_readsThing 59 = .ok (.iconst 0, 1) := by decide +kernel
theorem dX12_readsThing_60 : decode cX12_readsThing 60 = .ok (.iconst 1, 1) := by decide +kernel
theorem dX12_readsThing_61 : decode cX12_readsThing 61 = .ok (.invokevirtual 288, 3) := by decide +kernel
theorem dX12_readsThing_64 : decode cX12_readsThing 64 = .ok (.iastore, 1) := by decide +kernel
theorem dX12_readsThing_65 : decode cX12_readsThing 65 = .ok (.aload_n 0, 1) := by decide +kernel
theorem dX12_readsThing_66 : decode cX12_readsThing 66 = .ok (.getfield 64, 3) := by decide +kernel
theorem dX12_readsThing_69 : decode cX12_readsThing 69 = .ok (.iconst 4, 1) := by decide +kernel
theorem dX12_readsThing_70 : decode cX12_readsThing 70 = .ok (.dup2, 1) := by decide +kernel
theorem dX12_readsThing_71 : decode cX12_readsThing 71 = .ok (.iaload, 1) := by decide +kernel
theorem dX12_readsThing_72 : decode cX12_readsThing 72 = .ok (.iconst 1, 1) := by decide +kernel
theorem dX12_readsThing_73 : decode cX12_readsThing 73 = .ok (.iadd, 1) := by decide +kernel
theorem dX12_readsThing_74 : decode cX12_readsThing 74 = .ok (.iastore, 1) := by decide +kernel
theorem dX12_readsThing_75 : decode cX12_readsThing 75 = .ok (.return_, 1) := by decide +kernel
theorem dX12_hallPart_0 : decode cX12_hallPart 0 = .ok (.iload_n 1, 1) := by decide +kernel
theorem dX12_hallPart_1 : decode cX12_hallPart 1 = .ok (.tableswitch 128 0 3 #[31, 62, 108, 121], 31) := by decide +kernel
theorem dX12_hallPart_32 : decode cX12_hallPart 32 = .ok (.aload_n 0, 1) := by decide +kernel
theorem dX12_hallPart_33 : decode cX12_hallPart 33 = .ok (.getfield 64, 3) := by decide +kernel
theorem dX12_hallPart_36 : decode cX12_hallPart 36 = .ok (.iconst 0, 1) := by decide +kernel
theorem dX12_hallPart_37 : decode cX12_hallPart 37 = .ok (.aload_n 0, 1) := by decide +kernel
theorem dX12_hallPart_38 : decode cX12_hallPart 38 = .ok (.iconst 1, 1) := by decide +kernel
theorem dX12_hallPart_39 : decode cX12_hallPart 39 = .ok (.sipush 300, 3) := by decide +kernel
theorem dX12_hallPart_42 : decode cX12_hallPart 42 = .ok (.invokevirtual 288, 3) := by decide +kernel
theorem dX12_hallPart_45 : decode cX12_hallPart 45 = .ok (.iastore, 1) := by decide +kernel
theorem dX12_hallPart_46 : decode cX12_hallPart 46 = .ok (.aload_n 0, 1) := by decide +kernel
theorem dX12_hallPart_47 : decode cX12_hallPart 47 = .ok (.getfield 64, 3) := by decide +kernel
theorem dX12_hallPart_50 : decode cX12_hallPart 50 = .ok (.iconst 1, 1) := by decide +kernel
theorem dX12_hallPart_51 : decode cX12_hallPart 51 = .ok (.aload_n 0, 1) := by decide +kernel
theorem dX12_hallPart_52 : decode cX12_hallPart 52 = .ok (.iconst 1, 1) := by decide +kernel
theorem dX12_hallPart_53 : decode cX12_hallPart 53 = .ok (.sipush 300, 3) := by decide +kernel
theorem dX12_hallPart_56 : decode cX12_hallPart 56 = .ok (.invokevirtual 288, 3) := by decide +kernel
theorem dX12_hallPart_59 : decode cX12_hallPart 59 = .ok (.iastore, 1) := by decide +kernel
theorem dX12_hallPart_60 : decode cX12_hallPart 60 = .ok (.goto 73, 3) := by decide +kernel
theorem dX12_hallPart_63 : decode cX12_hallPart 63 = .ok (.aload_n 0, 1) := by decide +kernel
theorem dX12_hallPart_64 : decode cX12_hallPart 64 = .ok (.getfield 64, 3) := by decide +kernel
theorem dX12_hallPart_67 : decode cX12_hallPart 67 = .ok (.iconst 2, 1) := by decide +kernel
theorem dX12_hallPart_68 : decode cX12_hallPart 68 = .ok (.iaload, 1) := by decide +kernel
theorem dX12_hallPart_69 : decode cX12_hallPart 69 = .ok (.istore_n 2, 1) := by decide +kernel
theorem dX12_hallPart_70 : decode cX12_hallPart 70 = .ok (.aload_n 0, 1) := by decide +kernel
theorem dX12_hallPart_71 : decode cX12_hallPart 71 = .ok (.getfield 67, 3) := by decide +kernel
theorem dX12_hallPart_74 : decode cX12_hallPart 74 = .ok (.iload_n 2, 1) := by decide +kernel
theorem dX12_hallPart_75 : decode cX12_hallPart 75 = .ok (.aload_n 0, 1) := by decide +kernel
theorem dX12_hallPart_76 : decode cX12_hallPart 76 = .ok (.iconst 0, 1) := by decide +kernel
theorem dX12_hallPart_77 : decode cX12_hallPart 77 = .ok (.bipush 9, 2) := by decide +kernel
theorem dX12_hallPart_79 : decode cX12_hallPart 79 = .ok (.invokevirtual 288, 3) := by decide +kernel
theorem dX12_hallPart_82 : decode cX12_hallPart 82 = .ok (.iastore, 1) := by decide +kernel
theorem dX12_hallPart_83 : decode cX12_hallPart 83 = .ok (.aload_n 0, 1) := by decide +kernel
theorem dX12_hallPart_84 : decode cX12_hallPart 84 = .ok (.getfield 70, 3) := by decide +kernel
theorem dX12_hallPart_87 : decode cX12_hallPart 87 = .ok (.iload_n 2, 1) := by decide +kernel
theorem dX12_hallPart_88 : decode cX12_hallPart 88 = .ok (.aload_n 0, 1) := by decide +kernel
theorem dX12_hallPart_89 : decode cX12_hallPart 89 = .ok (.iconst 0, 1) := by decide +kernel
theorem dX12_hallPart_90 : decode cX12_hallPart 90 = .ok (.bipush 9, 2) := by decide +kernel
theorem dX12_hallPart_92 : decode cX12_hallPart 92 = .ok (.invokevirtual 288, 3) := by decide +kernel
theorem dX12_hallPart_95 : decode cX12_hallPart 95 = .ok (.iastore, 1) := by decide +kernel
theorem dX12_hallPart_96 : decode cX12_hallPart 96 = .ok (.aload_n 0, 1) := by decide +kernel
theorem dX12_hallPart_97 : decode cX12_hallPart 97 = .ok (.getfield 64, 3) := by decide +kernel
theorem dX12_hallPart_100 : decode cX12_hallPart 100 = .ok (.iconst 2, 1) := by decide +kernel
theorem dX12_hallPart_101 : decode cX12_hallPart 101 = .ok (.dup2, 1) := by decide +kernel
theorem dX12_hallPart_102 : decode cX12_hallPart 102 = .ok (.iaload, 1) := by decide +kernel
theorem dX12_hallPart_103 : decode cX12_hallPart 103 = .ok (.iconst 1, 1) := by decide +kernel
theorem dX12_hallPart_104 : decode cX12_hallPart 104 = .ok (.iadd, 1) := by decide +kernel
theorem dX12_hallPart_105 : decode cX12_hallPart 105 = .ok (.iastore, 1) := by decide +kernel
theorem dX12_hallPart_106 : decode cX12_hallPart 106 = .ok (.goto 27, 3) := by decide +kernel
theorem dX12_hallPart_109 : decode cX12_hallPart 109 = .ok (.aload_n 0, 1) := by decide +kernel
theorem dX12_hallPart_110 : decode cX12_hallPart 110 = .ok (.getfield 64, 3) := by decide +kernel
theorem dX12_hallPart_113 : decode cX12_hallPart 113 = .ok (.iconst 3, 1) := by decide +kernel
theorem dX12_hallPart_114 : decode cX12_hallPart 114 = .ok (.dup2, 1) := by decide +kernel
theorem dX12_hallPart_115 : decode cX12_hallPart 115 = .ok (.iaload, 1) := by decide +kernel
theorem dX12_hallPart_116 : decode cX12_hallPart 116 = .ok (.iconst 1, 1) := by decide +kernel
theorem dX12_hallPart_117 : decode cX12_hallPart 117 = .ok (.iadd, 1) := by decide +kernel
theorem dX12_hallPart_118 : decode cX12_hallPart 118 = .ok (.iastore, 1) := by decide +kernel
theorem dX12_hallPart_119 : decode cX12_hallPart 119 = .ok (.goto 14, 3) := by decide +kernel
theorem dX12_hallPart_122 : decode cX12_hallPart 122 = .ok (.aload_n 0, 1) := by decide +kernel
theorem dX12_hallPart_123 : decode cX12_hallPart 123 = .ok (.invokevirtual 292, 3) := by decide +kernel
theorem dX12_hallPart_126 : decode cX12_hallPart 126 = .ok (.goto 7, 3) := by decide +kernel
theorem dX12_hallPart_129 : decode cX12_hallPart 129 = .ok (.aload_n 0, 1) := by decide +kernel
theorem dX12_hallPart_130 : decode cX12_hallPart 130 = .ok (.invokevirtual 295, 3) := by decide +kernel
theorem dX12_hallPart_133 : decode cX12_hallPart 133 = .ok (.return_, 1) := by decide +kernel
theorem dX12_isFull_0 : decode cX12_isFull 0 = .ok (.iload_n 2, 1) := by decide +kernel
theorem dX12_isFull_1 : decode cX12_isFull 1 = .ok (.bipush 40, 2) := by decide +kernel
theorem dX12_isFull_3 : decode cX12_isFull 3 = .ok (.if_icmp .eq 24, 3) := by decide +kernel
theorem dX12_isFull_6 : decode cX12_isFull 6 = .ok (.iload_n 1, 1) := by decide +kernel
theorem dX12_isFull_7 : decode cX12_isFull 7 = .ok (.ifCond .ne 7, 3) := by decide +kernel
theorem dX12_isFull_10 : decode cX12_isFull 10 = .ok (.iconst 1, 1) := by decide +kernel
theorem dX12_isFull_11 : decode cX12_isFull 11 = .ok (.goto 4, 3) := by decide +kernel
theorem dX12_isFull_14 : decode cX12_isFull 14 = .ok (.iconst 0, 1) := by decide +kernel
theorem dX12_isFull_15 : decode cX12_isFull 15 = .ok (.iload_n 2, 1) := by decide +kernel
theorem dX12_isFull_16 : decode cX12_isFull 16 = .ok (.ifCond .ne 7, 3) := by decide +kernel
theorem dX12_isFull_19 : decode cX12_isFull 19 = .ok (.iconst 1, 1) := by decide +kernel
theorem dX12_isFull_20 : decode cX12_isFull 20 = .ok (.goto 4, 3) := by decide +kernel
theorem dX12_isFull_23 : decode cX12_isFull 23 = .ok (.iconst 0, 1) := by decide +kernel
theorem dX12_isFull_24 : decode cX12_isFull 24 = .ok (.if_icmp .eq 5, 3) := by decide +kernel
theorem dX12_isFull_27 : decode cX12_isFull 27 = .ok (.iconst 1, 1) := by decide +kernel
theorem dX12_isFull_28 : decode cX12_isFull 28 = .ok (.ireturn, 1) := by decide +kernel
theorem dX12_isFull_29 : decode cX12_isFull 29 = .ok (.iload_n 1, 1) := by decide +kernel
theorem dX12_isFull_30 : decode cX12_isFull 30 = .ok (.tableswitch 75 1 3 #[26, 42, 58], 26) := by decide +kernel
theorem dX12_isFull_56 : decode cX12_isFull 56 = .ok (.aload_n 0, 1) := by decide +kernel
theorem dX12_isFull_57 : decode cX12_isFull 57 = .ok (.getfield 64, 3) := by decide +kernel
theorem dX12_isFull_60 : decode cX12_isFull 60 = .ok (.iconst 2, 1) := by decide +kernel
theorem dX12_isFull_61 : decode cX12_isFull 61 = .ok (.iaload, 1) := by decide +kernel
theorem dX12_isFull_62 : decode cX12_isFull 62 = .ok (.iconst 4, 1) := by decide +kernel
theorem dX12_isFull_63 : decode cX12_isFull 63 = .ok (.if_icmp .ne 7, 3) := by decide +kernel
theorem dX12_isFull_66 : decode cX12_isFull 66 = .ok (.iconst 1, 1) := by decide +kernel
theorem dX12_isFull_67 : decode cX12_isFull 67 = .ok (.goto 4, 3) := by decide +kernel
theorem dX12_isFull_70 : decode cX12_isFull 70 = .ok (.iconst 0, 1) := by decide +kernel
theorem dX12_isFull_71 : decode cX12_isFull 71 = .ok (.ireturn, 1) := by decide +kernel
theorem dX12_isFull_72 : decode cX12_isFull 72 = .ok (.aload_n 0, 1) := by decide +kernel
theorem dX12_isFull_73 : decode cX12_isFull 73 = .ok (.getfield 64, 3) := by decide +kernel
theorem dX12_isFull_76 : decode cX12_isFull 76 = .ok (.iconst 3, 1) := by decide +kernel
theorem dX12_isFull_77 : decode cX12_isFull 77 = .ok (.iaload, 1) := by decide +kernel
theorem dX12_isFull_78 : decode cX12_isFull 78 = .ok (.iconst 4, 1) := by decide +kernel
theorem dX12_isFull_79 : decode cX12_isFull 79 = .ok (.if_icmp .ne 7, 3) := by decide +kernel
theorem dX12_isFull_82 : decode cX12_isFull 82 = .ok (.iconst 1, 1) := by decide +kernel
theorem dX12_isFull_83 : decode cX12_isFull 83 = .ok (.goto 4, 3) := by decide +kernel
theorem dX12_isFull_86 : decode cX12_isFull 86 = .ok (.iconst 0, 1) := by decide +kernel
theorem dX12_isFull_87 : decode cX12_isFull 87 = .ok (.ireturn, 1) := by decide +kernel
theorem dX12_isFull_88 : decode cX12_isFull 88 = .ok (.aload_n 0, 1) := by decide +kernel
theorem dX12_isFull_89 : decode cX12_isFull 89 = .ok (.getfield 64, 3) := by decide +kernel
theorem dX12_isFull_92 : decode cX12_isFull 92 = .ok (.iconst 4, 1) := by decide +kernel
theorem dX12_isFull_93 : decode cX12_isFull 93 = .ok (.iaload, 1) := by decide +kernel
theorem dX12_isFull_94 : decode cX12_isFull 94 = .ok (.bipush 7, 2) := by decide +kernel
theorem dX12_isFull_96 : decode cX12_isFull 96 = .ok (.if_icmp .ne 7, 3) := by decide +kernel
theorem dX12_isFull_99 : decode cX12_isFull 99 = .ok (.iconst 1, 1) := by decide +kernel
theorem dX12_isFull_100 : decode cX12_isFull 100 = .ok (.goto 4, 3) := by decide +kernel
theorem dX12_isFull_103 : decode cX12_isFull 103 = .ok (.iconst 0, 1) := by decide +kernel
theorem dX12_isFull_104 : decode cX12_isFull 104 = .ok (.ireturn, 1) := by decide +kernel
theorem dX12_isFull_105 : decode cX12_isFull 105 = .ok (.iconst 0, 1) := by decide +kernel
theorem dX12_isFull_106 : decode cX12_isFull 106 = .ok (.ireturn, 1) := by decide +kernel
theorem dX12_hallClause_0 : decode cX12_hallClause 0 = .ok (.aload_n 0, 1) := by decide +kernel
theorem dX12_hallClause_1 : decode cX12_hallClause 1 = .ok (.invokevirtual 210, 3) := by decide +kernel
theorem dX12_hallClause_4 : decode cX12_hallClause 4 = .ok (.aload_n 0, 1) := by decide +kernel
theorem dX12_hallClause_5 : decode cX12_hallClause 5 = .ok (.getfield 190, 3) := by decide +kernel
theorem dX12_hallClause_8 : decode cX12_hallClause 8 = .ok (.istore_n 2, 1) := by decide +kernel
theorem dX12_hallClause_9 : decode cX12_hallClause 9 = .ok (.iconst 0, 1) := by decide +kernel
theorem dX12_hallClause_10 : decode cX12_hallClause 10 = .ok (.istore_n 3, 1) := by decide +kernel
theorem dX12_hallClause_11 : decode cX12_hallClause 11 = .ok (.iload_n 3, 1) := by decide +kernel
theorem dX12_hallClause_12 : decode cX12_hallClause 12 = .ok (.iconst 5, 1) := by decide +kernel
theorem dX12_hallClause_13 : decode cX12_hallClause 13 = .ok (.if_icmp .ge 20, 3) := by decide +kernel
theorem dX12_hallClause_16 : decode cX12_hallClause 16 = .ok (.aload_n 0, 1) := by decide +kernel
theorem dX12_hallClause_17 : decode cX12_hallClause 17 = .ok (.iload_n 3, 1) := by decide +kernel
theorem dX12_hallClause_18 : decode cX12_hallClause 18 = .ok (.invokestatic 298, 3) := by decide +kernel
theorem dX12_hallClause_21 : decode cX12_hallClause 21 = .ok (.invokevirtual 213, 3) := by decide +kernel
theorem dX12_hallClause_24 : decode cX12_hallClause 24 = .ok (.ifCond .ne 9, 3) := by decide +kernel
theorem dX12_hallClause_27 : decode cX12_hallClause 27 = .ok (.iinc 3 1, 3) := by decide +kernel
theorem dX12_hallClause_30 : decode cX12_hallClause 30 = .ok (.goto (-19), 3) := by decide +kernel
theorem dX12_hallClause_33 : decode cX12_hallClause 33 = .ok (.iload_n 3, 1) := by decide +kernel
theorem dX12_hallClause_34 : decode cX12_hallClause 34 = .ok (.iconst 5, 1) := by decide +kernel
theorem dX12_hallClause_35 : decode cX12_hallClause 35 = .ok (.if_icmp .ne 10, 3) := by decide +kernel
theorem dX12_hallClause_38 : decode cX12_hallClause 38 = .ok (.aload_n 0, 1) := by decide +kernel
theorem dX12_hallClause_39 : decode cX12_hallClause 39 = .ok (.iconst 0, 1) := by decide +kernel
theorem dX12_hallClause_40 : decode cX12_hallClause 40 = .ok (.iload_n 2, 1) := by decide +kernel
theorem dX12_hallClause_41 : decode cX12_hallClause 41 = .ok (.invokevirtual 226, 3) := by decide +kernel
theorem dX12_hallClause_44 : decode cX12_hallClause 44 = .ok (.return_, 1) := by decide +kernel
theorem dX12_hallClause_45 : decode cX12_hallClause 45 = .ok (.aload_n 0, 1) := by decide +kernel
theorem dX12_hallClause_46 : decode cX12_hallClause 46 = .ok (.iload_n 3, 1) := by decide +kernel
theorem dX12_hallClause_47 : decode cX12_hallClause 47 = .ok (.iload_n 1, 1) := by decide +kernel
theorem dX12_hallClause_48 : decode cX12_hallClause 48 = .ok (.invokevirtual 301, 3) := by decide +kernel
theorem dX12_hallClause_51 : decode cX12_hallClause 51 = .ok (.ifCond .eq 10, 3) := by decide +kernel
theorem dX12_hallClause_54 : decode cX12_hallClause 54 = .ok (.aload_n 0, 1) := by decide +kernel
theorem dX12_hallClause_55 : decode cX12_hallClause 55 = .ok (.iconst 4, 1) := by decide +kernel
theorem dX12_hallClause_56 : decode cX12_hallClause 56 = .ok (.iload_n 2, 1) := by decide +kernel
theorem dX12_hallClause_57 : decode cX12_hallClause 57 = .ok (.invokevirtual 226, 3) := by decide +kernel
theorem dX12_hallClause_60 : decode cX12_hallClause 60 = .ok (.return_, 1) := by decide +kernel
theorem dX12_hallClause_61 : decode cX12_hallClause 61 = .ok (.aload_n 0, 1) := by decide +kernel
theorem dX12_hallClause_62 : decode cX12_hallClause 62 = .ok (.dup, 1) := by decide +kernel
theorem dX12_hallClause_63 : decode cX12_hallClause 63 = .ok (.getfield 190, 3) := by decide +kernel
theorem dX12_hallClause_66 : decode cX12_hallClause 66 = .ok (.iload_n 3, 1) := by decide +kernel
theorem dX12_hallClause_67 : decode cX12_hallClause 67 = .ok (.invokestatic 298, 3) := by decide +kernel
theorem dX12_hallClause_70 : decode cX12_hallClause 70 = .ok (.invokevirtual 201, 3) := by decide +kernel
theorem dX12_hallClause_73 : decode cX12_hallClause 73 = .ok (.iadd, 1) := by decide +kernel
theorem dX12_hallClause_74 : decode cX12_hallClause 74 = .ok (.putfield 190, 3) := by decide +kernel
theorem dX12_hallClause_77 : decode cX12_hallClause 77 = .ok (.aload_n 0, 1) := by decide +kernel
theorem dX12_hallClause_78 : decode cX12_hallClause 78 = .ok (.iload_n 3, 1) := by decide +kernel
theorem dX12_hallClause_79 : decode cX12_hallClause 79 = .ok (.invokevirtual 305, 3) := by decide +kernel
theorem dX12_hallClause_82 : decode cX12_hallClause 82 = .ok (.return_, 1) := by decide +kernel
theorem dX12_copies_0 : decode cX12_copies 0 = .ok (.iconst 0, 1) := by decide +kernel
theorem dX12_copies_1 : decode cX12_copies 1 = .ok (.istore_n 2, 1) := by decide +kernel
theorem dX12_copies_2 : decode cX12_copies 2 = .ok (.iload_n 2, 1) := by decide +kernel
theorem dX12_copies_3 : decode cX12_copies 3 = .ok (.aload_n 0, 1) := by decide +kernel
theorem dX12_copies_4 : decode cX12_copies 4 = .ok (.arraylength, 1) := by decide +kernel
theorem dX12_copies_5 : decode cX12_copies 5 = .ok (.if_icmp .ge 15, 3) := by decide +kernel
theorem dX12_copies_8 : decode cX12_copies 8 = .ok (.aload_n 1, 1) := by decide +kernel
theorem dX12_copies_9 : decode cX12_copies 9 = .ok (.iload_n 2, 1) := by decide +kernel
theorem dX12_copies_10 : decode cX12_copies 10 = .ok (.aload_n 0, 1) := by decide +kernel
theorem dX12_copies_11 : decode cX12_copies 11 = .ok (.iload_n 2, 1) := by decide +kernel
theorem dX12_copies_12 : decode cX12_copies 12 = .ok (.iaload, 1) := by decide +kernel
theorem dX12_copies_13 : decode cX12_copies 13 = .ok (.iastore, 1) := by decide +kernel
theorem dX12_copies_14 : decode cX12_copies 14 = .ok (.iinc 2 1, 3) := by decide +kernel
theorem dX12_copies_17 : decode cX12_copies 17 = .ok (.goto (-15), 3) := by decide +kernel
theorem dX12_copies_20 : decode cX12_copies 20 = .ok (.return_, 1) := by decide +kernel
theorem dX12_goesOn_0 : decode cX12_goesOn 0 = .ok (.aload_n 0, 1) := by decide +kernel
theorem dX12_goesOn_1 : decode cX12_goesOn 1 = .ok (.invokevirtual 210, 3) := by decide +kernel
theorem dX12_goesOn_4 : decode cX12_goesOn 4 = .ok (.aload_n 0, 1) := by decide +kernel
theorem dX12_goesOn_5 : decode cX12_goesOn 5 = .ok (.getfield 187, 3) := by decide +kernel
theorem dX12_goesOn_8 : decode cX12_goesOn 8 = .ok (.ifCond .ne 32, 3) := by decide +kernel
theorem dX12_goesOn_11 : decode cX12_goesOn 11 = .ok (.aload_n 0, 1) := by decide +kernel
theorem dX12_goesOn_12 : decode cX12_goesOn 12 = .ok (.getfield 190, 3) := by decide +kernel
theorem dX12_goesOn_15 : decode cX12_goesOn 15 = .ok (.aload_n 0, 1) := by decide +kernel
theorem dX12_goesOn_16 : decode cX12_goesOn 16 = .ok (.getfield 159, 3) := by decide +kernel
theorem dX12_goesOn_19 : decode cX12_goesOn 19 = .ok (.if_icmp .ge 21, 3) := by decide +kernel
theorem dX12_goesOn_22 : decode cX12_goesOn 22 = .ok (.aload_n 0, 1) := by decide +kernel
theorem dX12_goesOn_23 : decode cX12_goesOn 23 = .ok (.invokevirtual 193, 3) := by decide +kernel
theorem dX12_goesOn_26 : decode cX12_goesOn 26 = .ok (.bipush 59, 2) := by decide +kernel
theorem dX12_goesOn_28 : decode cX12_goesOn 28 = .ok (.if_icmp .eq 12, 3) := by decide +kernel
theorem dX12_goesOn_31 : decode cX12_goesOn 31 = .ok (.aload_n 0, 1) := by decide +kernel
theorem dX12_goesOn_32 : decode cX12_goesOn 32 = .ok (.iconst 0, 1) := by decide +kernel
theorem dX12_goesOn_33 : decode cX12_goesOn 33 = .ok (.aload_n 0, 1) := by decide +kernel
theorem dX12_goesOn_34 : decode cX12_goesOn 34 = .ok (.getfield 190, 3) := by decide +kernel
theorem dX12_goesOn_37 : decode cX12_goesOn 37 = .ok (.invokevirtual 226, 3) := by decide +kernel
theorem dX12_goesOn_40 : decode cX12_goesOn 40 = .ok (.aload_n 0, 1) := by decide +kernel
theorem dX12_goesOn_41 : decode cX12_goesOn 41 = .ok (.getfield 187, 3) := by decide +kernel
theorem dX12_goesOn_44 : decode cX12_goesOn 44 = .ok (.ifCond .ne 18, 3) := by decide +kernel
theorem dX12_goesOn_47 : decode cX12_goesOn 47 = .ok (.aload_n 0, 1) := by decide +kernel
theorem dX12_goesOn_48 : decode cX12_goesOn 48 = .ok (.getfield 190, 3) := by decide +kernel
theorem dX12_goesOn_51 : decode cX12_goesOn 51 = .ok (.aload_n 0, 1) := by decide +kernel
theorem dX12_goesOn_52 : decode cX12_goesOn 52 = .ok (.getfield 159, 3) := by decide +kernel
theorem dX12_goesOn_55 : decode cX12_goesOn 55 = .ok (.if_icmp .ge 7, 3) := by decide +kernel
theorem dX12_goesOn_58 : decode cX12_goesOn 58 = .ok (.iconst 1, 1) := by decide +kernel
theorem dX12_goesOn_59 : decode cX12_goesOn 59 = .ok (.goto 4, 3) := by decide +kernel
theorem dX12_goesOn_62 : decode cX12_goesOn 62 = .ok (.iconst 0, 1) := by decide +kernel
theorem dX12_goesOn_63 : decode cX12_goesOn 63 = .ok (.istore_n 1, 1) := by decide +kernel
theorem dX12_goesOn_64 : decode cX12_goesOn 64 = .ok (.aload_n 0, 1) := by decide +kernel
theorem dX12_goesOn_65 : decode cX12_goesOn 65 = .ok (.dup, 1) := by decide +kernel
theorem dX12_goesOn_66 : decode cX12_goesOn 66 = .ok (.getfield 190, 3) := by decide +kernel
theorem dX12_goesOn_69 : decode cX12_goesOn 69 = .ok (.iconst 1, 1) := by decide +kernel
theorem dX12_goesOn_70 : decode cX12_goesOn 70 = .ok (.iadd, 1) := by decide +kernel
theorem dX12_goesOn_71 : decode cX12_goesOn 71 = .ok (.putfield 190, 3) := by decide +kernel
theorem dX12_goesOn_74 : decode cX12_goesOn 74 = .ok (.iload_n 1, 1) := by decide +kernel
theorem dX12_goesOn_75 : decode cX12_goesOn 75 = .ok (.ireturn, 1) := by decide +kernel
theorem dX12_starts_0 : decode cX12_starts 0 = .ok (.aload_n 0, 1) := by decide +kernel
theorem dX12_starts_1 : decode cX12_starts 1 = .ok (.iconst 0, 1) := by decide +kernel
theorem dX12_starts_2 : decode cX12_starts 2 = .ok (.putfield 190, 3) := by decide +kernel
theorem dX12_starts_5 : decode cX12_starts 5 = .ok (.aload_n 0, 1) := by decide +kernel
theorem dX12_starts_6 : decode cX12_starts 6 = .ok (.iconst 0, 1) := by decide +kernel
theorem dX12_starts_7 : decode cX12_starts 7 = .ok (.putfield 187, 3) := by decide +kernel
theorem dX12_starts_10 : decode cX12_starts 10 = .ok (.aload_n 0, 1) := by decide +kernel
theorem dX12_starts_11 : decode cX12_starts 11 = .ok (.iconst 0, 1) := by decide +kernel
theorem dX12_starts_12 : decode cX12_starts 12 = .ok (.putfield 220, 3) := by decide +kernel
theorem dX12_starts_15 : decode cX12_starts 15 = .ok (.aload_n 0, 1) := by decide +kernel
theorem dX12_starts_16 : decode cX12_starts 16 = .ok (.iconst 0, 1) := by decide +kernel
theorem dX12_starts_17 : decode cX12_starts 17 = .ok (.putfield 261, 3) := by decide +kernel
theorem dX12_starts_20 : decode cX12_starts 20 = .ok (.aload_n 0, 1) := by decide +kernel
theorem dX12_starts_21 : decode cX12_starts 21 = .ok (.iconst 0, 1) := by decide +kernel
theorem dX12_starts_22 : decode cX12_starts 22 = .ok (.putfield 223, 3) := by decide +kernel
theorem dX12_starts_25 : decode cX12_starts 25 = .ok (.return_, 1) := by decide +kernel
theorem dX12_readsAll_0 : decode cX12_readsAll 0 = .ok (.aload_n 0, 1) := by decide +kernel
theorem dX12_readsAll_1 : decode cX12_readsAll 1 = .ok (.invokevirtual 308, 3) := by decide +kernel
theorem dX12_readsAll_4 : decode cX12_readsAll 4 = .ok (.iconst 0, 1) := by decide +kernel
theorem dX12_readsAll_5 : decode cX12_readsAll 5 = .ok (.istore_n 1, 1) := by decide +kernel
theorem dX12_readsAll_6 : decode cX12_readsAll 6 = .ok (.iload_n 1, 1) := by decide +kernel
theorem dX12_readsAll_7 : decode cX12_readsAll 7 = .ok (.iconst 5, 1) := by decide +kernel
theorem dX12_readsAll_8 : decode cX12_readsAll 8 = .ok (.if_icmp .ge 16, 3) := by decide +kernel
theorem dX12_readsAll_11 : decode cX12_readsAll 11 = .ok (.aload_n 0, 1) := by decide +kernel
theorem dX12_readsAll_12 : decode cX12_readsAll 12 = .ok (.getfield 64, 3) := by decide +kernel
theorem dX12_readsAll_15 : decode cX12_readsAll 15 = .ok (.iload_n 1, 1) := by decide +kernel
theorem dX12_readsAll_16 : decode cX12_readsAll 16 = .ok (.iconst 0, 1) := by decide +kernel
theorem dX12_readsAll_17 : decode cX12_readsAll 17 = .ok (.iastore, 1) := by decide +kernel
theorem dX12_readsAll_18 : decode cX12_readsAll 18 = .ok (.iinc 1 1, 3) := by decide +kernel
theorem dX12_readsAll_21 : decode cX12_readsAll 21 = .ok (.goto (-15), 3) := by decide +kernel
theorem dX12_readsAll_24 : decode cX12_readsAll 24 = .ok (.iconst 0, 1) := by decide +kernel
theorem dX12_readsAll_25 : decode cX12_readsAll 25 = .ok (.istore_n 1, 1) := by decide +kernel
theorem dX12_readsAll_26 : decode cX12_readsAll 26 = .ok (.iload_n 1, 1) := by decide +kernel
theorem dX12_readsAll_27 : decode cX12_readsAll 27 = .ok (.bipush 16, 2) := by decide +kernel
theorem dX12_readsAll_29 : decode cX12_readsAll 29 = .ok (.if_icmp .ge 16, 3) := by decide +kernel
theorem dX12_readsAll_32 : decode cX12_readsAll 32 = .ok (.aload_n 0, 1) := by decide +kernel
theorem dX12_readsAll_33 : decode cX12_readsAll 33 = .ok (.getfield 73, 3) := by decide +kernel
theorem dX12_readsAll_36 : decode cX12_readsAll 36 = .ok (.iload_n 1, 1) := by decide +kernel
theorem dX12_readsAll_37 : decode cX12_readsAll 37 = .ok (.iconst (-1), 1) := by decide +kernel
theorem dX12_readsAll_38 : decode cX12_readsAll 38 = .ok (.iastore, 1) := by decide +kernel
theorem dX12_readsAll_39 : decode cX12_readsAll 39 = .ok (.iinc 1 1, 3) := by decide +kernel
theorem dX12_readsAll_42 : decode cX12_readsAll 42 = .ok (.goto (-16), 3) := by decide +kernel
theorem dX12_readsAll_45 : decode cX12_readsAll 45 = .ok (.iconst 0, 1) := by decide +kernel
theorem dX12_readsAll_46 : decode cX12_readsAll 46 = .ok (.istore_n 1, 1) := by decide +kernel
theorem dX12_readsAll_47 : decode cX12_readsAll 47 = .ok (.iconst 1, 1) := by decide +kernel
theorem dX12_readsAll_48 : decode cX12_readsAll 48 = .ok (.istore_n 2, 1) := by decide +kernel
theorem dX12_readsAll_49 : decode cX12_readsAll 49 = .ok (.iload_n 2, 1) := by decide +kernel
theorem dX12_readsAll_50 : decode cX12_readsAll 50 = .ok (.ifCond .eq 19, 3) := by decide +kernel
theorem dX12_readsAll_53 : decode cX12_readsAll 53 = .ok (.aload_n 0, 1) := by decide +kernel
theorem dX12_readsAll_54 : decode cX12_readsAll 54 = .ok (.iload_n 1, 1) := by decide +kernel
theorem dX12_readsAll_55 : decode cX12_readsAll 55 = .ok (.invokevirtual 311, 3) := by decide +kernel
theorem dX12_readsAll_58 : decode cX12_readsAll 58 = .ok (.iinc 1 1, 3) := by decide +kernel
theorem dX12_readsAll_61 : decode cX12_readsAll 61 = .ok (.aload_n 0, 1) := by decide +kernel
theorem dX12_readsAll_62 : decode cX12_readsAll 62 = .ok (.invokevirtual 314, 3) := by decide +kernel
theorem dX12_readsAll_65 : decode cX12_readsAll 65 = .ok (.istore_n 2, 1) := by decide +kernel
theorem dX12_readsAll_66 : decode cX12_readsAll 66 = .ok (.goto (-17), 3) := by decide +kernel
theorem dX12_readsAll_69 : decode cX12_readsAll 69 = .ok (.aload_n 0, 1) := by decide +kernel
theorem dX12_readsAll_70 : decode cX12_readsAll 70 = .ok (.iconst 0, 1) := by decide +kernel
theorem dX12_readsAll_71 : decode cX12_readsAll 71 = .ok (.putfield 159, 3) := by decide +kernel
theorem dX12_readsAll_74 : decode cX12_readsAll 74 = .ok (.return_, 1) := by decide +kernel
theorem dX12_begins_0 : decode cX12_begins 0 = .ok (.aload_n 0, 1) := by decide +kernel
theorem dX12_begins_1 : decode cX12_begins 1 = .ok (.getfield 61, 3) := by decide +kernel
theorem dX12_begins_4 : decode cX12_begins 4 = .ok (.aload_n 0, 1) := by decide +kernel
theorem dX12_begins_5 : decode cX12_begins 5 = .ok (.getfield 16, 3) := by decide +kernel
theorem dX12_begins_8 : decode cX12_begins 8 = .ok (.invokestatic 317, 3) := by decide +kernel
theorem dX12_begins_11 : decode cX12_begins 11 = .ok (.aload_n 0, 1) := by decide +kernel
theorem dX12_begins_12 : decode cX12_begins 12 = .ok (.getfield 9, 3) := by decide +kernel
theorem dX12_begins_15 : decode cX12_begins 15 = .ok (.iconst 5, 1) := by decide +kernel
theorem dX12_begins_16 : decode cX12_begins 16 = .ok (.iconst 0, 1) := by decide +kernel
theorem dX12_begins_17 : decode cX12_begins 17 = .ok (.iastore, 1) := by decide +kernel
theorem dX12_begins_18 : decode cX12_begins 18 = .ok (.iconst 0, 1) := by decide +kernel
theorem dX12_begins_19 : decode cX12_begins 19 = .ok (.istore_n 1, 1) := by decide +kernel
theorem dX12_begins_20 : decode cX12_begins 20 = .ok (.iload_n 1, 1) := by decide +kernel
theorem dX12_begins_21 : decode cX12_begins 21 = .ok (.iconst 4, 1) := by decide +kernel
theorem dX12_begins_22 : decode cX12_begins 22 = .ok (.if_icmp .ge 37, 3) := by decide +kernel
theorem dX12_begins_25 : decode cX12_begins 25 = .ok (.aload_n 0, 1) := by decide +kernel
theorem dX12_begins_26 : decode cX12_begins 26 = .ok (.getfield 22, 3) := by decide +kernel
theorem dX12_begins_29 : decode cX12_begins 29 = .ok (.iload_n 1, 1) := by decide +kernel
theorem dX12_begins_30 : decode cX12_begins 30 = .ok (.iconst (-1), 1) := by decide +kernel
theorem dX12_begins_31 : decode cX12_begins 31 = .ok (.iastore, 1) := by decide +kernel
theorem dX12_begins_32 : decode cX12_begins 32 = .ok (.aload_n 0, 1) := by decide +kernel
theorem dX12_begins_33 : decode cX12_begins 33 = .ok (.getfield 25, 3) := by decide +kernel
theorem dX12_begins_36 : decode cX12_begins 36 = .ok (.iload_n 1, 1) := by decide +kernel
theorem dX12_begins_37 : decode cX12_begins 37 = .ok (.iconst 0, 1) := by decide +kernel
theorem dX12_begins_38 : decode cX12_begins 38 = .ok (.iastore, 1) := by decide +kernel
theorem dX12_begins_39 : decode cX12_begins 39 = .ok (.aload_n 0, 1) := by decide +kernel
theorem dX12_begins_40 : decode cX12_begins 40 = .ok (.getfield 28, 3) := by decide +kernel
theorem dX12_begins_43 : decode cX12_begins 43 = .ok (.iload_n 1, 1) := by decide +kernel
theorem dX12_begins_44 : decode cX12_begins 44 = .ok (.iconst 0, 1) := by decide +kernel
theorem dX12_begins_45 : decode cX12_begins 45 = .ok (.iastore, 1) := by decide +kernel
theorem dX12_begins_46 : decode cX12_begins 46 = .ok (.aload_n 0, 1) := by decide +kernel
theorem dX12_begins_47 : decode cX12_begins 47 = .ok (.getfield 31, 3) := by decide +kernel
theorem dX12_begins_50 : decode cX12_begins 50 = .ok (.iload_n 1, 1) := by decide +kernel
theorem dX12_begins_51 : decode cX12_begins 51 = .ok (.iconst 0, 1) := by decide +kernel
theorem dX12_begins_52 : decode cX12_begins 52 = .ok (.iastore, 1) := by decide +kernel
theorem dX12_begins_53 : decode cX12_begins 53 = .ok (.iinc 1 1, 3) := by decide +kernel
theorem dX12_begins_56 : decode cX12_begins 56 = .ok (.goto (-36), 3) := by decide +kernel
theorem dX12_begins_59 : decode cX12_begins 59 = .ok (.iconst 0, 1) := by decide +kernel
theorem dX12_begins_60 : decode cX12_begins 60 = .ok (.istore_n 1, 1) := by decide +kernel
theorem dX12_begins_61 : decode cX12_begins 61 = .ok (.iload_n 1, 1) := by decide +kernel
theorem dX12_begins_62 : decode cX12_begins 62 = .ok (.bipush 7, 2) := by decide +kernel
theorem dX12_begins_64 : decode cX12_begins 64 = .ok (.if_icmp .ge 23, 3) := by decide +kernel
theorem dX12_begins_67 : decode cX12_begins 67 = .ok (.aload_n 0, 1) := by decide +kernel
theorem dX12_begins_68 : decode cX12_begins 68 = .ok (.getfield 46, 3) := by decide +kernel
theorem dX12_begins_71 : decode cX12_begins 71 = .ok (.iload_n 1, 1) := by decide +kernel
theorem dX12_begins_72 : decode cX12_begins 72 = .ok (.iconst 0, 1) := by decide +kernel
theorem dX12_begins_73 : decode cX12_begins 73 = .ok (.iastore, 1) := by decide +kernel
theorem dX12_begins_74 : decode cX12_begins 74 = .ok (.aload_n 0, 1) := by decide +kernel
theorem dX12_begins_75 : decode cX12_begins 75 = .ok (.getfield 49, 3) := by decide +kernel
theorem dX12_begins_78 : decode cX12_begins 78 = .ok (.iload_n 1, 1) := by decide +kernel
theorem dX12_begins_79 : decode cX12_begins 79 = .ok (.iconst (-1), 1) := by decide +kernel
theorem dX12_begins_80 : decode cX12_begins 80 = .ok (.iastore, 1) := by decide +kernel
theorem dX12_begins_81 : decode cX12_begins 81 = .ok (.iinc 1 1, 3) := by decide +kernel
theorem dX12_begins_84 : decode cX12_begins 84 = .ok (.goto (-23), 3) := by decide +kernel
theorem dX12_begins_87 : decode cX12_begins 87 = .ok (.return_, 1) := by decide +kernel
theorem dX12_hall_0 : decode cX12_hall 0 = .ok (.aload_n 0, 1) := by decide +kernel
theorem dX12_hall_1 : decode cX12_hall 1 = .ok (.invokevirtual 321, 3) := by decide +kernel
theorem dX12_hall_4 : decode cX12_hall 4 = .ok (.aload_n 0, 1) := by decide +kernel
theorem dX12_hall_5 : decode cX12_hall 5 = .ok (.getfield 187, 3) := by decide +kernel
theorem dX12_hall_8 : decode cX12_hall 8 = .ok (.ifCond .le 11, 3) := by decide +kernel
theorem dX12_hall_11 : decode cX12_hall 11 = .ok (.bipush (-2), 2) := by decide +kernel
theorem dX12_hall_13 : decode cX12_hall 13 = .ok (.aload_n 0, 1) := by decide +kernel
theorem dX12_hall_14 : decode cX12_hall 14 = .ok (.getfield 187, 3) := by decide +kernel
theorem dX12_hall_17 : decode cX12_hall 17 = .ok (.isub, 1) := by decide +kernel
theorem dX12_hall_18 : decode cX12_hall 18 = .ok (.ireturn, 1) := by decide +kernel
theorem dX12_hall_19 : decode cX12_hall 19 = .ok (.iconst 0, 1) := by decide +kernel
theorem dX12_hall_20 : decode cX12_hall 20 = .ok (.istore_n 1, 1) := by decide +kernel
theorem dX12_hall_21 : decode cX12_hall 21 = .ok (.iload_n 1, 1) := by decide +kernel
theorem dX12_hall_22 : decode cX12_hall 22 = .ok (.bipush 7, 2) := by decide +kernel
theorem dX12_hall_24 : decode cX12_hall 24 = .ok (.if_icmp .ge 30, 3) := by decide +kernel
theorem dX12_hall_27 : decode cX12_hall 27 = .ok (.aload_n 0, 1) := by decide +kernel
theorem dX12_hall_28 : decode cX12_hall 28 = .ok (.getfield 9, 3) := by decide +kernel
theorem dX12_hall_31 : decode cX12_hall 31 = .ok (.iload_n 1, 1) := by decide +kernel
theorem dX12_hall_32 : decode cX12_hall 32 = .ok (.iload_n 1, 1) := by decide +kernel
theorem dX12_hall_33 : decode cX12_hall 33 = .ok (.iconst 5, 1) := by decide +kernel
theorem dX12_hall_34 : decode cX12_hall 34 = .ok (.if_icmp .ge 12, 3) := by decide +kernel
theorem dX12_hall_37 : decode cX12_hall 37 = .ok (.aload_n 0, 1) := by decide +kernel
theorem dX12_hall_38 : decode cX12_hall 38 = .ok (.getfield 64, 3) := by decide +kernel
theorem dX12_hall_41 : decode cX12_hall 41 = .ok (.iload_n 1, 1) := by decide +kernel
theorem dX12_hall_42 : decode cX12_hall 42 = .ok (.iaload, 1) := by decide +kernel
theorem dX12_hall_43 : decode cX12_hall 43 = .ok (.goto 4, 3) := by decide +kernel
theorem dX12_hall_46 : decode cX12_hall 46 = .ok (.iconst 0, 1) := by decide +kernel
theorem dX12_hall_47 : decode cX12_hall 47 = .ok (.iastore, 1) := by decide +kernel
theorem dX12_hall_48 : decode cX12_hall 48 = .ok (.iinc 1 1, 3) := by decide +kernel
theorem dX12_hall_51 : decode cX12_hall 51 = .ok (.goto (-30), 3) := by decide +kernel
theorem dX12_hall_54 : decode cX12_hall 54 = .ok (.aload_n 0, 1) := by decide +kernel
theorem dX12_hall_55 : decode cX12_hall 55 = .ok (.getfield 67, 3) := by decide +kernel
theorem dX12_hall_58 : decode cX12_hall 58 = .ok (.aload_n 0, 1) := by decide +kernel
theorem dX12_hall_59 : decode cX12_hall 59 = .ok (.getfield 13, 3) := by decide +kernel
theorem dX12_hall_62 : decode cX12_hall 62 = .ok (.invokestatic 317, 3) := by decide +kernel
theorem dX12_hall_65 : decode cX12_hall 65 = .ok (.aload_n 0, 1) := by decide +kernel
theorem dX12_hall_66 : decode cX12_hall 66 = .ok (.getfield 70, 3) := by decide +kernel
theorem dX12_hall_69 : decode cX12_hall 69 = .ok (.aload_n 0, 1) := by decide +kernel
theorem dX12_hall_70 : decode cX12_hall 70 = .ok (.getfield 61, 3) := by decide +kernel
theorem dX12_hall_73 : decode cX12_hall 73 = .ok (.invokestatic 317, 3) := by decide +kernel
theorem dX12_hall_76 : decode cX12_hall 76 = .ok (.aload_n 0, 1) := by decide +kernel
theorem dX12_hall_77 : decode cX12_hall 77 = .ok (.getfield 73, 3) := by decide +kernel
theorem dX12_hall_80 : decode cX12_hall 80 = .ok (.aload_n 0, 1) := by decide +kernel
theorem dX12_hall_81 : decode cX12_hall 81 = .ok (.getfield 19, 3) := by decide +kernel
theorem dX12_hall_84 : decode cX12_hall 84 = .ok (.invokestatic 317, 3) := by decide +kernel
theorem dX12_hall_87 : decode cX12_hall 87 = .ok (.aload_n 0, 1) := by decide +kernel
theorem dX12_hall_88 : decode cX12_hall 88 = .ok (.getfield 76, 3) := by decide +kernel
theorem dX12_hall_91 : decode cX12_hall 91 = .ok (.aload_n 0, 1) := by decide +kernel
theorem dX12_hall_92 : decode cX12_hall 92 = .ok (.getfield 34, 3) := by decide +kernel
theorem dX12_hall_95 : decode cX12_hall 95 = .ok (.invokestatic 317, 3) := by decide +kernel
theorem dX12_hall_98 : decode cX12_hall 98 = .ok (.aload_n 0, 1) := by decide +kernel
theorem dX12_hall_99 : decode cX12_hall 99 = .ok (.getfield 79, 3) := by decide +kernel
theorem dX12_hall_102 : decode cX12_hall 102 = .ok (.aload_n 0, 1) := by decide +kernel
theorem dX12_hall_103 : decode cX12_hall 103 = .ok (.getfield 37, 3) := by decide +kernel
theorem dX12_hall_106 : decode cX12_hall 106 = .ok (.invokestatic 317, 3) := by decide +kernel
theorem dX12_hall_109 : decode cX12_hall 109 = .ok (.aload_n 0, 1) := by decide +kernel
theorem dX12_hall_110 : decode cX12_hall 110 = .ok (.getfield 82, 3) := by decide +kernel
theorem dX12_hall_113 : decode cX12_hall 113 = .ok (.aload_n 0, 1) := by decide +kernel
theorem dX12_hall_114 : decode cX12_hall 114 = .ok (.getfield 40, 3) := by decide +kernel
theorem dX12_hall_117 : decode cX12_hall 117 = .ok (.invokestatic 317, 3) := by decide +kernel
theorem dX12_hall_120 : decode cX12_hall 120 = .ok (.aload_n 0, 1) := by decide +kernel
theorem dX12_hall_121 : decode cX12_hall 121 = .ok (.getfield 85, 3) := by decide +kernel
theorem dX12_hall_124 : decode cX12_hall 124 = .ok (.aload_n 0, 1) := by decide +kernel
theorem dX12_hall_125 : decode cX12_hall 125 = .ok (.getfield 43, 3) := by decide +kernel
theorem dX12_hall_128 : decode cX12_hall 128 = .ok (.invokestatic 317, 3) := by decide +kernel
theorem dX12_hall_131 : decode cX12_hall 131 = .ok (.aload_n 0, 1) := by decide +kernel
theorem dX12_hall_132 : decode cX12_hall 132 = .ok (.invokevirtual 324, 3) := by decide +kernel
theorem dX12_hall_135 : decode cX12_hall 135 = .ok (.aload_n 0, 1) := by decide +kernel
theorem dX12_hall_136 : decode cX12_hall 136 = .ok (.iconst 0, 1) := by decide +kernel
theorem dX12_hall_137 : decode cX12_hall 137 = .ok (.putfield 327, 3) := by decide +kernel
theorem dX12_hall_140 : decode cX12_hall 140 = .ok (.aload_n 0, 1) := by decide +kernel
theorem dX12_hall_141 : decode cX12_hall 141 = .ok (.getfield 9, 3) := by decide +kernel
theorem dX12_hall_144 : decode cX12_hall 144 = .ok (.iconst 4, 1) := by decide +kernel
theorem dX12_hall_145 : decode cX12_hall 145 = .ok (.iaload, 1) := by decide +kernel
theorem dX12_hall_146 : decode cX12_hall 146 = .ok (.ireturn, 1) := by decide +kernel
theorem dX12_ruleClause_0 : decode cX12_ruleClause 0 = .ok (.aload_n 0, 1) := by decide +kernel
theorem dX12_ruleClause_1 : decode cX12_ruleClause 1 = .ok (.invokevirtual 210, 3) := by decide +kernel
theorem dX12_ruleClause_4 : decode cX12_ruleClause 4 = .ok (.aload_n 0, 1) := by decide +kernel
theorem dX12_ruleClause_5 : decode cX12_ruleClause 5 = .ok (.getfield 190, 3) := by decide +kernel
theorem dX12_ruleClause_8 : decode cX12_ruleClause 8 = .ok (.istore_n 2, 1) := by decide +kernel
theorem dX12_ruleClause_9 : decode cX12_ruleClause 9 = .ok (.aload_n 0, 1) := by decide +kernel
theorem dX12_ruleClause_10 : decode cX12_ruleClause 10 = .ok (.ldc_w 330, 3) := by decide +kernel
theorem dX12_ruleClause_13 : decode cX12_ruleClause 13 = .ok (.invokevirtual 213, 3) := by decide +kernel
theorem dX12_ruleClause_16 : decode cX12_ruleClause 16 = .ok (.ifCond .ne 10, 3) := by decide +kernel
theorem dX12_ruleClause_19 : decode cX12_ruleClause 19 = .ok (.aload_n 0, 1) := by decide +kernel
theorem dX12_ruleClause_20 : decode cX12_ruleClause 20 = .ok (.iconst 0, 1) := by decide +kernel
theorem dX12_ruleClause_21 : decode cX12_ruleClause 21 = .ok (.iload_n 2, 1) := by decide +kernel
theorem dX12_ruleClause_22 : decode cX12_ruleClause 22 = .ok (.invokevirtual 226, 3) := by decide +kernel
theorem dX12_ruleClause_25 : decode cX12_ruleClause 25 = .ok (.return_, 1) := by decide +kernel
theorem dX12_ruleClause_26 : decode cX12_ruleClause 26 = .ok (.iload_n 1, 1) := by decide +kernel
theorem dX12_ruleClause_27 : decode cX12_ruleClause 27 = .ok (.bipush 12, 2) := by decide +kernel
theorem dX12_ruleClause_29 : decode cX12_ruleClause 29 = .ok (.if_icmp .ne 10, 3) := by decide +kernel
theorem dX12_ruleClause_32 : decode cX12_ruleClause 32 = .ok (.aload_n 0, 1) := by decide +kernel
theorem dX12_ruleClause_33 : decode cX12_ruleClause 33 = .ok (.iconst 4, 1) := by decide +kernel
theorem dX12_ruleClause_34 : decode cX12_ruleClause 34 = .ok (.iload_n 2, 1) := by decide +kernel
theorem dX12_ruleClause_35 : decode cX12_ruleClause 35 = .ok (.invokevirtual 226, 3) := by decide +kernel
theorem dX12_ruleClause_38 : decode cX12_ruleClause 38 = .ok (.return_, 1) := by decide +kernel
theorem dX12_ruleClause_39 : decode cX12_ruleClause 39 = .ok (.aload_n 0, 1) := by decide +kernel
theorem dX12_ruleClause_40 : decode cX12_ruleClause 40 = .ok (.dup, 1) := by decide +kernel
theorem dX12_ruleClause_41 : decode cX12_ruleClause 41 = .ok (.getfield 190, 3) := by decide +kernel
theorem dX12_ruleClause_44 : decode cX12_ruleClause 44 = .ok (.iconst 4, 1) := by decide +kernel
theorem dX12_ruleClause_45 : decode cX12_ruleClause 45 = .ok (.iadd, 1) := by decide +kernel
theorem dX12_ruleClause_46 : decode cX12_ruleClause 46 = .ok (.putfield 190, 3) := by decide +kernel
theorem dX12_ruleClause_49 : decode cX12_ruleClause 49 = .ok (.bipush 12, 2) := by decide +kernel
theorem dX12_ruleClause_51 : decode cX12_ruleClause 51 = .ok (.aload_n 0, 1) := by decide +kernel
theorem dX12_ruleClause_52 : decode cX12_ruleClause 52 = .ok (.getfield 217, 3) := by decide +kernel
theorem dX12_ruleClause_55 : decode cX12_ruleClause 55 = .ok (.imul, 1) := by decide +kernel
theorem dX12_ruleClause_56 : decode cX12_ruleClause 56 = .ok (.iload_n 1, 1) := by decide +kernel
theorem dX12_ruleClause_57 : decode cX12_ruleClause 57 = .ok (.iadd, 1) := by decide +kernel
theorem dX12_ruleClause_58 : decode cX12_ruleClause 58 = .ok (.istore_n 3, 1) := by decide +kernel
theorem dX12_ruleClause_59 : decode cX12_ruleClause 59 = .ok (.aload_n 0, 1) := by decide +kernel
theorem dX12_ruleClause_60 : decode cX12_ruleClause 60 = .ok (.getfield 105, 3) := by decide +kernel
theorem dX12_ruleClause_63 : decode cX12_ruleClause 63 = .ok (.iload_n 3, 1) := by decide +kernel
theorem dX12_ruleClause_64 : decode cX12_ruleClause 64 = .ok (.aload_n 0, 1) := by decide +kernel
theorem dX12_ruleClause_65 : decode cX12_ruleClause 65 = .ok (.getfield 220, 3) := by decide +kernel
theorem dX12_ruleClause_68 : decode cX12_ruleClause 68 = .ok (.iastore, 1) := by decide +kernel
theorem dX12_ruleClause_69 : decode cX12_ruleClause 69 = .ok (.aload_n 0, 1) := by decide +kernel
theorem dX12_ruleClause_70 : decode cX12_ruleClause 70 = .ok (.invokevirtual 255, 3) := by decide +kernel
theorem dX12_ruleClause_73 : decode cX12_ruleClause 73 = .ok (.aload_n 0, 1) := by decide +kernel
theorem dX12_ruleClause_74 : decode cX12_ruleClause 74 = .ok (.getfield 108, 3) := by decide +kernel
theorem dX12_ruleClause_77 : decode cX12_ruleClause 77 = .ok (.iload_n 3, 1) := by decide +kernel
theorem dX12_ruleClause_78 : decode cX12_ruleClause 78 = .ok (.aload_n 0, 1) := by decide +kernel
theorem dX12_ruleClause_79 : decode cX12_ruleClause 79 = .ok (.getfield 220, 3) := by decide +kernel
theorem dX12_ruleClause_82 : decode cX12_ruleClause 82 = .ok (.iastore, 1) := by decide +kernel
theorem dX12_ruleClause_83 : decode cX12_ruleClause 83 = .ok (.aload_n 0, 1) := by decide +kernel
theorem dX12_ruleClause_84 : decode cX12_ruleClause 84 = .ok (.getfield 187, 3) := by decide +kernel
theorem dX12_ruleClause_87 : decode cX12_ruleClause 87 = .ok (.ifCond .ne 17, 3) := by decide +kernel
theorem dX12_ruleClause_90 : decode cX12_ruleClause 90 = .ok (.aload_n 0, 1) := by decide +kernel
theorem dX12_ruleClause_91 : decode cX12_ruleClause 91 = .ok (.ldc_w 332, 3) := by decide +kernel
theorem dX12_ruleClause_94 : decode cX12_ruleClause 94 = .ok (.invokevirtual 334, 3) := by decide +kernel
theorem dX12_ruleClause_97 : decode cX12_ruleClause 97 = .ok (.ifCond .eq 7, 3) := by decide +kernel
theorem dX12_ruleClause_100 : decode cX12_ruleClause 100 = .ok (.aload_n 0, 1) := by decide +kernel
theorem dX12_ruleClause_101 : decode cX12_ruleClause 101 = .ok (.invokevirtual 337, 3) := by decide +kernel
theorem dX12_ruleClause_104 : decode cX12_ruleClause 104 = .ok (.aload_n 0, 1) := by decide +kernel
theorem dX12_ruleClause_105 : decode cX12_ruleClause 105 = .ok (.getfield 111, 3) := by decide +kernel
theorem dX12_ruleClause_108 : decode cX12_ruleClause 108 = .ok (.iload_n 3, 1) := by decide +kernel
theorem dX12_ruleClause_109 : decode cX12_ruleClause 109 = .ok (.aload_n 0, 1) := by decide +kernel
theorem dX12_ruleClause_110 : decode cX12_ruleClause 110 = .ok (.getfield 220, 3) := by decide +kernel
theorem dX12_ruleClause_113 : decode cX12_ruleClause 113 = .ok (.iastore, 1) := by decide +kernel
theorem dX12_ruleClause_114 : decode cX12_ruleClause 114 = .ok (.return_, 1) := by decide +kernel
theorem dX12_rule_0 : decode cX12_rule 0 = .ok (.aload_n 0, 1) := by decide +kernel
theorem dX12_rule_1 : decode cX12_rule 1 = .ok (.getfield 340, 3) := by decide +kernel
theorem dX12_rule_4 : decode cX12_rule 4 = .ok (.bipush 6, 2) := by decide +kernel
theorem dX12_rule_6 : decode cX12_rule 6 = .ok (.if_icmp .ne 5, 3) := by decide +kernel
theorem dX12_rule_9 : decode cX12_rule 9 = .ok (.iconst (-1), 1) := by decide +kernel
theorem dX12_rule_10 : decode cX12_rule 10 = .ok (.ireturn, 1) := by decide +kernel
theorem dX12_rule_11 : decode cX12_rule 11 = .ok (.aload_n 0, 1) := by decide +kernel
theorem dX12_rule_12 : decode cX12_rule 12 = .ok (.aload_n 0, 1) := by decide +kernel
theorem dX12_rule_13 : decode cX12_rule 13 = .ok (.getfield 340, 3) := by decide +kernel
theorem dX12_rule_16 : decode cX12_rule 16 = .ok (.putfield 217, 3) := by decide +kernel
theorem dX12_rule_19 : decode cX12_rule 19 = .ok (.aload_n 0, 1) := by decide +kernel
theorem dX12_rule_20 : decode cX12_rule 20 = .ok (.invokevirtual 308, 3) := by decide +kernel
theorem dX12_rule_23 : decode cX12_rule 23 = .ok (.iconst 0, 1) := by decide +kernel
theorem dX12_rule_24 : decode cX12_rule 24 = .ok (.istore_n 1, 1) := by decide +kernel
theorem dX12_rule_25 : decode cX12_rule 25 = .ok (.iconst 1, 1) := by decide +kernel
theorem dX12_rule_26 : decode cX12_rule 26 = .ok (.istore_n 2, 1) := by decide +kernel
theorem dX12_rule_27 : decode cX12_rule 27 = .ok (.iload_n 2, 1) := by decide +kernel
theorem dX12_rule_28 : decode cX12_rule 28 = .ok (.ifCond .eq 19, 3) := by decide +kernel
theorem dX12_rule_31 : decode cX12_rule 31 = .ok (.aload_n 0, 1) := by decide +kernel
theorem dX12_rule_32 : decode cX12_rule 32 = .ok (.iload_n 1, 1) := by decide +kernel
theorem dX12_rule_33 : decode cX12_rule 33 = .ok (.invokevirtual 343, 3) := by decide +kernel
theorem dX12_rule_36 : decode cX12_rule 36 = .ok (.iinc 1 1, 3) := by decide +kernel
theorem dX12_rule_39 : decode cX12_rule 39 = .ok (.aload_n 0, 1) := by decide +kernel
theorem dX12_rule_40 : decode cX12_rule 40 = .ok (.invokevirtual 314, 3) := by decide +kernel
theorem dX12_rule_43 : decode cX12_rule 43 = .ok (.istore_n 2, 1) := by decide +kernel
theorem dX12_rule_44 : decode cX12_rule 44 = .ok (.goto (-17), 3) := by decide +kernel
theorem dX12_rule_47 : decode cX12_rule 47 = .ok (.aload_n 0, 1) := by decide +kernel
theorem dX12_rule_48 : decode cX12_rule 48 = .ok (.iconst 0, 1) := by decide +kernel
theorem dX12_rule_49 : decode cX12_rule 49 = .ok (.putfield 159, 3) := by decide +kernel
theorem dX12_rule_52 : decode cX12_rule 52 = .ok (.aload_n 0, 1) := by decide +kernel
theorem dX12_rule_53 : decode cX12_rule 53 = .ok (.getfield 102, 3) := by decide +kernel
theorem dX12_rule_56 : decode cX12_rule 56 = .ok (.aload_n 0, 1) := by decide +kernel
theorem dX12_rule_57 : decode cX12_rule 57 = .ok (.getfield 217, 3) := by decide +kernel
theorem dX12_rule_60 : decode cX12_rule 60 = .ok (.iload_n 1, 1) := by decide +kernel
theorem dX12_rule_61 : decode cX12_rule 61 = .ok (.iastore, 1) := by decide +kernel
theorem dX12_rule_62 : decode cX12_rule 62 = .ok (.aload_n 0, 1) := by decide +kernel
theorem dX12_rule_63 : decode cX12_rule 63 = .ok (.dup, 1) := by decide +kernel
theorem dX12_rule_64 : decode cX12_rule 64 = .ok (.getfield 340, 3) := by decide +kernel
theorem dX12_rule_67 : decode cX12_rule 67 = .ok (.aload_n 0, 1) := by decide +kernel
theorem dX12_rule_68 : decode cX12_rule 68 = .ok (.getfield 187, 3) := by decide +kernel
theorem dX12_rule_71 : decode cX12_rule 71 = .ok (.ifCond .ne 7, 3) := by decide +kernel
theorem dX12_rule_74 : decode cX12_rule 74 = .ok (.iconst 1, 1) := by decide +kernel
theorem dX12_rule_75 : decode cX12_rule 75 = .ok (.goto 4, 3) := by decide +kernel
theorem dX12_rule_78 : decode cX12_rule 78 = .ok (.iconst 0, 1) := by decide +kernel
theorem dX12_rule_79 : decode cX12_rule 79 = .ok (.iadd, 1) := by decide +kernel
theorem dX12_rule_80 : decode cX12_rule 80 = .ok (.putfield 340, 3) := by decide +kernel
theorem dX12_rule_83 : decode cX12_rule 83 = .ok (.aload_n 0, 1) := by decide +kernel
theorem dX12_rule_84 : decode cX12_rule 84 = .ok (.getfield 187, 3) := by decide +kernel
theorem dX12_rule_87 : decode cX12_rule 87 = .ok (.ifCond .le 13, 3) := by decide +kernel
theorem dX12_rule_90 : decode cX12_rule 90 = .ok (.bipush (-2), 2) := by decide +kernel
theorem dX12_rule_92 : decode cX12_rule 92 = .ok (.aload_n 0, 1) := by decide +kernel
theorem dX12_rule_93 : decode cX12_rule 93 = .ok (.getfield 187, 3) := by decide +kernel
theorem dX12_rule_96 : decode cX12_rule 96 = .ok (.isub, 1) := by decide +kernel
theorem dX12_rule_97 : decode cX12_rule 97 = .ok (.goto 9, 3) := by decide +kernel
theorem dX12_rule_100 : decode cX12_rule 100 = .ok (.aload_n 0, 1) := by decide +kernel
theorem dX12_rule_101 : decode cX12_rule 101 = .ok (.getfield 340, 3) := by decide +kernel
theorem dX12_rule_104 : decode cX12_rule 104 = .ok (.iconst 1, 1) := by decide +kernel
theorem dX12_rule_105 : decode cX12_rule 105 = .ok (.isub, 1) := by decide +kernel
theorem dX12_rule_106 : decode cX12_rule 106 = .ok (.ireturn, 1) := by decide +kernel
theorem dX12_force_0 : decode cX12_force 0 = .ok (.iload_n 1, 1) := by decide +kernel
theorem dX12_force_1 : decode cX12_force 1 = .ok (.i2l, 1) := by decide +kernel
theorem dX12_force_2 : decode cX12_force 2 = .ok (.ldc2_w 346, 3) := by decide +kernel
theorem dX12_force_5 : decode cX12_force 5 = .ok (.aload_n 0, 1) := by decide +kernel
theorem dX12_force_6 : decode cX12_force 6 = .ok (.getfield 340, 3) := by decide +kernel
theorem dX12_force_9 : decode cX12_force 9 = .ok (.iconst 1, 1) := by decide +kernel
theorem dX12_force_10 : decode cX12_force 10 = .ok (.isub, 1) := by decide +kernel
theorem dX12_force_11 : decode cX12_force 11 = .ok (.i2l, 1) := by decide +kernel
theorem dX12_force_12 : decode cX12_force 12 = .ok (.invokestatic 155, 3) := by decide +kernel
theorem dX12_force_15 : decode cX12_force 15 = .ok (.ifCond .ne 6, 3) := by decide +kernel
theorem dX12_force_18 : decode cX12_force 18 = .ok (.bipush (-2), 2) := by decide +kernel
theorem dX12_force_20 : decode cX12_force 20 = .ok (.ireturn, 1) := by decide +kernel
theorem dX12_force_21 : decode cX12_force 21 = .ok (.aload_n 0, 1) := by decide +kernel
theorem dX12_force_22 : decode cX12_force 22 = .ok (.getfield 9, 3) := by decide +kernel
theorem dX12_force_25 : decode cX12_force 25 = .ok (.bipush 8, 2) := by decide +kernel
theorem dX12_force_27 : decode cX12_force 27 = .ok (.iaload, 1) := by decide +kernel
theorem dX12_force_28 : decode cX12_force 28 = .ok (.istore_n 2, 1) := by decide +kernel
theorem dX12_force_29 : decode cX12_force 29 = .ok (.aload_n 0, 1) := by decide +kernel
theorem dX12_force_30 : decode cX12_force 30 = .ok (.getfield 9, 3) := by decide +kernel
theorem dX12_force_33 : decode cX12_force 33 = .ok (.bipush 8, 2) := by decide +kernel
theorem dX12_force_35 : decode cX12_force 35 = .ok (.iload_n 1, 1) := by decide +kernel
theorem dX12_force_36 : decode cX12_force 36 = .ok (.iastore, 1) := by decide +kernel
theorem dX12_force_37 : decode cX12_force 37 = .ok (.iload_n 2, 1) := by decide +kernel
theorem dX12_force_38 : decode cX12_force 38 = .ok (.ireturn, 1) := by decide +kernel
theorem dX12_wanted_0 : decode cX12_wanted 0 = .ok (.aload_n 0, 1) := by decide +kernel
theorem dX12_wanted_1 : decode cX12_wanted 1 = .ok (.getfield 9, 3) := by decide +kernel
theorem dX12_wanted_4 : decode cX12_wanted 4 = .ok (.bipush 8, 2) := by decide +kernel
theorem dX12_wanted_6 : decode cX12_wanted 6 = .ok (.iaload, 1) := by decide +kernel
theorem dX12_wanted_7 : decode cX12_wanted 7 = .ok (.istore_n 1, 1) := by decide +kernel
theorem dX12_wanted_8 : decode cX12_wanted 8 = .ok (.bipush 12, 2) := by decide +kernel
theorem dX12_wanted_10 : decode cX12_wanted 10 = .ok (.iload_n 1, 1) := by decide +kernel
theorem dX12_wanted_11 : decode cX12_wanted 11 = .ok (.imul, 1) := by decide +kernel
theorem dX12_wanted_12 : decode cX12_wanted 12 = .ok (.istore_n 2, 1) := by decide +kernel
theorem dX12_wanted_13 : decode cX12_wanted 13 = .ok (.iload_n 2, 1) := by decide +kernel
theorem dX12_wanted_14 : decode cX12_wanted 14 = .ok (.bipush 12, 2) := by decide +kernel
theorem dX12_wanted_16 : decode cX12_wanted 16 = .ok (.iload_n 1, 1) := by decide +kernel
theorem dX12_wanted_17 : decode cX12_wanted 17 = .ok (.imul, 1) := by decide +kernel
theorem dX12_wanted_18 : decode cX12_wanted 18 = .ok (.aload_n 0, 1) := by decide +kernel
theorem dX12_wanted_19 : decode cX12_wanted 19 = .ok (.getfield 102, 3) := by decide +kernel
theorem dX12_wanted_22 : decode cX12_wanted 22 = .ok (.iload_n 1, 1) := by decide +kernel
theorem dX12_wanted_23 : decode cX12_wanted 23 = .ok (.iaload, 1) := by decide +kernel
theorem dX12_wanted_24 : decode cX12_wanted 24 = .ok (.iadd, 1) := by decide +kernel
theorem dX12_wanted_25 : decode cX12_wanted 25 = .ok (.if_icmp .ge 64, 3) := by decide +kernel
theorem dX12_wanted_28 : decode cX12_wanted 28 = .ok (.aload_n 0, 1) := by decide +kernel
theorem dX12_wanted_29 : decode cX12_wanted 29 = .ok (.getfield 108, 3) := by decide +kernel
theorem dX12_wanted_32 : decode cX12_wanted 32 = .ok (.iload_n 2, 1) := by decide +kernel
theorem dX12_wanted_33 : decode cX12_wanted 33 = .ok (.iaload, 1) := by decide +kernel
theorem dX12_wanted_34 : decode cX12_wanted 34 = .ok (.aload_n 0, 1) := by decide +kernel
theorem dX12_wanted_35 : decode cX12_wanted 35 = .ok (.getfield 111, 3) := by decide +kernel
theorem dX12_wanted_38 : decode cX12_wanted 38 = .ok (.iload_n 2, 1) := by decide +kernel
theorem dX12_wanted_39 : decode cX12_wanted 39 = .ok (.iaload, 1) := by decide +kernel
theorem dX12_wanted_40 : decode cX12_wanted 40 = .ok (.if_icmp .eq 25, 3) := by decide +kernel
theorem dX12_wanted_43 : decode cX12_wanted 43 = .ok (.aload_n 0, 1) := by decide +kernel
theorem dX12_wanted_44 : decode cX12_wanted 44 = .ok (.iload_n 1, 1) := by decide +kernel
theorem dX12_wanted_45 : decode cX12_wanted 45 = .ok (.aload_n 0, 1) := by decide +kernel
theorem dX12_wanted_46 : decode cX12_wanted 46 = .ok (.getfield 108, 3) := by decide +kernel
theorem dX12_wanted_49 : decode cX12_wanted 49 = .ok (.iload_n 2, 1) := by decide +kernel
theorem dX12_wanted_50 : decode cX12_wanted 50 = .ok (.iaload, 1) := by decide +kernel
theorem dX12_wanted_51 : decode cX12_wanted 51 = .ok (.aload_n 0, 1) := by decide +kernel
theorem dX12_wanted_52 : decode cX12_wanted 52 = .ok (.getfield 111, 3) := by decide +kernel
theorem dX12_wanted_55 : decode cX12_wanted 55 = .ok (.iload_n 2, 1) := by decide +kernel
theorem dX12_wanted_56 : decode cX12_wanted 56 = .ok (.iaload, 1) := by decide +kernel
theorem dX12_wanted_57 : decode cX12_wanted 57 = .ok (.invokevirtual 348, 3) := by decide +kernel
theorem dX12_wanted_60 : decode cX12_wanted 60 = .ok (.lconst 1, 1) := by decide +kernel
theorem dX12_wanted_61 : decode cX12_wanted 61 = .ok (.lcmp, 1) := by decide +kernel
theorem dX12_wanted_62 : decode cX12_wanted 62 = .ok (.ifCond .ne 21, 3) := by decide +kernel
theorem dX12_wanted_65 : decode cX12_wanted 65 = .ok (.aload_n 0, 1) := by decide +kernel
theorem dX12_wanted_66 : decode cX12_wanted 66 = .ok (.iload_n 1, 1) := by decide +kernel
theorem dX12_wanted_67 : decode cX12_wanted 67 = .ok (.aload_n 0, 1) := by decide +kernel
theorem dX12_wanted_68 : decode cX12_wanted 68 = .ok (.getfield 105, 3) := by decide +kernel
theorem dX12_wanted_71 : decode cX12_wanted 71 = .ok (.iload_n 2, 1) := by decide +kernel
theorem dX12_wanted_72 : decode cX12_wanted 72 = .ok (.iaload, 1) := by decide +kernel
theorem dX12_wanted_73 : decode cX12_wanted 73 = .ok (.aload_n 0, 1) := by decide +kernel
theorem dX12_wanted_74 : decode cX12_wanted 74 = .ok (.getfield 108, 3) := by decide +kernel
theorem dX12_wanted_77 : decode cX12_wanted 77 = .ok (.iload_n 2, 1) := by decide +kernel
theorem dX12_wanted_78 : decode cX12_wanted 78 = .ok (.iaload, 1) := by decide +kernel
theorem dX12_wanted_79 : decode cX12_wanted 79 = .ok (.invokevirtual 348, 3) := by decide +kernel
theorem dX12_wanted_82 : decode cX12_wanted 82 = .ok (.lreturn, 1) := by decide +kernel
theorem dX12_wanted_83 : decode cX12_wanted 83 = .ok (.iinc 2 1, 3) := by decide +kernel
theorem dX12_wanted_86 : decode cX12_wanted 86 = .ok (.goto (-73), 3) := by decide +kernel
theorem dX12_wanted_89 : decode cX12_wanted 89 = .ok (.lconst 0, 1) := by decide +kernel
theorem dX12_wanted_90 : decode cX12_wanted 90 = .ok (.lreturn, 1) := by decide +kernel
theorem dX12_truth_0 : decode cX12_truth 0 = .ok (.iload_n 0, 1) := by decide +kernel
theorem dX12_truth_1 : decode cX12_truth 1 = .ok (.ifCond .eq 7, 3) := by decide +kernel
theorem dX12_truth_4 : decode cX12_truth 4 = .ok (.lconst 1, 1) := by decide +kernel
theorem dX12_truth_5 : decode cX12_truth 5 = .ok (.goto 4, 3) := by decide +kernel
theorem dX12_truth_8 : decode cX12_truth 8 = .ok (.lconst 0, 1) := by decide +kernel
theorem dX12_truth_9 : decode cX12_truth 9 = .ok (.lreturn, 1) := by decide +kernel
theorem dX12_both_0 : decode cX12_both 0 = .ok (.iload_n 0, 1) := by decide +kernel
theorem dX12_both_1 : decode cX12_both 1 = .ok (.tableswitch 190 2 15 #[71, 75, 111, 126, 141, 156, 171, 190, 186, 190, 190, 79, 83, 97], 71) := by decide +kernel
theorem dX12_both_72 : decode cX12_both 72 = .ok (.lload_n 1, 1) := by decide +kernel
theorem dX12_both_73 : decode cX12_both 73 = .ok (.lload_n 3, 1) := by decide +kernel
theorem dX12_both_74 : decode cX12_both 74 = .ok (.ladd, 1) := by decide +kernel
theorem dX12_both_75 : decode cX12_both 75 = .ok (.lreturn, 1) := by decide +kernel
theorem dX12_both_76 : decode cX12_both 76 = .ok (.lload_n 1, 1) := by decide +kernel
theorem dX12_both_77 : decode cX12_both 77 = .ok (.lload_n 3, 1) := by decide +kernel
theorem dX12_both_78 : decode cX12_both 78 = .ok (.lsub, 1) := by decide +kernel
theorem dX12_both_79 : decode cX12_both 79 = .ok (.lreturn, 1) := by decide +kernel
theorem dX12_both_80 : decode cX12_both 80 = .ok (.lload_n 1, 1) := by decide +kernel
theorem dX12_both_81 : decode cX12_both 81 = .ok (.lload_n 3, 1) := by decide +kernel
theorem dX12_both_82 : decode cX12_both 82 = .ok (.lmul, 1) := by decide +kernel
theorem dX12_both_83 : decode cX12_both 83 = .ok (.lreturn, 1) := by decide +kernel
theorem dX12_both_84 : decode cX12_both 84 = .ok (.lload_n 3, 1) := by decide +kernel
theorem dX12_both_85 : decode cX12_both 85 = .ok (.lconst 0, 1) := by decide +kernel
theorem dX12_both_86 : decode cX12_both 86 = .ok (.lcmp, 1) := by decide +kernel
theorem dX12_both_87 : decode cX12_both 87 = .ok (.ifCond .ne 7, 3) := by decide +kernel
theorem dX12_both_90 : decode cX12_both 90 = .ok (.lconst 0, 1) := by decide +kernel
theorem dX12_both_91 : decode cX12_both 91 = .ok (.goto 6, 3) := by decide +kernel
theorem dX12_both_94 : decode cX12_both 94 = .ok (.lload_n 1, 1) := by decide +kernel
theorem dX12_both_95 : decode cX12_both 95 = .ok (.lload_n 3, 1) := by decide +kernel
theorem dX12_both_96 : decode cX12_both 96 = .ok (.ldiv, 1) := by decide +kernel
theorem dX12_both_97 : decode cX12_both 97 = .ok (.lreturn, 1) := by decide +kernel
theorem dX12_both_98 : decode cX12_both 98 = .ok (.lload_n 3, 1) := by decide +kernel
theorem dX12_both_99 : decode cX12_both 99 = .ok (.lconst 0, 1) := by decide +kernel
theorem dX12_both_100 : decode cX12_both 100 = .ok (.lcmp, 1) := by decide +kernel
theorem dX12_both_101 : decode cX12_both 101 = .ok (.ifCond .ne 7, 3) := by decide +kernel
theorem dX12_both_104 : decode cX12_both 104 = .ok (.lconst 0, 1) := by decide +kernel
theorem dX12_both_105 : decode cX12_both 105 = .ok (.goto 6, 3) := by decide +kernel
theorem dX12_both_108 : decode cX12_both 108 = .ok (.lload_n 1, 1) := by decide +kernel
theorem dX12_both_109 : decode cX12_both 109 = .ok (.lload_n 3, 1) := by decide +kernel
theorem dX12_both_110 : decode cX12_both 110 = .ok (.lrem, 1) := by decide +kernel
theorem dX12_both_111 : decode cX12_both 111 = .ok (.lreturn, 1) := by decide +kernel
theorem dX12_both_112 : decode cX12_both 112 = .ok (.lload_n 1, 1) := by decide +kernel
theorem dX12_both_113 : decode cX12_both 113 = .ok (.lload_n 3, 1) := by decide +kernel
theorem dX12_both_114 : decode cX12_both 114 = .ok (.lcmp, 1) := by decide +kernel
theorem dX12_both_115 : decode cX12_both 115 = .ok (.ifCond .ge 7, 3) := by decide +kernel
theorem dX12_both_118 : decode cX12_both 118 = .ok (.iconst 1, 1) := by decide +kernel
theorem dX12_both_119 : decode cX12_both 119 = .ok (.goto 4, 3) := by decide +kernel
theorem dX12_both_122 : decode cX12_both 122 = .ok (.iconst 0, 1) := by decide +kernel
theorem dX12_both_123 : decode cX12_both 123 = .ok (.invokestatic 352, 3) := by decide +kernel
theorem dX12_both_126 : decode cX12_both 126 = .ok (.lreturn, 1) := by decide +kernel
theorem dX12_both_127 : decode cX12_both 127 = .ok (.lload_n 1, 1) := by decide +kernel
theorem dX12_both_128 : decode cX12_both 128 = .ok (.lload_n 3, 1) := by decide +kernel
theorem dX12_both_129 : decode cX12_both 129 = .ok (.lcmp, 1) := by decide +kernel
theorem dX12_both_130 : decode cX12_both 130 = .ok (.ifCond .gt 7, 3) := by decide +kernel
theorem dX12_both_133 : decode cX12_both 133 = .ok (.iconst 1, 1) := by decide +kernel
theorem dX12_both_134 : decode cX12_both 134 = .ok (.goto 4, 3) := by decide +kernel
theorem dX12_both_137 : decode cX12_both 137 = .ok (.iconst 0, 1) := by decide +kernel
theorem dX12_both_138 : decode cX12_both 138 = .ok (.invokestatic 352, 3) := by decide +kernel
theorem dX12_both_141 : decode cX12_both 141 = .ok (.lreturn, 1) := by decide +kernel
theorem dX12_both_142 : decode cX12_both 142 = .ok (.lload_n 1, 1) := by decide +kernel
theorem dX12_both_143 : decode cX12_both 143 = .ok (.lload_n 3, 1) := by decide +kernel
theorem dX12_both_144 : decode cX12_both 144 = .ok (.lcmp, 1) := by decide +kernel
theorem dX12_both_145 : decode cX12_both 145 = .ok (.ifCond .ne 7, 3) := by decide +kernel
theorem dX12_both_148 : decode cX12_both 148 = .ok (.iconst 1, 1) := by decide +kernel
theorem dX12_both_149 : decode cX12_both 149 = .ok (.goto 4, 3) := by decide +kernel
theorem dX12_both_152 : decode cX12_both 152 = .ok (.iconst 0, 1) := by decide +kernel
theorem dX12_both_153 : decode cX12_both 153 = .ok (.invokestatic 352, 3) := by decide +kernel
theorem dX12_both_156 : decode cX12_both 156 = .ok (.lreturn, 1) := by decide +kernel
theorem dX12_both_157 : decode cX12_both 157 = .ok (.lload_n 1, 1) := by decide +kernel
theorem dX12_both_158 : decode cX12_both 158 = .ok (.lload_n 3, 1) := by decide +kernel
theorem dX12_both_159 : decode cX12_both 159 = .ok (.lcmp, 1) := by decide +kernel
theorem dX12_both_160 : decode cX12_both 160 = .ok (.ifCond .lt 7, 3) := by decide +kernel
theorem dX12_both_163 : decode cX12_both 163 = .ok (.iconst 1, 1) := by decide +kernel
theorem dX12_both_164 : decode cX12_both 164 = .ok (.goto 4, 3) := by decide +kernel
theorem dX12_both_167 : decode cX12_both 167 = .ok (.iconst 0, 1) := by decide +kernel
theorem dX12_both_168 : decode cX12_both 168 = .ok (.invokestatic 352, 3) := by decide +kernel
theorem dX12_both_171 : decode cX12_both 171 = .ok (.lreturn, 1) := by decide +kernel
theorem dX12_both_172 : decode cX12_both 172 = .ok (.lload_n 1, 1) := by decide +kernel
theorem dX12_both_173 : decode cX12_both 173 = .ok (.lload_n 3, 1) := by decide +kernel
theorem dX12_both_174 : decode cX12_both 174 = .ok (.lcmp, 1) := by decide +kernel
theorem dX12_both_175 : decode cX12_both 175 = .ok (.ifCond .le 7, 3) := by decide +kernel
theorem dX12_both_178 : decode cX12_both 178 = .ok (.iconst 1, 1) := by decide +kernel
theorem dX12_both_179 : decode cX12_both 179 = .ok (.goto 4, 3) := by decide +kernel
theorem dX12_both_182 : decode cX12_both 182 = .ok (.iconst 0, 1) := by decide +kernel
theorem dX12_both_183 : decode cX12_both 183 = .ok (.invokestatic 352, 3) := by decide +kernel
theorem dX12_both_186 : decode cX12_both 186 = .ok (.lreturn, 1) := by decide +kernel
theorem dX12_both_187 : decode cX12_both 187 = .ok (.lload_n 1, 1) := by decide +kernel
theorem dX12_both_188 : decode cX12_both 188 = .ok (.lload_n 3, 1) := by decide +kernel
theorem dX12_both_189 : decode cX12_both 189 = .ok (.land, 1) := by decide +kernel
theorem dX12_both_190 : decode cX12_both 190 = .ok (.lreturn, 1) := by decide +kernel
theorem dX12_both_191 : decode cX12_both 191 = .ok (.lload_n 1, 1) := by decide +kernel
theorem dX12_both_192 : decode cX12_both 192 = .ok (.lload_n 3, 1) := by decide +kernel
theorem dX12_both_193 : decode cX12_both 193 = .ok (.lor, 1) := by decide +kernel
theorem dX12_both_194 : decode cX12_both 194 = .ok (.lreturn, 1) := by decide +kernel
theorem dX12_answer_0 : decode cX12_answer 0 = .ok (.iconst 0, 1) := by decide +kernel
theorem dX12_answer_1 : decode cX12_answer 1 = .ok (.istore 4, 2) := by decide +kernel
theorem dX12_answer_3 : decode cX12_answer 3 = .ok (.iload_n 2, 1) := by decide +kernel
theorem dX12_answer_4 : decode cX12_answer 4 = .ok (.istore 5, 2) := by decide +kernel
theorem dX12_answer_6 : decode cX12_answer 6 = .ok (.iload 5, 2) := by decide +kernel
theorem dX12_answer_8 : decode cX12_answer 8 = .ok (.iload_n 3, 1) := by decide +kernel
theorem dX12_answer_9 : decode cX12_answer 9 = .ok (.if_icmp .ge 144, 3) := by decide +kernel
theorem dX12_answer_12 : decode cX12_answer 12 = .ok (.aload_n 0, 1) := by decide +kernel
theorem dX12_answer_13 : decode cX12_answer 13 = .ok (.getfield 96, 3) := by decide +kernel
theorem dX12_answer_16 : decode cX12_answer 16 = .ok (.sipush 300, 3) := by decide +kernel
theorem dX12_answer_19 : decode cX12_answer 19 = .ok (.iload_n 1, 1) := by decide +kernel
theorem dX12_answer_20 : decode cX12_answer 20 = .ok (.imul, 1) := by decide +kernel
theorem dX12_answer_21 : decode cX12_answer 21 = .ok (.iload 5, 2) := by decide +kernel
theorem dX12_answer_23 : decode cX12_answer 23 = .ok (.iadd, 1) := by decide +kernel
theorem dX12_answer_24 : decode cX12_answer 24 = .ok (.iaload, 1) := by decide +kernel
theorem dX12_answer_25 : decode cX12_answer 25 = .ok (.istore 6, 2) := by decide +kernel
theorem dX12_answer_27 : decode cX12_answer 27 = .ok (.aload_n 0, 1) := by decide +kernel
theorem dX12_answer_28 : decode cX12_answer 28 = .ok (.getfield 99, 3) := by decide +kernel
theorem dX12_answer_31 : decode cX12_answer 31 = .ok (.sipush 300, 3) := by decide +kernel
theorem dX12_answer_34 : decode cX12_answer 34 = .ok (.iload_n 1, 1) := by decide +kernel
theorem dX12_answer_35 : decode cX12_answer 35 = .ok (.imul, 1) := by decide +kernel
theorem dX12_answer_36 : decode cX12_answer 36 = .ok (.iload 5, 2) := by decide +kernel
theorem dX12_answer_38 : decode cX12_answer 38 = .ok (.iadd, 1) := by decide +kernel
theorem dX12_answer_39 : decode cX12_answer 39 = .ok (.iaload, 1) := by decide +kernel
theorem dX12_answer_40 : decode cX12_answer 40 = .ok (.istore 7, 2) := by decide +kernel
theorem dX12_answer_42 : decode cX12_answer 42 = .ok (.iload 6, 2) := by decide +kernel
theorem dX12_answer_44 : decode cX12_answer 44 = .ok (.ifCond .eq 9, 3) := by decide +kernel
theorem dX12_answer_47 : decode cX12_answer 47 = .ok (.iload 6, 2) := by decide +kernel
theorem dX12_answer_49 : decode cX12_answer 49 = .ok (.iconst 1, 1) := by decide +kernel
theorem dX12_answer_50 : decode cX12_answer 50 = .ok (.if_icmp .ne 34, 3) := by decide +kernel
theorem dX12_answer_53 : decode cX12_answer 53 = .ok (.aload_n 0, 1) := by decide +kernel
theorem dX12_answer_54 : decode cX12_answer 54 = .ok (.getfield 121, 3) := by decide +kernel
theorem dX12_answer_57 : decode cX12_answer 57 = .ok (.iload 4, 2) := by decide +kernel
theorem dX12_answer_59 : decode cX12_answer 59 = .ok (.iload 6, 2) := by decide +kernel
theorem dX12_answer_61 : decode cX12_answer 61 = .ok (.ifCond .ne 9, 3) := by decide +kernel
theorem dX12_answer_64 : decode cX12_answer 64 = .ok (.iload 7, 2) := by decide +kernel
theorem dX12_answer_66 : decode cX12_answer 66 = .ok (.i2l, 1) := by decide +kernel
theorem dX12_answer_67 : decode cX12_answer 67 = .ok (.goto 10, 3) := by decide +kernel
theorem dX12_answer_70 : decode cX12_answer 70 = .ok (.aload_n 0, 1) := by decide +kernel
theorem dX12_answer_71 : decode cX12_answer 71 = .ok (.getfield 117, 3) := by decide +kernel
theorem dX12_answer_74 : decode cX12_answer 74 = .ok (.iload 7, 2) := by decide +kernel
theorem dX12_answer_76 : decode cX12_answer 76 = .ok (.laload, 1) := by decide +kernel
theorem dX12_answer_77 : decode cX12_answer 77 = .ok (.lastore, 1) := by decide +kernel
theorem dX12_answer_78 : decode cX12_answer 78 = .ok (.iinc 4 1, 3) := by decide +kernel
theorem dX12_answer_81 : decode cX12_answer 81 = .ok (.goto 66, 3) := by decide +kernel
theorem dX12_answer_84 : decode cX12_answer 84 = .ok (.iload 6, 2) := by decide +kernel
theorem dX12_answer_86 : decode cX12_answer 86 = .ok (.bipush 9, 2) := by decide +kernel
theorem dX12_answer_88 : decode cX12_answer 88 = .ok (.if_icmp .ne 26, 3) := by decide +kernel
theorem dX12_answer_91 : decode cX12_answer 91 = .ok (.aload_n 0, 1) := by decide +kernel
theorem dX12_answer_92 : decode cX12_answer 92 = .ok (.getfield 121, 3) := by decide +kernel
theorem dX12_answer_95 : decode cX12_answer 95 = .ok (.iload 4, 2) := by decide +kernel
theorem dX12_answer_97 : decode cX12_answer 97 = .ok (.iconst 1, 1) := by decide +kernel
theorem dX12_answer_98 : decode cX12_answer 98 = .ok (.isub, 1) := by decide +kernel
theorem dX12_answer_99 : decode cX12_answer 99 = .ok (.lconst 1, 1) := by decide +kernel
theorem dX12_answer_100 : decode cX12_answer 100 = .ok (.aload_n 0, 1) := by decide +kernel
theorem dX12_answer_101 : decode cX12_answer 101 = .ok (.getfield 121, 3) := by decide +kernel
theorem dX12_answer_104 : decode cX12_answer 104 = .ok (.iload 4, 2) := by decide +kernel
theorem dX12_answer_106 : decode cX12_answer 106 = .ok (.iconst 1, 1) := by decide +kernel
theorem dX12_answer_107 : decode cX12_answer 107 = .ok (.isub, 1) := by decide +kernel
theorem dX12_answer_108 : decode cX12_answer 108 = .ok (.laload, 1) := by decide +kernel
theorem dX12_answer_109 : decode cX12_answer 109 = .ok (.lsub, 1) := by decide +kernel
theorem dX12_answer_110 : decode cX12_answer 110 = .ok (.lastore, 1) := by decide +kernel
theorem dX12_answer_111 : decode cX12_answer 111 = .ok (.goto 36, 3) := by decide +kernel
theorem dX12_answer_114 : decode cX12_answer 114 = .ok (.iinc 4 (-1), 3) := by decide +kernel
theorem dX12_answer_117 : decode cX12_answer 117 = .ok (.aload_n 0, 1) := by decide +kernel
theorem dX12_answer_118 : decode cX12_answer 118 = .ok (.getfield 121, 3) := by decide +kernel
theorem dX12_answer_121 : decode cX12_answer 121 = .ok (.iload 4, 2) := by decide +kernel
theorem dX12_answer_123 : decode cX12_answer 123 = .ok (.iconst 1, 1) := by decide +kernel
theorem dX12_answer_124 : decode cX12_answer 124 = .ok (.isub, 1) := by decide +kernel
theorem dX12_answer_125 : decode cX12_answer 125 = .ok (.iload 6, 2) := by decide +kernel
theorem dX12_answer_127 : decode cX12_answer 127 = .ok (.aload_n 0, 1) := by decide +kernel
theorem dX12_answer_128 : decode cX12_answer 128 = .ok (.getfield 121, 3) := by decide +kernel
theorem dX12_answer_131 : decode cX12_answer 131 = .ok (.iload 4, 2) := by decide +kernel
theorem dX12_answer_133 : decode cX12_answer 133 = .ok (.iconst 1, 1) := by decide +kernel
theorem dX12_answer_134 : decode cX12_answer 134 = .ok (.isub, 1) := by decide +kernel
theorem dX12_answer_135 : decode cX12_answer 135 = .ok (.laload, 1) := by decide +kernel
theorem dX12_answer_136 : decode cX12_answer 136 = .ok (.aload_n 0, 1) := by decide +kernel
theorem dX12_answer_137 : decode cX12_answer 137 = .ok (.getfield 121, 3) := by decide +kernel
theorem dX12_answer_140 : decode cX12_answer 140 = .ok (.iload 4, 2) := by decide +kernel
theorem dX12_answer_142 : decode cX12_answer 142 = .ok (.laload, 1) := by decide +kernel
theorem dX12_answer_143 : decode cX12_answer 143 = .ok (.invokestatic 356, 3) := by decide +kernel
theorem dX12_answer_146 : decode cX12_answer 146 = .ok (.lastore, 1) := by decide +kernel
theorem dX12_answer_147 : decode cX12_answer 147 = .ok (.iinc 5 1, 3) := by decide +kernel
theorem dX12_answer_150 : decode cX12_answer 150 = .ok (.goto (-144), 3) := by decide +kernel
theorem dX12_answer_153 : decode cX12_answer 153 = .ok (.aload_n 0, 1) := by decide +kernel
theorem dX12_answer_154 : decode cX12_answer 154 = .ok (.getfield 121, 3) := by decide +kernel
theorem dX12_answer_157 : decode cX12_answer 157 = .ok (.iconst 0, 1) := by decide +kernel
theorem dX12_answer_158 : decode cX12_answer 158 = .ok (.laload, 1) := by decide +kernel
theorem dX12_answer_159 : decode cX12_answer 159 = .ok (.lreturn, 1) := by decide +kernel
theorem dX12_thingsSo_0 : decode cX12_thingsSo 0 = .ok (.iconst 0, 1) := by decide +kernel
theorem dX12_thingsSo_1 : decode cX12_thingsSo 1 = .ok (.istore_n 2, 1) := by decide +kernel
theorem dX12_thingsSo_2 : decode cX12_thingsSo 2 = .ok (.iconst 0, 1) := by decide +kernel
theorem dX12_thingsSo_3 : decode cX12_thingsSo 3 = .ok (.istore_n 3, 1) := by decide +kernel
theorem dX12_thingsSo_4 : decode cX12_thingsSo 4 = .ok (.iload_n 3, 1) := by decide +kernel
theorem dX12_thingsSo_5 : decode cX12_thingsSo 5 = .ok (.aload_n 0, 1) := by decide +kernel
theorem dX12_thingsSo_6 : decode cX12_thingsSo 6 = .ok (.getfield 9, 3) := by decide +kernel
theorem dX12_thingsSo_9 : decode cX12_thingsSo 9 = .ok (.iconst 4, 1) := by decide +kernel
theorem dX12_thingsSo_10 : decode cX12_thingsSo 10 = .ok (.iaload, 1) := by decide +kernel
theorem dX12_thingsSo_11 : decode cX12_thingsSo 11 = .ok (.if_icmp .ge 29, 3) := by decide +kernel
theorem dX12_thingsSo_14 : decode cX12_thingsSo 14 = .ok (.iload_n 2, 1) := by decide +kernel
theorem dX12_thingsSo_15 : decode cX12_thingsSo 15 = .ok (.aload_n 0, 1) := by decide +kernel
theorem dX12_thingsSo_16 : decode cX12_thingsSo 16 = .ok (.getfield 46, 3) := by decide +kernel
theorem dX12_thingsSo_19 : decode cX12_thingsSo 19 = .ok (.iload_n 3, 1) := by decide +kernel
theorem dX12_thingsSo_20 : decode cX12_thingsSo 20 = .ok (.iaload, 1) := by decide +kernel
theorem dX12_thingsSo_21 : decode cX12_thingsSo 21 = .ok (.iload_n 1, 1) := by decide +kernel
theorem dX12_thingsSo_22 : decode cX12_thingsSo 22 = .ok (.if_icmp .ne 9, 3) := by decide +kernel
theorem dX12_thingsSo_25 : decode cX12_thingsSo 25 = .ok (.iconst 1, 1) := by decide +kernel
theorem dX12_thingsSo_26 : decode cX12_thingsSo 26 = .ok (.iload_n 3, 1) := by decide +kernel
theorem dX12_thingsSo_27 : decode cX12_thingsSo 27 = .ok (.ishl, 1) := by decide +kernel
theorem dX12_thingsSo_28 : decode cX12_thingsSo 28 = .ok (.goto 4, 3) := by decide +kernel
theorem dX12_thingsSo_31 : decode cX12_thingsSo 31 = .ok (.iconst 0, 1) := by decide +kernel
theorem dX12_thingsSo_32 : decode cX12_thingsSo 32 = .ok (.ior, 1) := by decide +kernel
theorem dX12_thingsSo_33 : decode cX12_thingsSo 33 = .ok (.istore_n 2, 1) := by decide +kernel
theorem dX12_thingsSo_34 : decode cX12_thingsSo 34 = .ok (.iinc 3 1, 3) := by decide +kernel
theorem dX12_thingsSo_37 : decode cX12_thingsSo 37 = .ok (.goto (-33), 3) := by decide +kernel
theorem dX12_thingsSo_40 : decode cX12_thingsSo 40 = .ok (.iload_n 2, 1) := by decide +kernel
theorem dX12_thingsSo_41 : decode cX12_thingsSo 41 = .ok (.ireturn, 1) := by decide +kernel
theorem dX12_bits_0 : decode cX12_bits 0 = .ok (.iconst 0, 1) := by decide +kernel
theorem dX12_bits_1 : decode cX12_bits 1 = .ok (.istore_n 1, 1) := by decide +kernel
theorem dX12_bits_2 : decode cX12_bits 2 = .ok (.iconst 0, 1) := by decide +kernel
theorem dX12_bits_3 : decode cX12_bits 3 = .ok (.istore_n 2, 1) := by decide +kernel
theorem dX12_bits_4 : decode cX12_bits 4 = .ok (.iload_n 2, 1) := by decide +kernel
theorem dX12_bits_5 : decode cX12_bits 5 = .ok (.bipush 16, 2) := by decide +kernel
theorem dX12_bits_7 : decode cX12_bits 7 = .ok (.if_icmp .ge 17, 3) := by decide +kernel
theorem dX12_bits_10 : decode cX12_bits 10 = .ok (.iload_n 1, 1) := by decide +kernel
theorem dX12_bits_11 : decode cX12_bits 11 = .ok (.iload_n 0, 1) := by decide +kernel
theorem dX12_bits_12 : decode cX12_bits 12 = .ok (.iload_n 2, 1) := by decide +kernel
theorem dX12_bits_13 : decode cX12_bits 13 = .ok (.ishr, 1) := by decide +kernel
theorem dX12_bits_14 : decode cX12_bits 14 = .ok (.iconst 1, 1) := by decide +kernel
theorem dX12_bits_15 : decode cX12_bits 15 = .ok (.iand, 1) := by decide +kernel
theorem dX12_bits_16 : decode cX12_bits 16 = .ok (.iadd, 1) := by decide +kernel
theorem dX12_bits_17 : decode cX12_bits 17 = .ok (.istore_n 1, 1) := by decide +kernel
theorem dX12_bits_18 : decode cX12_bits 18 = .ok (.iinc 2 1, 3) := by decide +kernel
theorem dX12_bits_21 : decode cX12_bits 21 = .ok (.goto (-17), 3) := by decide +kernel
theorem dX12_bits_24 : decode cX12_bits 24 = .ok (.iload_n 1, 1) := by decide +kernel
theorem dX12_bits_25 : decode cX12_bits 25 = .ok (.ireturn, 1) := by decide +kernel
theorem dX12_saved_0 : decode cX12_saved 0 = .ok (.iconst 0, 1) := by decide +kernel
theorem dX12_saved_1 : decode cX12_saved 1 = .ok (.istore_n 1, 1) := by decide +kernel
theorem dX12_saved_2 : decode cX12_saved 2 = .ok (.iconst 0, 1) := by decide +kernel
theorem dX12_saved_3 : decode cX12_saved 3 = .ok (.istore_n 2, 1) := by decide +kernel
theorem dX12_saved_4 : decode cX12_saved 4 = .ok (.iload_n 2, 1) := by decide +kernel
theorem dX12_saved_5 : decode cX12_saved 5 = .ok (.aload_n 0, 1) := by decide +kernel
theorem dX12_saved_6 : decode cX12_saved 6 = .ok (.getfield 9, 3) := by decide +kernel
theorem dX12_saved_9 : decode cX12_saved 9 = .ok (.iconst 4, 1) := by decide +kernel
theorem dX12_saved_10 : decode cX12_saved 10 = .ok (.iaload, 1) := by decide +kernel
theorem dX12_saved_11 : decode cX12_saved 11 = .ok (.if_icmp .ge 32, 3) := by decide +kernel
theorem dX12_saved_14 : decode cX12_saved 14 = .ok (.iload_n 1, 1) := by decide +kernel
theorem dX12_saved_15 : decode cX12_saved 15 = .ok (.aload_n 0, 1) := by decide +kernel
theorem dX12_saved_16 : decode cX12_saved 16 = .ok (.getfield 46, 3) := by decide +kernel
theorem dX12_saved_19 : decode cX12_saved 19 = .ok (.iload_n 2, 1) := by decide +kernel
theorem dX12_saved_20 : decode cX12_saved 20 = .ok (.iaload, 1) := by decide +kernel
theorem dX12_saved_21 : decode cX12_saved 21 = .ok (.iconst 3, 1) := by decide +kernel
theorem dX12_saved_22 : decode cX12_saved 22 = .ok (.if_icmp .ne 12, 3) := by decide +kernel
theorem dX12_saved_25 : decode cX12_saved 25 = .ok (.aload_n 0, 1) := by decide +kernel
theorem dX12_saved_26 : decode cX12_saved 26 = .ok (.getfield 40, 3) := by decide +kernel
theorem dX12_saved_29 : decode cX12_saved 29 = .ok (.iload_n 2, 1) := by decide +kernel
theorem dX12_saved_30 : decode cX12_saved 30 = .ok (.iaload, 1) := by decide +kernel
theorem dX12_saved_31 : decode cX12_saved 31 = .ok (.goto 4, 3) := by decide +kernel
theorem dX12_saved_34 : decode cX12_saved 34 = .ok (.iconst 0, 1) := by decide +kernel
theorem dX12_saved_35 : decode cX12_saved 35 = .ok (.iadd, 1) := by decide +kernel
theorem dX12_saved_36 : decode cX12_saved 36 = .ok (.istore_n 1, 1) := by decide +kernel
theorem dX12_saved_37 : decode cX12_saved 37 = .ok (.iinc 2 1, 3) := by decide +kernel
theorem dX12_saved_40 : decode cX12_saved 40 = .ok (.goto (-36), 3) := by decide +kernel
theorem dX12_saved_43 : decode cX12_saved 43 = .ok (.iload_n 1, 1) := by decide +kernel
theorem dX12_saved_44 : decode cX12_saved 44 = .ok (.ireturn, 1) := by decide +kernel
theorem dX12_thing_0 : decode cX12_thing 0 = .ok (.aload_n 0, 1) := by decide +kernel
theorem dX12_thing_1 : decode cX12_thing 1 = .ok (.iload_n 1, 1) := by decide +kernel
theorem dX12_thing_2 : decode cX12_thing 2 = .ok (.invokevirtual 360, 3) := by decide +kernel
theorem dX12_thing_5 : decode cX12_thing 5 = .ok (.ifCond .ne 6, 3) := by decide +kernel
theorem dX12_thing_8 : decode cX12_thing 8 = .ok (.bipush (-2), 2) := by decide +kernel
theorem dX12_thing_10 : decode cX12_thing 10 = .ok (.ireturn, 1) := by decide +kernel
theorem dX12_thing_11 : decode cX12_thing 11 = .ok (.iload_n 2, 1) := by decide +kernel
theorem dX12_thing_12 : decode cX12_thing 12 = .ok (.tableswitch 82 0 5 #[40, 47, 54, 61, 68, 75], 40) := by decide +kernel
theorem dX12_thing_52 : decode cX12_thing 52 = .ok (.aload_n 0, 1) := by decide +kernel
theorem dX12_thing_53 : decode cX12_thing 53 = .ok (.getfield 34, 3) := by decide +kernel
theorem dX12_thing_56 : decode cX12_thing 56 = .ok (.iload_n 1, 1) := by decide +kernel
theorem dX12_thing_57 : decode cX12_thing 57 = .ok (.iaload, 1) := by decide +kernel
theorem dX12_thing_58 : decode cX12_thing 58 = .ok (.ireturn, 1) := by decide +kernel
theorem dX12_thing_59 : decode cX12_thing 59 = .ok (.aload_n 0, 1) := by decide +kernel
theorem dX12_thing_60 : decode cX12_thing 60 = .ok (.getfield 37, 3) := by decide +kernel
theorem dX12_thing_63 : decode cX12_thing 63 = .ok (.iload_n 1, 1) := by decide +kernel
theorem dX12_thing_64 : decode cX12_thing 64 = .ok (.iaload, 1) := by decide +kernel
theorem dX12_thing_65 : decode cX12_thing 65 = .ok (.ireturn, 1) := by decide +kernel
theorem dX12_thing_66 : decode cX12_thing 66 = .ok (.aload_n 0, 1) := by decide +kernel
theorem dX12_thing_67 : decode cX12_thing 67 = .ok (.getfield 40, 3) := by decide +kernel
theorem dX12_thing_70 : decode cX12_thing 70 = .ok (.iload_n 1, 1) := by decide +kernel
theorem dX12_thing_71 : decode cX12_thing 71 = .ok (.iaload, 1) := by decide +kernel
theorem dX12_thing_72 : decode cX12_thing 72 = .ok (.ireturn, 1) := by decide +kernel
theorem dX12_thing_73 : decode cX12_thing 73 = .ok (.aload_n 0, 1) := by decide +kernel
theorem dX12_thing_74 : decode cX12_thing 74 = .ok (.getfield 43, 3) := by decide +kernel
theorem dX12_thing_77 : decode cX12_thing 77 = .ok (.iload_n 1, 1) := by decide +kernel
theorem dX12_thing_78 : decode cX12_thing 78 = .ok (.iaload, 1) := by decide +kernel
theorem dX12_thing_79 : decode cX12_thing 79 = .ok (.ireturn, 1) := by decide +kernel
theorem dX12_thing_80 : decode cX12_thing 80 = .ok (.aload_n 0, 1) := by decide +kernel
theorem dX12_thing_81 : decode cX12_thing 81 = .ok (.getfield 46, 3) := by decide +kernel
theorem dX12_thing_84 : decode cX12_thing 84 = .ok (.iload_n 1, 1) := by decide +kernel
theorem dX12_thing_85 : decode cX12_thing 85 = .ok (.iaload, 1) := by decide +kernel
theorem dX12_thing_86 : decode cX12_thing 86 = .ok (.ireturn, 1) := by decide +kernel
theorem dX12_thing_87 : decode cX12_thing 87 = .ok (.aload_n 0, 1) := by decide +kernel
theorem dX12_thing_88 : decode cX12_thing 88 = .ok (.getfield 49, 3) := by decide +kernel
theorem dX12_thing_91 : decode cX12_thing 91 = .ok (.iload_n 1, 1) := by decide +kernel
theorem dX12_thing_92 : decode cX12_thing 92 = .ok (.iaload, 1) := by decide +kernel
theorem dX12_thing_93 : decode cX12_thing 93 = .ok (.ireturn, 1) := by decide +kernel
theorem dX12_thing_94 : decode cX12_thing 94 = .ok (.bipush (-2), 2) := by decide +kernel
theorem dX12_thing_96 : decode cX12_thing 96 = .ok (.ireturn, 1) := by decide +kernel
theorem dX12_mender_0 : decode cX12_mender 0 = .ok (.aload_n 0, 1) := by decide +kernel
theorem dX12_mender_1 : decode cX12_mender 1 = .ok (.iload_n 1, 1) := by decide +kernel
theorem dX12_mender_2 : decode cX12_mender 2 = .ok (.invokevirtual 364, 3) := by decide +kernel
theorem dX12_mender_5 : decode cX12_mender 5 = .ok (.ifCond .ne 6, 3) := by decide +kernel
theorem dX12_mender_8 : decode cX12_mender 8 = .ok (.bipush (-2), 2) := by decide +kernel
theorem dX12_mender_10 : decode cX12_mender 10 = .ok (.ireturn, 1) := by decide +kernel
theorem dX12_mender_11 : decode cX12_mender 11 = .ok (.iload_n 2, 1) := by decide +kernel
theorem dX12_mender_12 : decode cX12_mender 12 = .ok (.tableswitch 89 0 7 #[48, 55, 62, 69, 76, 76, 76, 76], 48) := by decide +kernel
theorem dX12_mender_60 : decode cX12_mender 60 = .ok (.aload_n 0, 1) := by decide +kernel
theorem dX12_mender_61 : decode cX12_mender 61 = .ok (.getfield 22, 3) := by decide +kernel
theorem dX12_mender_64 : decode cX12_mender 64 = .ok (.iload_n 1, 1) := by decide +kernel
theorem dX12_mender_65 : decode cX12_mender 65 = .ok (.iaload, 1) := by decide +kernel
theorem dX12_mender_66 : decode cX12_mender 66 = .ok (.ireturn, 1) := by decide +kernel
theorem dX12_mender_67 : decode cX12_mender 67 = .ok (.aload_n 0, 1) := by decide +kernel
theorem dX12_mender_68 : decode cX12_mender 68 = .ok (.getfield 25, 3) := by decide +kernel
theorem dX12_mender_71 : decode cX12_mender 71 = .ok (.iload_n 1, 1) := by decide +kernel
theorem dX12_mender_72 : decode cX12_mender 72 = .ok (.iaload, 1) := by decide +kernel
theorem dX12_mender_73 : decode cX12_mender 73 = .ok (.ireturn, 1) := by decide +kernel
theorem dX12_mender_74 : decode cX12_mender 74 = .ok (.aload_n 0, 1) := by decide +kernel
theorem dX12_mender_75 : decode cX12_mender 75 = .ok (.getfield 28, 3) := by decide +kernel
theorem dX12_mender_78 : decode cX12_mender 78 = .ok (.iload_n 1, 1) := by decide +kernel
theorem dX12_mender_79 : decode cX12_mender 79 = .ok (.iaload, 1) := by decide +kernel
theorem dX12_mender_80 : decode cX12_mender 80 = .ok (.ireturn, 1) := by decide +kernel
theorem dX12_mender_81 : decode cX12_mender 81 = .ok (.aload_n 0, 1) := by decide +kernel
theorem dX12_mender_82 : decode cX12_mender 82 = .ok (.getfield 31, 3) := by decide +kernel
theorem dX12_mender_85 : decode cX12_mender 85 = .ok (.iload_n 1, 1) := by decide +kernel
theorem dX12_mender_86 : decode cX12_mender 86 = .ok (.iaload, 1) := by decide +kernel
theorem dX12_mender_87 : decode cX12_mender 87 = .ok (.ireturn, 1) := by decide +kernel
theorem dX12_mender_88 : decode cX12_mender 88 = .ok (.aload_n 0, 1) := by decide +kernel
theorem dX12_mender_89 : decode cX12_mender 89 = .ok (.getfield 19, 3) := by decide +kernel
theorem dX12_mender_92 : decode cX12_mender 92 = .ok (.iconst 4, 1) := by decide +kernel
theorem dX12_mender_93 : decode cX12_mender 93 = .ok (.iload_n 1, 1) := by decide +kernel
theorem dX12_mender_94 : decode cX12_mender 94 = .ok (.imul, 1) := by decide +kernel
theorem dX12_mender_95 : decode cX12_mender 95 = .ok (.iload_n 2, 1) := by decide +kernel
theorem dX12_mender_96 : decode cX12_mender 96 = .ok (.iadd, 1) := by decide +kernel
theorem dX12_mender_97 : decode cX12_mender 97 = .ok (.iconst 4, 1) := by decide +kernel
theorem dX12_mender_98 : decode cX12_mender 98 = .ok (.isub, 1) := by decide +kernel
theorem dX12_mender_99 : decode cX12_mender 99 = .ok (.iaload, 1) := by decide +kernel
theorem dX12_mender_100 : decode cX12_mender 100 = .ok (.ireturn, 1) := by decide +kernel
theorem dX12_mender_101 : decode cX12_mender 101 = .ok (.bipush (-2), 2) := by decide +kernel
theorem dX12_mender_103 : decode cX12_mender 103 = .ok (.ireturn, 1) := by decide +kernel
theorem dX12_sort_0 : decode cX12_sort 0 = .ok (.aload_n 0, 1) := by decide +kernel
theorem dX12_sort_1 : decode cX12_sort 1 = .ok (.iload_n 1, 1) := by decide +kernel
theorem dX12_sort_2 : decode cX12_sort 2 = .ok (.invokevirtual 367, 3) := by decide +kernel
theorem dX12_sort_5 : decode cX12_sort 5 = .ok (.ifCond .eq 13, 3) := by decide +kernel
theorem dX12_sort_8 : decode cX12_sort 8 = .ok (.iload_n 2, 1) := by decide +kernel
theorem dX12_sort_9 : decode cX12_sort 9 = .ok (.i2l, 1) := by decide +kernel
theorem dX12_sort_10 : decode cX12_sort 10 = .ok (.lconst 0, 1) := by decide +kernel
theorem dX12_sort_11 : decode cX12_sort 11 = .ok (.lconst 1, 1) := by decide +kernel
theorem dX12_sort_12 : decode cX12_sort 12 = .ok (.invokestatic 155, 3) := by decide +kernel
theorem dX12_sort_15 : decode cX12_sort 15 = .ok (.ifCond .ne 7, 3) := by decide +kernel
theorem dX12_sort_18 : decode cX12_sort 18 = .ok (.iconst (-1), 1) := by decide +kernel
theorem dX12_sort_19 : decode cX12_sort 19 = .ok (.goto 22, 3) := by decide +kernel
theorem dX12_sort_22 : decode cX12_sort 22 = .ok (.iload_n 2, 1) := by decide +kernel
theorem dX12_sort_23 : decode cX12_sort 23 = .ok (.ifCond .ne 12, 3) := by decide +kernel
theorem dX12_sort_26 : decode cX12_sort 26 = .ok (.aload_n 0, 1) := by decide +kernel
theorem dX12_sort_27 : decode cX12_sort 27 = .ok (.getfield 13, 3) := by decide +kernel
theorem dX12_sort_30 : decode cX12_sort 30 = .ok (.iload_n 1, 1) := by decide +kernel
theorem dX12_sort_31 : decode cX12_sort 31 = .ok (.iaload, 1) := by decide +kernel
theorem dX12_sort_32 : decode cX12_sort 32 = .ok (.goto 9, 3) := by decide +kernel
theorem dX12_sort_35 : decode cX12_sort 35 = .ok (.aload_n 0, 1) := by decide +kernel
theorem dX12_sort_36 : decode cX12_sort 36 = .ok (.getfield 16, 3) := by decide +kernel
theorem dX12_sort_39 : decode cX12_sort 39 = .ok (.iload_n 1, 1) := by decide +kernel
theorem dX12_sort_40 : decode cX12_sort 40 = .ok (.iaload, 1) := by decide +kernel
theorem dX12_sort_41 : decode cX12_sort 41 = .ok (.ireturn, 1) := by decide +kernel
theorem dX12_canTake_0 : decode cX12_canTake 0 = .ok (.aload_n 0, 1) := by decide +kernel
theorem dX12_canTake_1 : decode cX12_canTake 1 = .ok (.getfield 34, 3) := by decide +kernel
theorem dX12_canTake_4 : decode cX12_canTake 4 = .ok (.iload_n 2, 1) := by decide +kernel
theorem dX12_canTake_5 : decode cX12_canTake 5 = .ok (.iaload, 1) := by decide +kernel
theorem dX12_canTake_6 : decode cX12_canTake 6 = .ok (.istore_n 3, 1) := by decide +kernel
theorem dX12_canTake_7 : decode cX12_canTake 7 = .ok (.aload_n 0, 1) := by decide +kernel
theorem dX12_canTake_8 : decode cX12_canTake 8 = .ok (.getfield 46, 3) := by decide +kernel
theorem dX12_canTake_11 : decode cX12_canTake 11 = .ok (.iload_n 2, 1) := by decide +kernel
theorem dX12_canTake_12 : decode cX12_canTake 12 = .ok (.iaload, 1) := by decide +kernel
theorem dX12_canTake_13 : decode cX12_canTake 13 = .ok (.iconst 1, 1) := by decide +kernel
theorem dX12_canTake_14 : decode cX12_canTake 14 = .ok (.if_icmp .ne 39, 3) := by decide +kernel
theorem dX12_canTake_17 : decode cX12_canTake 17 = .ok (.aload_n 0, 1) := by decide +kernel
theorem dX12_canTake_18 : decode cX12_canTake 18 = .ok (.getfield 19, 3) := by decide +kernel
theorem dX12_canTake_21 : decode cX12_canTake 21 = .ok (.iconst 4, 1) := by decide +kernel
theorem dX12_canTake_22 : decode cX12_canTake 22 = .ok (.iload_n 1, 1) := by decide +kernel
theorem dX12_canTake_23 : decode cX12_canTake 23 = .ok (.imul, 1) := by decide +kernel
theorem dX12_canTake_24 : decode cX12_canTake 24 = .ok (.iload_n 3, 1) := by decide +kernel
theorem dX12_canTake_25 : decode cX12_canTake 25 = .ok (.iadd, 1) := by decide +kernel
theorem dX12_canTake_26 : decode cX12_canTake 26 = .ok (.iaload, 1) := by decide +kernel
theorem dX12_canTake_27 : decode cX12_canTake 27 = .ok (.iconst (-1), 1) := by decide +kernel
theorem dX12_canTake_28 : decode cX12_canTake 28 = .ok (.if_icmp .eq 25, 3) := by decide +kernel
theorem dX12_canTake_31 : decode cX12_canTake 31 = .ok (.aload_n 0, 1) := by decide +kernel
theorem dX12_canTake_32 : decode cX12_canTake 32 = .ok (.getfield 43, 3) := by decide +kernel
theorem dX12_canTake_35 : decode cX12_canTake 35 = .ok (.iload_n 2, 1) := by decide +kernel
theorem dX12_canTake_36 : decode cX12_canTake 36 = .ok (.iaload, 1) := by decide +kernel
theorem dX12_canTake_37 : decode cX12_canTake 37 = .ok (.ifCond .eq 12, 3) := by decide +kernel
theorem dX12_canTake_40 : decode cX12_canTake 40 = .ok (.aload_n 0, 1) := by decide +kernel
theorem dX12_canTake_41 : decode cX12_canTake 41 = .ok (.getfield 16, 3) := by decide +kernel
theorem dX12_canTake_44 : decode cX12_canTake 44 = .ok (.iload_n 3, 1) := by decide +kernel
theorem dX12_canTake_45 : decode cX12_canTake 45 = .ok (.iaload, 1) := by decide +kernel
theorem dX12_canTake_46 : decode cX12_canTake 46 = .ok (.ifCond .le 7, 3) := by decide +kernel
theorem dX12_canTake_49 : decode cX12_canTake 49 = .ok (.iconst 1, 1) := by decide +kernel
theorem dX12_canTake_50 : decode cX12_canTake 50 = .ok (.goto 4, 3) := by decide +kernel
theorem dX12_canTake_53 : decode cX12_canTake 53 = .ok (.iconst 0, 1) := by decide +kernel
theorem dX12_canTake_54 : decode cX12_canTake 54 = .ok (.ireturn, 1) := by decide +kernel
theorem dX12_lasts_0 : decode cX12_lasts 0 = .ok (.aload_n 0, 1) := by decide +kernel
theorem dX12_lasts_1 : decode cX12_lasts 1 = .ok (.getfield 19, 3) := by decide +kernel
theorem dX12_lasts_4 : decode cX12_lasts 4 = .ok (.iconst 4, 1) := by decide +kernel
theorem dX12_lasts_5 : decode cX12_lasts 5 = .ok (.iload_n 1, 1) := by decide +kernel
theorem dX12_lasts_6 : decode cX12_lasts 6 = .ok (.imul, 1) := by decide +kernel
theorem dX12_lasts_7 : decode cX12_lasts 7 = .ok (.aload_n 0, 1) := by decide +kernel
theorem dX12_lasts_8 : decode cX12_lasts 8 = .ok (.getfield 34, 3) := by decide +kernel
theorem dX12_lasts_11 : decode cX12_lasts 11 = .ok (.iload_n 2, 1) := by decide +kernel
theorem dX12_lasts_12 : decode cX12_lasts 12 = .ok (.iaload, 1) := by decide +kernel
theorem dX12_lasts_13 : decode cX12_lasts 13 = .ok (.iadd, 1) := by decide +kernel
theorem dX12_lasts_14 : decode cX12_lasts 14 = .ok (.iaload, 1) := by decide +kernel
theorem dX12_lasts_15 : decode cX12_lasts 15 = .ok (.aload_n 0, 1) := by decide +kernel
theorem dX12_lasts_16 : decode cX12_lasts 16 = .ok (.getfield 13, 3) := by decide +kernel
theorem dX12_lasts_19 : decode cX12_lasts 19 = .ok (.aload_n 0, 1) := by decide +kernel
theorem dX12_lasts_20 : decode cX12_lasts 20 = .ok (.getfield 34, 3) := by decide +kernel
theorem dX12_lasts_23 : decode cX12_lasts 23 = .ok (.iload_n 2, 1) := by decide +kernel
theorem dX12_lasts_24 : decode cX12_lasts 24 = .ok (.iaload, 1) := by decide +kernel
theorem dX12_lasts_25 : decode cX12_lasts 25 = .ok (.iaload, 1) := by decide +kernel
theorem dX12_lasts_26 : decode cX12_lasts 26 = .ok (.iadd, 1) := by decide +kernel
theorem dX12_lasts_27 : decode cX12_lasts 27 = .ok (.ireturn, 1) := by decide +kernel
theorem dX12_takesIt_0 : decode cX12_takesIt 0 = .ok (.aload_n 0, 1) := by decide +kernel
theorem dX12_takesIt_1 : decode cX12_takesIt 1 = .ok (.getfield 16, 3) := by decide +kernel
theorem dX12_takesIt_4 : decode cX12_takesIt 4 = .ok (.aload_n 0, 1) := by decide +kernel
theorem dX12_takesIt_5 : decode cX12_takesIt 5 = .ok (.getfield 34, 3) := by decide +kernel
theorem dX12_takesIt_8 : decode cX12_takesIt 8 = .ok (.iload_n 2, 1) := by decide +kernel
theorem dX12_takesIt_9 : decode cX12_takesIt 9 = .ok (.iaload, 1) := by decide +kernel
theorem dX12_takesIt_10 : decode cX12_takesIt 10 = .ok (.dup2, 1) := by decide +kernel
theorem dX12_takesIt_11 : decode cX12_takesIt 11 = .ok (.iaload, 1) := by decide +kernel
theorem dX12_takesIt_12 : decode cX12_takesIt 12 = .ok (.aload_n 0, 1) := by decide +kernel
theorem dX12_takesIt_13 : decode cX12_takesIt 13 = .ok (.getfield 43, 3) := by decide +kernel
theorem dX12_takesIt_16 : decode cX12_takesIt 16 = .ok (.iload_n 2, 1) := by decide +kernel
theorem dX12_takesIt_17 : decode cX12_takesIt 17 = .ok (.iaload, 1) := by decide +kernel
theorem dX12_takesIt_18 : decode cX12_takesIt 18 = .ok (.isub, 1) := by decide +kernel
theorem dX12_takesIt_19 : decode cX12_takesIt 19 = .ok (.iastore, 1) := by decide +kernel
theorem dX12_takesIt_20 : decode cX12_takesIt 20 = .ok (.aload_n 0, 1) := by decide +kernel
theorem dX12_takesIt_21 : decode cX12_takesIt 21 = .ok (.getfield 46, 3) := by decide +kernel
theorem dX12_takesIt_24 : decode cX12_takesIt 24 = .ok (.iload_n 2, 1) := by decide +kernel
theorem dX12_takesIt_25 : decode cX12_takesIt 25 = .ok (.iconst 2, 1) := by decide +kernel
theorem dX12_takesIt_26 : decode cX12_takesIt 26 = .ok (.iastore, 1) := by decide +kernel
theorem dX12_takesIt_27 : decode cX12_takesIt 27 = .ok (.aload_n 0, 1) := by decide +kernel
theorem dX12_takesIt_28 : decode cX12_takesIt 28 = .ok (.getfield 22, 3) := by decide +kernel
theorem dX12_takesIt_31 : decode cX12_takesIt 31 = .ok (.iload_n 1, 1) := by decide +kernel
theorem dX12_takesIt_32 : decode cX12_takesIt 32 = .ok (.iload_n 2, 1) := by decide +kernel
theorem dX12_takesIt_33 : decode cX12_takesIt 33 = .ok (.iastore, 1) := by decide +kernel
theorem dX12_takesIt_34 : decode cX12_takesIt 34 = .ok (.aload_n 0, 1) := by decide +kernel
theorem dX12_takesIt_35 : decode cX12_takesIt 35 = .ok (.getfield 25, 3) := by decide +kernel
theorem dX12_takesIt_38 : decode cX12_takesIt 38 = .ok (.iload_n 1, 1) := by decide +kernel
theorem dX12_takesIt_39 : decode cX12_takesIt 39 = .ok (.aload_n 0, 1) := by decide +kernel
theorem dX12_takesIt_40 : decode cX12_takesIt 40 = .ok (.iload_n 1, 1) := by decide +kernel
theorem dX12_takesIt_41 : decode cX12_takesIt 41 = .ok (.iload_n 2, 1) := by decide +kernel
theorem dX12_takesIt_42 : decode cX12_takesIt 42 = .ok (.invokevirtual 370, 3) := by decide +kernel
theorem dX12_takesIt_45 : decode cX12_takesIt 45 = .ok (.iastore, 1) := by decide +kernel
theorem dX12_takesIt_46 : decode cX12_takesIt 46 = .ok (.return_, 1) := by decide +kernel
theorem dX12_sumOf_0 : decode cX12_sumOf 0 = .ok (.iconst 0, 1) := by decide +kernel
theorem dX12_sumOf_1 : decode cX12_sumOf 1 = .ok (.istore_n 3, 1) := by decide +kernel
theorem dX12_sumOf_2 : decode cX12_sumOf 2 = .ok (.iconst 0, 1) := by decide +kernel
theorem dX12_sumOf_3 : decode cX12_sumOf 3 = .ok (.istore 4, 2) := by decide +kernel
theorem dX12_sumOf_5 : decode cX12_sumOf 5 = .ok (.iconst 0, 1) := by decide +kernel
theorem dX12_sumOf_6 : decode cX12_sumOf 6 = .ok (.istore 5, 2) := by decide +kernel
theorem dX12_sumOf_8 : decode cX12_sumOf 8 = .ok (.iload 5, 2) := by decide +kernel
theorem dX12_sumOf_10 : decode cX12_sumOf 10 = .ok (.aload_n 0, 1) := by decide +kernel
theorem dX12_sumOf_11 : decode cX12_sumOf 11 = .ok (.getfield 9, 3) := by decide +kernel
theorem dX12_sumOf_14 : decode cX12_sumOf 14 = .ok (.iconst 3, 1) := by decide +kernel
theorem dX12_sumOf_15 : decode cX12_sumOf 15 = .ok (.iaload, 1) := by decide +kernel
theorem dX12_sumOf_16 : decode cX12_sumOf 16 = .ok (.if_icmp .ge 28, 3) := by decide +kernel
theorem dX12_sumOf_19 : decode cX12_sumOf 19 = .ok (.iload_n 3, 1) := by decide +kernel
theorem dX12_sumOf_20 : decode cX12_sumOf 20 = .ok (.aload_n 0, 1) := by decide +kernel
theorem dX12_sumOf_21 : decode cX12_sumOf 21 = .ok (.getfield 22, 3) := by decide +kernel
theorem dX12_sumOf_24 : decode cX12_sumOf 24 = .ok (.iload 5, 2) := by decide +kernel
theorem dX12_sumOf_26 : decode cX12_sumOf 26 = .ok (.iaload, 1) := by decide +kernel
theorem dX12_sumOf_27 : decode cX12_sumOf 27 = .ok (.iconst (-1), 1) := by decide +kernel
theorem dX12_sumOf_28 : decode cX12_sumOf 28 = .ok (.if_icmp .ne 7, 3) := by decide +kernel
theorem dX12_sumOf_31 : decode cX12_sumOf 31 = .ok (.iconst 1, 1) := by decide +kernel
theorem dX12_sumOf_32 : decode cX12_sumOf 32 = .ok (.goto 4, 3) := by decide +kernel
theorem dX12_sumOf_35 : decode cX12_sumOf 35 = .ok (.iconst 0, 1) := by decide +kernel
theorem dX12_sumOf_36 : decode cX12_sumOf 36 = .ok (.iadd, 1) := by decide +kernel
theorem dX12_sumOf_37 : decode cX12_sumOf 37 = .ok (.istore_n 3, 1) := by decide +kernel
theorem dX12_sumOf_38 : decode cX12_sumOf 38 = .ok (.iinc 5 1, 3) := by decide +kernel
theorem dX12_sumOf_41 : decode cX12_sumOf 41 = .ok (.goto (-33), 3) := by decide +kernel
theorem dX12_sumOf_44 : decode cX12_sumOf 44 = .ok (.iconst 0, 1) := by decide +kernel
theorem dX12_sumOf_45 : decode cX12_sumOf 45 = .ok (.istore 5, 2) := by decide +kernel
theorem dX12_sumOf_47 : decode cX12_sumOf 47 = .ok (.iload 5, 2) := by decide +kernel
theorem dX12_sumOf_49 : decode cX12_sumOf 49 = .ok (.aload_n 0, 1) := by decide +kernel
theorem dX12_sumOf_50 : decode cX12_sumOf 50 = .ok (.getfield 9, 3) := by decide +kernel
theorem dX12_sumOf_53 : decode cX12_sumOf 53 = .ok (.iconst 2, 1) := by decide +kernel
theorem dX12_sumOf_54 : decode cX12_sumOf 54 = .ok (.iaload, 1) := by decide +kernel
theorem dX12_sumOf_55 : decode cX12_sumOf 55 = .ok (.if_icmp .ge 34, 3) := by decide +kernel
theorem dX12_sumOf_58 : decode cX12_sumOf 58 = .ok (.iload 4, 2) := by decide +kernel
theorem dX12_sumOf_60 : decode cX12_sumOf 60 = .ok (.aload_n 0, 1) := by decide +kernel
theorem dX12_sumOf_61 : decode cX12_sumOf 61 = .ok (.getfield 19, 3) := by decide +kernel
theorem dX12_sumOf_64 : decode cX12_sumOf 64 = .ok (.iconst 4, 1) := by decide +kernel
theorem dX12_sumOf_65 : decode cX12_sumOf 65 = .ok (.iload_n 1, 1) := by decide +kernel
theorem dX12_sumOf_66 : decode cX12_sumOf 66 = .ok (.imul, 1) := by decide +kernel
theorem dX12_sumOf_67 : decode cX12_sumOf 67 = .ok (.iload 5, 2) := by decide +kernel
theorem dX12_sumOf_69 : decode cX12_sumOf 69 = .ok (.iadd, 1) := by decide +kernel
theorem dX12_sumOf_70 : decode cX12_sumOf 70 = .ok (.iaload, 1) := by decide +kernel
theorem dX12_sumOf_71 : decode cX12_sumOf 71 = .ok (.iconst (-1), 1) := by decide +kernel
theorem dX12_sumOf_72 : decode cX12_sumOf 72 = .ok (.if_icmp .eq 7, 3) := by decide +kernel
theorem dX12_sumOf_75 : decode cX12_sumOf 75 = .ok (.iconst 1, 1) := by decide +kernel
theorem dX12_sumOf_76 : decode cX12_sumOf 76 = .ok (.goto 4, 3) := by decide +kernel
theorem dX12_sumOf_79 : decode cX12_sumOf 79 = .ok (.iconst 0, 1) := by decide +kernel
theorem dX12_sumOf_80 : decode cX12_sumOf 80 = .ok (.iadd, 1) := by decide +kernel
theorem dX12_sumOf_81 : decode cX12_sumOf 81 = .ok (.istore 4, 2) := by decide +kernel
theorem dX12_sumOf_83 : decode cX12_sumOf 83 = .ok (.iinc 5 1, 3) := by decide +kernel
theorem dX12_sumOf_86 : decode cX12_sumOf 86 = .ok (.goto (-39), 3) := by decide +kernel
theorem dX12_sumOf_89 : decode cX12_sumOf 89 = .ok (.aload_n 0, 1) := by decide +kernel
theorem dX12_sumOf_90 : decode cX12_sumOf 90 = .ok (.getfield 117, 3) := by decide +kernel
theorem dX12_sumOf_93 : decode cX12_sumOf 93 = .ok (.iconst 0, 1) := by decide +kernel
theorem dX12_sumOf_94 : decode cX12_sumOf 94 = .ok (.iload_n 1, 1) := by decide +kernel
theorem dX12_sumOf_95 : decode cX12_sumOf 95 = .ok (.i2l, 1) := by decide +kernel
theorem dX12_sumOf_96 : decode cX12_sumOf 96 = .ok (.lastore, 1) := by decide +kernel
theorem dX12_sumOf_97 : decode cX12_sumOf 97 = .ok (.aload_n 0, 1) := by decide +kernel
theorem dX12_sumOf_98 : decode cX12_sumOf 98 = .ok (.getfield 117, 3) := by decide +kernel
theorem dX12_sumOf_101 : decode cX12_sumOf 101 = .ok (.iconst 1, 1) := by decide +kernel
theorem dX12_sumOf_102 : decode cX12_sumOf 102 = .ok (.iload_n 2, 1) := by decide +kernel
theorem dX12_sumOf_103 : decode cX12_sumOf 103 = .ok (.i2l, 1) := by decide +kernel
theorem dX12_sumOf_104 : decode cX12_sumOf 104 = .ok (.lastore, 1) := by decide +kernel
theorem dX12_sumOf_105 : decode cX12_sumOf 105 = .ok (.aload_n 0, 1) := by decide +kernel
theorem dX12_sumOf_106 : decode cX12_sumOf 106 = .ok (.getfield 117, 3) := by decide +kernel
theorem dX12_sumOf_109 : decode cX12_sumOf 109 = .ok (.iconst 2, 1) := by decide +kernel
theorem dX12_sumOf_110 : decode cX12_sumOf 110 = .ok (.aload_n 0, 1) := by decide +kernel
theorem dX12_sumOf_111 : decode cX12_sumOf 111 = .ok (.getfield 34, 3) := by decide +kernel
theorem dX12_sumOf_114 : decode cX12_sumOf 114 = .ok (.iload_n 2, 1) := by decide +kernel
theorem dX12_sumOf_115 : decode cX12_sumOf 115 = .ok (.iaload, 1) := by decide +kernel
theorem dX12_sumOf_116 : decode cX12_sumOf 116 = .ok (.i2l, 1) := by decide +kernel
theorem dX12_sumOf_117 : decode cX12_sumOf 117 = .ok (.lastore, 1) := by decide +kernel
theorem dX12_sumOf_118 : decode cX12_sumOf 118 = .ok (.aload_n 0, 1) := by decide +kernel
theorem dX12_sumOf_119 : decode cX12_sumOf 119 = .ok (.getfield 117, 3) := by decide +kernel
theorem dX12_sumOf_122 : decode cX12_sumOf 122 = .ok (.iconst 3, 1) := by decide +kernel
theorem dX12_sumOf_123 : decode cX12_sumOf 123 = .ok (.aload_n 0, 1) := by decide +kernel
theorem dX12_sumOf_124 : decode cX12_sumOf 124 = .ok (.getfield 40, 3) := by decide +kernel
theorem dX12_sumOf_127 : decode cX12_sumOf 127 = .ok (.iload_n 2, 1) := by decide +kernel
theorem dX12_sumOf_128 : decode cX12_sumOf 128 = .ok (.iaload, 1) := by decide +kernel
theorem dX12_sumOf_129 : decode cX12_sumOf 129 = .ok (.i2l, 1) := by decide +kernel
theorem dX12_sumOf_130 : decode cX12_sumOf 130 = .ok (.lastore, 1) := by decide +kernel
theorem dX12_sumOf_131 : decode cX12_sumOf 131 = .ok (.aload_n 0, 1) := by decide +kernel
theorem dX12_sumOf_132 : decode cX12_sumOf 132 = .ok (.getfield 117, 3) := by decide +kernel
theorem dX12_sumOf_135 : decode cX12_sumOf 135 = .ok (.iconst 4, 1) := by decide +kernel
theorem dX12_sumOf_136 : decode cX12_sumOf 136 = .ok (.aload_n 0, 1) := by decide +kernel
theorem dX12_sumOf_137 : decode cX12_sumOf 137 = .ok (.getfield 9, 3) := by decide +kernel
theorem dX12_sumOf_140 : decode cX12_sumOf 140 = .ok (.iconst 5, 1) := by decide +kernel
theorem dX12_sumOf_141 : decode cX12_sumOf 141 = .ok (.iaload, 1) := by decide +kernel
theorem dX12_sumOf_142 : decode cX12_sumOf 142 = .ok (.aload_n 0, 1) := by decide +kernel
theorem dX12_sumOf_143 : decode cX12_sumOf 143 = .ok (.getfield 37, 3) := by decide +kernel
theorem dX12_sumOf_146 : decode cX12_sumOf 146 = .ok (.iload_n 2, 1) := by decide +kernel
theorem dX12_sumOf_147 : decode cX12_sumOf 147 = .ok (.iaload, 1) := by decide +kernel
theorem dX12_sumOf_148 : decode cX12_sumOf 148 = .ok (.isub, 1) := by decide +kernel
theorem dX12_sumOf_149 : decode cX12_sumOf 149 = .ok (.i2l, 1) := by decide +kernel
theorem dX12_sumOf_150 : decode cX12_sumOf 150 = .ok (.lastore, 1) := by decide +kernel
theorem dX12_sumOf_151 : decode cX12_sumOf 151 = .ok (.aload_n 0, 1) := by decide +kernel
theorem dX12_sumOf_152 : decode cX12_sumOf 152 = .ok (.getfield 117, 3) := by decide +kernel
theorem dX12_sumOf_155 : decode cX12_sumOf 155 = .ok (.iconst 5, 1) := by decide +kernel
theorem dX12_sumOf_156 : decode cX12_sumOf 156 = .ok (.aload_n 0, 1) := by decide +kernel
theorem dX12_sumOf_157 : decode cX12_sumOf 157 = .ok (.iload_n 1, 1) := by decide +kernel
theorem dX12_sumOf_158 : decode cX12_sumOf 158 = .ok (.iload_n 2, 1) := by decide +kernel
theorem dX12_sumOf_159 : decode cX12_sumOf 159 = .ok (.invokevirtual 370, 3) := by decide +kernel
theorem dX12_sumOf_162 : decode cX12_sumOf 162 = .ok (.i2l, 1) := by decide +kernel
theorem dX12_sumOf_163 : decode cX12_sumOf 163 = .ok (.lastore, 1) := by decide +kernel
theorem dX12_sumOf_164 : decode cX12_sumOf 164 = .ok (.aload_n 0, 1) := by decide +kernel
theorem dX12_sumOf_165 : decode cX12_sumOf 165 = .ok (.getfield 117, 3) := by decide +kernel
theorem dX12_sumOf_168 : decode cX12_sumOf 168 = .ok (.bipush 6, 2) := by decide +kernel
theorem dX12_sumOf_170 : decode cX12_sumOf 170 = .ok (.aload_n 0, 1) := by decide +kernel
theorem dX12_sumOf_171 : decode cX12_sumOf 171 = .ok (.getfield 43, 3) := by decide +kernel
theorem dX12_sumOf_174 : decode cX12_sumOf 174 = .ok (.iload_n 2, 1) := by decide +kernel
theorem dX12_sumOf_175 : decode cX12_sumOf 175 = .ok (.iaload, 1) := by decide +kernel
theorem dX12_sumOf_176 : decode cX12_sumOf 176 = .ok (.i2l, 1) := by decide +kernel
theorem dX12_sumOf_177 : decode cX12_sumOf 177 = .ok (.lastore, 1) := by decide +kernel
theorem dX12_sumOf_178 : decode cX12_sumOf 178 = .ok (.aload_n 0, 1) := by decide +kernel
theorem dX12_sumOf_179 : decode cX12_sumOf 179 = .ok (.getfield 117, 3) := by decide +kernel
theorem dX12_sumOf_182 : decode cX12_sumOf 182 = .ok (.bipush 7, 2) := by decide +kernel
theorem dX12_sumOf_184 : decode cX12_sumOf 184 = .ok (.aload_n 0, 1) := by decide +kernel
theorem dX12_sumOf_185 : decode cX12_sumOf 185 = .ok (.getfield 16, 3) := by decide +kernel
theorem dX12_sumOf_188 : decode cX12_sumOf 188 = .ok (.aload_n 0, 1) := by decide +kernel
theorem dX12_sumOf_189 : decode cX12_sumOf 189 = .ok (.getfield 34, 3) := by decide +kernel
theorem dX12_sumOf_192 : decode cX12_sumOf 192 = .ok (.iload_n 2, 1) := by decide +kernel
theorem dX12_sumOf_193 : decode cX12_sumOf 193 = .ok (.iaload, 1) := by decide +kernel
theorem dX12_sumOf_194 : decode cX12_sumOf 194 = .ok (.iaload, 1) := by decide +kernel
theorem dX12_sumOf_195 : decode cX12_sumOf 195 = .ok (.i2l, 1) := by decide +kernel
theorem dX12_sumOf_196 : decode cX12_sumOf 196 = .ok (.lastore, 1) := by decide +kernel
theorem dX12_sumOf_197 : decode cX12_sumOf 197 = .ok (.aload_n 0, 1) := by decide +kernel
theorem dX12_sumOf_198 : decode cX12_sumOf 198 = .ok (.getfield 117, 3) := by decide +kernel
theorem dX12_sumOf_201 : decode cX12_sumOf 201 = .ok (.bipush 8, 2) := by decide +kernel
theorem dX12_sumOf_203 : decode cX12_sumOf 203 = .ok (.aload_n 0, 1) := by decide +kernel
theorem dX12_sumOf_204 : decode cX12_sumOf 204 = .ok (.iconst 1, 1) := by decide +kernel
theorem dX12_sumOf_205 : decode cX12_sumOf 205 = .ok (.invokevirtual 373, 3) := by decide +kernel
theorem dX12_sumOf_208 : decode cX12_sumOf 208 = .ok (.invokestatic 376, 3) := by decide +kernel
theorem dX12_sumOf_211 : decode cX12_sumOf 211 = .ok (.i2l, 1) := by decide +kernel
theorem dX12_sumOf_212 : decode cX12_sumOf 212 = .ok (.lastore, 1) := by decide +kernel
theorem dX12_sumOf_213 : decode cX12_sumOf 213 = .ok (.aload_n 0, 1) := by decide +kernel
theorem dX12_sumOf_214 : decode cX12_sumOf 214 = .ok (.getfield 117, 3) := by decide +kernel
theorem dX12_sumOf_217 : decode cX12_sumOf 217 = .ok (.bipush 9, 2) := by decide +kernel
theorem dX12_sumOf_219 : decode cX12_sumOf 219 = .ok (.aload_n 0, 1) := by decide +kernel
theorem dX12_sumOf_220 : decode cX12_sumOf 220 = .ok (.getfield 9, 3) := by decide +kernel
theorem dX12_sumOf_223 : decode cX12_sumOf 223 = .ok (.iconst 0, 1) := by decide +kernel
theorem dX12_sumOf_224 : decode cX12_sumOf 224 = .ok (.iaload, 1) := by decide +kernel
theorem dX12_sumOf_225 : decode cX12_sumOf 225 = .ok (.aload_n 0, 1) := by decide +kernel
theorem dX12_sumOf_226 : decode cX12_sumOf 226 = .ok (.getfield 9, 3) := by decide +kernel
theorem dX12_sumOf_229 : decode cX12_sumOf 229 = .ok (.iconst 5, 1) := by decide +kernel
theorem dX12_sumOf_230 : decode cX12_sumOf 230 = .ok (.iaload, 1) := by decide +kernel
theorem dX12_sumOf_231 : decode cX12_sumOf 231 = .ok (.isub, 1) := by decide +kernel
theorem dX12_sumOf_232 : decode cX12_sumOf 232 = .ok (.i2l, 1) := by decide +kernel
theorem dX12_sumOf_233 : decode cX12_sumOf 233 = .ok (.lastore, 1) := by decide +kernel
theorem dX12_sumOf_234 : decode cX12_sumOf 234 = .ok (.aload_n 0, 1) := by decide +kernel
theorem dX12_sumOf_235 : decode cX12_sumOf 235 = .ok (.getfield 117, 3) := by decide +kernel
theorem dX12_sumOf_238 : decode cX12_sumOf 238 = .ok (.bipush 10, 2) := by decide +kernel
theorem dX12_sumOf_240 : decode cX12_sumOf 240 = .ok (.iload_n 3, 1) := by decide +kernel
theorem dX12_sumOf_241 : decode cX12_sumOf 241 = .ok (.i2l, 1) := by decide +kernel
theorem dX12_sumOf_242 : decode cX12_sumOf 242 = .ok (.lastore, 1) := by decide +kernel
theorem dX12_sumOf_243 : decode cX12_sumOf 243 = .ok (.aload_n 0, 1) := by decide +kernel
theorem dX12_sumOf_244 : decode cX12_sumOf 244 = .ok (.getfield 117, 3) := by decide +kernel
theorem dX12_sumOf_247 : decode cX12_sumOf 247 = .ok (.bipush 11, 2) := by decide +kernel
theorem dX12_sumOf_249 : decode cX12_sumOf 249 = .ok (.iload 4, 2) := by decide +kernel
theorem dX12_sumOf_251 : decode cX12_sumOf 251 = .ok (.i2l, 1) := by decide +kernel
theorem dX12_sumOf_252 : decode cX12_sumOf 252 = .ok (.lastore, 1) := by decide +kernel
theorem dX12_sumOf_253 : decode cX12_sumOf 253 = .ok (.aload_n 0, 1) := by decide +kernel
theorem dX12_sumOf_254 : decode cX12_sumOf 254 = .ok (.invokevirtual 379, 3) := by decide +kernel
theorem dX12_sumOf_257 : decode cX12_sumOf 257 = .ok (.lreturn, 1) := by decide +kernel
theorem dX12_choiceOf_0 : decode cX12_choiceOf 0 = .ok (.iconst (-1), 1) := by decide +kernel
theorem dX12_choiceOf_1 : decode cX12_choiceOf 1 = .ok (.istore_n 2, 1) := by decide +kernel
theorem dX12_choiceOf_2 : decode cX12_choiceOf 2 = .ok (.lconst 0, 1) := by decide +kernel
theorem dX12_choiceOf_3 : decode cX12_choiceOf 3 = .ok (.lstore_n 3, 1) := by decide +kernel
theorem dX12_choiceOf_4 : decode cX12_choiceOf 4 = .ok (.iconst 0, 1) := by decide +kernel
theorem dX12_choiceOf_5 : decode cX12_choiceOf 5 = .ok (.istore 5, 2) := by decide +kernel
theorem dX12_choiceOf_7 : decode cX12_choiceOf 7 = .ok (.iload 5, 2) := by decide +kernel
theorem dX12_choiceOf_9 : decode cX12_choiceOf 9 = .ok (.aload_n 0, 1) := by decide +kernel
theorem dX12_choiceOf_10 : decode cX12_choiceOf 10 = .ok (.getfield 9, 3) := by decide +kernel
theorem dX12_choiceOf_13 : decode cX12_choiceOf 13 = .ok (.iconst 4, 1) := by decide +kernel
theorem dX12_choiceOf_14 : decode cX12_choiceOf 14 = .ok (.iaload, 1) := by decide +kernel
theorem dX12_choiceOf_15 : decode cX12_choiceOf 15 = .ok (.if_icmp .ge 67, 3) := by decide +kernel
theorem dX12_choiceOf_18 : decode cX12_choiceOf 18 = .ok (.aload_n 0, 1) := by decide +kernel
theorem dX12_choiceOf_19 : decode cX12_choiceOf 19 = .ok (.iload_n 1, 1) := by decide +kernel
theorem dX12_choiceOf_20 : decode cX12_choiceOf 20 = .ok (.iload 5, 2) := by decide +kernel
theorem dX12_choiceOf_22 : decode cX12_choiceOf 22 = .ok (.invokevirtual 383, 3) := by decide +kernel
theorem dX12_choiceOf_25 : decode cX12_choiceOf 25 = .ok (.ifCond .eq 51, 3) := by decide +kernel
theorem dX12_choiceOf_28 : decode cX12_choiceOf 28 = .ok (.aload_n 0, 1) := by decide +kernel
theorem dX12_choiceOf_29 : decode cX12_choiceOf 29 = .ok (.getfield 9, 3) := by decide +kernel
theorem dX12_choiceOf_32 : decode cX12_choiceOf 32 = .ok (.bipush 8, 2) := by decide +kernel
theorem dX12_choiceOf_34 : decode cX12_choiceOf 34 = .ok (.iaload, 1) := by decide +kernel
theorem dX12_choiceOf_35 : decode cX12_choiceOf 35 = .ok (.iconst (-1), 1) := by decide +kernel
theorem dX12_choiceOf_36 : decode cX12_choiceOf 36 = .ok (.if_icmp .ne 18, 3) := by decide +kernel
theorem dX12_choiceOf_39 : decode cX12_choiceOf 39 = .ok (.ldc2_w 386, 3) := by decide +kernel
theorem dX12_choiceOf_42 : decode cX12_choiceOf 42 = .ok (.aload_n 0, 1) := by decide +kernel
theorem dX12_choiceOf_43 : decode cX12_choiceOf 43 = .ok (.getfield 37, 3) := by decide +kernel
theorem dX12_choiceOf_46 : decode cX12_choiceOf 46 = .ok (.iload 5, 2) := by decide +kernel
theorem dX12_choiceOf_48 : decode cX12_choiceOf 48 = .ok (.iaload, 1) := by decide +kernel
theorem dX12_choiceOf_49 : decode cX12_choiceOf 49 = .ok (.i2l, 1) := by decide +kernel
theorem dX12_choiceOf_50 : decode cX12_choiceOf 50 = .ok (.lsub, 1) := by decide +kernel
theorem dX12_choiceOf_51 : decode cX12_choiceOf 51 = .ok (.goto 10, 3) := by decide +kernel
theorem dX12_choiceOf_54 : decode cX12_choiceOf 54 = .ok (.aload_n 0, 1) := by decide +kernel
theorem dX12_choiceOf_55 : decode cX12_choiceOf 55 = .ok (.iload_n 1, 1) := by decide +kernel
theorem dX12_choiceOf_56 : decode cX12_choiceOf 56 = .ok (.iload 5, 2) := by decide +kernel
theorem dX12_choiceOf_58 : decode cX12_choiceOf 58 = .ok (.invokevirtual 388, 3) := by decide +kernel
theorem dX12_choiceOf_61 : decode cX12_choiceOf 61 = .ok (.lstore 6, 2) := by decide +kernel
theorem dX12_choiceOf_63 : decode cX12_choiceOf 63 = .ok (.lload 6, 2) := by decide +kernel
theorem dX12_choiceOf_65 : decode cX12_choiceOf 65 = .ok (.lload_n 3, 1) := by decide +kernel
theorem dX12_choiceOf_66 : decode cX12_choiceOf 66 = .ok (.lcmp, 1) := by decide +kernel
theorem dX12_choiceOf_67 : decode cX12_choiceOf 67 = .ok (.ifCond .le 9, 3) := by decide +kernel
theorem dX12_choiceOf_70 : decode cX12_choiceOf 70 = .ok (.iload 5, 2) := by decide +kernel
theorem dX12_choiceOf_72 : decode cX12_choiceOf 72 = .ok (.istore_n 2, 1) := by decide +kernel
theorem dX12_choiceOf_73 : decode cX12_choiceOf 73 = .ok (.lload 6, 2) := by decide +kernel
theorem dX12_choiceOf_75 : decode cX12_choiceOf 75 = .ok (.lstore_n 3, 1) := by decide +kernel
theorem dX12_choiceOf_76 : decode cX12_choiceOf 76 = .ok (.iinc 5 1, 3) := by decide +kernel
theorem dX12_choiceOf_79 : decode cX12_choiceOf 79 = .ok (.goto (-72), 3) := by decide +kernel
theorem dX12_choiceOf_82 : decode cX12_choiceOf 82 = .ok (.iload_n 2, 1) := by decide +kernel
theorem dX12_choiceOf_83 : decode cX12_choiceOf 83 = .ok (.ireturn, 1) := by decide +kernel
theorem dX12_comeAndGo_0 : decode cX12_comeAndGo 0 = .ok (.aload_n 0, 1) := by decide +kernel
theorem dX12_comeAndGo_1 : decode cX12_comeAndGo 1 = .ok (.getfield 9, 3) := by decide +kernel
theorem dX12_comeAndGo_4 : decode cX12_comeAndGo 4 = .ok (.iconst 5, 1) := by decide +kernel
theorem dX12_comeAndGo_5 : decode cX12_comeAndGo 5 = .ok (.iaload, 1) := by decide +kernel
theorem dX12_comeAndGo_6 : decode cX12_comeAndGo 6 = .ok (.istore_n 1, 1) := by decide +kernel
theorem dX12_comeAndGo_7 : decode cX12_comeAndGo 7 = .ok (.iconst 0, 1) := by decide +kernel
theorem dX12_comeAndGo_8 : decode cX12_comeAndGo 8 = .ok (.istore_n 2, 1) := by decide +kernel
theorem dX12_comeAndGo_9 : decode cX12_comeAndGo 9 = .ok (.iload_n 2, 1) := by decide +kernel
theorem dX12_comeAndGo_10 : decode cX12_comeAndGo 10 = .ok (.aload_n 0, 1) := by decide +kernel
theorem dX12_comeAndGo_11 : decode cX12_comeAndGo 11 = .ok (.getfield 9, 3) := by decide +kernel
theorem dX12_comeAndGo_14 : decode cX12_comeAndGo 14 = .ok (.iconst 4, 1) := by decide +kernel
theorem dX12_comeAndGo_15 : decode cX12_comeAndGo 15 = .ok (.iaload, 1) := by decide +kernel
theorem dX12_comeAndGo_16 : decode cX12_comeAndGo 16 = .ok (.if_icmp .ge 44, 3) := by decide +kernel
theorem dX12_comeAndGo_19 : decode cX12_comeAndGo 19 = .ok (.aload_n 0, 1) := by decide +kernel
theorem dX12_comeAndGo_20 : decode cX12_comeAndGo 20 = .ok (.getfield 46, 3) := by decide +kernel
theorem dX12_comeAndGo_23 : decode cX12_comeAndGo 23 = .ok (.iload_n 2, 1) := by decide +kernel
theorem dX12_comeAndGo_24 : decode cX12_comeAndGo 24 = .ok (.aload_n 0, 1) := by decide +kernel
theorem dX12_comeAndGo_25 : decode cX12_comeAndGo 25 = .ok (.getfield 46, 3) := by decide +kernel
theorem dX12_comeAndGo_28 : decode cX12_comeAndGo 28 = .ok (.iload_n 2, 1) := by decide +kernel
theorem dX12_comeAndGo_29 : decode cX12_comeAndGo 29 = .ok (.iaload, 1) := by decide +kernel
theorem dX12_comeAndGo_30 : decode cX12_comeAndGo 30 = .ok (.ifCond .ne 17, 3) := by decide +kernel
theorem dX12_comeAndGo_33 : decode cX12_comeAndGo 33 = .ok (.aload_n 0, 1) := by decide +kernel
theorem dX12_comeAndGo_34 : decode cX12_comeAndGo 34 = .ok (.getfield 37, 3) := by decide +kernel
theorem dX12_comeAndGo_37 : decode cX12_comeAndGo 37 = .ok (.iload_n 2, 1) := by decide +kernel
theorem dX12_comeAndGo_38 : decode cX12_comeAndGo 38 = .ok (.iaload, 1) := by decide +kernel
theorem dX12_comeAndGo_39 : decode cX12_comeAndGo 39 = .ok (.iload_n 1, 1) := by decide +kernel
theorem dX12_comeAndGo_40 : decode cX12_comeAndGo 40 = .ok (.if_icmp .ne 7, 3) := by decide +kernel
theorem dX12_comeAndGo_43 : decode cX12_comeAndGo 43 = .ok (.iconst 1, 1) := by decide +kernel
theorem dX12_comeAndGo_44 : decode cX12_comeAndGo 44 = .ok (.goto 9, 3) := by decide +kernel
theorem dX12_comeAndGo_47 : decode cX12_comeAndGo 47 = .ok (.aload_n 0, 1) := by decide +kernel
theorem dX12_comeAndGo_48 : decode cX12_comeAndGo 48 = .ok (.getfield 46, 3) := by decide +kernel
theorem dX12_comeAndGo_51 : decode cX12_comeAndGo 51 = .ok (.iload_n 2, 1) := by decide +kernel
theorem dX12_comeAndGo_52 : decode cX12_comeAndGo 52 = .ok (.iaload, 1) := by decide +kernel
theorem dX12_comeAndGo_53 : decode cX12_comeAndGo 53 = .ok (.iastore, 1) := by decide +kernel
theorem dX12_comeAndGo_54 : decode cX12_comeAndGo 54 = .ok (.iinc 2 1, 3) := by decide +kernel
theorem dX12_comeAndGo_57 : decode cX12_comeAndGo 57 = .ok (.goto (-48), 3) := by decide +kernel
theorem dX12_comeAndGo_60 : decode cX12_comeAndGo 60 = .ok (.iconst 0, 1) := by decide +kernel
theorem dX12_comeAndGo_61 : decode cX12_comeAndGo 61 = .ok (.istore_n 2, 1) := by decide +kernel
theorem dX12_comeAndGo_62 : decode cX12_comeAndGo 62 = .ok (.iload_n 2, 1) := by decide +kernel
theorem dX12_comeAndGo_63 : decode cX12_comeAndGo 63 = .ok (.aload_n 0, 1) := by decide +kernel
theorem dX12_comeAndGo_64 : decode cX12_comeAndGo 64 = .ok (.getfield 9, 3) := by decide +kernel
theorem dX12_comeAndGo_67 : decode cX12_comeAndGo 67 = .ok (.iconst 4, 1) := by decide +kernel
theorem dX12_comeAndGo_68 : decode cX12_comeAndGo 68 = .ok (.iaload, 1) := by decide +kernel
theorem dX12_comeAndGo_69 : decode cX12_comeAndGo 69 = .ok (.if_icmp .ge 62, 3) := by decide +kernel
theorem dX12_comeAndGo_72 : decode cX12_comeAndGo 72 = .ok (.aload_n 0, 1) := by decide +kernel
theorem dX12_comeAndGo_73 : decode cX12_comeAndGo 73 = .ok (.getfield 46, 3) := by decide +kernel
theorem dX12_comeAndGo_76 : decode cX12_comeAndGo 76 = .ok (.iload_n 2, 1) := by decide +kernel
theorem dX12_comeAndGo_77 : decode cX12_comeAndGo 77 = .ok (.aload_n 0, 1) := by decide +kernel
theorem dX12_comeAndGo_78 : decode cX12_comeAndGo 78 = .ok (.getfield 46, 3) := by decide +kernel
theorem dX12_comeAndGo_81 : decode cX12_comeAndGo 81 = .ok (.iload_n 2, 1) := by decide +kernel
theorem dX12_comeAndGo_82 : decode cX12_comeAndGo 82 = .ok (.iaload, 1) := by decide +kernel
theorem dX12_comeAndGo_83 : decode cX12_comeAndGo 83 = .ok (.iconst 1, 1) := by decide +kernel
theorem dX12_comeAndGo_84 : decode cX12_comeAndGo 84 = .ok (.if_icmp .ne 34, 3) := by decide +kernel
theorem dX12_comeAndGo_87 : decode cX12_comeAndGo 87 = .ok (.iload_n 1, 1) := by decide +kernel
theorem dX12_comeAndGo_88 : decode cX12_comeAndGo 88 = .ok (.aload_n 0, 1) := by decide +kernel
theorem dX12_comeAndGo_89 : decode cX12_comeAndGo 89 = .ok (.getfield 37, 3) := by decide +kernel
theorem dX12_comeAndGo_92 : decode cX12_comeAndGo 92 = .ok (.iload_n 2, 1) := by decide +kernel
theorem dX12_comeAndGo_93 : decode cX12_comeAndGo 93 = .ok (.iaload, 1) := by decide +kernel
theorem dX12_comeAndGo_94 : decode cX12_comeAndGo 94 = .ok (.isub, 1) := by decide +kernel
theorem dX12_comeAndGo_95 : decode cX12_comeAndGo 95 = .ok (.aload_n 0, 1) := by decide +kernel
theorem dX12_comeAndGo_96 : decode cX12_comeAndGo 96 = .ok (.getfield 9, 3) := by decide +kernel
theorem dX12_comeAndGo_99 : decode cX12_comeAndGo 99 = .ok (.iconst 1, 1) := by decide +kernel
theorem dX12_comeAndGo_100 : decode cX12_comeAndGo 100 = .ok (.iaload, 1) := by decide +kernel
theorem dX12_comeAndGo_101 : decode cX12_comeAndGo 101 = .ok (.if_icmp .ge 13, 3) := by decide +kernel
theorem dX12_comeAndGo_104 : decode cX12_comeAndGo 104 = .ok (.iload_n 1, 1) := by decide +kernel
theorem dX12_comeAndGo_105 : decode cX12_comeAndGo 105 = .ok (.aload_n 0, 1) := by decide +kernel
theorem dX12_comeAndGo_106 : decode cX12_comeAndGo 106 = .ok (.getfield 9, 3) := by decide +kernel
theorem dX12_comeAndGo_109 : decode cX12_comeAndGo 109 = .ok (.iconst 0, 1) := by decide +kernel
theorem dX12_comeAndGo_110 : decode cX12_comeAndGo 110 = .ok (.iaload, 1) := by decide +kernel
theorem dX12_comeAndGo_111 : decode cX12_comeAndGo 111 = .ok (.if_icmp .lt 7, 3) := by decide +kernel
theorem dX12_comeAndGo_114 : decode cX12_comeAndGo 114 = .ok (.iconst 4, 1) := by decide +kernel
theorem dX12_comeAndGo_115 : decode cX12_comeAndGo 115 = .ok (.goto 9, 3) := by decide +kernel
theorem dX12_comeAndGo_118 : decode cX12_comeAndGo 118 = .ok (.aload_n 0, 1) := by decide +kernel
theorem dX12_comeAndGo_119 : decode cX12_comeAndGo 119 = .ok (.getfield 46, 3) := by decide +kernel
theorem dX12_comeAndGo_122 : decode cX12_comeAndGo 122 = .ok (.iload_n 2, 1) := by decide +kernel
theorem dX12_comeAndGo_123 : decode cX12_comeAndGo 123 = .ok (.iaload, 1) := by decide +kernel
theorem dX12_comeAndGo_124 : decode cX12_comeAndGo 124 = .ok (.iastore, 1) := by decide +kernel
theorem dX12_comeAndGo_125 : decode cX12_comeAndGo 125 = .ok (.iinc 2 1, 3) := by decide +kernel
theorem dX12_comeAndGo_128 : decode cX12_comeAndGo 128 = .ok (.goto (-66), 3) := by decide +kernel
theorem dX12_comeAndGo_131 : decode cX12_comeAndGo 131 = .ok (.return_, 1) := by decide +kernel
theorem dX12_takeAll_0 : decode cX12_takeAll 0 = .ok (.iconst 0, 1) := by decide +kernel
theorem dX12_takeAll_1 : decode cX12_takeAll 1 = .ok (.istore_n 1, 1) := by decide +kernel
theorem dX12_takeAll_2 : decode cX12_takeAll 2 = .ok (.iload_n 1, 1) := by decide +kernel
theorem dX12_takeAll_3 : decode cX12_takeAll 3 = .ok (.aload_n 0, 1) := by decide +kernel
theorem dX12_takeAll_4 : decode cX12_takeAll 4 = .ok (.getfield 9, 3) := by decide +kernel
theorem dX12_takeAll_7 : decode cX12_takeAll 7 = .ok (.iconst 3, 1) := by decide +kernel
theorem dX12_takeAll_8 : decode cX12_takeAll 8 = .ok (.iaload, 1) := by decide +kernel
theorem dX12_takeAll_9 : decode cX12_takeAll 9 = .ok (.if_icmp .ge 64, 3) := by decide +kernel
theorem dX12_takeAll_12 : decode cX12_takeAll 12 = .ok (.aload_n 0, 1) := by decide +kernel
theorem dX12_takeAll_13 : decode cX12_takeAll 13 = .ok (.getfield 9, 3) := by decide +kernel
theorem dX12_takeAll_16 : decode cX12_takeAll 16 = .ok (.iconst 5, 1) := by decide +kernel
theorem dX12_takeAll_17 : decode cX12_takeAll 17 = .ok (.iaload, 1) := by decide +kernel
theorem dX12_takeAll_18 : decode cX12_takeAll 18 = .ok (.aload_n 0, 1) := by decide +kernel
theorem dX12_takeAll_19 : decode cX12_takeAll 19 = .ok (.getfield 9, 3) := by decide +kernel
theorem dX12_takeAll_22 : decode cX12_takeAll 22 = .ok (.iconst 0, 1) := by decide +kernel
theorem dX12_takeAll_23 : decode cX12_takeAll 23 = .ok (.iaload, 1) := by decide +kernel
theorem dX12_takeAll_24 : decode cX12_takeAll 24 = .ok (.if_icmp .ge 49, 3) := by decide +kernel
theorem dX12_takeAll_27 : decode cX12_takeAll 27 = .ok (.aload_n 0, 1) := by decide +kernel
theorem dX12_takeAll_28 : decode cX12_takeAll 28 = .ok (.getfield 22, 3) := by decide +kernel
theorem dX12_takeAll_31 : decode cX12_takeAll 31 = .ok (.iload_n 1, 1) := by decide +kernel
theorem dX12_takeAll_32 : decode cX12_takeAll 32 = .ok (.iaload, 1) := by decide +kernel
theorem dX12_takeAll_33 : decode cX12_takeAll 33 = .ok (.iconst (-1), 1) := by decide +kernel
theorem dX12_takeAll_34 : decode cX12_takeAll 34 = .ok (.if_icmp .ne 20, 3) := by decide +kernel
theorem dX12_takeAll_37 : decode cX12_takeAll 37 = .ok (.aload_n 0, 1) := by decide +kernel
theorem dX12_takeAll_38 : decode cX12_takeAll 38 = .ok (.getfield 28, 3) := by decide +kernel
theorem dX12_takeAll_41 : decode cX12_takeAll 41 = .ok (.iload_n 1, 1) := by decide +kernel
theorem dX12_takeAll_42 : decode cX12_takeAll 42 = .ok (.iaload, 1) := by decide +kernel
theorem dX12_takeAll_43 : decode cX12_takeAll 43 = .ok (.ifCond .ne 11, 3) := by decide +kernel
theorem dX12_takeAll_46 : decode cX12_takeAll 46 = .ok (.aload_n 0, 1) := by decide +kernel
theorem dX12_takeAll_47 : decode cX12_takeAll 47 = .ok (.iload_n 1, 1) := by decide +kernel
theorem dX12_takeAll_48 : decode cX12_takeAll 48 = .ok (.invokevirtual 392, 3) := by decide +kernel
theorem dX12_takeAll_51 : decode cX12_takeAll 51 = .ok (.goto 4, 3) := by decide +kernel
theorem dX12_takeAll_54 : decode cX12_takeAll 54 = .ok (.iconst (-1), 1) := by decide +kernel
theorem dX12_takeAll_55 : decode cX12_takeAll 55 = .ok (.istore_n 2, 1) := by decide +kernel
theorem dX12_takeAll_56 : decode cX12_takeAll 56 = .ok (.iload_n 2, 1) := by decide +kernel
theorem dX12_takeAll_57 : decode cX12_takeAll 57 = .ok (.iconst (-1), 1) := by decide +kernel
theorem dX12_takeAll_58 : decode cX12_takeAll 58 = .ok (.if_icmp .eq 9, 3) := by decide +kernel
theorem dX12_takeAll_61 : decode cX12_takeAll 61 = .ok (.aload_n 0, 1) := by decide +kernel
theorem dX12_takeAll_62 : decode cX12_takeAll 62 = .ok (.iload_n 1, 1) := by decide +kernel
theorem dX12_takeAll_63 : decode cX12_takeAll 63 = .ok (.iload_n 2, 1) := by decide +kernel
theorem dX12_takeAll_64 : decode cX12_takeAll 64 = .ok (.invokevirtual 395, 3) := by decide +kernel
theorem dX12_takeAll_67 : decode cX12_takeAll 67 = .ok (.iinc 1 1, 3) := by decide +kernel
theorem dX12_takeAll_70 : decode cX12_takeAll 70 = .ok (.goto (-68), 3) := by decide +kernel
theorem dX12_takeAll_73 : decode cX12_takeAll 73 = .ok (.return_, 1) := by decide +kernel
theorem dX12_goes_0 : decode cX12_goes 0 = .ok (.aload_n 0, 1) := by decide +kernel
theorem dX12_goes_1 : decode cX12_goes 1 = .ok (.invokevirtual 398, 3) := by decide +kernel
theorem dX12_goes_4 : decode cX12_goes 4 = .ok (.aload_n 0, 1) := by decide +kernel
theorem dX12_goes_5 : decode cX12_goes 5 = .ok (.invokevirtual 401, 3) := by decide +kernel
theorem dX12_goes_8 : decode cX12_goes 8 = .ok (.iconst 0, 1) := by decide +kernel
theorem dX12_goes_9 : decode cX12_goes 9 = .ok (.istore_n 1, 1) := by decide +kernel
theorem dX12_goes_10 : decode cX12_goes 10 = .ok (.iconst 0, 1) := by decide +kernel
theorem dX12_goes_11 : decode cX12_goes 11 = .ok (.istore_n 2, 1) := by decide +kernel
theorem dX12_goes_12 : decode cX12_goes 12 = .ok (.iload_n 2, 1) := by decide +kernel
theorem dX12_goes_13 : decode cX12_goes 13 = .ok (.aload_n 0, 1) := by decide +kernel
theorem dX12_goes_14 : decode cX12_goes 14 = .ok (.getfield 9, 3) := by decide +kernel
theorem dX12_goes_17 : decode cX12_goes 17 = .ok (.iconst 3, 1) := by decide +kernel
theorem dX12_goes_18 : decode cX12_goes 18 = .ok (.iaload, 1) := by decide +kernel
theorem dX12_goes_19 : decode cX12_goes 19 = .ok (.if_icmp .ge 140, 3) := by decide +kernel
theorem dX12_goes_22 : decode cX12_goes 22 = .ok (.aload_n 0, 1) := by decide +kernel
theorem dX12_goes_23 : decode cX12_goes 23 = .ok (.getfield 22, 3) := by decide +kernel
theorem dX12_goes_26 : decode cX12_goes 26 = .ok (.iload_n 2, 1) := by decide +kernel
theorem dX12_goes_27 : decode cX12_goes 27 = .ok (.iaload, 1) := by decide +kernel
theorem dX12_goes_28 : decode cX12_goes 28 = .ok (.iconst (-1), 1) := by decide +kernel
theorem dX12_goes_29 : decode cX12_goes 29 = .ok (.if_icmp .ne 35, 3) := by decide +kernel
theorem dX12_goes_32 : decode cX12_goes 32 = .ok (.aload_n 0, 1) := by decide +kernel
theorem dX12_goes_33 : decode cX12_goes 33 = .ok (.getfield 31, 3) := by decide +kernel
theorem dX12_goes_36 : decode cX12_goes 36 = .ok (.iload_n 2, 1) := by decide +kernel
theorem dX12_goes_37 : decode cX12_goes 37 = .ok (.dup2, 1) := by decide +kernel
theorem dX12_goes_38 : decode cX12_goes 38 = .ok (.iaload, 1) := by decide +kernel
theorem dX12_goes_39 : decode cX12_goes 39 = .ok (.aload_n 0, 1) := by decide +kernel
theorem dX12_goes_40 : decode cX12_goes 40 = .ok (.getfield 9, 3) := by decide +kernel
theorem dX12_goes_43 : decode cX12_goes 43 = .ok (.iconst 5, 1) := by decide +kernel
theorem dX12_goes_44 : decode cX12_goes 44 = .ok (.iaload, 1) := by decide +kernel
theorem dX12_goes_45 : decode cX12_goes 45 = .ok (.aload_n 0, 1) := by decide +kernel
theorem dX12_goes_46 : decode cX12_goes 46 = .ok (.getfield 9, 3) := by decide +kernel
theorem dX12_goes_49 : decode cX12_goes 49 = .ok (.iconst 0, 1) := by decide +kernel
theorem dX12_goes_50 : decode cX12_goes 50 = .ok (.iaload, 1) := by decide +kernel
theorem dX12_goes_51 : decode cX12_goes 51 = .ok (.if_icmp .ge 7, 3) := by decide +kernel
theorem dX12_goes_54 : decode cX12_goes 54 = .ok (.iconst 1, 1) := by decide +kernel
theorem dX12_goes_55 : decode cX12_goes 55 = .ok (.goto 4, 3) := by decide +kernel
theorem dX12_goes_58 : decode cX12_goes 58 = .ok (.iconst 0, 1) := by decide +kernel
theorem dX12_goes_59 : decode cX12_goes 59 = .ok (.iadd, 1) := by decide +kernel
theorem dX12_goes_60 : decode cX12_goes 60 = .ok (.iastore, 1) := by decide +kernel
theorem dX12_goes_61 : decode cX12_goes 61 = .ok (.goto 69, 3) := by decide +kernel
theorem dX12_goes_64 : decode cX12_goes 64 = .ok (.aload_n 0, 1) := by decide +kernel
theorem dX12_goes_65 : decode cX12_goes 65 = .ok (.getfield 25, 3) := by decide +kernel
theorem dX12_goes_68 : decode cX12_goes 68 = .ok (.iload_n 2, 1) := by decide +kernel
theorem dX12_goes_69 : decode cX12_goes 69 = .ok (.dup2, 1) := by decide +kernel
theorem dX12_goes_70 : decode cX12_goes 70 = .ok (.iaload, 1) := by decide +kernel
theorem dX12_goes_71 : decode cX12_goes 71 = .ok (.iconst 1, 1) := by decide +kernel
theorem dX12_goes_72 : decode cX12_goes 72 = .ok (.isub, 1) := by decide +kernel
theorem dX12_goes_73 : decode cX12_goes 73 = .ok (.iastore, 1) := by decide +kernel
theorem dX12_goes_74 : decode cX12_goes 74 = .ok (.aload_n 0, 1) := by decide +kernel
theorem dX12_goes_75 : decode cX12_goes 75 = .ok (.getfield 25, 3) := by decide +kernel
theorem dX12_goes_78 : decode cX12_goes 78 = .ok (.iload_n 2, 1) := by decide +kernel
theorem dX12_goes_79 : decode cX12_goes 79 = .ok (.iaload, 1) := by decide +kernel
theorem dX12_goes_80 : decode cX12_goes 80 = .ok (.ifCond .ne 50, 3) := by decide +kernel
theorem dX12_goes_83 : decode cX12_goes 83 = .ok (.iload_n 1, 1) := by decide +kernel
theorem dX12_goes_84 : decode cX12_goes 84 = .ok (.iconst 1, 1) := by decide +kernel
theorem dX12_goes_85 : decode cX12_goes 85 = .ok (.aload_n 0, 1) := by decide +kernel
theorem dX12_goes_86 : decode cX12_goes 86 = .ok (.getfield 22, 3) := by decide +kernel
theorem dX12_goes_89 : decode cX12_goes 89 = .ok (.iload_n 2, 1) := by decide +kernel
theorem dX12_goes_90 : decode cX12_goes 90 = .ok (.iaload, 1) := by decide +kernel
theorem dX12_goes_91 : decode cX12_goes 91 = .ok (.ishl, 1) := by decide +kernel
theorem dX12_goes_92 : decode cX12_goes 92 = .ok (.ior, 1) := by decide +kernel
theorem dX12_goes_93 : decode cX12_goes 93 = .ok (.istore_n 1, 1) := by decide +kernel
theorem dX12_goes_94 : decode cX12_goes 94 = .ok (.aload_n 0, 1) := by decide +kernel
theorem dX12_goes_95 : decode cX12_goes 95 = .ok (.getfield 46, 3) := by decide +kernel
theorem dX12_goes_98 : decode cX12_goes 98 = .ok (.aload_n 0, 1) := by decide +kernel
theorem dX12_goes_99 : decode cX12_goes 99 = .ok (.getfield 22, 3) := by decide +kernel
theorem dX12_goes_102 : decode cX12_goes 102 = .ok (.iload_n 2, 1) := by decide +kernel
theorem dX12_goes_103 : decode cX12_goes 103 = .ok (.iaload, 1) := by decide +kernel
theorem dX12_goes_104 : decode cX12_goes 104 = .ok (.iconst 3, 1) := by decide +kernel
theorem dX12_goes_105 : decode cX12_goes 105 = .ok (.iastore, 1) := by decide +kernel
theorem dX12_goes_106 : decode cX12_goes 106 = .ok (.aload_n 0, 1) := by decide +kernel
theorem dX12_goes_107 : decode cX12_goes 107 = .ok (.getfield 49, 3) := by decide +kernel
theorem dX12_goes_110 : decode cX12_goes 110 = .ok (.aload_n 0, 1) := by decide +kernel
theorem dX12_goes_111 : decode cX12_goes 111 = .ok (.getfield 22, 3) := by decide +kernel
theorem dX12_goes_114 : decode cX12_goes 114 = .ok (.iload_n 2, 1) := by decide +kernel
theorem dX12_goes_115 : decode cX12_goes 115 = .ok (.iaload, 1) := by decide +kernel
theorem dX12_goes_116 : decode cX12_goes 116 = .ok (.aload_n 0, 1) := by decide +kernel
theorem dX12_goes_117 : decode cX12_goes 117 = .ok (.getfield 9, 3) := by decide +kernel
theorem dX12_goes_120 : decode cX12_goes 120 = .ok (.iconst 5, 1) := by decide +kernel
theorem dX12_goes_121 : decode cX12_goes 121 = .ok (.iaload, 1) := by decide +kernel
theorem dX12_goes_122 : decode cX12_goes 122 = .ok (.iastore, 1) := by decide +kernel
theorem dX12_goes_123 : decode cX12_goes 123 = .ok (.aload_n 0, 1) := by decide +kernel
theorem dX12_goes_124 : decode cX12_goes 124 = .ok (.getfield 22, 3) := by decide +kernel
theorem dX12_goes_127 : decode cX12_goes 127 = .ok (.iload_n 2, 1) := by decide +kernel
theorem dX12_goes_128 : decode cX12_goes 128 = .ok (.iconst (-1), 1) := by decide +kernel
theorem dX12_goes_129 : decode cX12_goes 129 = .ok (.iastore, 1) := by decide +kernel
theorem dX12_goes_130 : decode cX12_goes 130 = .ok (.aload_n 0, 1) := by decide +kernel
theorem dX12_goes_131 : decode cX12_goes 131 = .ok (.getfield 28, 3) := by decide +kernel
theorem dX12_goes_134 : decode cX12_goes 134 = .ok (.iload_n 2, 1) := by decide +kernel
theorem dX12_goes_135 : decode cX12_goes 135 = .ok (.dup2, 1) := by decide +kernel
theorem dX12_goes_136 : decode cX12_goes 136 = .ok (.iaload, 1) := by decide +kernel
theorem dX12_goes_137 : decode cX12_goes 137 = .ok (.aload_n 0, 1) := by decide +kernel
theorem dX12_goes_138 : decode cX12_goes 138 = .ok (.getfield 28, 3) := by decide +kernel
theorem dX12_goes_141 : decode cX12_goes 141 = .ok (.iload_n 2, 1) := by decide +kernel
theorem dX12_goes_142 : decode cX12_goes 142 = .ok (.iaload, 1) := by decide +kernel
theorem dX12_goes_143 : decode cX12_goes 143 = .ok (.ifCond .le 7, 3) := by decide +kernel
theorem dX12_goes_146 : decode cX12_goes 146 = .ok (.iconst 1, 1) := by decide +kernel
theorem dX12_goes_147 : decode cX12_goes 147 = .ok (.goto 4, 3) := by decide +kernel
theorem dX12_goes_150 : decode cX12_goes 150 = .ok (.iconst 0, 1) := by decide +kernel
theorem dX12_goes_151 : decode cX12_goes 151 = .ok (.isub, 1) := by decide +kernel
theorem dX12_goes_152 : decode cX12_goes 152 = .ok (.iastore, 1) := by decide +kernel
theorem dX12_goes_153 : decode cX12_goes 153 = .ok (.iinc 2 1, 3) := by decide +kernel
theorem dX12_goes_156 : decode cX12_goes 156 = .ok (.goto (-144), 3) := by decide +kernel
theorem dX12_goes_159 : decode cX12_goes 159 = .ok (.aload_n 0, 1) := by decide +kernel
theorem dX12_goes_160 : decode cX12_goes 160 = .ok (.getfield 9, 3) := by decide +kernel
theorem dX12_goes_163 : decode cX12_goes 163 = .ok (.iconst 5, 1) := by decide +kernel
theorem dX12_goes_164 : decode cX12_goes 164 = .ok (.dup2, 1) := by decide +kernel
theorem dX12_goes_165 : decode cX12_goes 165 = .ok (.iaload, 1) := by decide +kernel
theorem dX12_goes_166 : decode cX12_goes 166 = .ok (.iconst 1, 1) := by decide +kernel
theorem dX12_goes_167 : decode cX12_goes 167 = .ok (.iadd, 1) := by decide +kernel
theorem dX12_goes_168 : decode cX12_goes 168 = .ok (.iastore, 1) := by decide +kernel
theorem dX12_goes_169 : decode cX12_goes 169 = .ok (.iload_n 1, 1) := by decide +kernel
theorem dX12_goes_170 : decode cX12_goes 170 = .ok (.ireturn, 1) := by decide +kernel
theorem dX12_goFor_0 : decode cX12_goFor 0 = .ok (.iconst 0, 1) := by decide +kernel
theorem dX12_goFor_1 : decode cX12_goFor 1 = .ok (.istore_n 2, 1) := by decide +kernel
theorem dX12_goFor_2 : decode cX12_goFor 2 = .ok (.iload_n 2, 1) := by decide +kernel
theorem dX12_goFor_3 : decode cX12_goFor 3 = .ok (.iload_n 1, 1) := by decide +kernel
theorem dX12_goFor_4 : decode cX12_goFor 4 = .ok (.if_icmp .ge 14, 3) := by decide +kernel
theorem dX12_goFor_7 : decode cX12_goFor 7 = .ok (.aload_n 0, 1) := by decide +kernel
theorem dX12_goFor_8 : decode cX12_goFor 8 = .ok (.invokevirtual 404, 3) := by decide +kernel
theorem dX12_goFor_11 : decode cX12_goFor 11 = .ok (.pop, 1) := by decide +kernel
theorem dX12_goFor_12 : decode cX12_goFor 12 = .ok (.iinc 2 1, 3) := by decide +kernel
theorem dX12_goFor_15 : decode cX12_goFor 15 = .ok (.goto (-13), 3) := by decide +kernel
theorem dX12_goFor_18 : decode cX12_goFor 18 = .ok (.return_, 1) := by decide +kernel
theorem dX12_moves_0 : decode cX12_moves 0 = .ok (.aload_n 0, 1) := by decide +kernel
theorem dX12_moves_1 : decode cX12_moves 1 = .ok (.getfield 407, 3) := by decide +kernel
theorem dX12_moves_4 : decode cX12_moves 4 = .ok (.ifCond .eq 15, 3) := by decide +kernel
theorem dX12_moves_7 : decode cX12_moves 7 = .ok (.aload_n 0, 1) := by decide +kernel
theorem dX12_moves_8 : decode cX12_moves 8 = .ok (.getfield 124, 3) := by decide +kernel
theorem dX12_moves_11 : decode cX12_moves 11 = .ok (.aload_n 0, 1) := by decide +kernel
theorem dX12_moves_12 : decode cX12_moves 12 = .ok (.getfield 411, 3) := by decide +kernel
theorem dX12_moves_15 : decode cX12_moves 15 = .ok (.iaload, 1) := by decide +kernel
theorem dX12_moves_16 : decode cX12_moves 16 = .ok (.goto 4, 3) := by decide +kernel
theorem dX12_moves_19 : decode cX12_moves 19 = .ok (.iload_n 1, 1) := by decide +kernel
theorem dX12_moves_20 : decode cX12_moves 20 = .ok (.istore_n 2, 1) := by decide +kernel
theorem dX12_moves_21 : decode cX12_moves 21 = .ok (.aload_n 0, 1) := by decide +kernel
theorem dX12_moves_22 : decode cX12_moves 22 = .ok (.getfield 124, 3) := by decide +kernel
theorem dX12_moves_25 : decode cX12_moves 25 = .ok (.aload_n 0, 1) := by decide +kernel
theorem dX12_moves_26 : decode cX12_moves 26 = .ok (.getfield 411, 3) := by decide +kernel
theorem dX12_moves_29 : decode cX12_moves 29 = .ok (.iload_n 2, 1) := by decide +kernel
theorem dX12_moves_30 : decode cX12_moves 30 = .ok (.iastore, 1) := by decide +kernel
theorem dX12_moves_31 : decode cX12_moves 31 = .ok (.aload_n 0, 1) := by decide +kernel
theorem dX12_moves_32 : decode cX12_moves 32 = .ok (.dup, 1) := by decide +kernel
theorem dX12_moves_33 : decode cX12_moves 33 = .ok (.getfield 411, 3) := by decide +kernel
theorem dX12_moves_36 : decode cX12_moves 36 = .ok (.iconst 1, 1) := by decide +kernel
theorem dX12_moves_37 : decode cX12_moves 37 = .ok (.iadd, 1) := by decide +kernel
theorem dX12_moves_38 : decode cX12_moves 38 = .ok (.putfield 411, 3) := by decide +kernel
theorem dX12_moves_41 : decode cX12_moves 41 = .ok (.iload_n 2, 1) := by decide +kernel
theorem dX12_moves_42 : decode cX12_moves 42 = .ok (.ireturn, 1) := by decide +kernel
theorem dX12_movesRow_0 : decode cX12_movesRow 0 = .ok (.iconst 0, 1) := by decide +kernel
theorem dX12_movesRow_1 : decode cX12_movesRow 1 = .ok (.istore_n 2, 1) := by decide +kernel
theorem dX12_movesRow_2 : decode cX12_movesRow 2 = .ok (.iload_n 2, 1) := by decide +kernel
theorem dX12_movesRow_3 : decode cX12_movesRow 3 = .ok (.aload_n 1, 1) := by decide +kernel
theorem dX12_movesRow_4 : decode cX12_movesRow 4 = .ok (.arraylength, 1) := by decide +kernel
theorem dX12_movesRow_5 : decode cX12_movesRow 5 = .ok (.if_icmp .ge 19, 3) := by decide +kernel
theorem dX12_movesRow_8 : decode cX12_movesRow 8 = .ok (.aload_n 1, 1) := by decide +kernel
theorem dX12_movesRow_9 : decode cX12_movesRow 9 = .ok (.iload_n 2, 1) := by decide +kernel
theorem dX12_movesRow_10 : decode cX12_movesRow 10 = .ok (.aload_n 0, 1) := by decide +kernel
theorem dX12_movesRow_11 : decode cX12_movesRow 11 = .ok (.aload_n 1, 1) := by decide +kernel
theorem dX12_movesRow_12 : decode cX12_movesRow 12 = .ok (.iload_n 2, 1) := by decide +kernel
theorem dX12_movesRow_13 : decode cX12_movesRow 13 = .ok (.iaload, 1) := by decide +kernel
theorem dX12_movesRow_14 : decode cX12_movesRow 14 = .ok (.invokevirtual 414, 3) := by decide +kernel
theorem dX12_movesRow_17 : decode cX12_movesRow 17 = .ok (.iastore, 1) := by decide +kernel
theorem dX12_movesRow_18 : decode cX12_movesRow 18 = .ok (.iinc 2 1, 3) := by decide +kernel
theorem dX12_movesRow_21 : decode cX12_movesRow 21 = .ok (.goto (-19), 3) := by decide +kernel
theorem dX12_movesRow_24 : decode cX12_movesRow 24 = .ok (.return_, 1) := by decide +kernel
theorem dX12_movesAll_0 : decode cX12_movesAll 0 = .ok (.aload_n 0, 1) := by decide +kernel
theorem dX12_movesAll_1 : decode cX12_movesAll 1 = .ok (.bipush 35, 2) := by decide +kernel
theorem dX12_movesAll_3 : decode cX12_movesAll 3 = .ok (.iload_n 1, 1) := by decide +kernel
theorem dX12_movesAll_4 : decode cX12_movesAll 4 = .ok (.imul, 1) := by decide +kernel
theorem dX12_movesAll_5 : decode cX12_movesAll 5 = .ok (.putfield 411, 3) := by decide +kernel
theorem dX12_movesAll_8 : decode cX12_movesAll 8 = .ok (.aload_n 0, 1) := by decide +kernel
theorem dX12_movesAll_9 : decode cX12_movesAll 9 = .ok (.iload_n 2, 1) := by decide +kernel
theorem dX12_movesAll_10 : decode cX12_movesAll 10 = .ok (.putfield 407, 3) := by decide +kernel
theorem dX12_movesAll_13 : decode cX12_movesAll 13 = .ok (.aload_n 0, 1) := by decide +kernel
theorem dX12_movesAll_14 : decode cX12_movesAll 14 = .ok (.getfield 9, 3) := by decide +kernel
theorem dX12_movesAll_17 : decode cX12_movesAll 17 = .ok (.iconst 5, 1) := by decide +kernel
theorem dX12_movesAll_18 : decode cX12_movesAll 18 = .ok (.aload_n 0, 1) := by decide +kernel
theorem dX12_movesAll_19 : decode cX12_movesAll 19 = .ok (.aload_n 0, 1) := by decide +kernel
theorem dX12_movesAll_20 : decode cX12_movesAll 20 = .ok (.getfield 9, 3) := by decide +kernel
theorem dX12_movesAll_23 : decode cX12_movesAll 23 = .ok (.iconst 5, 1) := by decide +kernel
theorem dX12_movesAll_24 : decode cX12_movesAll 24 = .ok (.iaload, 1) := by decide +kernel
theorem dX12_movesAll_25 : decode cX12_movesAll 25 = .ok (.invokevirtual 414, 3) := by decide +kernel
theorem dX12_movesAll_28 : decode cX12_movesAll 28 = .ok (.iastore, 1) := by decide +kernel
theorem dX12_movesAll_29 : decode cX12_movesAll 29 = .ok (.aload_n 0, 1) := by decide +kernel
theorem dX12_movesAll_30 : decode cX12_movesAll 30 = .ok (.aload_n 0, 1) := by decide +kernel
theorem dX12_movesAll_31 : decode cX12_movesAll 31 = .ok (.getfield 16, 3) := by decide +kernel
theorem dX12_movesAll_34 : decode cX12_movesAll 34 = .ok (.invokevirtual 417, 3) := by decide +kernel
theorem dX12_movesAll_37 : decode cX12_movesAll 37 = .ok (.aload_n 0, 1) := by decide +kernel
theorem dX12_movesAll_38 : decode cX12_movesAll 38 = .ok (.aload_n 0, 1) := by decide +kernel
theorem dX12_movesAll_39 : decode cX12_movesAll 39 = .ok (.getfield 22, 3) := by decide +kernel
theorem dX12_movesAll_42 : decode cX12_movesAll 42 = .ok (.invokevirtual 417, 3) := by decide +kernel
theorem dX12_movesAll_45 : decode cX12_movesAll 45 = .ok (.aload_n 0, 1) := by decide +kernel
theorem dX12_movesAll_46 : decode cX12_movesAll 46 = .ok (.aload_n 0, 1) := by decide +kernel
theorem dX12_movesAll_47 : decode cX12_movesAll 47 = .ok (.getfield 25, 3) := by decide +kernel
theorem dX12_movesAll_50 : decode cX12_movesAll 50 = .ok (.invokevirtual 417, 3) := by decide +kernel
theorem dX12_movesAll_53 : decode cX12_movesAll 53 = .ok (.aload_n 0, 1) := by decide +kernel
theorem dX12_movesAll_54 : decode cX12_movesAll 54 = .ok (.aload_n 0, 1) := by decide +kernel
theorem dX12_movesAll_55 : decode cX12_movesAll 55 = .ok (.getfield 28, 3) := by decide +kernel
theorem dX12_movesAll_58 : decode cX12_movesAll 58 = .ok (.invokevirtual 417, 3) := by decide +kernel
theorem dX12_movesAll_61 : decode cX12_movesAll 61 = .ok (.aload_n 0, 1) := by decide +kernel
theorem dX12_movesAll_62 : decode cX12_movesAll 62 = .ok (.aload_n 0, 1) := by decide +kernel
theorem dX12_movesAll_63 : decode cX12_movesAll 63 = .ok (.getfield 31, 3) := by decide +kernel
theorem dX12_movesAll_66 : decode cX12_movesAll 66 = .ok (.invokevirtual 417, 3) := by decide +kernel
theorem dX12_movesAll_69 : decode cX12_movesAll 69 = .ok (.aload_n 0, 1) := by decide +kernel
theorem dX12_movesAll_70 : decode cX12_movesAll 70 = .ok (.aload_n 0, 1) := by decide +kernel
theorem dX12_movesAll_71 : decode cX12_movesAll 71 = .ok (.getfield 46, 3) := by decide +kernel
theorem dX12_movesAll_74 : decode cX12_movesAll 74 = .ok (.invokevirtual 417, 3) := by decide +kernel
theorem dX12_movesAll_77 : decode cX12_movesAll 77 = .ok (.aload_n 0, 1) := by decide +kernel
theorem dX12_movesAll_78 : decode cX12_movesAll 78 = .ok (.aload_n 0, 1) := by decide +kernel
theorem dX12_movesAll_79 : decode cX12_movesAll 79 = .ok (.getfield 49, 3) := by decide +kernel
theorem dX12_movesAll_82 : decode cX12_movesAll 82 = .ok (.invokevirtual 417, 3) := by decide +kernel
theorem dX12_movesAll_85 : decode cX12_movesAll 85 = .ok (.return_, 1) := by decide +kernel
theorem dX12_keepsAct_0 : decode cX12_keepsAct 0 = .ok (.aload_n 0, 1) := by decide +kernel
theorem dX12_keepsAct_1 : decode cX12_keepsAct 1 = .ok (.getfield 327, 3) := by decide +kernel
theorem dX12_keepsAct_4 : decode cX12_keepsAct 4 = .ok (.bipush 20, 2) := by decide +kernel
theorem dX12_keepsAct_6 : decode cX12_keepsAct 6 = .ok (.if_icmp .ne 44, 3) := by decide +kernel
theorem dX12_keepsAct_9 : decode cX12_keepsAct 9 = .ok (.bipush 35, 2) := by decide +kernel
theorem dX12_keepsAct_11 : decode cX12_keepsAct 11 = .ok (.istore_n 1, 1) := by decide +kernel
theorem dX12_keepsAct_12 : decode cX12_keepsAct 12 = .ok (.iload_n 1, 1) := by decide +kernel
theorem dX12_keepsAct_13 : decode cX12_keepsAct 13 = .ok (.sipush 700, 3) := by decide +kernel
theorem dX12_keepsAct_16 : decode cX12_keepsAct 16 = .ok (.if_icmp .ge 24, 3) := by decide +kernel
theorem dX12_keepsAct_19 : decode cX12_keepsAct 19 = .ok (.aload_n 0, 1) := by decide +kernel
theorem dX12_keepsAct_20 : decode cX12_keepsAct 20 = .ok (.getfield 124, 3) := by decide +kernel
theorem dX12_keepsAct_23 : decode cX12_keepsAct 23 = .ok (.iload_n 1, 1) := by decide +kernel
theorem dX12_keepsAct_24 : decode cX12_keepsAct 24 = .ok (.bipush 35, 2) := by decide +kernel
theorem dX12_keepsAct_26 : decode cX12_keepsAct 26 = .ok (.isub, 1) := by decide +kernel
theorem dX12_keepsAct_27 : decode cX12_keepsAct 27 = .ok (.aload_n 0, 1) := by decide +kernel
theorem dX12_keepsAct_28 : decode cX12_keepsAct 28 = .ok (.getfield 124, 3) := by decide +kernel
theorem dX12_keepsAct_31 : decode cX12_keepsAct 31 = .ok (.iload_n 1, 1) := by decide +kernel
theorem dX12_keepsAct_32 : decode cX12_keepsAct 32 = .ok (.iaload, 1) := by decide +kernel
theorem dX12_keepsAct_33 : decode cX12_keepsAct 33 = .ok (.iastore, 1) := by decide +kernel
theorem dX12_keepsAct_34 : decode cX12_keepsAct 34 = .ok (.iinc 1 1, 3) := by decide +kernel
theorem dX12_keepsAct_37 : decode cX12_keepsAct 37 = .ok (.goto (-25), 3) := by decide +kernel
theorem dX12_keepsAct_40 : decode cX12_keepsAct 40 = .ok (.aload_n 0, 1) := by decide +kernel
theorem dX12_keepsAct_41 : decode cX12_keepsAct 41 = .ok (.dup, 1) := by decide +kernel
theorem dX12_keepsAct_42 : decode cX12_keepsAct 42 = .ok (.getfield 327, 3) := by decide +kernel
theorem dX12_keepsAct_45 : decode cX12_keepsAct 45 = .ok (.iconst 1, 1) := by decide +kernel
theorem dX12_keepsAct_46 : decode cX12_keepsAct 46 = .ok (.isub, 1) := by decide +kernel
theorem dX12_keepsAct_47 : decode cX12_keepsAct 47 = .ok (.putfield 327, 3) := by decide +kernel
theorem dX12_keepsAct_50 : decode cX12_keepsAct 50 = .ok (.aload_n 0, 1) := by decide +kernel
theorem dX12_keepsAct_51 : decode cX12_keepsAct 51 = .ok (.aload_n 0, 1) := by decide +kernel
theorem dX12_keepsAct_52 : decode cX12_keepsAct 52 = .ok (.getfield 327, 3) := by decide +kernel
theorem dX12_keepsAct_55 : decode cX12_keepsAct 55 = .ok (.iconst 0, 1) := by decide +kernel
theorem dX12_keepsAct_56 : decode cX12_keepsAct 56 = .ok (.invokevirtual 421, 3) := by decide +kernel
theorem dX12_keepsAct_59 : decode cX12_keepsAct 59 = .ok (.aload_n 0, 1) := by decide +kernel
theorem dX12_keepsAct_60 : decode cX12_keepsAct 60 = .ok (.dup, 1) := by decide +kernel
theorem dX12_keepsAct_61 : decode cX12_keepsAct 61 = .ok (.getfield 327, 3) := by decide +kernel
theorem dX12_keepsAct_64 : decode cX12_keepsAct 64 = .ok (.iconst 1, 1) := by decide +kernel
theorem dX12_keepsAct_65 : decode cX12_keepsAct 65 = .ok (.iadd, 1) := by decide +kernel
theorem dX12_keepsAct_66 : decode cX12_keepsAct 66 = .ok (.putfield 327, 3) := by decide +kernel
theorem dX12_keepsAct_69 : decode cX12_keepsAct 69 = .ok (.return_, 1) := by decide +kernel
theorem dX12_undo_0 : decode cX12_undo 0 = .ok (.aload_n 0, 1) := by decide +kernel
theorem dX12_undo_1 : decode cX12_undo 1 = .ok (.getfield 327, 3) := by decide +kernel
theorem dX12_undo_4 : decode cX12_undo 4 = .ok (.ifCond .ne 6, 3) := by decide +kernel
theorem dX12_undo_7 : decode cX12_undo 7 = .ok (.bipush (-2), 2) := by decide +kernel
theorem dX12_undo_9 : decode cX12_undo 9 = .ok (.ireturn, 1) := by decide +kernel
theorem dX12_undo_10 : decode cX12_undo 10 = .ok (.aload_n 0, 1) := by decide +kernel
theorem dX12_undo_11 : decode cX12_undo 11 = .ok (.dup, 1) := by decide +kernel
theorem dX12_undo_12 : decode cX12_undo 12 = .ok (.getfield 327, 3) := by decide +kernel
theorem dX12_undo_15 : decode cX12_undo 15 = .ok (.iconst 1, 1) := by decide +kernel
theorem dX12_undo_16 : decode cX12_undo 16 = .ok (.isub, 1) := by decide +kernel
theorem dX12_undo_17 : decode cX12_undo 17 = .ok (.putfield 327, 3) := by decide +kernel
theorem dX12_undo_20 : decode cX12_undo 20 = .ok (.aload_n 0, 1) := by decide +kernel
theorem dX12_undo_21 : decode cX12_undo 21 = .ok (.aload_n 0, 1) := by decide +kernel
theorem dX12_undo_22 : decode cX12_undo 22 = .ok (.getfield 327, 3) := by decide +kernel
theorem dX12_undo_25 : decode cX12_undo 25 = .ok (.iconst 1, 1) := by decide +kernel
theorem dX12_undo_26 : decode cX12_undo 26 = .ok (.invokevirtual 421, 3) := by decide +kernel
theorem dX12_undo_29 : decode cX12_undo 29 = .ok (.aload_n 0, 1) := by decide +kernel
theorem dX12_undo_30 : decode cX12_undo 30 = .ok (.getfield 327, 3) := by decide +kernel
theorem dX12_undo_33 : decode cX12_undo 33 = .ok (.ireturn, 1) := by decide +kernel
theorem dX12_minute_0 : decode cX12_minute 0 = .ok (.aload_n 0, 1) := by decide +kernel
theorem dX12_minute_1 : decode cX12_minute 1 = .ok (.invokevirtual 425, 3) := by decide +kernel
theorem dX12_minute_4 : decode cX12_minute 4 = .ok (.ifCond .eq 15, 3) := by decide +kernel
theorem dX12_minute_7 : decode cX12_minute 7 = .ok (.aload_n 0, 1) := by decide +kernel
theorem dX12_minute_8 : decode cX12_minute 8 = .ok (.getfield 9, 3) := by decide +kernel
theorem dX12_minute_11 : decode cX12_minute 11 = .ok (.iconst 5, 1) := by decide +kernel
theorem dX12_minute_12 : decode cX12_minute 12 = .ok (.iaload, 1) := by decide +kernel
theorem dX12_minute_13 : decode cX12_minute 13 = .ok (.sipush 999, 3) := by decide +kernel
theorem dX12_minute_16 : decode cX12_minute 16 = .ok (.if_icmp .ne 5, 3) := by decide +kernel
theorem dX12_minute_19 : decode cX12_minute 19 = .ok (.iconst (-1), 1) := by decide +kernel
theorem dX12_minute_20 : decode cX12_minute 20 = .ok (.ireturn, 1) := by decide +kernel
theorem dX12_minute_21 : decode cX12_minute 21 = .ok (.aload_n 0, 1) := by decide +kernel
theorem dX12_minute_22 : decode cX12_minute 22 = .ok (.invokevirtual 428, 3) := by decide +kernel
theorem dX12_minute_25 : decode cX12_minute 25 = .ok (.aload_n 0, 1) := by decide +kernel
theorem dX12_minute_26 : decode cX12_minute 26 = .ok (.invokevirtual 404, 3) := by decide +kernel
theorem dX12_minute_29 : decode cX12_minute 29 = .ok (.ireturn, 1) := by decide +kernel
theorem dX12_isFree_0 : decode cX12_isFree 0 = .ok (.aload_n 0, 1) := by decide +kernel
theorem dX12_isFree_1 : decode cX12_isFree 1 = .ok (.iload_n 1, 1) := by decide +kernel
theorem dX12_isFree_2 : decode cX12_isFree 2 = .ok (.invokevirtual 364, 3) := by decide +kernel
theorem dX12_isFree_5 : decode cX12_isFree 5 = .ok (.ifCond .eq 17, 3) := by decide +kernel
theorem dX12_isFree_8 : decode cX12_isFree 8 = .ok (.aload_n 0, 1) := by decide +kernel
theorem dX12_isFree_9 : decode cX12_isFree 9 = .ok (.getfield 22, 3) := by decide +kernel
theorem dX12_isFree_12 : decode cX12_isFree 12 = .ok (.iload_n 1, 1) := by decide +kernel
theorem dX12_isFree_13 : decode cX12_isFree 13 = .ok (.iaload, 1) := by decide +kernel
theorem dX12_isFree_14 : decode cX12_isFree 14 = .ok (.iconst (-1), 1) := by decide +kernel
theorem dX12_isFree_15 : decode cX12_isFree 15 = .ok (.if_icmp .ne 7, 3) := by decide +kernel
theorem dX12_isFree_18 : decode cX12_isFree 18 = .ok (.iconst 1, 1) := by decide +kernel
theorem dX12_isFree_19 : decode cX12_isFree 19 = .ok (.goto 4, 3) := by decide +kernel
theorem dX12_isFree_22 : decode cX12_isFree 22 = .ok (.iconst 0, 1) := by decide +kernel
theorem dX12_isFree_23 : decode cX12_isFree 23 = .ok (.ireturn, 1) := by decide +kernel
theorem dX12_give_0 : decode cX12_give 0 = .ok (.aload_n 0, 1) := by decide +kernel
theorem dX12_give_1 : decode cX12_give 1 = .ok (.iload_n 1, 1) := by decide +kernel
theorem dX12_give_2 : decode cX12_give 2 = .ok (.invokevirtual 431, 3) := by decide +kernel
theorem dX12_give_5 : decode cX12_give 5 = .ok (.ifCond .eq 20, 3) := by decide +kernel
theorem dX12_give_8 : decode cX12_give 8 = .ok (.aload_n 0, 1) := by decide +kernel
theorem dX12_give_9 : decode cX12_give 9 = .ok (.iload_n 2, 1) := by decide +kernel
theorem dX12_give_10 : decode cX12_give 10 = .ok (.invokevirtual 360, 3) := by decide +kernel
theorem dX12_give_13 : decode cX12_give 13 = .ok (.ifCond .eq 12, 3) := by decide +kernel
theorem dX12_give_16 : decode cX12_give 16 = .ok (.aload_n 0, 1) := by decide +kernel
theorem dX12_give_17 : decode cX12_give 17 = .ok (.iload_n 1, 1) := by decide +kernel
theorem dX12_give_18 : decode cX12_give 18 = .ok (.iload_n 2, 1) := by decide +kernel
theorem dX12_give_19 : decode cX12_give 19 = .ok (.invokevirtual 383, 3) := by decide +kernel
theorem dX12_give_22 : decode cX12_give 22 = .ok (.ifCond .ne 5, 3) := by decide +kernel
theorem dX12_give_25 : decode cX12_give 25 = .ok (.iconst (-1), 1) := by decide +kernel
theorem dX12_give_26 : decode cX12_give 26 = .ok (.ireturn, 1) := by decide +kernel
theorem dX12_give_27 : decode cX12_give 27 = .ok (.aload_n 0, 1) := by decide +kernel
theorem dX12_give_28 : decode cX12_give 28 = .ok (.invokevirtual 428, 3) := by decide +kernel
theorem dX12_give_31 : decode cX12_give 31 = .ok (.aload_n 0, 1) := by decide +kernel
theorem dX12_give_32 : decode cX12_give 32 = .ok (.iload_n 1, 1) := by decide +kernel
theorem dX12_give_33 : decode cX12_give 33 = .ok (.iload_n 2, 1) := by decide +kernel
theorem dX12_give_34 : decode cX12_give 34 = .ok (.invokevirtual 395, 3) := by decide +kernel
theorem dX12_give_37 : decode cX12_give 37 = .ok (.aload_n 0, 1) := by decide +kernel
theorem dX12_give_38 : decode cX12_give 38 = .ok (.getfield 25, 3) := by decide +kernel
theorem dX12_give_41 : decode cX12_give 41 = .ok (.iload_n 1, 1) := by decide +kernel
theorem dX12_give_42 : decode cX12_give 42 = .ok (.iaload, 1) := by decide +kernel
theorem dX12_give_43 : decode cX12_give 43 = .ok (.ireturn, 1) := by decide +kernel
theorem dX12_putDown_0 : decode cX12_putDown 0 = .ok (.aload_n 0, 1) := by decide +kernel
theorem dX12_putDown_1 : decode cX12_putDown 1 = .ok (.iload_n 1, 1) := by decide +kernel
theorem dX12_putDown_2 : decode cX12_putDown 2 = .ok (.invokevirtual 364, 3) := by decide +kernel
theorem dX12_putDown_5 : decode cX12_putDown 5 = .ok (.ifCond .eq 13, 3) := by decide +kernel
theorem dX12_putDown_8 : decode cX12_putDown 8 = .ok (.aload_n 0, 1) := by decide +kernel
theorem dX12_putDown_9 : decode cX12_putDown 9 = .ok (.getfield 22, 3) := by decide +kernel
theorem dX12_putDown_12 : decode cX12_putDown 12 = .ok (.iload_n 1, 1) := by decide +kernel
theorem dX12_putDown_13 : decode cX12_putDown 13 = .ok (.iaload, 1) := by decide +kernel
theorem dX12_putDown_14 : decode cX12_putDown 14 = .ok (.iconst (-1), 1) := by decide +kernel
theorem dX12_putDown_15 : decode cX12_putDown 15 = .ok (.if_icmp .ne 5, 3) := by decide +kernel
theorem dX12_putDown_18 : decode cX12_putDown 18 = .ok (.iconst (-1), 1) := by decide +kernel
theorem dX12_putDown_19 : decode cX12_putDown 19 = .ok (.ireturn, 1) := by decide +kernel
theorem dX12_putDown_20 : decode cX12_putDown 20 = .ok (.aload_n 0, 1) := by decide +kernel
theorem dX12_putDown_21 : decode cX12_putDown 21 = .ok (.invokevirtual 428, 3) := by decide +kernel
