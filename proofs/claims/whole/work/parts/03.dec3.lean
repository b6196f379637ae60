theorem dX12_putDown_24 : decode cX12_putDown 24 = .ok (.aload_n 0, 1) := by decide +kernel
theorem dX12_putDown_25 : decode cX12_putDown 25 = .ok (.getfield 22, 3) := by decide +kernel
theorem dX12_putDown_28 : decode cX12_putDown 28 = .ok (.iload_n 1, 1) := by decide +kernel
theorem dX12_putDown_29 : decode cX12_putDown 29 = .ok (.iaload, 1) := by decide +kernel
theorem dX12_putDown_30 : decode cX12_putDown 30 = .ok (.istore_n 2, 1) := by decide +kernel
theorem dX12_putDown_31 : decode cX12_putDown 31 = .ok (.aload_n 0, 1) := by decide +kernel
theorem dX12_putDown_32 : decode cX12_putDown 32 = .ok (.getfield 46, 3) := by decide +kernel
theorem dX12_putDown_35 : decode cX12_putDown 35 = .ok (.iload_n 2, 1) := by decide +kernel
theorem dX12_putDown_36 : decode cX12_putDown 36 = .ok (.iconst 1, 1) := by decide +kernel
theorem dX12_putDown_37 : decode cX12_putDown 37 = .ok (.iastore, 1) := by decide +kernel
theorem dX12_putDown_38 : decode cX12_putDown 38 = .ok (.aload_n 0, 1) := by decide +kernel
theorem dX12_putDown_39 : decode cX12_putDown 39 = .ok (.getfield 22, 3) := by decide +kernel
theorem dX12_putDown_42 : decode cX12_putDown 42 = .ok (.iload_n 1, 1) := by decide +kernel
theorem dX12_putDown_43 : decode cX12_putDown 43 = .ok (.iconst (-1), 1) := by decide +kernel
theorem dX12_putDown_44 : decode cX12_putDown 44 = .ok (.iastore, 1) := by decide +kernel
theorem dX12_putDown_45 : decode cX12_putDown 45 = .ok (.aload_n 0, 1) := by decide +kernel
theorem dX12_putDown_46 : decode cX12_putDown 46 = .ok (.getfield 25, 3) := by decide +kernel
theorem dX12_putDown_49 : decode cX12_putDown 49 = .ok (.iload_n 1, 1) := by decide +kernel
theorem dX12_putDown_50 : decode cX12_putDown 50 = .ok (.iconst 0, 1) := by decide +kernel
theorem dX12_putDown_51 : decode cX12_putDown 51 = .ok (.iastore, 1) := by decide +kernel
theorem dX12_putDown_52 : decode cX12_putDown 52 = .ok (.iload_n 2, 1) := by decide +kernel
theorem dX12_putDown_53 : decode cX12_putDown 53 = .ok (.ireturn, 1) := by decide +kernel
theorem dX12_bring_0 : decode cX12_bring 0 = .ok (.aload_n 0, 1) := by decide +kernel
theorem dX12_bring_1 : decode cX12_bring 1 = .ok (.iload_n 1, 1) := by decide +kernel
theorem dX12_bring_2 : decode cX12_bring 2 = .ok (.invokevirtual 367, 3) := by decide +kernel
theorem dX12_bring_5 : decode cX12_bring 5 = .ok (.ifCond .eq 14, 3) := by decide +kernel
theorem dX12_bring_8 : decode cX12_bring 8 = .ok (.aload_n 0, 1) := by decide +kernel
theorem dX12_bring_9 : decode cX12_bring 9 = .ok (.getfield 16, 3) := by decide +kernel
theorem dX12_bring_12 : decode cX12_bring 12 = .ok (.iload_n 1, 1) := by decide +kernel
theorem dX12_bring_13 : decode cX12_bring 13 = .ok (.iaload, 1) := by decide +kernel
theorem dX12_bring_14 : decode cX12_bring 14 = .ok (.bipush 99, 2) := by decide +kernel
theorem dX12_bring_16 : decode cX12_bring 16 = .ok (.if_icmp .lt 5, 3) := by decide +kernel
theorem dX12_bring_19 : decode cX12_bring 19 = .ok (.iconst (-1), 1) := by decide +kernel
theorem dX12_bring_20 : decode cX12_bring 20 = .ok (.ireturn, 1) := by decide +kernel
theorem dX12_bring_21 : decode cX12_bring 21 = .ok (.aload_n 0, 1) := by decide +kernel
theorem dX12_bring_22 : decode cX12_bring 22 = .ok (.invokevirtual 428, 3) := by decide +kernel
theorem dX12_bring_25 : decode cX12_bring 25 = .ok (.aload_n 0, 1) := by decide +kernel
theorem dX12_bring_26 : decode cX12_bring 26 = .ok (.getfield 16, 3) := by decide +kernel
theorem dX12_bring_29 : decode cX12_bring 29 = .ok (.iload_n 1, 1) := by decide +kernel
theorem dX12_bring_30 : decode cX12_bring 30 = .ok (.dup2, 1) := by decide +kernel
theorem dX12_bring_31 : decode cX12_bring 31 = .ok (.iaload, 1) := by decide +kernel
theorem dX12_bring_32 : decode cX12_bring 32 = .ok (.iconst 1, 1) := by decide +kernel
theorem dX12_bring_33 : decode cX12_bring 33 = .ok (.iadd, 1) := by decide +kernel
theorem dX12_bring_34 : decode cX12_bring 34 = .ok (.iastore, 1) := by decide +kernel
theorem dX12_bring_35 : decode cX12_bring 35 = .ok (.aload_n 0, 1) := by decide +kernel
theorem dX12_bring_36 : decode cX12_bring 36 = .ok (.getfield 16, 3) := by decide +kernel
theorem dX12_bring_39 : decode cX12_bring 39 = .ok (.iload_n 1, 1) := by decide +kernel
theorem dX12_bring_40 : decode cX12_bring 40 = .ok (.iaload, 1) := by decide +kernel
theorem dX12_bring_41 : decode cX12_bring 41 = .ok (.ireturn, 1) := by decide +kernel
theorem dX12_coffee_0 : decode cX12_coffee 0 = .ok (.aload_n 0, 1) := by decide +kernel
theorem dX12_coffee_1 : decode cX12_coffee 1 = .ok (.iload_n 1, 1) := by decide +kernel
theorem dX12_coffee_2 : decode cX12_coffee 2 = .ok (.invokevirtual 431, 3) := by decide +kernel
theorem dX12_coffee_5 : decode cX12_coffee 5 = .ok (.ifCond .eq 24, 3) := by decide +kernel
theorem dX12_coffee_8 : decode cX12_coffee 8 = .ok (.aload_n 0, 1) := by decide +kernel
theorem dX12_coffee_9 : decode cX12_coffee 9 = .ok (.getfield 28, 3) := by decide +kernel
theorem dX12_coffee_12 : decode cX12_coffee 12 = .ok (.iload_n 1, 1) := by decide +kernel
theorem dX12_coffee_13 : decode cX12_coffee 13 = .ok (.iaload, 1) := by decide +kernel
theorem dX12_coffee_14 : decode cX12_coffee 14 = .ok (.ifCond .gt 15, 3) := by decide +kernel
theorem dX12_coffee_17 : decode cX12_coffee 17 = .ok (.iload_n 2, 1) := by decide +kernel
theorem dX12_coffee_18 : decode cX12_coffee 18 = .ok (.i2l, 1) := by decide +kernel
theorem dX12_coffee_19 : decode cX12_coffee 19 = .ok (.lconst 1, 1) := by decide +kernel
theorem dX12_coffee_20 : decode cX12_coffee 20 = .ok (.ldc2_w 434, 3) := by decide +kernel
theorem dX12_coffee_23 : decode cX12_coffee 23 = .ok (.invokestatic 155, 3) := by decide +kernel
theorem dX12_coffee_26 : decode cX12_coffee 26 = .ok (.ifCond .ne 5, 3) := by decide +kernel
theorem dX12_coffee_29 : decode cX12_coffee 29 = .ok (.iconst (-1), 1) := by decide +kernel
theorem dX12_coffee_30 : decode cX12_coffee 30 = .ok (.ireturn, 1) := by decide +kernel
theorem dX12_coffee_31 : decode cX12_coffee 31 = .ok (.aload_n 0, 1) := by decide +kernel
theorem dX12_coffee_32 : decode cX12_coffee 32 = .ok (.invokevirtual 428, 3) := by decide +kernel
theorem dX12_coffee_35 : decode cX12_coffee 35 = .ok (.aload_n 0, 1) := by decide +kernel
theorem dX12_coffee_36 : decode cX12_coffee 36 = .ok (.getfield 28, 3) := by decide +kernel
theorem dX12_coffee_39 : decode cX12_coffee 39 = .ok (.iload_n 1, 1) := by decide +kernel
theorem dX12_coffee_40 : decode cX12_coffee 40 = .ok (.iload_n 2, 1) := by decide +kernel
theorem dX12_coffee_41 : decode cX12_coffee 41 = .ok (.iastore, 1) := by decide +kernel
theorem dX12_coffee_42 : decode cX12_coffee 42 = .ok (.iconst 0, 1) := by decide +kernel
theorem dX12_coffee_43 : decode cX12_coffee 43 = .ok (.istore_n 3, 1) := by decide +kernel
theorem dX12_coffee_44 : decode cX12_coffee 44 = .ok (.iconst 0, 1) := by decide +kernel
theorem dX12_coffee_45 : decode cX12_coffee 45 = .ok (.istore 4, 2) := by decide +kernel
theorem dX12_coffee_47 : decode cX12_coffee 47 = .ok (.iload 4, 2) := by decide +kernel
theorem dX12_coffee_49 : decode cX12_coffee 49 = .ok (.aload_n 0, 1) := by decide +kernel
theorem dX12_coffee_50 : decode cX12_coffee 50 = .ok (.getfield 9, 3) := by decide +kernel
theorem dX12_coffee_53 : decode cX12_coffee 53 = .ok (.iconst 3, 1) := by decide +kernel
theorem dX12_coffee_54 : decode cX12_coffee 54 = .ok (.iaload, 1) := by decide +kernel
theorem dX12_coffee_55 : decode cX12_coffee 55 = .ok (.if_icmp .ge 27, 3) := by decide +kernel
theorem dX12_coffee_58 : decode cX12_coffee 58 = .ok (.iload_n 3, 1) := by decide +kernel
theorem dX12_coffee_59 : decode cX12_coffee 59 = .ok (.aload_n 0, 1) := by decide +kernel
theorem dX12_coffee_60 : decode cX12_coffee 60 = .ok (.getfield 28, 3) := by decide +kernel
theorem dX12_coffee_63 : decode cX12_coffee 63 = .ok (.iload 4, 2) := by decide +kernel
theorem dX12_coffee_65 : decode cX12_coffee 65 = .ok (.iaload, 1) := by decide +kernel
theorem dX12_coffee_66 : decode cX12_coffee 66 = .ok (.ifCond .le 7, 3) := by decide +kernel
theorem dX12_coffee_69 : decode cX12_coffee 69 = .ok (.iconst 1, 1) := by decide +kernel
theorem dX12_coffee_70 : decode cX12_coffee 70 = .ok (.goto 4, 3) := by decide +kernel
theorem dX12_coffee_73 : decode cX12_coffee 73 = .ok (.iconst 0, 1) := by decide +kernel
theorem dX12_coffee_74 : decode cX12_coffee 74 = .ok (.iadd, 1) := by decide +kernel
theorem dX12_coffee_75 : decode cX12_coffee 75 = .ok (.istore_n 3, 1) := by decide +kernel
theorem dX12_coffee_76 : decode cX12_coffee 76 = .ok (.iinc 4 1, 3) := by decide +kernel
theorem dX12_coffee_79 : decode cX12_coffee 79 = .ok (.goto (-32), 3) := by decide +kernel
theorem dX12_coffee_82 : decode cX12_coffee 82 = .ok (.iload_n 3, 1) := by decide +kernel
theorem dX12_coffee_83 : decode cX12_coffee 83 = .ok (.ireturn, 1) := by decide +kernel
theorem dX12_keepsAll_0 : decode cX12_keepsAll 0 = .ok (.aload_n 0, 1) := by decide +kernel
theorem dX12_keepsAll_1 : decode cX12_keepsAll 1 = .ok (.iconst 4, 1) := by decide +kernel
theorem dX12_keepsAll_2 : decode cX12_keepsAll 2 = .ok (.iconst 0, 1) := by decide +kernel
theorem dX12_keepsAll_3 : decode cX12_keepsAll 3 = .ok (.invokevirtual 436, 3) := by decide +kernel
theorem dX12_keepsAll_6 : decode cX12_keepsAll 6 = .ok (.return_, 1) := by decide +kernel
theorem dX12_laysBack_0 : decode cX12_laysBack 0 = .ok (.aload_n 0, 1) := by decide +kernel
theorem dX12_laysBack_1 : decode cX12_laysBack 1 = .ok (.iconst 4, 1) := by decide +kernel
theorem dX12_laysBack_2 : decode cX12_laysBack 2 = .ok (.iconst 1, 1) := by decide +kernel
theorem dX12_laysBack_3 : decode cX12_laysBack 3 = .ok (.invokevirtual 436, 3) := by decide +kernel
theorem dX12_laysBack_6 : decode cX12_laysBack 6 = .ok (.return_, 1) := by decide +kernel
theorem dX12_ahead_0 : decode cX12_ahead 0 = .ok (.iload_n 3, 1) := by decide +kernel
theorem dX12_ahead_1 : decode cX12_ahead 1 = .ok (.ifCond .ne 11, 3) := by decide +kernel
theorem dX12_ahead_4 : decode cX12_ahead 4 = .ok (.aload_n 0, 1) := by decide +kernel
theorem dX12_ahead_5 : decode cX12_ahead 5 = .ok (.iload_n 1, 1) := by decide +kernel
theorem dX12_ahead_6 : decode cX12_ahead 6 = .ok (.invokevirtual 360, 3) := by decide +kernel
theorem dX12_ahead_9 : decode cX12_ahead 9 = .ok (.ifCond .ne 21, 3) := by decide +kernel
theorem dX12_ahead_12 : decode cX12_ahead 12 = .ok (.iload_n 3, 1) := by decide +kernel
theorem dX12_ahead_13 : decode cX12_ahead 13 = .ok (.iconst 1, 1) := by decide +kernel
theorem dX12_ahead_14 : decode cX12_ahead 14 = .ok (.if_icmp .ne 11, 3) := by decide +kernel
theorem dX12_ahead_17 : decode cX12_ahead 17 = .ok (.aload_n 0, 1) := by decide +kernel
theorem dX12_ahead_18 : decode cX12_ahead 18 = .ok (.iload_n 1, 1) := by decide +kernel
theorem dX12_ahead_19 : decode cX12_ahead 19 = .ok (.invokevirtual 364, 3) := by decide +kernel
theorem dX12_ahead_22 : decode cX12_ahead 22 = .ok (.ifCond .ne 8, 3) := by decide +kernel
theorem dX12_ahead_25 : decode cX12_ahead 25 = .ok (.iload_n 3, 1) := by decide +kernel
theorem dX12_ahead_26 : decode cX12_ahead 26 = .ok (.iconst 2, 1) := by decide +kernel
theorem dX12_ahead_27 : decode cX12_ahead 27 = .ok (.if_icmp .ne 7, 3) := by decide +kernel
theorem dX12_ahead_30 : decode cX12_ahead 30 = .ok (.iconst 1, 1) := by decide +kernel
theorem dX12_ahead_31 : decode cX12_ahead 31 = .ok (.goto 4, 3) := by decide +kernel
theorem dX12_ahead_34 : decode cX12_ahead 34 = .ok (.iconst 0, 1) := by decide +kernel
theorem dX12_ahead_35 : decode cX12_ahead 35 = .ok (.istore 4, 2) := by decide +kernel
theorem dX12_ahead_37 : decode cX12_ahead 37 = .ok (.aload_n 0, 1) := by decide +kernel
theorem dX12_ahead_38 : decode cX12_ahead 38 = .ok (.invokevirtual 425, 3) := by decide +kernel
theorem dX12_ahead_41 : decode cX12_ahead 41 = .ok (.ifCond .eq 20, 3) := by decide +kernel
theorem dX12_ahead_44 : decode cX12_ahead 44 = .ok (.iload 4, 2) := by decide +kernel
theorem dX12_ahead_46 : decode cX12_ahead 46 = .ok (.ifCond .eq 15, 3) := by decide +kernel
theorem dX12_ahead_49 : decode cX12_ahead 49 = .ok (.iload_n 2, 1) := by decide +kernel
theorem dX12_ahead_50 : decode cX12_ahead 50 = .ok (.i2l, 1) := by decide +kernel
theorem dX12_ahead_51 : decode cX12_ahead 51 = .ok (.lconst 0, 1) := by decide +kernel
theorem dX12_ahead_52 : decode cX12_ahead 52 = .ok (.ldc2_w 439, 3) := by decide +kernel
theorem dX12_ahead_55 : decode cX12_ahead 55 = .ok (.invokestatic 155, 3) := by decide +kernel
theorem dX12_ahead_58 : decode cX12_ahead 58 = .ok (.ifCond .ne 6, 3) := by decide +kernel
theorem dX12_ahead_61 : decode cX12_ahead 61 = .ok (.bipush (-2), 2) := by decide +kernel
theorem dX12_ahead_63 : decode cX12_ahead 63 = .ok (.ireturn, 1) := by decide +kernel
theorem dX12_ahead_64 : decode cX12_ahead 64 = .ok (.aload_n 0, 1) := by decide +kernel
theorem dX12_ahead_65 : decode cX12_ahead 65 = .ok (.invokevirtual 441, 3) := by decide +kernel
theorem dX12_ahead_68 : decode cX12_ahead 68 = .ok (.aload_n 0, 1) := by decide +kernel
theorem dX12_ahead_69 : decode cX12_ahead 69 = .ok (.iload_n 2, 1) := by decide +kernel
theorem dX12_ahead_70 : decode cX12_ahead 70 = .ok (.invokevirtual 444, 3) := by decide +kernel
theorem dX12_ahead_73 : decode cX12_ahead 73 = .ok (.iload_n 3, 1) := by decide +kernel
theorem dX12_ahead_74 : decode cX12_ahead 74 = .ok (.ifCond .ne 12, 3) := by decide +kernel
theorem dX12_ahead_77 : decode cX12_ahead 77 = .ok (.aload_n 0, 1) := by decide +kernel
theorem dX12_ahead_78 : decode cX12_ahead 78 = .ok (.getfield 46, 3) := by decide +kernel
theorem dX12_ahead_81 : decode cX12_ahead 81 = .ok (.iload_n 1, 1) := by decide +kernel
theorem dX12_ahead_82 : decode cX12_ahead 82 = .ok (.iaload, 1) := by decide +kernel
theorem dX12_ahead_83 : decode cX12_ahead 83 = .ok (.goto 21, 3) := by decide +kernel
theorem dX12_ahead_86 : decode cX12_ahead 86 = .ok (.iload_n 3, 1) := by decide +kernel
theorem dX12_ahead_87 : decode cX12_ahead 87 = .ok (.iconst 1, 1) := by decide +kernel
theorem dX12_ahead_88 : decode cX12_ahead 88 = .ok (.if_icmp .ne 12, 3) := by decide +kernel
theorem dX12_ahead_91 : decode cX12_ahead 91 = .ok (.aload_n 0, 1) := by decide +kernel
theorem dX12_ahead_92 : decode cX12_ahead 92 = .ok (.getfield 22, 3) := by decide +kernel
theorem dX12_ahead_95 : decode cX12_ahead 95 = .ok (.iload_n 1, 1) := by decide +kernel
theorem dX12_ahead_96 : decode cX12_ahead 96 = .ok (.iaload, 1) := by decide +kernel
theorem dX12_ahead_97 : decode cX12_ahead 97 = .ok (.goto 7, 3) := by decide +kernel
theorem dX12_ahead_100 : decode cX12_ahead 100 = .ok (.aload_n 0, 1) := by decide +kernel
theorem dX12_ahead_101 : decode cX12_ahead 101 = .ok (.invokevirtual 447, 3) := by decide +kernel
theorem dX12_ahead_104 : decode cX12_ahead 104 = .ok (.istore 5, 2) := by decide +kernel
theorem dX12_ahead_106 : decode cX12_ahead 106 = .ok (.aload_n 0, 1) := by decide +kernel
theorem dX12_ahead_107 : decode cX12_ahead 107 = .ok (.invokevirtual 450, 3) := by decide +kernel
theorem dX12_ahead_110 : decode cX12_ahead 110 = .ok (.iload 5, 2) := by decide +kernel
theorem dX12_ahead_112 : decode cX12_ahead 112 = .ok (.ireturn, 1) := by decide +kernel
theorem dX12_done_0 : decode cX12_done 0 = .ok (.aload_n 0, 1) := by decide +kernel
theorem dX12_done_1 : decode cX12_done 1 = .ok (.iload_n 1, 1) := by decide +kernel
theorem dX12_done_2 : decode cX12_done 2 = .ok (.invokevirtual 360, 3) := by decide +kernel
theorem dX12_done_5 : decode cX12_done 5 = .ok (.ifCond .ne 5, 3) := by decide +kernel
theorem dX12_done_8 : decode cX12_done 8 = .ok (.iconst (-1), 1) := by decide +kernel
theorem dX12_done_9 : decode cX12_done 9 = .ok (.ireturn, 1) := by decide +kernel
theorem dX12_done_10 : decode cX12_done 10 = .ok (.aload_n 0, 1) := by decide +kernel
theorem dX12_done_11 : decode cX12_done 11 = .ok (.invokevirtual 441, 3) := by decide +kernel
theorem dX12_done_14 : decode cX12_done 14 = .ok (.iconst 0, 1) := by decide +kernel
theorem dX12_done_15 : decode cX12_done 15 = .ok (.istore_n 2, 1) := by decide +kernel
theorem dX12_done_16 : decode cX12_done 16 = .ok (.iload_n 2, 1) := by decide +kernel
theorem dX12_done_17 : decode cX12_done 17 = .ok (.sipush 400, 3) := by decide +kernel
theorem dX12_done_20 : decode cX12_done 20 = .ok (.if_icmp .ge 24, 3) := by decide +kernel
theorem dX12_done_23 : decode cX12_done 23 = .ok (.aload_n 0, 1) := by decide +kernel
theorem dX12_done_24 : decode cX12_done 24 = .ok (.getfield 46, 3) := by decide +kernel
theorem dX12_done_27 : decode cX12_done 27 = .ok (.iload_n 1, 1) := by decide +kernel
theorem dX12_done_28 : decode cX12_done 28 = .ok (.iaload, 1) := by decide +kernel
theorem dX12_done_29 : decode cX12_done 29 = .ok (.iconst 3, 1) := by decide +kernel
theorem dX12_done_30 : decode cX12_done 30 = .ok (.if_icmp .ge 14, 3) := by decide +kernel
theorem dX12_done_33 : decode cX12_done 33 = .ok (.aload_n 0, 1) := by decide +kernel
theorem dX12_done_34 : decode cX12_done 34 = .ok (.invokevirtual 404, 3) := by decide +kernel
theorem dX12_done_37 : decode cX12_done 37 = .ok (.pop, 1) := by decide +kernel
theorem dX12_done_38 : decode cX12_done 38 = .ok (.iinc 2 1, 3) := by decide +kernel
theorem dX12_done_41 : decode cX12_done 41 = .ok (.goto (-25), 3) := by decide +kernel
theorem dX12_done_44 : decode cX12_done 44 = .ok (.aload_n 0, 1) := by decide +kernel
theorem dX12_done_45 : decode cX12_done 45 = .ok (.getfield 46, 3) := by decide +kernel
theorem dX12_done_48 : decode cX12_done 48 = .ok (.iload_n 1, 1) := by decide +kernel
theorem dX12_done_49 : decode cX12_done 49 = .ok (.iaload, 1) := by decide +kernel
theorem dX12_done_50 : decode cX12_done 50 = .ok (.iconst 3, 1) := by decide +kernel
theorem dX12_done_51 : decode cX12_done 51 = .ok (.if_icmp .ne 12, 3) := by decide +kernel
theorem dX12_done_54 : decode cX12_done 54 = .ok (.aload_n 0, 1) := by decide +kernel
theorem dX12_done_55 : decode cX12_done 55 = .ok (.getfield 49, 3) := by decide +kernel
theorem dX12_done_58 : decode cX12_done 58 = .ok (.iload_n 1, 1) := by decide +kernel
theorem dX12_done_59 : decode cX12_done 59 = .ok (.iaload, 1) := by decide +kernel
theorem dX12_done_60 : decode cX12_done 60 = .ok (.goto 5, 3) := by decide +kernel
theorem dX12_done_63 : decode cX12_done 63 = .ok (.bipush (-2), 2) := by decide +kernel
theorem dX12_done_65 : decode cX12_done 65 = .ok (.istore_n 2, 1) := by decide +kernel
theorem dX12_done_66 : decode cX12_done 66 = .ok (.aload_n 0, 1) := by decide +kernel
theorem dX12_done_67 : decode cX12_done 67 = .ok (.invokevirtual 450, 3) := by decide +kernel
theorem dX12_done_70 : decode cX12_done 70 = .ok (.iload_n 2, 1) := by decide +kernel
theorem dX12_done_71 : decode cX12_done 71 = .ok (.ireturn, 1) := by decide +kernel
theorem dX12_waits_0 : decode cX12_waits 0 = .ok (.aload_n 0, 1) := by decide +kernel
theorem dX12_waits_1 : decode cX12_waits 1 = .ok (.iload_n 1, 1) := by decide +kernel
theorem dX12_waits_2 : decode cX12_waits 2 = .ok (.invokevirtual 360, 3) := by decide +kernel
theorem dX12_waits_5 : decode cX12_waits 5 = .ok (.ifCond .eq 13, 3) := by decide +kernel
theorem dX12_waits_8 : decode cX12_waits 8 = .ok (.aload_n 0, 1) := by decide +kernel
theorem dX12_waits_9 : decode cX12_waits 9 = .ok (.getfield 46, 3) := by decide +kernel
theorem dX12_waits_12 : decode cX12_waits 12 = .ok (.iload_n 1, 1) := by decide +kernel
theorem dX12_waits_13 : decode cX12_waits 13 = .ok (.iaload, 1) := by decide +kernel
theorem dX12_waits_14 : decode cX12_waits 14 = .ok (.iconst 1, 1) := by decide +kernel
theorem dX12_waits_15 : decode cX12_waits 15 = .ok (.if_icmp .le 5, 3) := by decide +kernel
theorem dX12_waits_18 : decode cX12_waits 18 = .ok (.iconst (-1), 1) := by decide +kernel
theorem dX12_waits_19 : decode cX12_waits 19 = .ok (.ireturn, 1) := by decide +kernel
theorem dX12_waits_20 : decode cX12_waits 20 = .ok (.aload_n 0, 1) := by decide +kernel
theorem dX12_waits_21 : decode cX12_waits 21 = .ok (.invokevirtual 441, 3) := by decide +kernel
theorem dX12_waits_24 : decode cX12_waits 24 = .ok (.bipush (-2), 2) := by decide +kernel
theorem dX12_waits_26 : decode cX12_waits 26 = .ok (.istore_n 2, 1) := by decide +kernel
theorem dX12_waits_27 : decode cX12_waits 27 = .ok (.iconst 0, 1) := by decide +kernel
theorem dX12_waits_28 : decode cX12_waits 28 = .ok (.istore_n 3, 1) := by decide +kernel
theorem dX12_waits_29 : decode cX12_waits 29 = .ok (.iload_n 3, 1) := by decide +kernel
theorem dX12_waits_30 : decode cX12_waits 30 = .ok (.sipush 400, 3) := by decide +kernel
theorem dX12_waits_33 : decode cX12_waits 33 = .ok (.if_icmp .ge 53, 3) := by decide +kernel
theorem dX12_waits_36 : decode cX12_waits 36 = .ok (.iload_n 2, 1) := by decide +kernel
theorem dX12_waits_37 : decode cX12_waits 37 = .ok (.bipush (-2), 2) := by decide +kernel
theorem dX12_waits_39 : decode cX12_waits 39 = .ok (.if_icmp .ne 47, 3) := by decide +kernel
theorem dX12_waits_42 : decode cX12_waits 42 = .ok (.aload_n 0, 1) := by decide +kernel
theorem dX12_waits_43 : decode cX12_waits 43 = .ok (.getfield 9, 3) := by decide +kernel
theorem dX12_waits_46 : decode cX12_waits 46 = .ok (.iconst 5, 1) := by decide +kernel
theorem dX12_waits_47 : decode cX12_waits 47 = .ok (.iaload, 1) := by decide +kernel
theorem dX12_waits_48 : decode cX12_waits 48 = .ok (.istore 4, 2) := by decide +kernel
theorem dX12_waits_50 : decode cX12_waits 50 = .ok (.aload_n 0, 1) := by decide +kernel
theorem dX12_waits_51 : decode cX12_waits 51 = .ok (.invokevirtual 404, 3) := by decide +kernel
theorem dX12_waits_54 : decode cX12_waits 54 = .ok (.pop, 1) := by decide +kernel
theorem dX12_waits_55 : decode cX12_waits 55 = .ok (.aload_n 0, 1) := by decide +kernel
theorem dX12_waits_56 : decode cX12_waits 56 = .ok (.getfield 46, 3) := by decide +kernel
theorem dX12_waits_59 : decode cX12_waits 59 = .ok (.iload_n 1, 1) := by decide +kernel
theorem dX12_waits_60 : decode cX12_waits 60 = .ok (.iaload, 1) := by decide +kernel
theorem dX12_waits_61 : decode cX12_waits 61 = .ok (.iconst 1, 1) := by decide +kernel
theorem dX12_waits_62 : decode cX12_waits 62 = .ok (.if_icmp .le 15, 3) := by decide +kernel
theorem dX12_waits_65 : decode cX12_waits 65 = .ok (.iload 4, 2) := by decide +kernel
theorem dX12_waits_67 : decode cX12_waits 67 = .ok (.aload_n 0, 1) := by decide +kernel
theorem dX12_waits_68 : decode cX12_waits 68 = .ok (.getfield 37, 3) := by decide +kernel
theorem dX12_waits_71 : decode cX12_waits 71 = .ok (.iload_n 1, 1) := by decide +kernel
theorem dX12_waits_72 : decode cX12_waits 72 = .ok (.iaload, 1) := by decide +kernel
theorem dX12_waits_73 : decode cX12_waits 73 = .ok (.isub, 1) := by decide +kernel
theorem dX12_waits_74 : decode cX12_waits 74 = .ok (.goto 5, 3) := by decide +kernel
theorem dX12_waits_77 : decode cX12_waits 77 = .ok (.bipush (-2), 2) := by decide +kernel
theorem dX12_waits_79 : decode cX12_waits 79 = .ok (.istore_n 2, 1) := by decide +kernel
theorem dX12_waits_80 : decode cX12_waits 80 = .ok (.iinc 3 1, 3) := by decide +kernel
theorem dX12_waits_83 : decode cX12_waits 83 = .ok (.goto (-54), 3) := by decide +kernel
theorem dX12_waits_86 : decode cX12_waits 86 = .ok (.aload_n 0, 1) := by decide +kernel
theorem dX12_waits_87 : decode cX12_waits 87 = .ok (.invokevirtual 450, 3) := by decide +kernel
theorem dX12_waits_90 : decode cX12_waits 90 = .ok (.iload_n 2, 1) := by decide +kernel
theorem dX12_waits_91 : decode cX12_waits 91 = .ok (.ireturn, 1) := by decide +kernel
theorem dX12_savedThen_0 : decode cX12_savedThen 0 = .ok (.aload_n 0, 1) := by decide +kernel
theorem dX12_savedThen_1 : decode cX12_savedThen 1 = .ok (.sipush 400, 3) := by decide +kernel
theorem dX12_savedThen_4 : decode cX12_savedThen 4 = .ok (.invokevirtual 444, 3) := by decide +kernel
theorem dX12_savedThen_7 : decode cX12_savedThen 7 = .ok (.aload_n 0, 1) := by decide +kernel
theorem dX12_savedThen_8 : decode cX12_savedThen 8 = .ok (.invokevirtual 447, 3) := by decide +kernel
theorem dX12_savedThen_11 : decode cX12_savedThen 11 = .ok (.istore_n 1, 1) := by decide +kernel
theorem dX12_savedThen_12 : decode cX12_savedThen 12 = .ok (.aload_n 0, 1) := by decide +kernel
theorem dX12_savedThen_13 : decode cX12_savedThen 13 = .ok (.invokevirtual 450, 3) := by decide +kernel
theorem dX12_savedThen_16 : decode cX12_savedThen 16 = .ok (.iload_n 1, 1) := by decide +kernel
theorem dX12_savedThen_17 : decode cX12_savedThen 17 = .ok (.ireturn, 1) := by decide +kernel
theorem dX12_tries_0 : decode cX12_tries 0 = .ok (.aload_n 0, 1) := by decide +kernel
theorem dX12_tries_1 : decode cX12_tries 1 = .ok (.invokevirtual 453, 3) := by decide +kernel
theorem dX12_tries_4 : decode cX12_tries 4 = .ok (.istore_n 2, 1) := by decide +kernel
theorem dX12_tries_5 : decode cX12_tries 5 = .ok (.iload_n 2, 1) := by decide +kernel
theorem dX12_tries_6 : decode cX12_tries 6 = .ok (.aload_n 0, 1) := by decide +kernel
theorem dX12_tries_7 : decode cX12_tries 7 = .ok (.getfield 456, 3) := by decide +kernel
theorem dX12_tries_10 : decode cX12_tries 10 = .ok (.if_icmp .le 13, 3) := by decide +kernel
theorem dX12_tries_13 : decode cX12_tries 13 = .ok (.aload_n 0, 1) := by decide +kernel
theorem dX12_tries_14 : decode cX12_tries 14 = .ok (.iload_n 1, 1) := by decide +kernel
theorem dX12_tries_15 : decode cX12_tries 15 = .ok (.putfield 459, 3) := by decide +kernel
theorem dX12_tries_18 : decode cX12_tries 18 = .ok (.aload_n 0, 1) := by decide +kernel
theorem dX12_tries_19 : decode cX12_tries 19 = .ok (.iload_n 2, 1) := by decide +kernel
theorem dX12_tries_20 : decode cX12_tries 20 = .ok (.putfield 456, 3) := by decide +kernel
theorem dX12_tries_23 : decode cX12_tries 23 = .ok (.return_, 1) := by decide +kernel
theorem dX12_triesNothing_0 : decode cX12_triesNothing 0 = .ok (.aload_n 0, 1) := by decide +kernel
theorem dX12_triesNothing_1 : decode cX12_triesNothing 1 = .ok (.invokevirtual 441, 3) := by decide +kernel
theorem dX12_triesNothing_4 : decode cX12_triesNothing 4 = .ok (.aload_n 0, 1) := by decide +kernel
theorem dX12_triesNothing_5 : decode cX12_triesNothing 5 = .ok (.iconst (-1), 1) := by decide +kernel
theorem dX12_triesNothing_6 : decode cX12_triesNothing 6 = .ok (.putfield 456, 3) := by decide +kernel
theorem dX12_triesNothing_9 : decode cX12_triesNothing 9 = .ok (.aload_n 0, 1) := by decide +kernel
theorem dX12_triesNothing_10 : decode cX12_triesNothing 10 = .ok (.iconst (-1), 1) := by decide +kernel
theorem dX12_triesNothing_11 : decode cX12_triesNothing 11 = .ok (.invokevirtual 462, 3) := by decide +kernel
theorem dX12_triesNothing_14 : decode cX12_triesNothing 14 = .ok (.return_, 1) := by decide +kernel
theorem dX12_take_0 : decode cX12_take 0 = .ok (.aload_n 0, 1) := by decide +kernel
theorem dX12_take_1 : decode cX12_take 1 = .ok (.iload_n 1, 1) := by decide +kernel
theorem dX12_take_2 : decode cX12_take 2 = .ok (.invokevirtual 431, 3) := by decide +kernel
theorem dX12_take_5 : decode cX12_take 5 = .ok (.ifCond .eq 13, 3) := by decide +kernel
theorem dX12_take_8 : decode cX12_take 8 = .ok (.iload_n 2, 1) := by decide +kernel
theorem dX12_take_9 : decode cX12_take 9 = .ok (.i2l, 1) := by decide +kernel
theorem dX12_take_10 : decode cX12_take 10 = .ok (.lconst 0, 1) := by decide +kernel
theorem dX12_take_11 : decode cX12_take 11 = .ok (.lconst 1, 1) := by decide +kernel
theorem dX12_take_12 : decode cX12_take 12 = .ok (.invokestatic 155, 3) := by decide +kernel
theorem dX12_take_15 : decode cX12_take 15 = .ok (.ifCond .ne 6, 3) := by decide +kernel
theorem dX12_take_18 : decode cX12_take 18 = .ok (.bipush (-2), 2) := by decide +kernel
theorem dX12_take_20 : decode cX12_take 20 = .ok (.ireturn, 1) := by decide +kernel
theorem dX12_take_21 : decode cX12_take 21 = .ok (.aload_n 0, 1) := by decide +kernel
theorem dX12_take_22 : decode cX12_take 22 = .ok (.invokevirtual 465, 3) := by decide +kernel
theorem dX12_take_25 : decode cX12_take 25 = .ok (.iconst 0, 1) := by decide +kernel
theorem dX12_take_26 : decode cX12_take 26 = .ok (.istore_n 3, 1) := by decide +kernel
theorem dX12_take_27 : decode cX12_take 27 = .ok (.iload_n 3, 1) := by decide +kernel
theorem dX12_take_28 : decode cX12_take 28 = .ok (.aload_n 0, 1) := by decide +kernel
theorem dX12_take_29 : decode cX12_take 29 = .ok (.getfield 9, 3) := by decide +kernel
theorem dX12_take_32 : decode cX12_take 32 = .ok (.iconst 4, 1) := by decide +kernel
theorem dX12_take_33 : decode cX12_take 33 = .ok (.iaload, 1) := by decide +kernel
theorem dX12_take_34 : decode cX12_take 34 = .ok (.if_icmp .ge 29, 3) := by decide +kernel
theorem dX12_take_37 : decode cX12_take 37 = .ok (.aload_n 0, 1) := by decide +kernel
theorem dX12_take_38 : decode cX12_take 38 = .ok (.iload_n 1, 1) := by decide +kernel
theorem dX12_take_39 : decode cX12_take 39 = .ok (.iload_n 3, 1) := by decide +kernel
theorem dX12_take_40 : decode cX12_take 40 = .ok (.invokevirtual 383, 3) := by decide +kernel
theorem dX12_take_43 : decode cX12_take 43 = .ok (.ifCond .eq 14, 3) := by decide +kernel
theorem dX12_take_46 : decode cX12_take 46 = .ok (.aload_n 0, 1) := by decide +kernel
theorem dX12_take_47 : decode cX12_take 47 = .ok (.iload_n 1, 1) := by decide +kernel
theorem dX12_take_48 : decode cX12_take 48 = .ok (.iload_n 3, 1) := by decide +kernel
theorem dX12_take_49 : decode cX12_take 49 = .ok (.invokevirtual 395, 3) := by decide +kernel
theorem dX12_take_52 : decode cX12_take 52 = .ok (.aload_n 0, 1) := by decide +kernel
theorem dX12_take_53 : decode cX12_take 53 = .ok (.iload_n 3, 1) := by decide +kernel
theorem dX12_take_54 : decode cX12_take 54 = .ok (.invokevirtual 462, 3) := by decide +kernel
theorem dX12_take_57 : decode cX12_take 57 = .ok (.iinc 3 1, 3) := by decide +kernel
theorem dX12_take_60 : decode cX12_take 60 = .ok (.goto (-33), 3) := by decide +kernel
theorem dX12_take_63 : decode cX12_take 63 = .ok (.iload_n 2, 1) := by decide +kernel
theorem dX12_take_64 : decode cX12_take 64 = .ok (.ifCond .ne 10, 3) := by decide +kernel
theorem dX12_take_67 : decode cX12_take 67 = .ok (.aload_n 0, 1) := by decide +kernel
theorem dX12_take_68 : decode cX12_take 68 = .ok (.getfield 459, 3) := by decide +kernel
theorem dX12_take_71 : decode cX12_take 71 = .ok (.goto 7, 3) := by decide +kernel
theorem dX12_take_74 : decode cX12_take 74 = .ok (.aload_n 0, 1) := by decide +kernel
theorem dX12_take_75 : decode cX12_take 75 = .ok (.getfield 456, 3) := by decide +kernel
theorem dX12_take_78 : decode cX12_take 78 = .ok (.ireturn, 1) := by decide +kernel
theorem dX12_part_0 : decode cX12_part 0 = .ok (.aload_n 0, 1) := by decide +kernel
theorem dX12_part_1 : decode cX12_part 1 = .ok (.invokevirtual 425, 3) := by decide +kernel
theorem dX12_part_4 : decode cX12_part 4 = .ok (.ifCond .eq 13, 3) := by decide +kernel
theorem dX12_part_7 : decode cX12_part 7 = .ok (.iload_n 1, 1) := by decide +kernel
theorem dX12_part_8 : decode cX12_part 8 = .ok (.i2l, 1) := by decide +kernel
theorem dX12_part_9 : decode cX12_part 9 = .ok (.lconst 0, 1) := by decide +kernel
theorem dX12_part_10 : decode cX12_part 10 = .ok (.lconst 1, 1) := by decide +kernel
theorem dX12_part_11 : decode cX12_part 11 = .ok (.invokestatic 155, 3) := by decide +kernel
theorem dX12_part_14 : decode cX12_part 14 = .ok (.ifCond .ne 6, 3) := by decide +kernel
theorem dX12_part_17 : decode cX12_part 17 = .ok (.bipush (-2), 2) := by decide +kernel
theorem dX12_part_19 : decode cX12_part 19 = .ok (.ireturn, 1) := by decide +kernel
theorem dX12_part_20 : decode cX12_part 20 = .ok (.aload_n 0, 1) := by decide +kernel
theorem dX12_part_21 : decode cX12_part 21 = .ok (.invokevirtual 465, 3) := by decide +kernel
theorem dX12_part_24 : decode cX12_part 24 = .ok (.iconst 0, 1) := by decide +kernel
theorem dX12_part_25 : decode cX12_part 25 = .ok (.istore_n 2, 1) := by decide +kernel
theorem dX12_part_26 : decode cX12_part 26 = .ok (.iload_n 2, 1) := by decide +kernel
theorem dX12_part_27 : decode cX12_part 27 = .ok (.aload_n 0, 1) := by decide +kernel
theorem dX12_part_28 : decode cX12_part 28 = .ok (.getfield 9, 3) := by decide +kernel
theorem dX12_part_31 : decode cX12_part 31 = .ok (.iconst 2, 1) := by decide +kernel
theorem dX12_part_32 : decode cX12_part 32 = .ok (.iaload, 1) := by decide +kernel
theorem dX12_part_33 : decode cX12_part 33 = .ok (.if_icmp .ge 24, 3) := by decide +kernel
theorem dX12_part_36 : decode cX12_part 36 = .ok (.aload_n 0, 1) := by decide +kernel
theorem dX12_part_37 : decode cX12_part 37 = .ok (.getfield 16, 3) := by decide +kernel
theorem dX12_part_40 : decode cX12_part 40 = .ok (.iload_n 2, 1) := by decide +kernel
theorem dX12_part_41 : decode cX12_part 41 = .ok (.dup2, 1) := by decide +kernel
theorem dX12_part_42 : decode cX12_part 42 = .ok (.iaload, 1) := by decide +kernel
theorem dX12_part_43 : decode cX12_part 43 = .ok (.iconst 1, 1) := by decide +kernel
theorem dX12_part_44 : decode cX12_part 44 = .ok (.iadd, 1) := by decide +kernel
theorem dX12_part_45 : decode cX12_part 45 = .ok (.iastore, 1) := by decide +kernel
theorem dX12_part_46 : decode cX12_part 46 = .ok (.aload_n 0, 1) := by decide +kernel
theorem dX12_part_47 : decode cX12_part 47 = .ok (.iload_n 2, 1) := by decide +kernel
theorem dX12_part_48 : decode cX12_part 48 = .ok (.invokevirtual 462, 3) := by decide +kernel
theorem dX12_part_51 : decode cX12_part 51 = .ok (.iinc 2 1, 3) := by decide +kernel
theorem dX12_part_54 : decode cX12_part 54 = .ok (.goto (-28), 3) := by decide +kernel
theorem dX12_part_57 : decode cX12_part 57 = .ok (.iload_n 1, 1) := by decide +kernel
theorem dX12_part_58 : decode cX12_part 58 = .ok (.ifCond .ne 10, 3) := by decide +kernel
theorem dX12_part_61 : decode cX12_part 61 = .ok (.aload_n 0, 1) := by decide +kernel
theorem dX12_part_62 : decode cX12_part 62 = .ok (.getfield 459, 3) := by decide +kernel
theorem dX12_part_65 : decode cX12_part 65 = .ok (.goto 7, 3) := by decide +kernel
theorem dX12_part_68 : decode cX12_part 68 = .ok (.aload_n 0, 1) := by decide +kernel
theorem dX12_part_69 : decode cX12_part 69 = .ok (.getfield 456, 3) := by decide +kernel
theorem dX12_part_72 : decode cX12_part 72 = .ok (.ireturn, 1) := by decide +kernel
theorem dX12_askIn_0 : decode cX12_askIn 0 = .ok (.aload_n 0, 1) := by decide +kernel
theorem dX12_askIn_1 : decode cX12_askIn 1 = .ok (.invokevirtual 425, 3) := by decide +kernel
theorem dX12_askIn_4 : decode cX12_askIn 4 = .ok (.ifCond .eq 13, 3) := by decide +kernel
theorem dX12_askIn_7 : decode cX12_askIn 7 = .ok (.iload_n 1, 1) := by decide +kernel
theorem dX12_askIn_8 : decode cX12_askIn 8 = .ok (.i2l, 1) := by decide +kernel
theorem dX12_askIn_9 : decode cX12_askIn 9 = .ok (.lconst 0, 1) := by decide +kernel
theorem dX12_askIn_10 : decode cX12_askIn 10 = .ok (.lconst 1, 1) := by decide +kernel
theorem dX12_askIn_11 : decode cX12_askIn 11 = .ok (.invokestatic 155, 3) := by decide +kernel
theorem dX12_askIn_14 : decode cX12_askIn 14 = .ok (.ifCond .ne 6, 3) := by decide +kernel
theorem dX12_askIn_17 : decode cX12_askIn 17 = .ok (.bipush (-2), 2) := by decide +kernel
theorem dX12_askIn_19 : decode cX12_askIn 19 = .ok (.ireturn, 1) := by decide +kernel
theorem dX12_askIn_20 : decode cX12_askIn 20 = .ok (.aload_n 0, 1) := by decide +kernel
theorem dX12_askIn_21 : decode cX12_askIn 21 = .ok (.invokevirtual 465, 3) := by decide +kernel
theorem dX12_askIn_24 : decode cX12_askIn 24 = .ok (.aload_n 0, 1) := by decide +kernel
theorem dX12_askIn_25 : decode cX12_askIn 25 = .ok (.getfield 9, 3) := by decide +kernel
theorem dX12_askIn_28 : decode cX12_askIn 28 = .ok (.iconst 3, 1) := by decide +kernel
theorem dX12_askIn_29 : decode cX12_askIn 29 = .ok (.iaload, 1) := by decide +kernel
theorem dX12_askIn_30 : decode cX12_askIn 30 = .ok (.istore_n 2, 1) := by decide +kernel
theorem dX12_askIn_31 : decode cX12_askIn 31 = .ok (.iconst 0, 1) := by decide +kernel
theorem dX12_askIn_32 : decode cX12_askIn 32 = .ok (.istore_n 3, 1) := by decide +kernel
theorem dX12_askIn_33 : decode cX12_askIn 33 = .ok (.iload_n 3, 1) := by decide +kernel
theorem dX12_askIn_34 : decode cX12_askIn 34 = .ok (.aload_n 0, 1) := by decide +kernel
theorem dX12_askIn_35 : decode cX12_askIn 35 = .ok (.getfield 9, 3) := by decide +kernel
theorem dX12_askIn_38 : decode cX12_askIn 38 = .ok (.iconst 2, 1) := by decide +kernel
theorem dX12_askIn_39 : decode cX12_askIn 39 = .ok (.iaload, 1) := by decide +kernel
theorem dX12_askIn_40 : decode cX12_askIn 40 = .ok (.if_icmp .ge 66, 3) := by decide +kernel
theorem dX12_askIn_43 : decode cX12_askIn 43 = .ok (.iload_n 2, 1) := by decide +kernel
theorem dX12_askIn_44 : decode cX12_askIn 44 = .ok (.iconst 4, 1) := by decide +kernel
theorem dX12_askIn_45 : decode cX12_askIn 45 = .ok (.if_icmp .ge 61, 3) := by decide +kernel
theorem dX12_askIn_48 : decode cX12_askIn 48 = .ok (.aload_n 0, 1) := by decide +kernel
theorem dX12_askIn_49 : decode cX12_askIn 49 = .ok (.getfield 9, 3) := by decide +kernel
theorem dX12_askIn_52 : decode cX12_askIn 52 = .ok (.iconst 3, 1) := by decide +kernel
theorem dX12_askIn_53 : decode cX12_askIn 53 = .ok (.dup2, 1) := by decide +kernel
theorem dX12_askIn_54 : decode cX12_askIn 54 = .ok (.iaload, 1) := by decide +kernel
theorem dX12_askIn_55 : decode cX12_askIn 55 = .ok (.iconst 1, 1) := by decide +kernel
theorem dX12_askIn_56 : decode cX12_askIn 56 = .ok (.iadd, 1) := by decide +kernel
theorem dX12_askIn_57 : decode cX12_askIn 57 = .ok (.iastore, 1) := by decide +kernel
theorem dX12_askIn_58 : decode cX12_askIn 58 = .ok (.aload_n 0, 1) := by decide +kernel
theorem dX12_askIn_59 : decode cX12_askIn 59 = .ok (.getfield 22, 3) := by decide +kernel
theorem dX12_askIn_62 : decode cX12_askIn 62 = .ok (.iload_n 2, 1) := by decide +kernel
theorem dX12_askIn_63 : decode cX12_askIn 63 = .ok (.iconst (-1), 1) := by decide +kernel
theorem dX12_askIn_64 : decode cX12_askIn 64 = .ok (.iastore, 1) := by decide +kernel
theorem dX12_askIn_65 : decode cX12_askIn 65 = .ok (.aload_n 0, 1) := by decide +kernel
theorem dX12_askIn_66 : decode cX12_askIn 66 = .ok (.getfield 28, 3) := by decide +kernel
theorem dX12_askIn_69 : decode cX12_askIn 69 = .ok (.iload_n 2, 1) := by decide +kernel
theorem dX12_askIn_70 : decode cX12_askIn 70 = .ok (.iconst 0, 1) := by decide +kernel
theorem dX12_askIn_71 : decode cX12_askIn 71 = .ok (.iastore, 1) := by decide +kernel
theorem dX12_askIn_72 : decode cX12_askIn 72 = .ok (.aload_n 0, 1) := by decide +kernel
theorem dX12_askIn_73 : decode cX12_askIn 73 = .ok (.getfield 19, 3) := by decide +kernel
theorem dX12_askIn_76 : decode cX12_askIn 76 = .ok (.iconst 4, 1) := by decide +kernel
theorem dX12_askIn_77 : decode cX12_askIn 77 = .ok (.iload_n 2, 1) := by decide +kernel
theorem dX12_askIn_78 : decode cX12_askIn 78 = .ok (.imul, 1) := by decide +kernel
theorem dX12_askIn_79 : decode cX12_askIn 79 = .ok (.iload_n 3, 1) := by decide +kernel
theorem dX12_askIn_80 : decode cX12_askIn 80 = .ok (.iadd, 1) := by decide +kernel
theorem dX12_askIn_81 : decode cX12_askIn 81 = .ok (.bipush 10, 2) := by decide +kernel
theorem dX12_askIn_83 : decode cX12_askIn 83 = .ok (.iastore, 1) := by decide +kernel
theorem dX12_askIn_84 : decode cX12_askIn 84 = .ok (.aload_n 0, 1) := by decide +kernel
theorem dX12_askIn_85 : decode cX12_askIn 85 = .ok (.iload_n 3, 1) := by decide +kernel
theorem dX12_askIn_86 : decode cX12_askIn 86 = .ok (.invokevirtual 462, 3) := by decide +kernel
theorem dX12_askIn_89 : decode cX12_askIn 89 = .ok (.aload_n 0, 1) := by decide +kernel
theorem dX12_askIn_90 : decode cX12_askIn 90 = .ok (.getfield 19, 3) := by decide +kernel
theorem dX12_askIn_93 : decode cX12_askIn 93 = .ok (.iconst 4, 1) := by decide +kernel
theorem dX12_askIn_94 : decode cX12_askIn 94 = .ok (.iload_n 2, 1) := by decide +kernel
theorem dX12_askIn_95 : decode cX12_askIn 95 = .ok (.imul, 1) := by decide +kernel
theorem dX12_askIn_96 : decode cX12_askIn 96 = .ok (.iload_n 3, 1) := by decide +kernel
theorem dX12_askIn_97 : decode cX12_askIn 97 = .ok (.iadd, 1) := by decide +kernel
theorem dX12_askIn_98 : decode cX12_askIn 98 = .ok (.iconst (-1), 1) := by decide +kernel
theorem dX12_askIn_99 : decode cX12_askIn 99 = .ok (.iastore, 1) := by decide +kernel
theorem dX12_askIn_100 : decode cX12_askIn 100 = .ok (.iinc 3 1, 3) := by decide +kernel
theorem dX12_askIn_103 : decode cX12_askIn 103 = .ok (.goto (-70), 3) := by decide +kernel
theorem dX12_askIn_106 : decode cX12_askIn 106 = .ok (.iload_n 1, 1) := by decide +kernel
theorem dX12_askIn_107 : decode cX12_askIn 107 = .ok (.ifCond .ne 10, 3) := by decide +kernel
theorem dX12_askIn_110 : decode cX12_askIn 110 = .ok (.aload_n 0, 1) := by decide +kernel
theorem dX12_askIn_111 : decode cX12_askIn 111 = .ok (.getfield 459, 3) := by decide +kernel
theorem dX12_askIn_114 : decode cX12_askIn 114 = .ok (.goto 7, 3) := by decide +kernel
theorem dX12_askIn_117 : decode cX12_askIn 117 = .ok (.aload_n 0, 1) := by decide +kernel
theorem dX12_askIn_118 : decode cX12_askIn 118 = .ok (.getfield 456, 3) := by decide +kernel
theorem dX12_askIn_121 : decode cX12_askIn 121 = .ok (.ireturn, 1) := by decide +kernel
theorem dX12_late_0 : decode cX12_late 0 = .ok (.aload_n 0, 1) := by decide +kernel
theorem dX12_late_1 : decode cX12_late 1 = .ok (.iload_n 1, 1) := by decide +kernel
theorem dX12_late_2 : decode cX12_late 2 = .ok (.invokevirtual 367, 3) := by decide +kernel
theorem dX12_late_5 : decode cX12_late 5 = .ok (.ifCond .ne 5, 3) := by decide +kernel
theorem dX12_late_8 : decode cX12_late 8 = .ok (.iconst (-1), 1) := by decide +kernel
theorem dX12_late_9 : decode cX12_late 9 = .ok (.ireturn, 1) := by decide +kernel
theorem dX12_late_10 : decode cX12_late 10 = .ok (.aload_n 0, 1) := by decide +kernel
theorem dX12_late_11 : decode cX12_late 11 = .ok (.getfield 9, 3) := by decide +kernel
theorem dX12_late_14 : decode cX12_late 14 = .ok (.iconst 4, 1) := by decide +kernel
theorem dX12_late_15 : decode cX12_late 15 = .ok (.iaload, 1) := by decide +kernel
theorem dX12_late_16 : decode cX12_late 16 = .ok (.istore_n 2, 1) := by decide +kernel
theorem dX12_late_17 : decode cX12_late 17 = .ok (.iload_n 2, 1) := by decide +kernel
theorem dX12_late_18 : decode cX12_late 18 = .ok (.bipush 7, 2) := by decide +kernel
theorem dX12_late_20 : decode cX12_late 20 = .ok (.if_icmp .ne 6, 3) := by decide +kernel
theorem dX12_late_23 : decode cX12_late 23 = .ok (.bipush (-2), 2) := by decide +kernel
theorem dX12_late_25 : decode cX12_late 25 = .ok (.ireturn, 1) := by decide +kernel
theorem dX12_late_26 : decode cX12_late 26 = .ok (.aload_n 0, 1) := by decide +kernel
theorem dX12_late_27 : decode cX12_late 27 = .ok (.invokevirtual 441, 3) := by decide +kernel
theorem dX12_late_30 : decode cX12_late 30 = .ok (.bipush (-2), 2) := by decide +kernel
theorem dX12_late_32 : decode cX12_late 32 = .ok (.istore_n 3, 1) := by decide +kernel
theorem dX12_late_33 : decode cX12_late 33 = .ok (.aload_n 0, 1) := by decide +kernel
theorem dX12_late_34 : decode cX12_late 34 = .ok (.getfield 9, 3) := by decide +kernel
theorem dX12_late_37 : decode cX12_late 37 = .ok (.iconst 0, 1) := by decide +kernel
theorem dX12_late_38 : decode cX12_late 38 = .ok (.iaload, 1) := by decide +kernel
theorem dX12_late_39 : decode cX12_late 39 = .ok (.istore 4, 2) := by decide +kernel
theorem dX12_late_41 : decode cX12_late 41 = .ok (.iload 4, 2) := by decide +kernel
theorem dX12_late_43 : decode cX12_late 43 = .ok (.aload_n 0, 1) := by decide +kernel
theorem dX12_late_44 : decode cX12_late 44 = .ok (.getfield 9, 3) := by decide +kernel
theorem dX12_late_47 : decode cX12_late 47 = .ok (.iconst 5, 1) := by decide +kernel
theorem dX12_late_48 : decode cX12_late 48 = .ok (.iaload, 1) := by decide +kernel
theorem dX12_late_49 : decode cX12_late 49 = .ok (.if_icmp .lt 90, 3) := by decide +kernel
theorem dX12_late_52 : decode cX12_late 52 = .ok (.iload_n 3, 1) := by decide +kernel
theorem dX12_late_53 : decode cX12_late 53 = .ok (.bipush (-2), 2) := by decide +kernel
theorem dX12_late_55 : decode cX12_late 55 = .ok (.if_icmp .ne 84, 3) := by decide +kernel
theorem dX12_late_58 : decode cX12_late 58 = .ok (.aload_n 0, 1) := by decide +kernel
theorem dX12_late_59 : decode cX12_late 59 = .ok (.getfield 9, 3) := by decide +kernel
theorem dX12_late_62 : decode cX12_late 62 = .ok (.iconst 4, 1) := by decide +kernel
theorem dX12_late_63 : decode cX12_late 63 = .ok (.dup2, 1) := by decide +kernel
theorem dX12_late_64 : decode cX12_late 64 = .ok (.iaload, 1) := by decide +kernel
theorem dX12_late_65 : decode cX12_late 65 = .ok (.iconst 1, 1) := by decide +kernel
theorem dX12_late_66 : decode cX12_late 66 = .ok (.iadd, 1) := by decide +kernel
theorem dX12_late_67 : decode cX12_late 67 = .ok (.iastore, 1) := by decide +kernel
theorem dX12_late_68 : decode cX12_late 68 = .ok (.aload_n 0, 1) := by decide +kernel
theorem dX12_late_69 : decode cX12_late 69 = .ok (.getfield 34, 3) := by decide +kernel
theorem dX12_late_72 : decode cX12_late 72 = .ok (.iload_n 2, 1) := by decide +kernel
theorem dX12_late_73 : decode cX12_late 73 = .ok (.iload_n 1, 1) := by decide +kernel
theorem dX12_late_74 : decode cX12_late 74 = .ok (.iastore, 1) := by decide +kernel
theorem dX12_late_75 : decode cX12_late 75 = .ok (.aload_n 0, 1) := by decide +kernel
theorem dX12_late_76 : decode cX12_late 76 = .ok (.getfield 37, 3) := by decide +kernel
theorem dX12_late_79 : decode cX12_late 79 = .ok (.iload_n 2, 1) := by decide +kernel
theorem dX12_late_80 : decode cX12_late 80 = .ok (.iload 4, 2) := by decide +kernel
theorem dX12_late_82 : decode cX12_late 82 = .ok (.iastore, 1) := by decide +kernel
theorem dX12_late_83 : decode cX12_late 83 = .ok (.aload_n 0, 1) := by decide +kernel
theorem dX12_late_84 : decode cX12_late 84 = .ok (.getfield 40, 3) := by decide +kernel
theorem dX12_late_87 : decode cX12_late 87 = .ok (.iload_n 2, 1) := by decide +kernel
theorem dX12_late_88 : decode cX12_late 88 = .ok (.iconst 1, 1) := by decide +kernel
theorem dX12_late_89 : decode cX12_late 89 = .ok (.iastore, 1) := by decide +kernel
theorem dX12_late_90 : decode cX12_late 90 = .ok (.aload_n 0, 1) := by decide +kernel
theorem dX12_late_91 : decode cX12_late 91 = .ok (.getfield 43, 3) := by decide +kernel
theorem dX12_late_94 : decode cX12_late 94 = .ok (.iload_n 2, 1) := by decide +kernel
theorem dX12_late_95 : decode cX12_late 95 = .ok (.iconst 0, 1) := by decide +kernel
theorem dX12_late_96 : decode cX12_late 96 = .ok (.iastore, 1) := by decide +kernel
theorem dX12_late_97 : decode cX12_late 97 = .ok (.aload_n 0, 1) := by decide +kernel
theorem dX12_late_98 : decode cX12_late 98 = .ok (.getfield 46, 3) := by decide +kernel
theorem dX12_late_101 : decode cX12_late 101 = .ok (.iload_n 2, 1) := by decide +kernel
theorem dX12_late_102 : decode cX12_late 102 = .ok (.iconst 0, 1) := by decide +kernel
theorem dX12_late_103 : decode cX12_late 103 = .ok (.iastore, 1) := by decide +kernel
theorem dX12_late_104 : decode cX12_late 104 = .ok (.aload_n 0, 1) := by decide +kernel
theorem dX12_late_105 : decode cX12_late 105 = .ok (.sipush 400, 3) := by decide +kernel
theorem dX12_late_108 : decode cX12_late 108 = .ok (.invokevirtual 444, 3) := by decide +kernel
theorem dX12_late_111 : decode cX12_late 111 = .ok (.aload_n 0, 1) := by decide +kernel
theorem dX12_late_112 : decode cX12_late 112 = .ok (.getfield 46, 3) := by decide +kernel
theorem dX12_late_115 : decode cX12_late 115 = .ok (.iload_n 2, 1) := by decide +kernel
theorem dX12_late_116 : decode cX12_late 116 = .ok (.iaload, 1) := by decide +kernel
theorem dX12_late_117 : decode cX12_late 117 = .ok (.iconst 3, 1) := by decide +kernel
theorem dX12_late_118 : decode cX12_late 118 = .ok (.if_icmp .ne 8, 3) := by decide +kernel
theorem dX12_late_121 : decode cX12_late 121 = .ok (.iload 4, 2) := by decide +kernel
theorem dX12_late_123 : decode cX12_late 123 = .ok (.goto 5, 3) := by decide +kernel
theorem dX12_late_126 : decode cX12_late 126 = .ok (.bipush (-2), 2) := by decide +kernel
theorem dX12_late_128 : decode cX12_late 128 = .ok (.istore_n 3, 1) := by decide +kernel
theorem dX12_late_129 : decode cX12_late 129 = .ok (.aload_n 0, 1) := by decide +kernel
theorem dX12_late_130 : decode cX12_late 130 = .ok (.invokevirtual 450, 3) := by decide +kernel
theorem dX12_late_133 : decode cX12_late 133 = .ok (.iinc 4 (-1), 3) := by decide +kernel
theorem dX12_late_136 : decode cX12_late 136 = .ok (.goto (-95), 3) := by decide +kernel
theorem dX12_late_139 : decode cX12_late 139 = .ok (.iload_n 3, 1) := by decide +kernel
theorem dX12_late_140 : decode cX12_late 140 = .ok (.ireturn, 1) := by decide +kernel
theorem dX12_idle_0 : decode cX12_idle 0 = .ok (.aload_n 0, 1) := by decide +kernel
theorem dX12_idle_1 : decode cX12_idle 1 = .ok (.iload_n 1, 1) := by decide +kernel
theorem dX12_idle_2 : decode cX12_idle 2 = .ok (.invokevirtual 364, 3) := by decide +kernel
theorem dX12_idle_5 : decode cX12_idle 5 = .ok (.ifCond .ne 5, 3) := by decide +kernel
theorem dX12_idle_8 : decode cX12_idle 8 = .ok (.iconst (-1), 1) := by decide +kernel
theorem dX12_idle_9 : decode cX12_idle 9 = .ok (.ireturn, 1) := by decide +kernel
theorem dX12_idle_10 : decode cX12_idle 10 = .ok (.aload_n 0, 1) := by decide +kernel
theorem dX12_idle_11 : decode cX12_idle 11 = .ok (.invokevirtual 441, 3) := by decide +kernel
theorem dX12_idle_14 : decode cX12_idle 14 = .ok (.aload_n 0, 1) := by decide +kernel
theorem dX12_idle_15 : decode cX12_idle 15 = .ok (.getfield 9, 3) := by decide +kernel
theorem dX12_idle_18 : decode cX12_idle 18 = .ok (.iconst 5, 1) := by decide +kernel
theorem dX12_idle_19 : decode cX12_idle 19 = .ok (.iaload, 1) := by decide +kernel
theorem dX12_idle_20 : decode cX12_idle 20 = .ok (.aload_n 0, 1) := by decide +kernel
theorem dX12_idle_21 : decode cX12_idle 21 = .ok (.getfield 9, 3) := by decide +kernel
theorem dX12_idle_24 : decode cX12_idle 24 = .ok (.iconst 0, 1) := by decide +kernel
theorem dX12_idle_25 : decode cX12_idle 25 = .ok (.iaload, 1) := by decide +kernel
theorem dX12_idle_26 : decode cX12_idle 26 = .ok (.if_icmp .ge 11, 3) := by decide +kernel
theorem dX12_idle_29 : decode cX12_idle 29 = .ok (.aload_n 0, 1) := by decide +kernel
theorem dX12_idle_30 : decode cX12_idle 30 = .ok (.invokevirtual 404, 3) := by decide +kernel
theorem dX12_idle_33 : decode cX12_idle 33 = .ok (.pop, 1) := by decide +kernel
theorem dX12_idle_34 : decode cX12_idle 34 = .ok (.goto (-20), 3) := by decide +kernel
theorem dX12_idle_37 : decode cX12_idle 37 = .ok (.aload_n 0, 1) := by decide +kernel
theorem dX12_idle_38 : decode cX12_idle 38 = .ok (.getfield 31, 3) := by decide +kernel
theorem dX12_idle_41 : decode cX12_idle 41 = .ok (.iload_n 1, 1) := by decide +kernel
theorem dX12_idle_42 : decode cX12_idle 42 = .ok (.iaload, 1) := by decide +kernel
theorem dX12_idle_43 : decode cX12_idle 43 = .ok (.istore_n 2, 1) := by decide +kernel
theorem dX12_idle_44 : decode cX12_idle 44 = .ok (.aload_n 0, 1) := by decide +kernel
theorem dX12_idle_45 : decode cX12_idle 45 = .ok (.invokevirtual 450, 3) := by decide +kernel
theorem dX12_idle_48 : decode cX12_idle 48 = .ok (.iload_n 2, 1) := by decide +kernel
theorem dX12_idle_49 : decode cX12_idle 49 = .ok (.ireturn, 1) := by decide +kernel
theorem dX12_laysRow_0 : decode cX12_laysRow 0 = .ok (.aload_n 0, 1) := by decide +kernel
theorem dX12_laysRow_1 : decode cX12_laysRow 1 = .ok (.getfield 9, 3) := by decide +kernel
theorem dX12_laysRow_4 : decode cX12_laysRow 4 = .ok (.iconst 4, 1) := by decide +kernel
theorem dX12_laysRow_5 : decode cX12_laysRow 5 = .ok (.iaload, 1) := by decide +kernel
theorem dX12_laysRow_6 : decode cX12_laysRow 6 = .ok (.iconst 1, 1) := by decide +kernel
theorem dX12_laysRow_7 : decode cX12_laysRow 7 = .ok (.iadd, 1) := by decide +kernel
theorem dX12_laysRow_8 : decode cX12_laysRow 8 = .ok (.istore_n 2, 1) := by decide +kernel
theorem dX12_laysRow_9 : decode cX12_laysRow 9 = .ok (.iload_n 1, 1) := by decide +kernel
theorem dX12_laysRow_10 : decode cX12_laysRow 10 = .ok (.istore_n 3, 1) := by decide +kernel
theorem dX12_laysRow_11 : decode cX12_laysRow 11 = .ok (.iconst 0, 1) := by decide +kernel
theorem dX12_laysRow_12 : decode cX12_laysRow 12 = .ok (.istore 4, 2) := by decide +kernel
theorem dX12_laysRow_14 : decode cX12_laysRow 14 = .ok (.aload_n 0, 1) := by decide +kernel
theorem dX12_laysRow_15 : decode cX12_laysRow 15 = .ok (.iconst 0, 1) := by decide +kernel
theorem dX12_laysRow_16 : decode cX12_laysRow 16 = .ok (.putfield 468, 3) := by decide +kernel
theorem dX12_laysRow_19 : decode cX12_laysRow 19 = .ok (.aload_n 0, 1) := by decide +kernel
theorem dX12_laysRow_20 : decode cX12_laysRow 20 = .ok (.iconst 0, 1) := by decide +kernel
theorem dX12_laysRow_21 : decode cX12_laysRow 21 = .ok (.putfield 471, 3) := by decide +kernel
theorem dX12_laysRow_24 : decode cX12_laysRow 24 = .ok (.iconst 0, 1) := by decide +kernel
theorem dX12_laysRow_25 : decode cX12_laysRow 25 = .ok (.istore 5, 2) := by decide +kernel
theorem dX12_laysRow_27 : decode cX12_laysRow 27 = .ok (.iload 5, 2) := by decide +kernel
theorem dX12_laysRow_29 : decode cX12_laysRow 29 = .ok (.iconst 4, 1) := by decide +kernel
theorem dX12_laysRow_30 : decode cX12_laysRow 30 = .ok (.if_icmp .ge 17, 3) := by decide +kernel
theorem dX12_laysRow_33 : decode cX12_laysRow 33 = .ok (.aload_n 0, 1) := by decide +kernel
theorem dX12_laysRow_34 : decode cX12_laysRow 34 = .ok (.getfield 136, 3) := by decide +kernel
theorem dX12_laysRow_37 : decode cX12_laysRow 37 = .ok (.iload 5, 2) := by decide +kernel
theorem dX12_laysRow_39 : decode cX12_laysRow 39 = .ok (.iconst 0, 1) := by decide +kernel
theorem dX12_laysRow_40 : decode cX12_laysRow 40 = .ok (.iastore, 1) := by decide +kernel
theorem dX12_laysRow_41 : decode cX12_laysRow 41 = .ok (.iinc 5 1, 3) := by decide +kernel
theorem dX12_laysRow_44 : decode cX12_laysRow 44 = .ok (.goto (-17), 3) := by decide +kernel
theorem dX12_laysRow_47 : decode cX12_laysRow 47 = .ok (.aload_n 0, 1) := by decide +kernel
theorem dX12_laysRow_48 : decode cX12_laysRow 48 = .ok (.getfield 9, 3) := by decide +kernel
theorem dX12_laysRow_51 : decode cX12_laysRow 51 = .ok (.iconst 3, 1) := by decide +kernel
theorem dX12_laysRow_52 : decode cX12_laysRow 52 = .ok (.iaload, 1) := by decide +kernel
theorem dX12_laysRow_53 : decode cX12_laysRow 53 = .ok (.iconst 1, 1) := by decide +kernel
theorem dX12_laysRow_54 : decode cX12_laysRow 54 = .ok (.isub, 1) := by decide +kernel
theorem dX12_laysRow_55 : decode cX12_laysRow 55 = .ok (.istore 5, 2) := by decide +kernel
theorem dX12_laysRow_57 : decode cX12_laysRow 57 = .ok (.iload 5, 2) := by decide +kernel
theorem dX12_laysRow_59 : decode cX12_laysRow 59 = .ok (.ifCond .lt 160, 3) := by decide +kernel
theorem dX12_laysRow_62 : decode cX12_laysRow 62 = .ok (.iload_n 3, 1) := by decide +kernel
theorem dX12_laysRow_63 : decode cX12_laysRow 63 = .ok (.iload_n 2, 1) := by decide +kernel
theorem dX12_laysRow_64 : decode cX12_laysRow 64 = .ok (.irem, 1) := by decide +kernel
theorem dX12_laysRow_65 : decode cX12_laysRow 65 = .ok (.iconst 1, 1) := by decide +kernel
theorem dX12_laysRow_66 : decode cX12_laysRow 66 = .ok (.isub, 1) := by decide +kernel
theorem dX12_laysRow_67 : decode cX12_laysRow 67 = .ok (.istore 6, 2) := by decide +kernel
theorem dX12_laysRow_69 : decode cX12_laysRow 69 = .ok (.iload_n 3, 1) := by decide +kernel
theorem dX12_laysRow_70 : decode cX12_laysRow 70 = .ok (.iload_n 2, 1) := by decide +kernel
theorem dX12_laysRow_71 : decode cX12_laysRow 71 = .ok (.idiv, 1) := by decide +kernel
theorem dX12_laysRow_72 : decode cX12_laysRow 72 = .ok (.istore_n 3, 1) := by decide +kernel
theorem dX12_laysRow_73 : decode cX12_laysRow 73 = .ok (.aload_n 0, 1) := by decide +kernel
theorem dX12_laysRow_74 : decode cX12_laysRow 74 = .ok (.getfield 130, 3) := by decide +kernel
theorem dX12_laysRow_77 : decode cX12_laysRow 77 = .ok (.iload 5, 2) := by decide +kernel
theorem dX12_laysRow_79 : decode cX12_laysRow 79 = .ok (.iload 6, 2) := by decide +kernel
theorem dX12_laysRow_81 : decode cX12_laysRow 81 = .ok (.iastore, 1) := by decide +kernel
theorem dX12_laysRow_82 : decode cX12_laysRow 82 = .ok (.iload 6, 2) := by decide +kernel
theorem dX12_laysRow_84 : decode cX12_laysRow 84 = .ok (.iconst (-1), 1) := by decide +kernel
theorem dX12_laysRow_85 : decode cX12_laysRow 85 = .ok (.if_icmp .eq 128, 3) := by decide +kernel
theorem dX12_laysRow_88 : decode cX12_laysRow 88 = .ok (.aload_n 0, 1) := by decide +kernel
theorem dX12_laysRow_89 : decode cX12_laysRow 89 = .ok (.iload 5, 2) := by decide +kernel
theorem dX12_laysRow_91 : decode cX12_laysRow 91 = .ok (.invokevirtual 431, 3) := by decide +kernel
theorem dX12_laysRow_94 : decode cX12_laysRow 94 = .ok (.ifCond .eq 24, 3) := by decide +kernel
theorem dX12_laysRow_97 : decode cX12_laysRow 97 = .ok (.iload 4, 2) := by decide +kernel
theorem dX12_laysRow_99 : decode cX12_laysRow 99 = .ok (.iload 6, 2) := by decide +kernel
theorem dX12_laysRow_101 : decode cX12_laysRow 101 = .ok (.invokestatic 474, 3) := by decide +kernel
theorem dX12_laysRow_104 : decode cX12_laysRow 104 = .ok (.ifCond .ne 14, 3) := by decide +kernel
theorem dX12_laysRow_107 : decode cX12_laysRow 107 = .ok (.aload_n 0, 1) := by decide +kernel
theorem dX12_laysRow_108 : decode cX12_laysRow 108 = .ok (.iload 5, 2) := by decide +kernel
theorem dX12_laysRow_110 : decode cX12_laysRow 110 = .ok (.iload 6, 2) := by decide +kernel
theorem dX12_laysRow_112 : decode cX12_laysRow 112 = .ok (.invokevirtual 383, 3) := by decide +kernel
theorem dX12_laysRow_115 : decode cX12_laysRow 115 = .ok (.ifCond .ne 5, 3) := by decide +kernel
theorem dX12_laysRow_118 : decode cX12_laysRow 118 = .ok (.iconst 0, 1) := by decide +kernel
theorem dX12_laysRow_119 : decode cX12_laysRow 119 = .ok (.ireturn, 1) := by decide +kernel
theorem dX12_laysRow_120 : decode cX12_laysRow 120 = .ok (.iload 4, 2) := by decide +kernel
theorem dX12_laysRow_122 : decode cX12_laysRow 122 = .ok (.iconst 1, 1) := by decide +kernel
theorem dX12_laysRow_123 : decode cX12_laysRow 123 = .ok (.iload 6, 2) := by decide +kernel
theorem dX12_laysRow_125 : decode cX12_laysRow 125 = .ok (.ishl, 1) := by decide +kernel
theorem dX12_laysRow_126 : decode cX12_laysRow 126 = .ok (.ior, 1) := by decide +kernel
theorem dX12_laysRow_127 : decode cX12_laysRow 127 = .ok (.istore 4, 2) := by decide +kernel
theorem dX12_laysRow_129 : decode cX12_laysRow 129 = .ok (.aload_n 0, 1) := by decide +kernel
theorem dX12_laysRow_130 : decode cX12_laysRow 130 = .ok (.getfield 136, 3) := by decide +kernel
theorem dX12_laysRow_133 : decode cX12_laysRow 133 = .ok (.aload_n 0, 1) := by decide +kernel
theorem dX12_laysRow_134 : decode cX12_laysRow 134 = .ok (.getfield 34, 3) := by decide +kernel
theorem dX12_laysRow_137 : decode cX12_laysRow 137 = .ok (.iload 6, 2) := by decide +kernel
theorem dX12_laysRow_139 : decode cX12_laysRow 139 = .ok (.iaload, 1) := by decide +kernel
theorem dX12_laysRow_140 : decode cX12_laysRow 140 = .ok (.dup2, 1) := by decide +kernel
theorem dX12_laysRow_141 : decode cX12_laysRow 141 = .ok (.iaload, 1) := by decide +kernel
theorem dX12_laysRow_142 : decode cX12_laysRow 142 = .ok (.aload_n 0, 1) := by decide +kernel
theorem dX12_laysRow_143 : decode cX12_laysRow 143 = .ok (.getfield 43, 3) := by decide +kernel
theorem dX12_laysRow_146 : decode cX12_laysRow 146 = .ok (.iload 6, 2) := by decide +kernel
theorem dX12_laysRow_148 : decode cX12_laysRow 148 = .ok (.iaload, 1) := by decide +kernel
theorem dX12_laysRow_149 : decode cX12_laysRow 149 = .ok (.iadd, 1) := by decide +kernel
theorem dX12_laysRow_150 : decode cX12_laysRow 150 = .ok (.iastore, 1) := by decide +kernel
theorem dX12_laysRow_151 : decode cX12_laysRow 151 = .ok (.aload_n 0, 1) := by decide +kernel
theorem dX12_laysRow_152 : decode cX12_laysRow 152 = .ok (.dup, 1) := by decide +kernel
theorem dX12_laysRow_153 : decode cX12_laysRow 153 = .ok (.getfield 468, 3) := by decide +kernel
theorem dX12_laysRow_156 : decode cX12_laysRow 156 = .ok (.aload_n 0, 1) := by decide +kernel
theorem dX12_laysRow_157 : decode cX12_laysRow 157 = .ok (.getfield 40, 3) := by decide +kernel
theorem dX12_laysRow_160 : decode cX12_laysRow 160 = .ok (.iload 6, 2) := by decide +kernel
theorem dX12_laysRow_162 : decode cX12_laysRow 162 = .ok (.iaload, 1) := by decide +kernel
theorem dX12_laysRow_163 : decode cX12_laysRow 163 = .ok (.iadd, 1) := by decide +kernel
theorem dX12_laysRow_164 : decode cX12_laysRow 164 = .ok (.putfield 468, 3) := by decide +kernel
theorem dX12_laysRow_167 : decode cX12_laysRow 167 = .ok (.aload_n 0, 1) := by decide +kernel
theorem dX12_laysRow_168 : decode cX12_laysRow 168 = .ok (.dup, 1) := by decide +kernel
theorem dX12_laysRow_169 : decode cX12_laysRow 169 = .ok (.getfield 471, 3) := by decide +kernel
theorem dX12_laysRow_172 : decode cX12_laysRow 172 = .ok (.aload_n 0, 1) := by decide +kernel
theorem dX12_laysRow_173 : decode cX12_laysRow 173 = .ok (.iload 5, 2) := by decide +kernel
theorem dX12_laysRow_175 : decode cX12_laysRow 175 = .ok (.iload 6, 2) := by decide +kernel
theorem dX12_laysRow_177 : decode cX12_laysRow 177 = .ok (.invokevirtual 370, 3) := by decide +kernel
theorem dX12_laysRow_180 : decode cX12_laysRow 180 = .ok (.iadd, 1) := by decide +kernel
theorem dX12_laysRow_181 : decode cX12_laysRow 181 = .ok (.putfield 471, 3) := by decide +kernel
theorem dX12_laysRow_184 : decode cX12_laysRow 184 = .ok (.aload_n 0, 1) := by decide +kernel
theorem dX12_laysRow_185 : decode cX12_laysRow 185 = .ok (.getfield 136, 3) := by decide +kernel
theorem dX12_laysRow_188 : decode cX12_laysRow 188 = .ok (.aload_n 0, 1) := by decide +kernel
theorem dX12_laysRow_189 : decode cX12_laysRow 189 = .ok (.getfield 34, 3) := by decide +kernel
theorem dX12_laysRow_192 : decode cX12_laysRow 192 = .ok (.iload 6, 2) := by decide +kernel
theorem dX12_laysRow_194 : decode cX12_laysRow 194 = .ok (.iaload, 1) := by decide +kernel
theorem dX12_laysRow_195 : decode cX12_laysRow 195 = .ok (.iaload, 1) := by decide +kernel
theorem dX12_laysRow_196 : decode cX12_laysRow 196 = .ok (.aload_n 0, 1) := by decide +kernel
theorem dX12_laysRow_197 : decode cX12_laysRow 197 = .ok (.getfield 16, 3) := by decide +kernel
theorem dX12_laysRow_200 : decode cX12_laysRow 200 = .ok (.aload_n 0, 1) := by decide +kernel
theorem dX12_laysRow_201 : decode cX12_laysRow 201 = .ok (.getfield 34, 3) := by decide +kernel
theorem dX12_laysRow_204 : decode cX12_laysRow 204 = .ok (.iload 6, 2) := by decide +kernel
theorem dX12_laysRow_206 : decode cX12_laysRow 206 = .ok (.iaload, 1) := by decide +kernel
theorem dX12_laysRow_207 : decode cX12_laysRow 207 = .ok (.iaload, 1) := by decide +kernel
theorem dX12_laysRow_208 : decode cX12_laysRow 208 = .ok (.if_icmp .le 5, 3) := by decide +kernel
theorem dX12_laysRow_211 : decode cX12_laysRow 211 = .ok (.iconst 0, 1) := by decide +kernel
theorem dX12_laysRow_212 : decode cX12_laysRow 212 = .ok (.ireturn, 1) := by decide +kernel
theorem dX12_laysRow_213 : decode cX12_laysRow 213 = .ok (.iinc 5 (-1), 3) := by decide +kernel
theorem dX12_laysRow_216 : decode cX12_laysRow 216 = .ok (.goto (-159), 3) := by decide +kernel
theorem dX12_laysRow_219 : decode cX12_laysRow 219 = .ok (.iconst 1, 1) := by decide +kernel
theorem dX12_laysRow_220 : decode cX12_laysRow 220 = .ok (.ireturn, 1) := by decide +kernel
theorem dX12_match_0 : decode cX12_match 0 = .ok (.aload_n 0, 1) := by decide +kernel
theorem dX12_match_1 : decode cX12_match 1 = .ok (.invokevirtual 425, 3) := by decide +kernel
theorem dX12_match_4 : decode cX12_match 4 = .ok (.ifCond .eq 15, 3) := by decide +kernel
theorem dX12_match_7 : decode cX12_match 7 = .ok (.iload_n 1, 1) := by decide +kernel
theorem dX12_match_8 : decode cX12_match 8 = .ok (.i2l, 1) := by decide +kernel
theorem dX12_match_9 : decode cX12_match 9 = .ok (.lconst 0, 1) := by decide +kernel
theorem dX12_match_10 : decode cX12_match 10 = .ok (.ldc2_w 477, 3) := by decide +kernel
theorem dX12_match_13 : decode cX12_match 13 = .ok (.invokestatic 155, 3) := by decide +kernel
theorem dX12_match_16 : decode cX12_match 16 = .ok (.ifCond .ne 6, 3) := by decide +kernel
theorem dX12_match_19 : decode cX12_match 19 = .ok (.bipush (-3), 2) := by decide +kernel
theorem dX12_match_21 : decode cX12_match 21 = .ok (.ireturn, 1) := by decide +kernel
theorem dX12_match_22 : decode cX12_match 22 = .ok (.iconst 1, 1) := by decide +kernel
theorem dX12_match_23 : decode cX12_match 23 = .ok (.istore_n 2, 1) := by decide +kernel
theorem dX12_match_24 : decode cX12_match 24 = .ok (.iconst 0, 1) := by decide +kernel
theorem dX12_match_25 : decode cX12_match 25 = .ok (.istore_n 3, 1) := by decide +kernel
theorem dX12_match_26 : decode cX12_match 26 = .ok (.iload_n 3, 1) := by decide +kernel
theorem dX12_match_27 : decode cX12_match 27 = .ok (.aload_n 0, 1) := by decide +kernel
theorem dX12_match_28 : decode cX12_match 28 = .ok (.getfield 9, 3) := by decide +kernel
theorem dX12_match_31 : decode cX12_match 31 = .ok (.iconst 3, 1) := by decide +kernel
theorem dX12_match_32 : decode cX12_match 32 = .ok (.iaload, 1) := by decide +kernel
theorem dX12_match_33 : decode cX12_match 33 = .ok (.if_icmp .ge 20, 3) := by decide +kernel
theorem dX12_match_36 : decode cX12_match 36 = .ok (.iload_n 2, 1) := by decide +kernel
theorem dX12_match_37 : decode cX12_match 37 = .ok (.aload_n 0, 1) := by decide +kernel
theorem dX12_match_38 : decode cX12_match 38 = .ok (.getfield 9, 3) := by decide +kernel
theorem dX12_match_41 : decode cX12_match 41 = .ok (.iconst 4, 1) := by decide +kernel
theorem dX12_match_42 : decode cX12_match 42 = .ok (.iaload, 1) := by decide +kernel
theorem dX12_match_43 : decode cX12_match 43 = .ok (.iconst 1, 1) := by decide +kernel
theorem dX12_match_44 : decode cX12_match 44 = .ok (.iadd, 1) := by decide +kernel
theorem dX12_match_45 : decode cX12_match 45 = .ok (.imul, 1) := by decide +kernel
theorem dX12_match_46 : decode cX12_match 46 = .ok (.istore_n 2, 1) := by decide +kernel
theorem dX12_match_47 : decode cX12_match 47 = .ok (.iinc 3 1, 3) := by decide +kernel
theorem dX12_match_50 : decode cX12_match 50 = .ok (.goto (-24), 3) := by decide +kernel
theorem dX12_match_53 : decode cX12_match 53 = .ok (.iconst (-1), 1) := by decide +kernel
theorem dX12_match_54 : decode cX12_match 54 = .ok (.istore_n 3, 1) := by decide +kernel
theorem dX12_match_55 : decode cX12_match 55 = .ok (.iconst 0, 1) := by decide +kernel
theorem dX12_match_56 : decode cX12_match 56 = .ok (.istore 4, 2) := by decide +kernel
theorem dX12_match_58 : decode cX12_match 58 = .ok (.iconst 0, 1) := by decide +kernel
theorem dX12_match_59 : decode cX12_match 59 = .ok (.istore 5, 2) := by decide +kernel
theorem dX12_match_61 : decode cX12_match 61 = .ok (.iload 5, 2) := by decide +kernel
theorem dX12_match_63 : decode cX12_match 63 = .ok (.iload_n 2, 1) := by decide +kernel
theorem dX12_match_64 : decode cX12_match 64 = .ok (.if_icmp .ge 65, 3) := by decide +kernel
theorem dX12_match_67 : decode cX12_match 67 = .ok (.aload_n 0, 1) := by decide +kernel
theorem dX12_match_68 : decode cX12_match 68 = .ok (.iload 5, 2) := by decide +kernel
theorem dX12_match_70 : decode cX12_match 70 = .ok (.invokevirtual 479, 3) := by decide +kernel
theorem dX12_match_73 : decode cX12_match 73 = .ok (.ifCond .eq 50, 3) := by decide +kernel
theorem dX12_match_76 : decode cX12_match 76 = .ok (.aload_n 0, 1) := by decide +kernel
theorem dX12_match_77 : decode cX12_match 77 = .ok (.getfield 468, 3) := by decide +kernel
theorem dX12_match_80 : decode cX12_match 80 = .ok (.iload_n 3, 1) := by decide +kernel
theorem dX12_match_81 : decode cX12_match 81 = .ok (.if_icmp .gt 20, 3) := by decide +kernel
theorem dX12_match_84 : decode cX12_match 84 = .ok (.aload_n 0, 1) := by decide +kernel
theorem dX12_match_85 : decode cX12_match 85 = .ok (.getfield 468, 3) := by decide +kernel
theorem dX12_match_88 : decode cX12_match 88 = .ok (.iload_n 3, 1) := by decide +kernel
theorem dX12_match_89 : decode cX12_match 89 = .ok (.if_icmp .ne 34, 3) := by decide +kernel
theorem dX12_match_92 : decode cX12_match 92 = .ok (.aload_n 0, 1) := by decide +kernel
theorem dX12_match_93 : decode cX12_match 93 = .ok (.getfield 471, 3) := by decide +kernel
theorem dX12_match_96 : decode cX12_match 96 = .ok (.iload 4, 2) := by decide +kernel
theorem dX12_match_98 : decode cX12_match 98 = .ok (.if_icmp .ge 25, 3) := by decide +kernel
theorem dX12_match_101 : decode cX12_match 101 = .ok (.aload_n 0, 1) := by decide +kernel
theorem dX12_match_102 : decode cX12_match 102 = .ok (.getfield 468, 3) := by decide +kernel
theorem dX12_match_105 : decode cX12_match 105 = .ok (.istore_n 3, 1) := by decide +kernel
theorem dX12_match_106 : decode cX12_match 106 = .ok (.aload_n 0, 1) := by decide +kernel
theorem dX12_match_107 : decode cX12_match 107 = .ok (.getfield 471, 3) := by decide +kernel
theorem dX12_match_110 : decode cX12_match 110 = .ok (.istore 4, 2) := by decide +kernel
theorem dX12_match_112 : decode cX12_match 112 = .ok (.aload_n 0, 1) := by decide +kernel
theorem dX12_match_113 : decode cX12_match 113 = .ok (.getfield 130, 3) := by decide +kernel
theorem dX12_match_116 : decode cX12_match 116 = .ok (.aload_n 0, 1) := by decide +kernel
theorem dX12_match_117 : decode cX12_match 117 = .ok (.getfield 133, 3) := by decide +kernel
theorem dX12_match_120 : decode cX12_match 120 = .ok (.invokestatic 317, 3) := by decide +kernel
theorem dX12_match_123 : decode cX12_match 123 = .ok (.iinc 5 1, 3) := by decide +kernel
theorem dX12_match_126 : decode cX12_match 126 = .ok (.goto (-65), 3) := by decide +kernel
theorem dX12_match_129 : decode cX12_match 129 = .ok (.iload_n 1, 1) := by decide +kernel
theorem dX12_match_130 : decode cX12_match 130 = .ok (.iconst 2, 1) := by decide +kernel
theorem dX12_match_131 : decode cX12_match 131 = .ok (.if_icmp .ge 14, 3) := by decide +kernel
theorem dX12_match_134 : decode cX12_match 134 = .ok (.iload_n 1, 1) := by decide +kernel
theorem dX12_match_135 : decode cX12_match 135 = .ok (.ifCond .ne 7, 3) := by decide +kernel
theorem dX12_match_138 : decode cX12_match 138 = .ok (.iload_n 3, 1) := by decide +kernel
theorem dX12_match_139 : decode cX12_match 139 = .ok (.goto 5, 3) := by decide +kernel
theorem dX12_match_142 : decode cX12_match 142 = .ok (.iload 4, 2) := by decide +kernel
theorem dX12_match_144 : decode cX12_match 144 = .ok (.ireturn, 1) := by decide +kernel
theorem dX12_match_145 : decode cX12_match 145 = .ok (.aload_n 0, 1) := by decide +kernel
theorem dX12_match_146 : decode cX12_match 146 = .ok (.iload_n 1, 1) := by decide +kernel
theorem dX12_match_147 : decode cX12_match 147 = .ok (.iconst 2, 1) := by decide +kernel
theorem dX12_match_148 : decode cX12_match 148 = .ok (.isub, 1) := by decide +kernel
theorem dX12_match_149 : decode cX12_match 149 = .ok (.invokevirtual 431, 3) := by decide +kernel
theorem dX12_match_152 : decode cX12_match 152 = .ok (.ifCond .eq 14, 3) := by decide +kernel
theorem dX12_match_155 : decode cX12_match 155 = .ok (.aload_n 0, 1) := by decide +kernel
theorem dX12_match_156 : decode cX12_match 156 = .ok (.getfield 133, 3) := by decide +kernel
theorem dX12_match_159 : decode cX12_match 159 = .ok (.iload_n 1, 1) := by decide +kernel
theorem dX12_match_160 : decode cX12_match 160 = .ok (.iconst 2, 1) := by decide +kernel
theorem dX12_match_161 : decode cX12_match 161 = .ok (.isub, 1) := by decide +kernel
theorem dX12_match_162 : decode cX12_match 162 = .ok (.iaload, 1) := by decide +kernel
theorem dX12_match_163 : decode cX12_match 163 = .ok (.goto 5, 3) := by decide +kernel
theorem dX12_match_166 : decode cX12_match 166 = .ok (.bipush (-2), 2) := by decide +kernel
theorem dX12_match_168 : decode cX12_match 168 = .ok (.ireturn, 1) := by decide +kernel
theorem dX12_swap_0 : decode cX12_swap 0 = .ok (.aload_n 0, 1) := by decide +kernel
theorem dX12_swap_1 : decode cX12_swap 1 = .ok (.invokevirtual 425, 3) := by decide +kernel
theorem dX12_swap_4 : decode cX12_swap 4 = .ok (.ifCond .eq 15, 3) := by decide +kernel
theorem dX12_swap_7 : decode cX12_swap 7 = .ok (.iload_n 1, 1) := by decide +kernel
theorem dX12_swap_8 : decode cX12_swap 8 = .ok (.i2l, 1) := by decide +kernel
theorem dX12_swap_9 : decode cX12_swap 9 = .ok (.lconst 0, 1) := by decide +kernel
theorem dX12_swap_10 : decode cX12_swap 10 = .ok (.ldc2_w 482, 3) := by decide +kernel
theorem dX12_swap_13 : decode cX12_swap 13 = .ok (.invokestatic 155, 3) := by decide +kernel
theorem dX12_swap_16 : decode cX12_swap 16 = .ok (.ifCond .ne 5, 3) := by decide +kernel
theorem dX12_swap_19 : decode cX12_swap 19 = .ok (.iconst (-1), 1) := by decide +kernel
theorem dX12_swap_20 : decode cX12_swap 20 = .ok (.ireturn, 1) := by decide +kernel
theorem dX12_swap_21 : decode cX12_swap 21 = .ok (.iconst 0, 1) := by decide +kernel
theorem dX12_swap_22 : decode cX12_swap 22 = .ok (.istore_n 2, 1) := by decide +kernel
theorem dX12_swap_23 : decode cX12_swap 23 = .ok (.bipush (-2), 2) := by decide +kernel
theorem dX12_swap_25 : decode cX12_swap 25 = .ok (.istore_n 3, 1) := by decide +kernel
theorem dX12_swap_26 : decode cX12_swap 26 = .ok (.bipush (-2), 2) := by decide +kernel
theorem dX12_swap_28 : decode cX12_swap 28 = .ok (.istore 4, 2) := by decide +kernel
theorem dX12_swap_30 : decode cX12_swap 30 = .ok (.iconst 0, 1) := by decide +kernel
theorem dX12_swap_31 : decode cX12_swap 31 = .ok (.istore 5, 2) := by decide +kernel
theorem dX12_swap_33 : decode cX12_swap 33 = .ok (.iload 5, 2) := by decide +kernel
theorem dX12_swap_35 : decode cX12_swap 35 = .ok (.aload_n 0, 1) := by decide +kernel
theorem dX12_swap_36 : decode cX12_swap 36 = .ok (.getfield 9, 3) := by decide +kernel
theorem dX12_swap_39 : decode cX12_swap 39 = .ok (.iconst 3, 1) := by decide +kernel
theorem dX12_swap_40 : decode cX12_swap 40 = .ok (.iaload, 1) := by decide +kernel
theorem dX12_swap_41 : decode cX12_swap 41 = .ok (.if_icmp .ge 195, 3) := by decide +kernel
theorem dX12_swap_44 : decode cX12_swap 44 = .ok (.iload 5, 2) := by decide +kernel
theorem dX12_swap_46 : decode cX12_swap 46 = .ok (.iconst 1, 1) := by decide +kernel
theorem dX12_swap_47 : decode cX12_swap 47 = .ok (.iadd, 1) := by decide +kernel
theorem dX12_swap_48 : decode cX12_swap 48 = .ok (.istore 6, 2) := by decide +kernel
theorem dX12_swap_50 : decode cX12_swap 50 = .ok (.iload 6, 2) := by decide +kernel
theorem dX12_swap_52 : decode cX12_swap 52 = .ok (.aload_n 0, 1) := by decide +kernel
theorem dX12_swap_53 : decode cX12_swap 53 = .ok (.getfield 9, 3) := by decide +kernel
theorem dX12_swap_56 : decode cX12_swap 56 = .ok (.iconst 3, 1) := by decide +kernel
theorem dX12_swap_57 : decode cX12_swap 57 = .ok (.iaload, 1) := by decide +kernel
theorem dX12_swap_58 : decode cX12_swap 58 = .ok (.if_icmp .ge 172, 3) := by decide +kernel
theorem dX12_swap_61 : decode cX12_swap 61 = .ok (.aload_n 0, 1) := by decide +kernel
theorem dX12_swap_62 : decode cX12_swap 62 = .ok (.getfield 22, 3) := by decide +kernel
theorem dX12_swap_65 : decode cX12_swap 65 = .ok (.iload 5, 2) := by decide +kernel
theorem dX12_swap_67 : decode cX12_swap 67 = .ok (.iaload, 1) := by decide +kernel
theorem dX12_swap_68 : decode cX12_swap 68 = .ok (.iconst (-1), 1) := by decide +kernel
theorem dX12_swap_69 : decode cX12_swap 69 = .ok (.if_icmp .eq 18, 3) := by decide +kernel
theorem dX12_swap_72 : decode cX12_swap 72 = .ok (.aload_n 0, 1) := by decide +kernel
theorem dX12_swap_73 : decode cX12_swap 73 = .ok (.getfield 22, 3) := by decide +kernel
theorem dX12_swap_76 : decode cX12_swap 76 = .ok (.iload 6, 2) := by decide +kernel
theorem dX12_swap_78 : decode cX12_swap 78 = .ok (.iaload, 1) := by decide +kernel
theorem dX12_swap_79 : decode cX12_swap 79 = .ok (.iconst (-1), 1) := by decide +kernel
theorem dX12_swap_80 : decode cX12_swap 80 = .ok (.if_icmp .eq 7, 3) := by decide +kernel
theorem dX12_swap_83 : decode cX12_swap 83 = .ok (.iconst 1, 1) := by decide +kernel
theorem dX12_swap_84 : decode cX12_swap 84 = .ok (.goto 4, 3) := by decide +kernel
theorem dX12_swap_87 : decode cX12_swap 87 = .ok (.iconst 0, 1) := by decide +kernel
theorem dX12_swap_88 : decode cX12_swap 88 = .ok (.istore 7, 2) := by decide +kernel
theorem dX12_swap_90 : decode cX12_swap 90 = .ok (.iload 7, 2) := by decide +kernel
theorem dX12_swap_92 : decode cX12_swap 92 = .ok (.ifCond .eq 59, 3) := by decide +kernel
theorem dX12_swap_95 : decode cX12_swap 95 = .ok (.aload_n 0, 1) := by decide +kernel
theorem dX12_swap_96 : decode cX12_swap 96 = .ok (.getfield 19, 3) := by decide +kernel
theorem dX12_swap_99 : decode cX12_swap 99 = .ok (.iconst 4, 1) := by decide +kernel
theorem dX12_swap_100 : decode cX12_swap 100 = .ok (.iload 5, 2) := by decide +kernel
theorem dX12_swap_102 : decode cX12_swap 102 = .ok (.imul, 1) := by decide +kernel
theorem dX12_swap_103 : decode cX12_swap 103 = .ok (.aload_n 0, 1) := by decide +kernel
theorem dX12_swap_104 : decode cX12_swap 104 = .ok (.getfield 34, 3) := by decide +kernel
theorem dX12_swap_107 : decode cX12_swap 107 = .ok (.aload_n 0, 1) := by decide +kernel
theorem dX12_swap_108 : decode cX12_swap 108 = .ok (.getfield 22, 3) := by decide +kernel
theorem dX12_swap_111 : decode cX12_swap 111 = .ok (.iload 6, 2) := by decide +kernel
theorem dX12_swap_113 : decode cX12_swap 113 = .ok (.iaload, 1) := by decide +kernel
theorem dX12_swap_114 : decode cX12_swap 114 = .ok (.iaload, 1) := by decide +kernel
theorem dX12_swap_115 : decode cX12_swap 115 = .ok (.iadd, 1) := by decide +kernel
theorem dX12_swap_116 : decode cX12_swap 116 = .ok (.iaload, 1) := by decide +kernel
theorem dX12_swap_117 : decode cX12_swap 117 = .ok (.iconst (-1), 1) := by decide +kernel
theorem dX12_swap_118 : decode cX12_swap 118 = .ok (.if_icmp .eq 33, 3) := by decide +kernel
theorem dX12_swap_121 : decode cX12_swap 121 = .ok (.aload_n 0, 1) := by decide +kernel
theorem dX12_swap_122 : decode cX12_swap 122 = .ok (.getfield 19, 3) := by decide +kernel
theorem dX12_swap_125 : decode cX12_swap 125 = .ok (.iconst 4, 1) := by decide +kernel
theorem dX12_swap_126 : decode cX12_swap 126 = .ok (.iload 6, 2) := by decide +kernel
theorem dX12_swap_128 : decode cX12_swap 128 = .ok (.imul, 1) := by decide +kernel
theorem dX12_swap_129 : decode cX12_swap 129 = .ok (.aload_n 0, 1) := by decide +kernel
theorem dX12_swap_130 : decode cX12_swap 130 = .ok (.getfield 34, 3) := by decide +kernel
theorem dX12_swap_133 : decode cX12_swap 133 = .ok (.aload_n 0, 1) := by decide +kernel
theorem dX12_swap_134 : decode cX12_swap 134 = .ok (.getfield 22, 3) := by decide +kernel
theorem dX12_swap_137 : decode cX12_swap 137 = .ok (.iload 5, 2) := by decide +kernel
theorem dX12_swap_139 : decode cX12_swap 139 = .ok (.iaload, 1) := by decide +kernel
theorem dX12_swap_140 : decode cX12_swap 140 = .ok (.iaload, 1) := by decide +kernel
theorem dX12_swap_141 : decode cX12_swap 141 = .ok (.iadd, 1) := by decide +kernel
theorem dX12_swap_142 : decode cX12_swap 142 = .ok (.iaload, 1) := by decide +kernel
theorem dX12_swap_143 : decode cX12_swap 143 = .ok (.iconst (-1), 1) := by decide +kernel
theorem dX12_swap_144 : decode cX12_swap 144 = .ok (.if_icmp .eq 7, 3) := by decide +kernel
theorem dX12_swap_147 : decode cX12_swap 147 = .ok (.iconst 1, 1) := by decide +kernel
theorem dX12_swap_148 : decode cX12_swap 148 = .ok (.goto 4, 3) := by decide +kernel
theorem dX12_swap_151 : decode cX12_swap 151 = .ok (.iconst 0, 1) := by decide +kernel
theorem dX12_swap_152 : decode cX12_swap 152 = .ok (.istore 7, 2) := by decide +kernel
theorem dX12_swap_154 : decode cX12_swap 154 = .ok (.iload 7, 2) := by decide +kernel
theorem dX12_swap_156 : decode cX12_swap 156 = .ok (.ifCond .eq 49, 3) := by decide +kernel
theorem dX12_swap_159 : decode cX12_swap 159 = .ok (.aload_n 0, 1) := by decide +kernel
theorem dX12_swap_160 : decode cX12_swap 160 = .ok (.getfield 25, 3) := by decide +kernel
theorem dX12_swap_163 : decode cX12_swap 163 = .ok (.iload 5, 2) := by decide +kernel
theorem dX12_swap_165 : decode cX12_swap 165 = .ok (.iaload, 1) := by decide +kernel
theorem dX12_swap_166 : decode cX12_swap 166 = .ok (.aload_n 0, 1) := by decide +kernel
theorem dX12_swap_167 : decode cX12_swap 167 = .ok (.getfield 25, 3) := by decide +kernel
theorem dX12_swap_170 : decode cX12_swap 170 = .ok (.iload 6, 2) := by decide +kernel
theorem dX12_swap_172 : decode cX12_swap 172 = .ok (.iaload, 1) := by decide +kernel
theorem dX12_swap_173 : decode cX12_swap 173 = .ok (.iadd, 1) := by decide +kernel
theorem dX12_swap_174 : decode cX12_swap 174 = .ok (.aload_n 0, 1) := by decide +kernel
theorem dX12_swap_175 : decode cX12_swap 175 = .ok (.iload 5, 2) := by decide +kernel
theorem dX12_swap_177 : decode cX12_swap 177 = .ok (.aload_n 0, 1) := by decide +kernel
theorem dX12_swap_178 : decode cX12_swap 178 = .ok (.getfield 22, 3) := by decide +kernel
theorem dX12_swap_181 : decode cX12_swap 181 = .ok (.iload 6, 2) := by decide +kernel
theorem dX12_swap_183 : decode cX12_swap 183 = .ok (.iaload, 1) := by decide +kernel
theorem dX12_swap_184 : decode cX12_swap 184 = .ok (.invokevirtual 370, 3) := by decide +kernel
theorem dX12_swap_187 : decode cX12_swap 187 = .ok (.isub, 1) := by decide +kernel
theorem dX12_swap_188 : decode cX12_swap 188 = .ok (.aload_n 0, 1) := by decide +kernel
theorem dX12_swap_189 : decode cX12_swap 189 = .ok (.iload 6, 2) := by decide +kernel
theorem dX12_swap_191 : decode cX12_swap 191 = .ok (.aload_n 0, 1) := by decide +kernel
theorem dX12_swap_192 : decode cX12_swap 192 = .ok (.getfield 22, 3) := by decide +kernel
theorem dX12_swap_195 : decode cX12_swap 195 = .ok (.iload 5, 2) := by decide +kernel
theorem dX12_swap_197 : decode cX12_swap 197 = .ok (.iaload, 1) := by decide +kernel
theorem dX12_swap_198 : decode cX12_swap 198 = .ok (.invokevirtual 370, 3) := by decide +kernel
theorem dX12_swap_201 : decode cX12_swap 201 = .ok (.isub, 1) := by decide +kernel
theorem dX12_swap_202 : decode cX12_swap 202 = .ok (.goto 4, 3) := by decide +kernel
theorem dX12_swap_205 : decode cX12_swap 205 = .ok (.iconst 0, 1) := by decide +kernel
theorem dX12_swap_206 : decode cX12_swap 206 = .ok (.istore 8, 2) := by decide +kernel
theorem dX12_swap_208 : decode cX12_swap 208 = .ok (.iload 8, 2) := by decide +kernel
theorem dX12_swap_210 : decode cX12_swap 210 = .ok (.iload_n 2, 1) := by decide +kernel
theorem dX12_swap_211 : decode cX12_swap 211 = .ok (.if_icmp .le 13, 3) := by decide +kernel
theorem dX12_swap_214 : decode cX12_swap 214 = .ok (.iload 8, 2) := by decide +kernel
theorem dX12_swap_216 : decode cX12_swap 216 = .ok (.istore_n 2, 1) := by decide +kernel
theorem dX12_swap_217 : decode cX12_swap 217 = .ok (.iload 5, 2) := by decide +kernel
theorem dX12_swap_219 : decode cX12_swap 219 = .ok (.istore_n 3, 1) := by decide +kernel
theorem dX12_swap_220 : decode cX12_swap 220 = .ok (.iload 6, 2) := by decide +kernel
theorem dX12_swap_222 : decode cX12_swap 222 = .ok (.istore 4, 2) := by decide +kernel
theorem dX12_swap_224 : decode cX12_swap 224 = .ok (.iinc 6 1, 3) := by decide +kernel
theorem dX12_swap_227 : decode cX12_swap 227 = .ok (.goto (-177), 3) := by decide +kernel
theorem dX12_swap_230 : decode cX12_swap 230 = .ok (.iinc 5 1, 3) := by decide +kernel
theorem dX12_swap_233 : decode cX12_swap 233 = .ok (.goto (-200), 3) := by decide +kernel
theorem dX12_swap_236 : decode cX12_swap 236 = .ok (.iload_n 3, 1) := by decide +kernel
theorem dX12_swap_237 : decode cX12_swap 237 = .ok (.bipush (-2), 2) := by decide +kernel
theorem dX12_swap_239 : decode cX12_swap 239 = .ok (.if_icmp .ne 8, 3) := by decide +kernel
theorem dX12_swap_242 : decode cX12_swap 242 = .ok (.bipush (-2), 2) := by decide +kernel
theorem dX12_swap_244 : decode cX12_swap 244 = .ok (.goto 22, 3) := by decide +kernel
theorem dX12_swap_247 : decode cX12_swap 247 = .ok (.iload_n 1, 1) := by decide +kernel
theorem dX12_swap_248 : decode cX12_swap 248 = .ok (.ifCond .ne 7, 3) := by decide +kernel
theorem dX12_swap_251 : decode cX12_swap 251 = .ok (.iload_n 2, 1) := by decide +kernel
theorem dX12_swap_252 : decode cX12_swap 252 = .ok (.goto 14, 3) := by decide +kernel
theorem dX12_swap_255 : decode cX12_swap 255 = .ok (.iload_n 1, 1) := by decide +kernel
theorem dX12_swap_256 : decode cX12_swap 256 = .ok (.iconst 1, 1) := by decide +kernel
theorem dX12_swap_257 : decode cX12_swap 257 = .ok (.if_icmp .ne 7, 3) := by decide +kernel
theorem dX12_swap_260 : decode cX12_swap 260 = .ok (.iload_n 3, 1) := by decide +kernel
theorem dX12_swap_261 : decode cX12_swap 261 = .ok (.goto 5, 3) := by decide +kernel
theorem dX12_swap_264 : decode cX12_swap 264 = .ok (.iload 4, 2) := by decide +kernel
theorem dX12_swap_266 : decode cX12_swap 266 = .ok (.ireturn, 1) := by decide +kernel
theorem dX12_book_0 : decode cX12_book 0 = .ok (.iload_n 1, 1) := by decide +kernel
theorem dX12_book_1 : decode cX12_book 1 = .ok (.iconst (-1), 1) := by decide +kernel
theorem dX12_book_2 : decode cX12_book 2 = .ok (.if_icmp .ne 13, 3) := by decide +kernel
theorem dX12_book_5 : decode cX12_book 5 = .ok (.aload_n 0, 1) := by decide +kernel
theorem dX12_book_6 : decode cX12_book 6 = .ok (.getfield 9, 3) := by decide +kernel
theorem dX12_book_9 : decode cX12_book 9 = .ok (.bipush 6, 2) := by decide +kernel
theorem dX12_book_11 : decode cX12_book 11 = .ok (.iconst 0, 1) := by decide +kernel
theorem dX12_book_12 : decode cX12_book 12 = .ok (.iastore, 1) := by decide +kernel
theorem dX12_book_13 : decode cX12_book 13 = .ok (.iconst 0, 1) := by decide +kernel
theorem dX12_book_14 : decode cX12_book 14 = .ok (.ireturn, 1) := by decide +kernel
theorem dX12_book_15 : decode cX12_book 15 = .ok (.aload_n 0, 1) := by decide +kernel
theorem dX12_book_16 : decode cX12_book 16 = .ok (.getfield 9, 3) := by decide +kernel
theorem dX12_book_19 : decode cX12_book 19 = .ok (.bipush 6, 2) := by decide +kernel
theorem dX12_book_21 : decode cX12_book 21 = .ok (.iaload, 1) := by decide +kernel
theorem dX12_book_22 : decode cX12_book 22 = .ok (.istore 4, 2) := by decide +kernel
theorem dX12_book_24 : decode cX12_book 24 = .ok (.iload_n 1, 1) := by decide +kernel
theorem dX12_book_25 : decode cX12_book 25 = .ok (.i2l, 1) := by decide +kernel
theorem dX12_book_26 : decode cX12_book 26 = .ok (.lconst 0, 1) := by decide +kernel
theorem dX12_book_27 : decode cX12_book 27 = .ok (.ldc2_w 484, 3) := by decide +kernel
theorem dX12_book_30 : decode cX12_book 30 = .ok (.invokestatic 155, 3) := by decide +kernel
theorem dX12_book_33 : decode cX12_book 33 = .ok (.ifCond .eq 30, 3) := by decide +kernel
theorem dX12_book_36 : decode cX12_book 36 = .ok (.aload_n 0, 1) := by decide +kernel
theorem dX12_book_37 : decode cX12_book 37 = .ok (.iload_n 2, 1) := by decide +kernel
theorem dX12_book_38 : decode cX12_book 38 = .ok (.invokevirtual 360, 3) := by decide +kernel
theorem dX12_book_41 : decode cX12_book 41 = .ok (.ifCond .eq 22, 3) := by decide +kernel
theorem dX12_book_44 : decode cX12_book 44 = .ok (.iload_n 3, 1) := by decide +kernel
theorem dX12_book_45 : decode cX12_book 45 = .ok (.i2l, 1) := by decide +kernel
theorem dX12_book_46 : decode cX12_book 46 = .ok (.lconst 0, 1) := by decide +kernel
theorem dX12_book_47 : decode cX12_book 47 = .ok (.ldc2_w 486, 3) := by decide +kernel
theorem dX12_book_50 : decode cX12_book 50 = .ok (.invokestatic 155, 3) := by decide +kernel
theorem dX12_book_53 : decode cX12_book 53 = .ok (.ifCond .eq 10, 3) := by decide +kernel
theorem dX12_book_56 : decode cX12_book 56 = .ok (.iload 4, 2) := by decide +kernel
theorem dX12_book_58 : decode cX12_book 58 = .ok (.bipush 10, 2) := by decide +kernel
theorem dX12_book_60 : decode cX12_book 60 = .ok (.if_icmp .ne 6, 3) := by decide +kernel
theorem dX12_book_63 : decode cX12_book 63 = .ok (.bipush (-2), 2) := by decide +kernel
theorem dX12_book_65 : decode cX12_book 65 = .ok (.ireturn, 1) := by decide +kernel
theorem dX12_book_66 : decode cX12_book 66 = .ok (.aload_n 0, 1) := by decide +kernel
theorem dX12_book_67 : decode cX12_book 67 = .ok (.getfield 52, 3) := by decide +kernel
theorem dX12_book_70 : decode cX12_book 70 = .ok (.iload 4, 2) := by decide +kernel
theorem dX12_book_72 : decode cX12_book 72 = .ok (.iload_n 1, 1) := by decide +kernel
theorem dX12_book_73 : decode cX12_book 73 = .ok (.iastore, 1) := by decide +kernel
theorem dX12_book_74 : decode cX12_book 74 = .ok (.aload_n 0, 1) := by decide +kernel
theorem dX12_book_75 : decode cX12_book 75 = .ok (.getfield 55, 3) := by decide +kernel
theorem dX12_book_78 : decode cX12_book 78 = .ok (.iload 4, 2) := by decide +kernel
theorem dX12_book_80 : decode cX12_book 80 = .ok (.iload_n 2, 1) := by decide +kernel
theorem dX12_book_81 : decode cX12_book 81 = .ok (.iastore, 1) := by decide +kernel
theorem dX12_book_82 : decode cX12_book 82 = .ok (.aload_n 0, 1) := by decide +kernel
theorem dX12_book_83 : decode cX12_book 83 = .ok (.getfield 58, 3) := by decide +kernel
theorem dX12_book_86 : decode cX12_book 86 = .ok (.iload 4, 2) := by decide +kernel
theorem dX12_book_88 : decode cX12_book 88 = .ok (.iload_n 3, 1) := by decide +kernel
theorem dX12_book_89 : decode cX12_book 89 = .ok (.iastore, 1) := by decide +kernel
theorem dX12_book_90 : decode cX12_book 90 = .ok (.aload_n 0, 1) := by decide +kernel
theorem dX12_book_91 : decode cX12_book 91 = .ok (.getfield 9, 3) := by decide +kernel
theorem dX12_book_94 : decode cX12_book 94 = .ok (.bipush 6, 2) := by decide +kernel
theorem dX12_book_96 : decode cX12_book 96 = .ok (.dup2, 1) := by decide +kernel
theorem dX12_book_97 : decode cX12_book 97 = .ok (.iaload, 1) := by decide +kernel
theorem dX12_book_98 : decode cX12_book 98 = .ok (.iconst 1, 1) := by decide +kernel
theorem dX12_book_99 : decode cX12_book 99 = .ok (.iadd, 1) := by decide +kernel
theorem dX12_book_100 : decode cX12_book 100 = .ok (.iastore, 1) := by decide +kernel
theorem dX12_book_101 : decode cX12_book 101 = .ok (.iload 4, 2) := by decide +kernel
theorem dX12_book_103 : decode cX12_book 103 = .ok (.iconst 1, 1) := by decide +kernel
theorem dX12_book_104 : decode cX12_book 104 = .ok (.iadd, 1) := by decide +kernel
theorem dX12_book_105 : decode cX12_book 105 = .ok (.ireturn, 1) := by decide +kernel
theorem dX12_couldRule_0 : decode cX12_couldRule 0 = .ok (.aload_n 0, 1) := by decide +kernel
theorem dX12_couldRule_1 : decode cX12_couldRule 1 = .ok (.getfield 9, 3) := by decide +kernel
theorem dX12_couldRule_4 : decode cX12_couldRule 4 = .ok (.bipush 8, 2) := by decide +kernel
theorem dX12_couldRule_6 : decode cX12_couldRule 6 = .ok (.iload_n 1, 1) := by decide +kernel
theorem dX12_couldRule_7 : decode cX12_couldRule 7 = .ok (.iastore, 1) := by decide +kernel
theorem dX12_couldRule_8 : decode cX12_couldRule 8 = .ok (.aload_n 0, 1) := by decide +kernel
theorem dX12_couldRule_9 : decode cX12_couldRule 9 = .ok (.invokevirtual 324, 3) := by decide +kernel
theorem dX12_couldRule_12 : decode cX12_couldRule 12 = .ok (.iconst 1, 1) := by decide +kernel
theorem dX12_couldRule_13 : decode cX12_couldRule 13 = .ok (.istore_n 3, 1) := by decide +kernel
theorem dX12_couldRule_14 : decode cX12_couldRule 14 = .ok (.iconst 0, 1) := by decide +kernel
theorem dX12_couldRule_15 : decode cX12_couldRule 15 = .ok (.istore 4, 2) := by decide +kernel
theorem dX12_couldRule_17 : decode cX12_couldRule 17 = .ok (.iload 4, 2) := by decide +kernel
theorem dX12_couldRule_19 : decode cX12_couldRule 19 = .ok (.sipush 399, 3) := by decide +kernel
theorem dX12_couldRule_22 : decode cX12_couldRule 22 = .ok (.if_icmp .gt 96, 3) := by decide +kernel
theorem dX12_couldRule_25 : decode cX12_couldRule 25 = .ok (.aload_n 0, 1) := by decide +kernel
theorem dX12_couldRule_26 : decode cX12_couldRule 26 = .ok (.invokevirtual 404, 3) := by decide +kernel
theorem dX12_couldRule_29 : decode cX12_couldRule 29 = .ok (.pop, 1) := by decide +kernel
theorem dX12_couldRule_30 : decode cX12_couldRule 30 = .ok (.iconst 0, 1) := by decide +kernel
theorem dX12_couldRule_31 : decode cX12_couldRule 31 = .ok (.istore 5, 2) := by decide +kernel
theorem dX12_couldRule_33 : decode cX12_couldRule 33 = .ok (.iload 5, 2) := by decide +kernel
theorem dX12_couldRule_35 : decode cX12_couldRule 35 = .ok (.aload_n 0, 1) := by decide +kernel
theorem dX12_couldRule_36 : decode cX12_couldRule 36 = .ok (.getfield 9, 3) := by decide +kernel
theorem dX12_couldRule_39 : decode cX12_couldRule 39 = .ok (.bipush 6, 2) := by decide +kernel
theorem dX12_couldRule_41 : decode cX12_couldRule 41 = .ok (.iaload, 1) := by decide +kernel
theorem dX12_couldRule_42 : decode cX12_couldRule 42 = .ok (.if_icmp .ge 53, 3) := by decide +kernel
theorem dX12_couldRule_45 : decode cX12_couldRule 45 = .ok (.iload_n 3, 1) := by decide +kernel
theorem dX12_couldRule_46 : decode cX12_couldRule 46 = .ok (.ifCond .eq 41, 3) := by decide +kernel
theorem dX12_couldRule_49 : decode cX12_couldRule 49 = .ok (.aload_n 0, 1) := by decide +kernel
theorem dX12_couldRule_50 : decode cX12_couldRule 50 = .ok (.getfield 52, 3) := by decide +kernel
theorem dX12_couldRule_53 : decode cX12_couldRule 53 = .ok (.iload 5, 2) := by decide +kernel
theorem dX12_couldRule_55 : decode cX12_couldRule 55 = .ok (.iaload, 1) := by decide +kernel
theorem dX12_couldRule_56 : decode cX12_couldRule 56 = .ok (.iload 4, 2) := by decide +kernel
theorem dX12_couldRule_58 : decode cX12_couldRule 58 = .ok (.if_icmp .ne 25, 3) := by decide +kernel
theorem dX12_couldRule_61 : decode cX12_couldRule 61 = .ok (.aload_n 0, 1) := by decide +kernel
theorem dX12_couldRule_62 : decode cX12_couldRule 62 = .ok (.getfield 46, 3) := by decide +kernel
theorem dX12_couldRule_65 : decode cX12_couldRule 65 = .ok (.aload_n 0, 1) := by decide +kernel
theorem dX12_couldRule_66 : decode cX12_couldRule 66 = .ok (.getfield 55, 3) := by decide +kernel
theorem dX12_couldRule_69 : decode cX12_couldRule 69 = .ok (.iload 5, 2) := by decide +kernel
theorem dX12_couldRule_71 : decode cX12_couldRule 71 = .ok (.iaload, 1) := by decide +kernel
theorem dX12_couldRule_72 : decode cX12_couldRule 72 = .ok (.iaload, 1) := by decide +kernel
theorem dX12_couldRule_73 : decode cX12_couldRule 73 = .ok (.aload_n 0, 1) := by decide +kernel
theorem dX12_couldRule_74 : decode cX12_couldRule 74 = .ok (.getfield 58, 3) := by decide +kernel
theorem dX12_couldRule_77 : decode cX12_couldRule 77 = .ok (.iload 5, 2) := by decide +kernel
theorem dX12_couldRule_79 : decode cX12_couldRule 79 = .ok (.iaload, 1) := by decide +kernel
theorem dX12_couldRule_80 : decode cX12_couldRule 80 = .ok (.if_icmp .ne 7, 3) := by decide +kernel
theorem dX12_couldRule_83 : decode cX12_couldRule 83 = .ok (.iconst 1, 1) := by decide +kernel
theorem dX12_couldRule_84 : decode cX12_couldRule 84 = .ok (.goto 4, 3) := by decide +kernel
theorem dX12_couldRule_87 : decode cX12_couldRule 87 = .ok (.iconst 0, 1) := by decide +kernel
theorem dX12_couldRule_88 : decode cX12_couldRule 88 = .ok (.istore_n 3, 1) := by decide +kernel
theorem dX12_couldRule_89 : decode cX12_couldRule 89 = .ok (.iinc 5 1, 3) := by decide +kernel
theorem dX12_couldRule_92 : decode cX12_couldRule 92 = .ok (.goto (-59), 3) := by decide +kernel
theorem dX12_couldRule_95 : decode cX12_couldRule 95 = .ok (.iload 4, 2) := by decide +kernel
theorem dX12_couldRule_97 : decode cX12_couldRule 97 = .ok (.iload_n 2, 1) := by decide +kernel
theorem dX12_couldRule_98 : decode cX12_couldRule 98 = .ok (.if_icmp .ne 14, 3) := by decide +kernel
theorem dX12_couldRule_101 : decode cX12_couldRule 101 = .ok (.aload_n 0, 1) := by decide +kernel
theorem dX12_couldRule_102 : decode cX12_couldRule 102 = .ok (.getfield 46, 3) := by decide +kernel
theorem dX12_couldRule_105 : decode cX12_couldRule 105 = .ok (.aload_n 0, 1) := by decide +kernel
theorem dX12_couldRule_106 : decode cX12_couldRule 106 = .ok (.getfield 139, 3) := by decide +kernel
theorem dX12_couldRule_109 : decode cX12_couldRule 109 = .ok (.invokestatic 317, 3) := by decide +kernel
theorem dX12_couldRule_112 : decode cX12_couldRule 112 = .ok (.iinc 4 1, 3) := by decide +kernel
theorem dX12_couldRule_115 : decode cX12_couldRule 115 = .ok (.goto (-98), 3) := by decide +kernel
theorem dX12_couldRule_118 : decode cX12_couldRule 118 = .ok (.aload_n 0, 1) := by decide +kernel
theorem dX12_couldRule_119 : decode cX12_couldRule 119 = .ok (.invokevirtual 450, 3) := by decide +kernel
theorem dX12_couldRule_122 : decode cX12_couldRule 122 = .ok (.iload_n 3, 1) := by decide +kernel
theorem dX12_couldRule_123 : decode cX12_couldRule 123 = .ok (.ireturn, 1) := by decide +kernel
theorem dX12_ruled_0 : decode cX12_ruled 0 = .ok (.aload_n 0, 1) := by decide +kernel
theorem dX12_ruled_1 : decode cX12_ruled 1 = .ok (.invokevirtual 425, 3) := by decide +kernel
theorem dX12_ruled_4 : decode cX12_ruled 4 = .ok (.ifCond .eq 13, 3) := by decide +kernel
theorem dX12_ruled_7 : decode cX12_ruled 7 = .ok (.iload_n 1, 1) := by decide +kernel
theorem dX12_ruled_8 : decode cX12_ruled 8 = .ok (.i2l, 1) := by decide +kernel
theorem dX12_ruled_9 : decode cX12_ruled 9 = .ok (.lconst 0, 1) := by decide +kernel
theorem dX12_ruled_10 : decode cX12_ruled 10 = .ok (.lconst 1, 1) := by decide +kernel
theorem dX12_ruled_11 : decode cX12_ruled 11 = .ok (.invokestatic 155, 3) := by decide +kernel
theorem dX12_ruled_14 : decode cX12_ruled 14 = .ok (.ifCond .ne 6, 3) := by decide +kernel
theorem dX12_ruled_17 : decode cX12_ruled 17 = .ok (.bipush (-3), 2) := by decide +kernel
theorem dX12_ruled_19 : decode cX12_ruled 19 = .ok (.ireturn, 1) := by decide +kernel
theorem dX12_ruled_20 : decode cX12_ruled 20 = .ok (.aload_n 0, 1) := by decide +kernel
theorem dX12_ruled_21 : decode cX12_ruled 21 = .ok (.invokevirtual 441, 3) := by decide +kernel
theorem dX12_ruled_24 : decode cX12_ruled 24 = .ok (.iconst 0, 1) := by decide +kernel
theorem dX12_ruled_25 : decode cX12_ruled 25 = .ok (.istore_n 2, 1) := by decide +kernel
theorem dX12_ruled_26 : decode cX12_ruled 26 = .ok (.bipush (-2), 2) := by decide +kernel
theorem dX12_ruled_28 : decode cX12_ruled 28 = .ok (.istore_n 3, 1) := by decide +kernel
theorem dX12_ruled_29 : decode cX12_ruled 29 = .ok (.iconst (-1), 1) := by decide +kernel
theorem dX12_ruled_30 : decode cX12_ruled 30 = .ok (.istore 4, 2) := by decide +kernel
theorem dX12_ruled_32 : decode cX12_ruled 32 = .ok (.iload 4, 2) := by decide +kernel
theorem dX12_ruled_34 : decode cX12_ruled 34 = .ok (.aload_n 0, 1) := by decide +kernel
theorem dX12_ruled_35 : decode cX12_ruled 35 = .ok (.getfield 340, 3) := by decide +kernel
theorem dX12_ruled_38 : decode cX12_ruled 38 = .ok (.if_icmp .ge 33, 3) := by decide +kernel
theorem dX12_ruled_41 : decode cX12_ruled 41 = .ok (.aload_n 0, 1) := by decide +kernel
theorem dX12_ruled_42 : decode cX12_ruled 42 = .ok (.iload 4, 2) := by decide +kernel
theorem dX12_ruled_44 : decode cX12_ruled 44 = .ok (.iconst (-1), 1) := by decide +kernel
theorem dX12_ruled_45 : decode cX12_ruled 45 = .ok (.invokevirtual 488, 3) := by decide +kernel
theorem dX12_ruled_48 : decode cX12_ruled 48 = .ok (.ifCond .eq 17, 3) := by decide +kernel
theorem dX12_ruled_51 : decode cX12_ruled 51 = .ok (.iload_n 2, 1) := by decide +kernel
theorem dX12_ruled_52 : decode cX12_ruled 52 = .ok (.ifCond .ne 8, 3) := by decide +kernel
theorem dX12_ruled_55 : decode cX12_ruled 55 = .ok (.iload 4, 2) := by decide +kernel
theorem dX12_ruled_57 : decode cX12_ruled 57 = .ok (.goto 4, 3) := by decide +kernel
theorem dX12_ruled_60 : decode cX12_ruled 60 = .ok (.iload_n 3, 1) := by decide +kernel
theorem dX12_ruled_61 : decode cX12_ruled 61 = .ok (.istore_n 3, 1) := by decide +kernel
theorem dX12_ruled_62 : decode cX12_ruled 62 = .ok (.iinc 2 1, 3) := by decide +kernel
theorem dX12_ruled_65 : decode cX12_ruled 65 = .ok (.iinc 4 1, 3) := by decide +kernel
theorem dX12_ruled_68 : decode cX12_ruled 68 = .ok (.goto (-36), 3) := by decide +kernel
theorem dX12_ruled_71 : decode cX12_ruled 71 = .ok (.iload_n 1, 1) := by decide +kernel
theorem dX12_ruled_72 : decode cX12_ruled 72 = .ok (.ifCond .ne 7, 3) := by decide +kernel
theorem dX12_ruled_75 : decode cX12_ruled 75 = .ok (.iload_n 2, 1) := by decide +kernel
theorem dX12_ruled_76 : decode cX12_ruled 76 = .ok (.goto 4, 3) := by decide +kernel
theorem dX12_ruled_79 : decode cX12_ruled 79 = .ok (.iload_n 3, 1) := by decide +kernel
theorem dX12_ruled_80 : decode cX12_ruled 80 = .ok (.ireturn, 1) := by decide +kernel
theorem dX12_mostAlike_0 : decode cX12_mostAlike 0 = .ok (.iconst 0, 1) := by decide +kernel
theorem dX12_mostAlike_1 : decode cX12_mostAlike 1 = .ok (.istore_n 2, 1) := by decide +kernel
theorem dX12_mostAlike_2 : decode cX12_mostAlike 2 = .ok (.iconst 0, 1) := by decide +kernel
theorem dX12_mostAlike_3 : decode cX12_mostAlike 3 = .ok (.istore_n 3, 1) := by decide +kernel
theorem dX12_mostAlike_4 : decode cX12_mostAlike 4 = .ok (.iload_n 3, 1) := by decide +kernel
theorem dX12_mostAlike_5 : decode cX12_mostAlike 5 = .ok (.iconst 5, 1) := by decide +kernel
theorem dX12_mostAlike_6 : decode cX12_mostAlike 6 = .ok (.if_icmp .ge 38, 3) := by decide +kernel
theorem dX12_mostAlike_9 : decode cX12_mostAlike 9 = .ok (.aload_n 0, 1) := by decide +kernel
theorem dX12_mostAlike_10 : decode cX12_mostAlike 10 = .ok (.getfield 142, 3) := by decide +kernel
theorem dX12_mostAlike_13 : decode cX12_mostAlike 13 = .ok (.iconst 5, 1) := by decide +kernel
theorem dX12_mostAlike_14 : decode cX12_mostAlike 14 = .ok (.iload_n 1, 1) := by decide +kernel
theorem dX12_mostAlike_15 : decode cX12_mostAlike 15 = .ok (.imul, 1) := by decide +kernel
theorem dX12_mostAlike_16 : decode cX12_mostAlike 16 = .ok (.iload_n 3, 1) := by decide +kernel
theorem dX12_mostAlike_17 : decode cX12_mostAlike 17 = .ok (.iadd, 1) := by decide +kernel
theorem dX12_mostAlike_18 : decode cX12_mostAlike 18 = .ok (.iaload, 1) := by decide +kernel
theorem dX12_mostAlike_19 : decode cX12_mostAlike 19 = .ok (.iload_n 2, 1) := by decide +kernel
theorem dX12_mostAlike_20 : decode cX12_mostAlike 20 = .ok (.if_icmp .le 16, 3) := by decide +kernel
theorem dX12_mostAlike_23 : decode cX12_mostAlike 23 = .ok (.aload_n 0, 1) := by decide +kernel
theorem dX12_mostAlike_24 : decode cX12_mostAlike 24 = .ok (.getfield 142, 3) := by decide +kernel
theorem dX12_mostAlike_27 : decode cX12_mostAlike 27 = .ok (.iconst 5, 1) := by decide +kernel
theorem dX12_mostAlike_28 : decode cX12_mostAlike 28 = .ok (.iload_n 1, 1) := by decide +kernel
theorem dX12_mostAlike_29 : decode cX12_mostAlike 29 = .ok (.imul, 1) := by decide +kernel
theorem dX12_mostAlike_30 : decode cX12_mostAlike 30 = .ok (.iload_n 3, 1) := by decide +kernel
theorem dX12_mostAlike_31 : decode cX12_mostAlike 31 = .ok (.iadd, 1) := by decide +kernel
theorem dX12_mostAlike_32 : decode cX12_mostAlike 32 = .ok (.iaload, 1) := by decide +kernel
theorem dX12_mostAlike_33 : decode cX12_mostAlike 33 = .ok (.goto 4, 3) := by decide +kernel
theorem dX12_mostAlike_36 : decode cX12_mostAlike 36 = .ok (.iload_n 2, 1) := by decide +kernel
theorem dX12_mostAlike_37 : decode cX12_mostAlike 37 = .ok (.istore_n 2, 1) := by decide +kernel
theorem dX12_mostAlike_38 : decode cX12_mostAlike 38 = .ok (.iinc 3 1, 3) := by decide +kernel
theorem dX12_mostAlike_41 : decode cX12_mostAlike 41 = .ok (.goto (-37), 3) := by decide +kernel
theorem dX12_mostAlike_44 : decode cX12_mostAlike 44 = .ok (.iload_n 2, 1) := by decide +kernel
theorem dX12_mostAlike_45 : decode cX12_mostAlike 45 = .ok (.ireturn, 1) := by decide +kernel
theorem dX12_look_0 : decode cX12_look 0 = .ok (.aload_n 0, 1) := by decide +kernel
theorem dX12_look_1 : decode cX12_look 1 = .ok (.invokevirtual 425, 3) := by decide +kernel
theorem dX12_look_4 : decode cX12_look 4 = .ok (.ifCond .eq 25, 3) := by decide +kernel
theorem dX12_look_7 : decode cX12_look 7 = .ok (.iload_n 1, 1) := by decide +kernel
theorem dX12_look_8 : decode cX12_look 8 = .ok (.i2l, 1) := by decide +kernel
theorem dX12_look_9 : decode cX12_look 9 = .ok (.lconst 0, 1) := by decide +kernel
theorem dX12_look_10 : decode cX12_look 10 = .ok (.ldc2_w 484, 3) := by decide +kernel
theorem dX12_look_13 : decode cX12_look 13 = .ok (.invokestatic 155, 3) := by decide +kernel
theorem dX12_look_16 : decode cX12_look 16 = .ok (.ifCond .eq 13, 3) := by decide +kernel
theorem dX12_look_19 : decode cX12_look 19 = .ok (.iload_n 2, 1) := by decide +kernel
theorem dX12_look_20 : decode cX12_look 20 = .ok (.i2l, 1) := by decide +kernel
theorem dX12_look_21 : decode cX12_look 21 = .ok (.lconst 0, 1) := by decide +kernel
theorem dX12_look_22 : decode cX12_look 22 = .ok (.lconst 1, 1) := by decide +kernel
theorem dX12_look_23 : decode cX12_look 23 = .ok (.invokestatic 155, 3) := by decide +kernel
theorem dX12_look_26 : decode cX12_look 26 = .ok (.ifCond .ne 5, 3) := by decide +kernel
theorem dX12_look_29 : decode cX12_look 29 = .ok (.iconst (-1), 1) := by decide +kernel
theorem dX12_look_30 : decode cX12_look 30 = .ok (.ireturn, 1) := by decide +kernel
theorem dX12_look_31 : decode cX12_look 31 = .ok (.iconst 0, 1) := by decide +kernel
theorem dX12_look_32 : decode cX12_look 32 = .ok (.istore_n 3, 1) := by decide +kernel
theorem dX12_look_33 : decode cX12_look 33 = .ok (.iload_n 3, 1) := by decide +kernel
theorem dX12_look_34 : decode cX12_look 34 = .ok (.aload_n 0, 1) := by decide +kernel
theorem dX12_look_35 : decode cX12_look 35 = .ok (.getfield 142, 3) := by decide +kernel
theorem dX12_look_38 : decode cX12_look 38 = .ok (.arraylength, 1) := by decide +kernel
theorem dX12_look_39 : decode cX12_look 39 = .ok (.if_icmp .ge 16, 3) := by decide +kernel
theorem dX12_look_42 : decode cX12_look 42 = .ok (.aload_n 0, 1) := by decide +kernel
theorem dX12_look_43 : decode cX12_look 43 = .ok (.getfield 142, 3) := by decide +kernel
theorem dX12_look_46 : decode cX12_look 46 = .ok (.iload_n 3, 1) := by decide +kernel
theorem dX12_look_47 : decode cX12_look 47 = .ok (.iconst 0, 1) := by decide +kernel
theorem dX12_look_48 : decode cX12_look 48 = .ok (.iastore, 1) := by decide +kernel
theorem dX12_look_49 : decode cX12_look 49 = .ok (.iinc 3 1, 3) := by decide +kernel
theorem dX12_look_52 : decode cX12_look 52 = .ok (.goto (-19), 3) := by decide +kernel
theorem dX12_look_55 : decode cX12_look 55 = .ok (.aload_n 0, 1) := by decide +kernel
theorem dX12_look_56 : decode cX12_look 56 = .ok (.invokevirtual 441, 3) := by decide +kernel
theorem dX12_look_59 : decode cX12_look 59 = .ok (.iconst 0, 1) := by decide +kernel
theorem dX12_look_60 : decode cX12_look 60 = .ok (.istore_n 3, 1) := by decide +kernel
theorem dX12_look_61 : decode cX12_look 61 = .ok (.iconst (-1), 1) := by decide +kernel
theorem dX12_look_62 : decode cX12_look 62 = .ok (.istore 4, 2) := by decide +kernel
theorem dX12_look_64 : decode cX12_look 64 = .ok (.iload 4, 2) := by decide +kernel
theorem dX12_look_66 : decode cX12_look 66 = .ok (.aload_n 0, 1) := by decide +kernel
theorem dX12_look_67 : decode cX12_look 67 = .ok (.getfield 340, 3) := by decide +kernel
theorem dX12_look_70 : decode cX12_look 70 = .ok (.if_icmp .ge 63, 3) := by decide +kernel
theorem dX12_look_73 : decode cX12_look 73 = .ok (.aload_n 0, 1) := by decide +kernel
theorem dX12_look_74 : decode cX12_look 74 = .ok (.iload 4, 2) := by decide +kernel
theorem dX12_look_76 : decode cX12_look 76 = .ok (.iload_n 1, 1) := by decide +kernel
theorem dX12_look_77 : decode cX12_look 77 = .ok (.invokevirtual 488, 3) := by decide +kernel
theorem dX12_look_80 : decode cX12_look 80 = .ok (.ifCond .eq 47, 3) := by decide +kernel
theorem dX12_look_83 : decode cX12_look 83 = .ok (.iinc 3 1, 3) := by decide +kernel
theorem dX12_look_86 : decode cX12_look 86 = .ok (.iconst 0, 1) := by decide +kernel
theorem dX12_look_87 : decode cX12_look 87 = .ok (.istore 5, 2) := by decide +kernel
theorem dX12_look_89 : decode cX12_look 89 = .ok (.iload 5, 2) := by decide +kernel
theorem dX12_look_91 : decode cX12_look 91 = .ok (.aload_n 0, 1) := by decide +kernel
theorem dX12_look_92 : decode cX12_look 92 = .ok (.getfield 9, 3) := by decide +kernel
theorem dX12_look_95 : decode cX12_look 95 = .ok (.iconst 4, 1) := by decide +kernel
theorem dX12_look_96 : decode cX12_look 96 = .ok (.iaload, 1) := by decide +kernel
theorem dX12_look_97 : decode cX12_look 97 = .ok (.if_icmp .ge 30, 3) := by decide +kernel
theorem dX12_look_100 : decode cX12_look 100 = .ok (.aload_n 0, 1) := by decide +kernel
theorem dX12_look_101 : decode cX12_look 101 = .ok (.getfield 142, 3) := by decide +kernel
theorem dX12_look_104 : decode cX12_look 104 = .ok (.iconst 5, 1) := by decide +kernel
theorem dX12_look_105 : decode cX12_look 105 = .ok (.iload 5, 2) := by decide +kernel
theorem dX12_look_107 : decode cX12_look 107 = .ok (.imul, 1) := by decide +kernel
theorem dX12_look_108 : decode cX12_look 108 = .ok (.aload_n 0, 1) := by decide +kernel
theorem dX12_look_109 : decode cX12_look 109 = .ok (.getfield 139, 3) := by decide +kernel
theorem dX12_look_112 : decode cX12_look 112 = .ok (.iload 5, 2) := by decide +kernel
theorem dX12_look_114 : decode cX12_look 114 = .ok (.iaload, 1) := by decide +kernel
theorem dX12_look_115 : decode cX12_look 115 = .ok (.iadd, 1) := by decide +kernel
theorem dX12_look_116 : decode cX12_look 116 = .ok (.dup2, 1) := by decide +kernel
theorem dX12_look_117 : decode cX12_look 117 = .ok (.iaload, 1) := by decide +kernel
theorem dX12_look_118 : decode cX12_look 118 = .ok (.iconst 1, 1) := by decide +kernel
theorem dX12_look_119 : decode cX12_look 119 = .ok (.iadd, 1) := by decide +kernel
theorem dX12_look_120 : decode cX12_look 120 = .ok (.iastore, 1) := by decide +kernel
theorem dX12_look_121 : decode cX12_look 121 = .ok (.iinc 5 1, 3) := by decide +kernel
theorem dX12_look_124 : decode cX12_look 124 = .ok (.goto (-35), 3) := by decide +kernel
theorem dX12_look_127 : decode cX12_look 127 = .ok (.iinc 4 1, 3) := by decide +kernel
theorem dX12_look_130 : decode cX12_look 130 = .ok (.goto (-66), 3) := by decide +kernel
theorem dX12_look_133 : decode cX12_look 133 = .ok (.iload_n 3, 1) := by decide +kernel
theorem dX12_look_134 : decode cX12_look 134 = .ok (.ifCond .eq 12, 3) := by decide +kernel
theorem dX12_look_137 : decode cX12_look 137 = .ok (.aload_n 0, 1) := by decide +kernel
theorem dX12_look_138 : decode cX12_look 138 = .ok (.getfield 9, 3) := by decide +kernel
theorem dX12_look_141 : decode cX12_look 141 = .ok (.iconst 4, 1) := by decide +kernel
theorem dX12_look_142 : decode cX12_look 142 = .ok (.iaload, 1) := by decide +kernel
theorem dX12_look_143 : decode cX12_look 143 = .ok (.ifCond .ne 6, 3) := by decide +kernel
theorem dX12_look_146 : decode cX12_look 146 = .ok (.bipush (-2), 2) := by decide +kernel
theorem dX12_look_148 : decode cX12_look 148 = .ok (.ireturn, 1) := by decide +kernel
theorem dX12_look_149 : decode cX12_look 149 = .ok (.iconst 0, 1) := by decide +kernel
theorem dX12_look_150 : decode cX12_look 150 = .ok (.istore 4, 2) := by decide +kernel
theorem dX12_look_152 : decode cX12_look 152 = .ok (.iconst 1, 1) := by decide +kernel
theorem dX12_look_153 : decode cX12_look 153 = .ok (.istore 5, 2) := by decide +kernel
theorem dX12_look_155 : decode cX12_look 155 = .ok (.iload 5, 2) := by decide +kernel
theorem dX12_look_157 : decode cX12_look 157 = .ok (.aload_n 0, 1) := by decide +kernel
theorem dX12_look_158 : decode cX12_look 158 = .ok (.getfield 9, 3) := by decide +kernel
theorem dX12_look_161 : decode cX12_look 161 = .ok (.iconst 4, 1) := by decide +kernel
theorem dX12_look_162 : decode cX12_look 162 = .ok (.iaload, 1) := by decide +kernel
theorem dX12_look_163 : decode cX12_look 163 = .ok (.if_icmp .ge 33, 3) := by decide +kernel
theorem dX12_look_166 : decode cX12_look 166 = .ok (.aload_n 0, 1) := by decide +kernel
theorem dX12_look_167 : decode cX12_look 167 = .ok (.iload 5, 2) := by decide +kernel
theorem dX12_look_169 : decode cX12_look 169 = .ok (.invokevirtual 491, 3) := by decide +kernel
theorem dX12_look_172 : decode cX12_look 172 = .ok (.aload_n 0, 1) := by decide +kernel
theorem dX12_look_173 : decode cX12_look 173 = .ok (.iload 4, 2) := by decide +kernel
theorem dX12_look_175 : decode cX12_look 175 = .ok (.invokevirtual 491, 3) := by decide +kernel
theorem dX12_look_178 : decode cX12_look 178 = .ok (.if_icmp .ge 8, 3) := by decide +kernel
theorem dX12_look_181 : decode cX12_look 181 = .ok (.iload 5, 2) := by decide +kernel
theorem dX12_look_183 : decode cX12_look 183 = .ok (.goto 5, 3) := by decide +kernel
theorem dX12_look_186 : decode cX12_look 186 = .ok (.iload 4, 2) := by decide +kernel
theorem dX12_look_188 : decode cX12_look 188 = .ok (.istore 4, 2) := by decide +kernel
theorem dX12_look_190 : decode cX12_look 190 = .ok (.iinc 5 1, 3) := by decide +kernel
theorem dX12_look_193 : decode cX12_look 193 = .ok (.goto (-38), 3) := by decide +kernel
theorem dX12_look_196 : decode cX12_look 196 = .ok (.iload_n 2, 1) := by decide +kernel
theorem dX12_look_197 : decode cX12_look 197 = .ok (.ifCond .ne 8, 3) := by decide +kernel
theorem dX12_look_200 : decode cX12_look 200 = .ok (.iload 4, 2) := by decide +kernel
theorem dX12_look_202 : decode cX12_look 202 = .ok (.goto 9, 3) := by decide +kernel
theorem dX12_look_205 : decode cX12_look 205 = .ok (.aload_n 0, 1) := by decide +kernel
theorem dX12_look_206 : decode cX12_look 206 = .ok (.iload 4, 2) := by decide +kernel
theorem dX12_look_208 : decode cX12_look 208 = .ok (.invokevirtual 491, 3) := by decide +kernel
theorem dX12_look_211 : decode cX12_look 211 = .ok (.ireturn, 1) := by decide +kernel
theorem dX12_seed_0 : decode cX12_seed 0 = .ok (.iload_n 1, 1) := by decide +kernel
theorem dX12_seed_1 : decode cX12_seed 1 = .ok (.ifCond .ge 5, 3) := by decide +kernel
theorem dX12_seed_4 : decode cX12_seed 4 = .ok (.iconst (-1), 1) := by decide +kernel
theorem dX12_seed_5 : decode cX12_seed 5 = .ok (.ireturn, 1) := by decide +kernel
theorem dX12_seed_6 : decode cX12_seed 6 = .ok (.aload_n 0, 1) := by decide +kernel
theorem dX12_seed_7 : decode cX12_seed 7 = .ok (.getfield 9, 3) := by decide +kernel
theorem dX12_seed_10 : decode cX12_seed 10 = .ok (.bipush 7, 2) := by decide +kernel
theorem dX12_seed_12 : decode cX12_seed 12 = .ok (.iaload, 1) := by decide +kernel
theorem dX12_seed_13 : decode cX12_seed 13 = .ok (.istore_n 2, 1) := by decide +kernel
theorem dX12_seed_14 : decode cX12_seed 14 = .ok (.aload_n 0, 1) := by decide +kernel
theorem dX12_seed_15 : decode cX12_seed 15 = .ok (.getfield 9, 3) := by decide +kernel
theorem dX12_seed_18 : decode cX12_seed 18 = .ok (.bipush 7, 2) := by decide +kernel
theorem dX12_seed_20 : decode cX12_seed 20 = .ok (.iload_n 1, 1) := by decide +kernel
theorem dX12_seed_21 : decode cX12_seed 21 = .ok (.iastore, 1) := by decide +kernel
theorem dX12_seed_22 : decode cX12_seed 22 = .ok (.iload_n 2, 1) := by decide +kernel
theorem dX12_seed_23 : decode cX12_seed 23 = .ok (.ireturn, 1) := by decide +kernel
theorem dX12_draws_0 : decode cX12_draws 0 = .ok (.aload_n 0, 1) := by decide +kernel
theorem dX12_draws_1 : decode cX12_draws 1 = .ok (.getfield 9, 3) := by decide +kernel
theorem dX12_draws_4 : decode cX12_draws 4 = .ok (.bipush 7, 2) := by decide +kernel
theorem dX12_draws_6 : decode cX12_draws 6 = .ok (.aload_n 0, 1) := by decide +kernel
theorem dX12_draws_7 : decode cX12_draws 7 = .ok (.getfield 9, 3) := by decide +kernel
theorem dX12_draws_10 : decode cX12_draws 10 = .ok (.bipush 7, 2) := by decide +kernel
theorem dX12_draws_12 : decode cX12_draws 12 = .ok (.iaload, 1) := by decide +kernel
theorem dX12_draws_13 : decode cX12_draws 13 = .ok (.i2l, 1) := by decide +kernel
theorem dX12_draws_14 : decode cX12_draws 14 = .ok (.ldc2_w 494, 3) := by decide +kernel
theorem dX12_draws_17 : decode cX12_draws 17 = .ok (.lmul, 1) := by decide +kernel
theorem dX12_draws_18 : decode cX12_draws 18 = .ok (.ldc2_w 496, 3) := by decide +kernel
theorem dX12_draws_21 : decode cX12_draws 21 = .ok (.ladd, 1) := by decide +kernel
theorem dX12_draws_22 : decode cX12_draws 22 = .ok (.ldc2_w 498, 3) := by decide +kernel
theorem dX12_draws_25 : decode cX12_draws 25 = .ok (.lrem, 1) := by decide +kernel
theorem dX12_draws_26 : decode cX12_draws 26 = .ok (.l2i, 1) := by decide +kernel
theorem dX12_draws_27 : decode cX12_draws 27 = .ok (.iastore, 1) := by decide +kernel
theorem dX12_draws_28 : decode cX12_draws 28 = .ok (.aload_n 0, 1) := by decide +kernel
theorem dX12_draws_29 : decode cX12_draws 29 = .ok (.getfield 9, 3) := by decide +kernel
theorem dX12_draws_32 : decode cX12_draws 32 = .ok (.bipush 7, 2) := by decide +kernel
theorem dX12_draws_34 : decode cX12_draws 34 = .ok (.iaload, 1) := by decide +kernel
theorem dX12_draws_35 : decode cX12_draws 35 = .ok (.ldc_w 500, 3) := by decide +kernel
theorem dX12_draws_38 : decode cX12_draws 38 = .ok (.idiv, 1) := by decide +kernel
theorem dX12_draws_39 : decode cX12_draws 39 = .ok (.iload_n 1, 1) := by decide +kernel
theorem dX12_draws_40 : decode cX12_draws 40 = .ok (.irem, 1) := by decide +kernel
theorem dX12_draws_41 : decode cX12_draws 41 = .ok (.ireturn, 1) := by decide +kernel
theorem dX12_saturdays_0 : decode cX12_saturdays 0 = .ok (.aload_n 0, 1) := by decide +kernel
theorem dX12_saturdays_1 : decode cX12_saturdays 1 = .ok (.invokevirtual 425, 3) := by decide +kernel
theorem dX12_saturdays_4 : decode cX12_saturdays 4 = .ok (.ifCond .eq 37, 3) := by decide +kernel
theorem dX12_saturdays_7 : decode cX12_saturdays 7 = .ok (.iload_n 1, 1) := by decide +kernel
theorem dX12_saturdays_8 : decode cX12_saturdays 8 = .ok (.i2l, 1) := by decide +kernel
theorem dX12_saturdays_9 : decode cX12_saturdays 9 = .ok (.lconst 1, 1) := by decide +kernel
theorem dX12_saturdays_10 : decode cX12_saturdays 10 = .ok (.ldc2_w 501, 3) := by decide +kernel
theorem dX12_saturdays_13 : decode cX12_saturdays 13 = .ok (.invokestatic 155, 3) := by decide +kernel
theorem dX12_saturdays_16 : decode cX12_saturdays 16 = .ok (.ifCond .eq 25, 3) := by decide +kernel
theorem dX12_saturdays_19 : decode cX12_saturdays 19 = .ok (.iload_n 2, 1) := by decide +kernel
theorem dX12_saturdays_20 : decode cX12_saturdays 20 = .ok (.i2l, 1) := by decide +kernel
theorem dX12_saturdays_21 : decode cX12_saturdays 21 = .ok (.lconst 0, 1) := by decide +kernel
theorem dX12_saturdays_22 : decode cX12_saturdays 22 = .ok (.ldc2_w 434, 3) := by decide +kernel
theorem dX12_saturdays_25 : decode cX12_saturdays 25 = .ok (.invokestatic 155, 3) := by decide +kernel
theorem dX12_saturdays_28 : decode cX12_saturdays 28 = .ok (.ifCond .eq 13, 3) := by decide +kernel
theorem dX12_saturdays_31 : decode cX12_saturdays 31 = .ok (.iload_n 3, 1) := by decide +kernel
theorem dX12_saturdays_32 : decode cX12_saturdays 32 = .ok (.i2l, 1) := by decide +kernel
theorem dX12_saturdays_33 : decode cX12_saturdays 33 = .ok (.lconst 0, 1) := by decide +kernel
theorem dX12_saturdays_34 : decode cX12_saturdays 34 = .ok (.lconst 1, 1) := by decide +kernel
theorem dX12_saturdays_35 : decode cX12_saturdays 35 = .ok (.invokestatic 155, 3) := by decide +kernel
theorem dX12_saturdays_38 : decode cX12_saturdays 38 = .ok (.ifCond .ne 5, 3) := by decide +kernel
theorem dX12_saturdays_41 : decode cX12_saturdays 41 = .ok (.iconst (-1), 1) := by decide +kernel
theorem dX12_saturdays_42 : decode cX12_saturdays 42 = .ok (.ireturn, 1) := by decide +kernel
theorem dX12_saturdays_43 : decode cX12_saturdays 43 = .ok (.aload_n 0, 1) := by decide +kernel
theorem dX12_saturdays_44 : decode cX12_saturdays 44 = .ok (.getfield 9, 3) := by decide +kernel
theorem dX12_saturdays_47 : decode cX12_saturdays 47 = .ok (.bipush 7, 2) := by decide +kernel
theorem dX12_saturdays_49 : decode cX12_saturdays 49 = .ok (.iaload, 1) := by decide +kernel
theorem dX12_saturdays_50 : decode cX12_saturdays 50 = .ok (.istore 4, 2) := by decide +kernel
theorem dX12_saturdays_52 : decode cX12_saturdays 52 = .ok (.iload 4, 2) := by decide +kernel
theorem dX12_saturdays_54 : decode cX12_saturdays 54 = .ok (.istore 5, 2) := by decide +kernel
theorem dX12_saturdays_56 : decode cX12_saturdays 56 = .ok (.iconst 0, 1) := by decide +kernel
theorem dX12_saturdays_57 : decode cX12_saturdays 57 = .ok (.istore 6, 2) := by decide +kernel
theorem dX12_saturdays_59 : decode cX12_saturdays 59 = .ok (.iconst 0, 1) := by decide +kernel
theorem dX12_saturdays_60 : decode cX12_saturdays 60 = .ok (.istore 7, 2) := by decide +kernel
theorem dX12_saturdays_62 : decode cX12_saturdays 62 = .ok (.aload_n 0, 1) := by decide +kernel
theorem dX12_saturdays_63 : decode cX12_saturdays 63 = .ok (.invokevirtual 441, 3) := by decide +kernel
theorem dX12_saturdays_66 : decode cX12_saturdays 66 = .ok (.iconst 0, 1) := by decide +kernel
theorem dX12_saturdays_67 : decode cX12_saturdays 67 = .ok (.istore 8, 2) := by decide +kernel
theorem dX12_saturdays_69 : decode cX12_saturdays 69 = .ok (.iload 8, 2) := by decide +kernel
theorem dX12_saturdays_71 : decode cX12_saturdays 71 = .ok (.iload_n 1, 1) := by decide +kernel
theorem dX12_saturdays_72 : decode cX12_saturdays 72 = .ok (.if_icmp .ge 101, 3) := by decide +kernel
theorem dX12_saturdays_75 : decode cX12_saturdays 75 = .ok (.aload_n 0, 1) := by decide +kernel
theorem dX12_saturdays_76 : decode cX12_saturdays 76 = .ok (.invokevirtual 324, 3) := by decide +kernel
theorem dX12_saturdays_79 : decode cX12_saturdays 79 = .ok (.aload_n 0, 1) := by decide +kernel
theorem dX12_saturdays_80 : decode cX12_saturdays 80 = .ok (.getfield 9, 3) := by decide +kernel
theorem dX12_saturdays_83 : decode cX12_saturdays 83 = .ok (.bipush 7, 2) := by decide +kernel
theorem dX12_saturdays_85 : decode cX12_saturdays 85 = .ok (.iload 5, 2) := by decide +kernel
theorem dX12_saturdays_87 : decode cX12_saturdays 87 = .ok (.iastore, 1) := by decide +kernel
theorem dX12_saturdays_88 : decode cX12_saturdays 88 = .ok (.iconst 0, 1) := by decide +kernel
theorem dX12_saturdays_89 : decode cX12_saturdays 89 = .ok (.istore 9, 2) := by decide +kernel
theorem dX12_saturdays_91 : decode cX12_saturdays 91 = .ok (.iload 9, 2) := by decide +kernel
theorem dX12_saturdays_93 : decode cX12_saturdays 93 = .ok (.aload_n 0, 1) := by decide +kernel
theorem dX12_saturdays_94 : decode cX12_saturdays 94 = .ok (.getfield 9, 3) := by decide +kernel
theorem dX12_saturdays_97 : decode cX12_saturdays 97 = .ok (.iconst 4, 1) := by decide +kernel
theorem dX12_saturdays_98 : decode cX12_saturdays 98 = .ok (.iaload, 1) := by decide +kernel
theorem dX12_saturdays_99 : decode cX12_saturdays 99 = .ok (.if_icmp .ge 26, 3) := by decide +kernel
theorem dX12_saturdays_102 : decode cX12_saturdays 102 = .ok (.aload_n 0, 1) := by decide +kernel
theorem dX12_saturdays_103 : decode cX12_saturdays 103 = .ok (.getfield 37, 3) := by decide +kernel
theorem dX12_saturdays_106 : decode cX12_saturdays 106 = .ok (.iload 9, 2) := by decide +kernel
theorem dX12_saturdays_108 : decode cX12_saturdays 108 = .ok (.dup2, 1) := by decide +kernel
theorem dX12_saturdays_109 : decode cX12_saturdays 109 = .ok (.iaload, 1) := by decide +kernel
theorem dX12_saturdays_110 : decode cX12_saturdays 110 = .ok (.aload_n 0, 1) := by decide +kernel
theorem dX12_saturdays_111 : decode cX12_saturdays 111 = .ok (.iload_n 2, 1) := by decide +kernel
theorem dX12_saturdays_112 : decode cX12_saturdays 112 = .ok (.iconst 1, 1) := by decide +kernel
theorem dX12_saturdays_113 : decode cX12_saturdays 113 = .ok (.iadd, 1) := by decide +kernel
theorem dX12_saturdays_114 : decode cX12_saturdays 114 = .ok (.invokevirtual 503, 3) := by decide +kernel
theorem dX12_saturdays_117 : decode cX12_saturdays 117 = .ok (.iadd, 1) := by decide +kernel
theorem dX12_saturdays_118 : decode cX12_saturdays 118 = .ok (.iastore, 1) := by decide +kernel
theorem dX12_saturdays_119 : decode cX12_saturdays 119 = .ok (.iinc 9 1, 3) := by decide +kernel
theorem dX12_saturdays_122 : decode cX12_saturdays 122 = .ok (.goto (-31), 3) := by decide +kernel
theorem dX12_saturdays_125 : decode cX12_saturdays 125 = .ok (.aload_n 0, 1) := by decide +kernel
theorem dX12_saturdays_126 : decode cX12_saturdays 126 = .ok (.getfield 9, 3) := by decide +kernel
theorem dX12_saturdays_129 : decode cX12_saturdays 129 = .ok (.bipush 7, 2) := by decide +kernel
theorem dX12_saturdays_131 : decode cX12_saturdays 131 = .ok (.iaload, 1) := by decide +kernel
theorem dX12_saturdays_132 : decode cX12_saturdays 132 = .ok (.istore 5, 2) := by decide +kernel
theorem dX12_saturdays_134 : decode cX12_saturdays 134 = .ok (.aload_n 0, 1) := by decide +kernel
theorem dX12_saturdays_135 : decode cX12_saturdays 135 = .ok (.sipush 400, 3) := by decide +kernel
theorem dX12_saturdays_138 : decode cX12_saturdays 138 = .ok (.invokevirtual 444, 3) := by decide +kernel
theorem dX12_saturdays_141 : decode cX12_saturdays 141 = .ok (.iload 6, 2) := by decide +kernel
theorem dX12_saturdays_143 : decode cX12_saturdays 143 = .ok (.aload_n 0, 1) := by decide +kernel
theorem dX12_saturdays_144 : decode cX12_saturdays 144 = .ok (.invokevirtual 447, 3) := by decide +kernel
theorem dX12_saturdays_147 : decode cX12_saturdays 147 = .ok (.iadd, 1) := by decide +kernel
theorem dX12_saturdays_148 : decode cX12_saturdays 148 = .ok (.istore 6, 2) := by decide +kernel
theorem dX12_saturdays_150 : decode cX12_saturdays 150 = .ok (.iload 7, 2) := by decide +kernel
theorem dX12_saturdays_152 : decode cX12_saturdays 152 = .ok (.aload_n 0, 1) := by decide +kernel
theorem dX12_saturdays_153 : decode cX12_saturdays 153 = .ok (.iconst 4, 1) := by decide +kernel
theorem dX12_saturdays_154 : decode cX12_saturdays 154 = .ok (.invokevirtual 373, 3) := by decide +kernel
theorem dX12_saturdays_157 : decode cX12_saturdays 157 = .ok (.invokestatic 376, 3) := by decide +kernel
theorem dX12_saturdays_160 : decode cX12_saturdays 160 = .ok (.iadd, 1) := by decide +kernel
theorem dX12_saturdays_161 : decode cX12_saturdays 161 = .ok (.istore 7, 2) := by decide +kernel
theorem dX12_saturdays_163 : decode cX12_saturdays 163 = .ok (.aload_n 0, 1) := by decide +kernel
theorem dX12_saturdays_164 : decode cX12_saturdays 164 = .ok (.invokevirtual 450, 3) := by decide +kernel
theorem dX12_saturdays_167 : decode cX12_saturdays 167 = .ok (.iinc 8 1, 3) := by decide +kernel
theorem dX12_saturdays_170 : decode cX12_saturdays 170 = .ok (.goto (-101), 3) := by decide +kernel
theorem dX12_saturdays_173 : decode cX12_saturdays 173 = .ok (.aload_n 0, 1) := by decide +kernel
theorem dX12_saturdays_174 : decode cX12_saturdays 174 = .ok (.getfield 9, 3) := by decide +kernel
theorem dX12_saturdays_177 : decode cX12_saturdays 177 = .ok (.bipush 7, 2) := by decide +kernel
theorem dX12_saturdays_179 : decode cX12_saturdays 179 = .ok (.iload 4, 2) := by decide +kernel
theorem dX12_saturdays_181 : decode cX12_saturdays 181 = .ok (.iastore, 1) := by decide +kernel
theorem dX12_saturdays_182 : decode cX12_saturdays 182 = .ok (.iload_n 3, 1) := by decide +kernel
theorem dX12_saturdays_183 : decode cX12_saturdays 183 = .ok (.ifCond .ne 8, 3) := by decide +kernel
theorem dX12_saturdays_186 : decode cX12_saturdays 186 = .ok (.iload 6, 2) := by decide +kernel
theorem dX12_saturdays_188 : decode cX12_saturdays 188 = .ok (.goto 5, 3) := by decide +kernel
theorem dX12_saturdays_191 : decode cX12_saturdays 191 = .ok (.iload 7, 2) := by decide +kernel
theorem dX12_saturdays_193 : decode cX12_saturdays 193 = .ok (.ireturn, 1) := by decide +kernel
theorem dX12_count_0 : decode cX12_count 0 = .ok (.iload_n 1, 1) := by decide +kernel
theorem dX12_count_1 : decode cX12_count 1 = .ok (.tableswitch 193 0 16 #[83, 90, 97, 104, 111, 118, 123, 131, 138, 144, 150, 156, 162, 167, 175, 180, 188], 83) := by decide +kernel
theorem dX12_count_84 : decode cX12_count 84 = .ok (.aload_n 0, 1) := by decide +kernel
theorem dX12_count_85 : decode cX12_count 85 = .ok (.getfield 9, 3) := by decide +kernel
theorem dX12_count_88 : decode cX12_count 88 = .ok (.iconst 0, 1) := by decide +kernel
theorem dX12_count_89 : decode cX12_count 89 = .ok (.iaload, 1) := by decide +kernel
theorem dX12_count_90 : decode cX12_count 90 = .ok (.ireturn, 1) := by decide +kernel
theorem dX12_count_91 : decode cX12_count 91 = .ok (.aload_n 0, 1) := by decide +kernel
theorem dX12_count_92 : decode cX12_count 92 = .ok (.getfield 9, 3) := by decide +kernel
theorem dX12_count_95 : decode cX12_count 95 = .ok (.iconst 1, 1) := by decide +kernel
theorem dX12_count_96 : decode cX12_count 96 = .ok (.iaload, 1) := by decide +kernel
theorem dX12_count_97 : decode cX12_count 97 = .ok (.ireturn, 1) := by decide +kernel
theorem dX12_count_98 : decode cX12_count 98 = .ok (.aload_n 0, 1) := by decide +kernel
theorem dX12_count_99 : decode cX12_count 99 = .ok (.getfield 9, 3) := by decide +kernel
theorem dX12_count_102 : decode cX12_count 102 = .ok (.iconst 2, 1) := by decide +kernel
theorem dX12_count_103 : decode cX12_count 103 = .ok (.iaload, 1) := by decide +kernel
theorem dX12_count_104 : decode cX12_count 104 = .ok (.ireturn, 1) := by decide +kernel
theorem dX12_count_105 : decode cX12_count 105 = .ok (.aload_n 0, 1) := by decide +kernel
theorem dX12_count_106 : decode cX12_count 106 = .ok (.getfield 9, 3) := by decide +kernel
theorem dX12_count_109 : decode cX12_count 109 = .ok (.iconst 3, 1) := by decide +kernel
theorem dX12_count_110 : decode cX12_count 110 = .ok (.iaload, 1) := by decide +kernel
theorem dX12_count_111 : decode cX12_count 111 = .ok (.ireturn, 1) := by decide +kernel
theorem dX12_count_112 : decode cX12_count 112 = .ok (.aload_n 0, 1) := by decide +kernel
theorem dX12_count_113 : decode cX12_count 113 = .ok (.getfield 9, 3) := by decide +kernel
theorem dX12_count_116 : decode cX12_count 116 = .ok (.iconst 4, 1) := by decide +kernel
theorem dX12_count_117 : decode cX12_count 117 = .ok (.iaload, 1) := by decide +kernel
theorem dX12_count_118 : decode cX12_count 118 = .ok (.ireturn, 1) := by decide +kernel
theorem dX12_count_119 : decode cX12_count 119 = .ok (.aload_n 0, 1) := by decide +kernel
theorem dX12_count_120 : decode cX12_count 120 = .ok (.getfield 340, 3) := by decide +kernel
theorem dX12_count_123 : decode cX12_count 123 = .ok (.ireturn, 1) := by decide +kernel
theorem dX12_count_124 : decode cX12_count 124 = .ok (.aload_n 0, 1) := by decide +kernel
theorem dX12_count_125 : decode cX12_count 125 = .ok (.getfield 9, 3) := by decide +kernel
theorem dX12_count_128 : decode cX12_count 128 = .ok (.bipush 8, 2) := by decide +kernel
theorem dX12_count_130 : decode cX12_count 130 = .ok (.iaload, 1) := by decide +kernel
theorem dX12_count_131 : decode cX12_count 131 = .ok (.ireturn, 1) := by decide +kernel
theorem dX12_count_132 : decode cX12_count 132 = .ok (.aload_n 0, 1) := by decide +kernel
theorem dX12_count_133 : decode cX12_count 133 = .ok (.getfield 9, 3) := by decide +kernel
theorem dX12_count_136 : decode cX12_count 136 = .ok (.iconst 5, 1) := by decide +kernel
theorem dX12_count_137 : decode cX12_count 137 = .ok (.iaload, 1) := by decide +kernel
theorem dX12_count_138 : decode cX12_count 138 = .ok (.ireturn, 1) := by decide +kernel
theorem dX12_count_139 : decode cX12_count 139 = .ok (.aload_n 0, 1) := by decide +kernel
theorem dX12_count_140 : decode cX12_count 140 = .ok (.iconst 1, 1) := by decide +kernel
theorem dX12_count_141 : decode cX12_count 141 = .ok (.invokevirtual 373, 3) := by decide +kernel
theorem dX12_count_144 : decode cX12_count 144 = .ok (.ireturn, 1) := by decide +kernel
theorem dX12_count_145 : decode cX12_count 145 = .ok (.aload_n 0, 1) := by decide +kernel
theorem dX12_count_146 : decode cX12_count 146 = .ok (.iconst 2, 1) := by decide +kernel
theorem dX12_count_147 : decode cX12_count 147 = .ok (.invokevirtual 373, 3) := by decide +kernel
theorem dX12_count_150 : decode cX12_count 150 = .ok (.ireturn, 1) := by decide +kernel
theorem dX12_count_151 : decode cX12_count 151 = .ok (.aload_n 0, 1) := by decide +kernel
theorem dX12_count_152 : decode cX12_count 152 = .ok (.iconst 3, 1) := by decide +kernel
theorem dX12_count_153 : decode cX12_count 153 = .ok (.invokevirtual 373, 3) := by decide +kernel
theorem dX12_count_156 : decode cX12_count 156 = .ok (.ireturn, 1) := by decide +kernel
theorem dX12_count_157 : decode cX12_count 157 = .ok (.aload_n 0, 1) := by decide +kernel
theorem dX12_count_158 : decode cX12_count 158 = .ok (.iconst 4, 1) := by decide +kernel
theorem dX12_count_159 : decode cX12_count 159 = .ok (.invokevirtual 373, 3) := by decide +kernel
theorem dX12_count_162 : decode cX12_count 162 = .ok (.ireturn, 1) := by decide +kernel
theorem dX12_count_163 : decode cX12_count 163 = .ok (.aload_n 0, 1) := by decide +kernel
theorem dX12_count_164 : decode cX12_count 164 = .ok (.invokevirtual 447, 3) := by decide +kernel
theorem dX12_count_167 : decode cX12_count 167 = .ok (.ireturn, 1) := by decide +kernel
theorem dX12_count_168 : decode cX12_count 168 = .ok (.aload_n 0, 1) := by decide +kernel
theorem dX12_count_169 : decode cX12_count 169 = .ok (.getfield 9, 3) := by decide +kernel
theorem dX12_count_172 : decode cX12_count 172 = .ok (.bipush 6, 2) := by decide +kernel
theorem dX12_count_174 : decode cX12_count 174 = .ok (.iaload, 1) := by decide +kernel
theorem dX12_count_175 : decode cX12_count 175 = .ok (.ireturn, 1) := by decide +kernel
theorem dX12_count_176 : decode cX12_count 176 = .ok (.aload_n 0, 1) := by decide +kernel
theorem dX12_count_177 : decode cX12_count 177 = .ok (.getfield 327, 3) := by decide +kernel
theorem dX12_count_180 : decode cX12_count 180 = .ok (.ireturn, 1) := by decide +kernel
theorem dX12_count_181 : decode cX12_count 181 = .ok (.aload_n 0, 1) := by decide +kernel
theorem dX12_count_182 : decode cX12_count 182 = .ok (.getfield 9, 3) := by decide +kernel
theorem dX12_count_185 : decode cX12_count 185 = .ok (.bipush 7, 2) := by decide +kernel
theorem dX12_count_187 : decode cX12_count 187 = .ok (.iaload, 1) := by decide +kernel
theorem dX12_count_188 : decode cX12_count 188 = .ok (.ireturn, 1) := by decide +kernel
theorem dX12_count_189 : decode cX12_count 189 = .ok (.aload_n 0, 1) := by decide +kernel
theorem dX12_count_190 : decode cX12_count 190 = .ok (.getfield 159, 3) := by decide +kernel
theorem dX12_count_193 : decode cX12_count 193 = .ok (.ireturn, 1) := by decide +kernel
theorem dX12_count_194 : decode cX12_count 194 = .ok (.iconst (-1), 1) := by decide +kernel
theorem dX12_count_195 : decode cX12_count 195 = .ok (.ireturn, 1) := by decide +kernel
theorem dX12_carryRow_0 : decode cX12_carryRow 0 = .ok (.iconst 0, 1) := by decide +kernel
theorem dX12_carryRow_1 : decode cX12_carryRow 1 = .ok (.istore_n 2, 1) := by decide +kernel
theorem dX12_carryRow_2 : decode cX12_carryRow 2 = .ok (.iload_n 2, 1) := by decide +kernel
theorem dX12_carryRow_3 : decode cX12_carryRow 3 = .ok (.aload_n 1, 1) := by decide +kernel
theorem dX12_carryRow_4 : decode cX12_carryRow 4 = .ok (.arraylength, 1) := by decide +kernel
theorem dX12_carryRow_5 : decode cX12_carryRow 5 = .ok (.if_icmp .ge 53, 3) := by decide +kernel
theorem dX12_carryRow_8 : decode cX12_carryRow 8 = .ok (.aload_n 0, 1) := by decide +kernel
theorem dX12_carryRow_9 : decode cX12_carryRow 9 = .ok (.getfield 506, 3) := by decide +kernel
theorem dX12_carryRow_12 : decode cX12_carryRow 12 = .ok (.ifCond .eq 18, 3) := by decide +kernel
theorem dX12_carryRow_15 : decode cX12_carryRow 15 = .ok (.aload_n 1, 1) := by decide +kernel
theorem dX12_carryRow_16 : decode cX12_carryRow 16 = .ok (.iload_n 2, 1) := by decide +kernel
theorem dX12_carryRow_17 : decode cX12_carryRow 17 = .ok (.aload_n 0, 1) := by decide +kernel
theorem dX12_carryRow_18 : decode cX12_carryRow 18 = .ok (.getfield 145, 3) := by decide +kernel
theorem dX12_carryRow_21 : decode cX12_carryRow 21 = .ok (.aload_n 0, 1) := by decide +kernel
theorem dX12_carryRow_22 : decode cX12_carryRow 22 = .ok (.getfield 509, 3) := by decide +kernel
theorem dX12_carryRow_25 : decode cX12_carryRow 25 = .ok (.iaload, 1) := by decide +kernel
theorem dX12_carryRow_26 : decode cX12_carryRow 26 = .ok (.iastore, 1) := by decide +kernel
theorem dX12_carryRow_27 : decode cX12_carryRow 27 = .ok (.goto 15, 3) := by decide +kernel
theorem dX12_carryRow_30 : decode cX12_carryRow 30 = .ok (.aload_n 0, 1) := by decide +kernel
theorem dX12_carryRow_31 : decode cX12_carryRow 31 = .ok (.getfield 145, 3) := by decide +kernel
theorem dX12_carryRow_34 : decode cX12_carryRow 34 = .ok (.aload_n 0, 1) := by decide +kernel
theorem dX12_carryRow_35 : decode cX12_carryRow 35 = .ok (.getfield 509, 3) := by decide +kernel
theorem dX12_carryRow_38 : decode cX12_carryRow 38 = .ok (.aload_n 1, 1) := by decide +kernel
theorem dX12_carryRow_39 : decode cX12_carryRow 39 = .ok (.iload_n 2, 1) := by decide +kernel
theorem dX12_carryRow_40 : decode cX12_carryRow 40 = .ok (.iaload, 1) := by decide +kernel
theorem dX12_carryRow_41 : decode cX12_carryRow 41 = .ok (.iastore, 1) := by decide +kernel
theorem dX12_carryRow_42 : decode cX12_carryRow 42 = .ok (.aload_n 0, 1) := by decide +kernel
theorem dX12_carryRow_43 : decode cX12_carryRow 43 = .ok (.dup, 1) := by decide +kernel
theorem dX12_carryRow_44 : decode cX12_carryRow 44 = .ok (.getfield 509, 3) := by decide +kernel
theorem dX12_carryRow_47 : decode cX12_carryRow 47 = .ok (.iconst 1, 1) := by decide +kernel
theorem dX12_carryRow_48 : decode cX12_carryRow 48 = .ok (.iadd, 1) := by decide +kernel
theorem dX12_carryRow_49 : decode cX12_carryRow 49 = .ok (.putfield 509, 3) := by decide +kernel
theorem dX12_carryRow_52 : decode cX12_carryRow 52 = .ok (.iinc 2 1, 3) := by decide +kernel
theorem dX12_carryRow_55 : decode cX12_carryRow 55 = .ok (.goto (-53), 3) := by decide +kernel
theorem dX12_carryRow_58 : decode cX12_carryRow 58 = .ok (.return_, 1) := by decide +kernel
theorem dX12_carriesAll_0 : decode cX12_carriesAll 0 = .ok (.aload_n 0, 1) := by decide +kernel
theorem dX12_carriesAll_1 : decode cX12_carriesAll 1 = .ok (.sipush 900, 3) := by decide +kernel
theorem dX12_carriesAll_4 : decode cX12_carriesAll 4 = .ok (.iload_n 1, 1) := by decide +kernel
theorem dX12_carriesAll_5 : decode cX12_carriesAll 5 = .ok (.imul, 1) := by decide +kernel
theorem dX12_carriesAll_6 : decode cX12_carriesAll 6 = .ok (.putfield 509, 3) := by decide +kernel
theorem dX12_carriesAll_9 : decode cX12_carriesAll 9 = .ok (.aload_n 0, 1) := by decide +kernel
theorem dX12_carriesAll_10 : decode cX12_carriesAll 10 = .ok (.iload_n 2, 1) := by decide +kernel
theorem dX12_carriesAll_11 : decode cX12_carriesAll 11 = .ok (.putfield 506, 3) := by decide +kernel
theorem dX12_carriesAll_14 : decode cX12_carriesAll 14 = .ok (.aload_n 0, 1) := by decide +kernel
theorem dX12_carriesAll_15 : decode cX12_carriesAll 15 = .ok (.aload_n 0, 1) := by decide +kernel
theorem dX12_carriesAll_16 : decode cX12_carriesAll 16 = .ok (.getfield 9, 3) := by decide +kernel
theorem dX12_carriesAll_19 : decode cX12_carriesAll 19 = .ok (.invokevirtual 512, 3) := by decide +kernel
theorem dX12_carriesAll_22 : decode cX12_carriesAll 22 = .ok (.aload_n 0, 1) := by decide +kernel
theorem dX12_carriesAll_23 : decode cX12_carriesAll 23 = .ok (.aload_n 0, 1) := by decide +kernel
theorem dX12_carriesAll_24 : decode cX12_carriesAll 24 = .ok (.getfield 16, 3) := by decide +kernel
theorem dX12_carriesAll_27 : decode cX12_carriesAll 27 = .ok (.invokevirtual 512, 3) := by decide +kernel
theorem dX12_carriesAll_30 : decode cX12_carriesAll 30 = .ok (.aload_n 0, 1) := by decide +kernel
theorem dX12_carriesAll_31 : decode cX12_carriesAll 31 = .ok (.aload_n 0, 1) := by decide +kernel
theorem dX12_carriesAll_32 : decode cX12_carriesAll 32 = .ok (.getfield 22, 3) := by decide +kernel
theorem dX12_carriesAll_35 : decode cX12_carriesAll 35 = .ok (.invokevirtual 512, 3) := by decide +kernel
theorem dX12_carriesAll_38 : decode cX12_carriesAll 38 = .ok (.aload_n 0, 1) := by decide +kernel
theorem dX12_carriesAll_39 : decode cX12_carriesAll 39 = .ok (.aload_n 0, 1) := by decide +kernel
theorem dX12_carriesAll_40 : decode cX12_carriesAll 40 = .ok (.getfield 25, 3) := by decide +kernel
theorem dX12_carriesAll_43 : decode cX12_carriesAll 43 = .ok (.invokevirtual 512, 3) := by decide +kernel
theorem dX12_carriesAll_46 : decode cX12_carriesAll 46 = .ok (.aload_n 0, 1) := by decide +kernel
theorem dX12_carriesAll_47 : decode cX12_carriesAll 47 = .ok (.aload_n 0, 1) := by decide +kernel
theorem dX12_carriesAll_48 : decode cX12_carriesAll 48 = .ok (.getfield 28, 3) := by decide +kernel
theorem dX12_carriesAll_51 : decode cX12_carriesAll 51 = .ok (.invokevirtual 512, 3) := by decide +kernel
theorem dX12_carriesAll_54 : decode cX12_carriesAll 54 = .ok (.aload_n 0, 1) := by decide +kernel
theorem dX12_carriesAll_55 : decode cX12_carriesAll 55 = .ok (.aload_n 0, 1) := by decide +kernel
theorem dX12_carriesAll_56 : decode cX12_carriesAll 56 = .ok (.getfield 31, 3) := by decide +kernel
theorem dX12_carriesAll_59 : decode cX12_carriesAll 59 = .ok (.invokevirtual 512, 3) := by decide +kernel
theorem dX12_carriesAll_62 : decode cX12_carriesAll 62 = .ok (.aload_n 0, 1) := by decide +kernel
theorem dX12_carriesAll_63 : decode cX12_carriesAll 63 = .ok (.aload_n 0, 1) := by decide +kernel
theorem dX12_carriesAll_64 : decode cX12_carriesAll 64 = .ok (.getfield 46, 3) := by decide +kernel
theorem dX12_carriesAll_67 : decode cX12_carriesAll 67 = .ok (.invokevirtual 512, 3) := by decide +kernel
theorem dX12_carriesAll_70 : decode cX12_carriesAll 70 = .ok (.aload_n 0, 1) := by decide +kernel
theorem dX12_carriesAll_71 : decode cX12_carriesAll 71 = .ok (.aload_n 0, 1) := by decide +kernel
theorem dX12_carriesAll_72 : decode cX12_carriesAll 72 = .ok (.getfield 49, 3) := by decide +kernel
theorem dX12_carriesAll_75 : decode cX12_carriesAll 75 = .ok (.invokevirtual 512, 3) := by decide +kernel
theorem dX12_carriesAll_78 : decode cX12_carriesAll 78 = .ok (.aload_n 0, 1) := by decide +kernel
theorem dX12_carriesAll_79 : decode cX12_carriesAll 79 = .ok (.aload_n 0, 1) := by decide +kernel
theorem dX12_carriesAll_80 : decode cX12_carriesAll 80 = .ok (.getfield 37, 3) := by decide +kernel
theorem dX12_carriesAll_83 : decode cX12_carriesAll 83 = .ok (.invokevirtual 512, 3) := by decide +kernel
theorem dX12_carriesAll_86 : decode cX12_carriesAll 86 = .ok (.iload_n 1, 1) := by decide +kernel
theorem dX12_carriesAll_87 : decode cX12_carriesAll 87 = .ok (.iconst 4, 1) := by decide +kernel
theorem dX12_carriesAll_88 : decode cX12_carriesAll 88 = .ok (.if_icmp .ne 4, 3) := by decide +kernel
theorem dX12_carriesAll_91 : decode cX12_carriesAll 91 = .ok (.return_, 1) := by decide +kernel
theorem dX12_carriesAll_92 : decode cX12_carriesAll 92 = .ok (.aload_n 0, 1) := by decide +kernel
theorem dX12_carriesAll_93 : decode cX12_carriesAll 93 = .ok (.getfield 127, 3) := by decide +kernel
theorem dX12_carriesAll_96 : decode cX12_carriesAll 96 = .ok (.iconst 0, 1) := by decide +kernel
theorem dX12_carriesAll_97 : decode cX12_carriesAll 97 = .ok (.aload_n 0, 1) := by decide +kernel
theorem dX12_carriesAll_98 : decode cX12_carriesAll 98 = .ok (.getfield 327, 3) := by decide +kernel
theorem dX12_carriesAll_101 : decode cX12_carriesAll 101 = .ok (.iastore, 1) := by decide +kernel
theorem dX12_carriesAll_102 : decode cX12_carriesAll 102 = .ok (.aload_n 0, 1) := by decide +kernel
theorem dX12_carriesAll_103 : decode cX12_carriesAll 103 = .ok (.aload_n 0, 1) := by decide +kernel
theorem dX12_carriesAll_104 : decode cX12_carriesAll 104 = .ok (.getfield 127, 3) := by decide +kernel
theorem dX12_carriesAll_107 : decode cX12_carriesAll 107 = .ok (.invokevirtual 512, 3) := by decide +kernel
theorem dX12_carriesAll_110 : decode cX12_carriesAll 110 = .ok (.aload_n 0, 1) := by decide +kernel
theorem dX12_carriesAll_111 : decode cX12_carriesAll 111 = .ok (.aload_n 0, 1) := by decide +kernel
theorem dX12_carriesAll_112 : decode cX12_carriesAll 112 = .ok (.getfield 127, 3) := by decide +kernel
theorem dX12_carriesAll_115 : decode cX12_carriesAll 115 = .ok (.iconst 0, 1) := by decide +kernel
theorem dX12_carriesAll_116 : decode cX12_carriesAll 116 = .ok (.iaload, 1) := by decide +kernel
theorem dX12_carriesAll_117 : decode cX12_carriesAll 117 = .ok (.putfield 327, 3) := by decide +kernel
theorem dX12_carriesAll_120 : decode cX12_carriesAll 120 = .ok (.aload_n 0, 1) := by decide +kernel
theorem dX12_carriesAll_121 : decode cX12_carriesAll 121 = .ok (.aload_n 0, 1) := by decide +kernel
theorem dX12_carriesAll_122 : decode cX12_carriesAll 122 = .ok (.getfield 13, 3) := by decide +kernel
theorem dX12_carriesAll_125 : decode cX12_carriesAll 125 = .ok (.invokevirtual 512, 3) := by decide +kernel
theorem dX12_carriesAll_128 : decode cX12_carriesAll 128 = .ok (.aload_n 0, 1) := by decide +kernel
theorem dX12_carriesAll_129 : decode cX12_carriesAll 129 = .ok (.aload_n 0, 1) := by decide +kernel
theorem dX12_carriesAll_130 : decode cX12_carriesAll 130 = .ok (.getfield 19, 3) := by decide +kernel
theorem dX12_carriesAll_133 : decode cX12_carriesAll 133 = .ok (.invokevirtual 512, 3) := by decide +kernel
theorem dX12_carriesAll_136 : decode cX12_carriesAll 136 = .ok (.aload_n 0, 1) := by decide +kernel
theorem dX12_carriesAll_137 : decode cX12_carriesAll 137 = .ok (.aload_n 0, 1) := by decide +kernel
theorem dX12_carriesAll_138 : decode cX12_carriesAll 138 = .ok (.getfield 34, 3) := by decide +kernel
theorem dX12_carriesAll_141 : decode cX12_carriesAll 141 = .ok (.invokevirtual 512, 3) := by decide +kernel
theorem dX12_carriesAll_144 : decode cX12_carriesAll 144 = .ok (.aload_n 0, 1) := by decide +kernel
theorem dX12_carriesAll_145 : decode cX12_carriesAll 145 = .ok (.aload_n 0, 1) := by decide +kernel
theorem dX12_carriesAll_146 : decode cX12_carriesAll 146 = .ok (.getfield 40, 3) := by decide +kernel
theorem dX12_carriesAll_149 : decode cX12_carriesAll 149 = .ok (.invokevirtual 512, 3) := by decide +kernel
theorem dX12_carriesAll_152 : decode cX12_carriesAll 152 = .ok (.aload_n 0, 1) := by decide +kernel
theorem dX12_carriesAll_153 : decode cX12_carriesAll 153 = .ok (.aload_n 0, 1) := by decide +kernel
theorem dX12_carriesAll_154 : decode cX12_carriesAll 154 = .ok (.getfield 43, 3) := by decide +kernel
theorem dX12_carriesAll_157 : decode cX12_carriesAll 157 = .ok (.invokevirtual 512, 3) := by decide +kernel
theorem dX12_carriesAll_160 : decode cX12_carriesAll 160 = .ok (.aload_n 0, 1) := by decide +kernel
theorem dX12_carriesAll_161 : decode cX12_carriesAll 161 = .ok (.aload_n 0, 1) := by decide +kernel
theorem dX12_carriesAll_162 : decode cX12_carriesAll 162 = .ok (.getfield 52, 3) := by decide +kernel
theorem dX12_carriesAll_165 : decode cX12_carriesAll 165 = .ok (.invokevirtual 512, 3) := by decide +kernel
theorem dX12_carriesAll_168 : decode cX12_carriesAll 168 = .ok (.aload_n 0, 1) := by decide +kernel
theorem dX12_carriesAll_169 : decode cX12_carriesAll 169 = .ok (.aload_n 0, 1) := by decide +kernel
theorem dX12_carriesAll_170 : decode cX12_carriesAll 170 = .ok (.getfield 55, 3) := by decide +kernel
theorem dX12_carriesAll_173 : decode cX12_carriesAll 173 = .ok (.invokevirtual 512, 3) := by decide +kernel
theorem dX12_carriesAll_176 : decode cX12_carriesAll 176 = .ok (.aload_n 0, 1) := by decide +kernel
theorem dX12_carriesAll_177 : decode cX12_carriesAll 177 = .ok (.aload_n 0, 1) := by decide +kernel
theorem dX12_carriesAll_178 : decode cX12_carriesAll 178 = .ok (.getfield 58, 3) := by decide +kernel
theorem dX12_carriesAll_181 : decode cX12_carriesAll 181 = .ok (.invokevirtual 512, 3) := by decide +kernel
theorem dX12_carriesAll_184 : decode cX12_carriesAll 184 = .ok (.aload_n 0, 1) := by decide +kernel
theorem dX12_carriesAll_185 : decode cX12_carriesAll 185 = .ok (.aload_n 0, 1) := by decide +kernel
theorem dX12_carriesAll_186 : decode cX12_carriesAll 186 = .ok (.getfield 61, 3) := by decide +kernel
theorem dX12_carriesAll_189 : decode cX12_carriesAll 189 = .ok (.invokevirtual 512, 3) := by decide +kernel
theorem dX12_carriesAll_192 : decode cX12_carriesAll 192 = .ok (.aload_n 0, 1) := by decide +kernel
theorem dX12_carriesAll_193 : decode cX12_carriesAll 193 = .ok (.aload_n 0, 1) := by decide +kernel
theorem dX12_carriesAll_194 : decode cX12_carriesAll 194 = .ok (.getfield 124, 3) := by decide +kernel
theorem dX12_carriesAll_197 : decode cX12_carriesAll 197 = .ok (.invokevirtual 512, 3) := by decide +kernel
theorem dX12_carriesAll_200 : decode cX12_carriesAll 200 = .ok (.return_, 1) := by decide +kernel
theorem dX12_image_0 : decode cX12_image 0 = .ok (.iload_n 1, 1) := by decide +kernel
theorem dX12_image_1 : decode cX12_image 1 = .ok (.i2l, 1) := by decide +kernel
theorem dX12_image_2 : decode cX12_image 2 = .ok (.lconst 0, 1) := by decide +kernel
theorem dX12_image_3 : decode cX12_image 3 = .ok (.ldc2_w 515, 3) := by decide +kernel
theorem dX12_image_6 : decode cX12_image 6 = .ok (.invokestatic 155, 3) := by decide +kernel
theorem dX12_image_9 : decode cX12_image 9 = .ok (.ifCond .ne 5, 3) := by decide +kernel
theorem dX12_image_12 : decode cX12_image 12 = .ok (.iconst (-1), 1) := by decide +kernel
theorem dX12_image_13 : decode cX12_image 13 = .ok (.ireturn, 1) := by decide +kernel
theorem dX12_image_14 : decode cX12_image 14 = .ok (.aload_n 0, 1) := by decide +kernel
theorem dX12_image_15 : decode cX12_image 15 = .ok (.getfield 148, 3) := by decide +kernel
theorem dX12_image_18 : decode cX12_image 18 = .ok (.iload_n 1, 1) := by decide +kernel
theorem dX12_image_19 : decode cX12_image 19 = .ok (.iconst 1, 1) := by decide +kernel
theorem dX12_image_20 : decode cX12_image 20 = .ok (.bastore, 1) := by decide +kernel
theorem dX12_image_21 : decode cX12_image 21 = .ok (.aload_n 0, 1) := by decide +kernel
theorem dX12_image_22 : decode cX12_image 22 = .ok (.iload_n 1, 1) := by decide +kernel
theorem dX12_image_23 : decode cX12_image 23 = .ok (.iconst 0, 1) := by decide +kernel
theorem dX12_image_24 : decode cX12_image 24 = .ok (.invokevirtual 436, 3) := by decide +kernel
theorem dX12_image_27 : decode cX12_image 27 = .ok (.aload_n 0, 1) := by decide +kernel
theorem dX12_image_28 : decode cX12_image 28 = .ok (.getfield 9, 3) := by decide +kernel
theorem dX12_image_31 : decode cX12_image 31 = .ok (.iconst 5, 1) := by decide +kernel
theorem dX12_image_32 : decode cX12_image 32 = .ok (.iaload, 1) := by decide +kernel
theorem dX12_image_33 : decode cX12_image 33 = .ok (.ireturn, 1) := by decide +kernel
theorem dX12_back_0 : decode cX12_back 0 = .ok (.iload_n 1, 1) := by decide +kernel
theorem dX12_back_1 : decode cX12_back 1 = .ok (.i2l, 1) := by decide +kernel
theorem dX12_back_2 : decode cX12_back 2 = .ok (.lconst 0, 1) := by decide +kernel
theorem dX12_back_3 : decode cX12_back 3 = .ok (.ldc2_w 515, 3) := by decide +kernel
theorem dX12_back_6 : decode cX12_back 6 = .ok (.invokestatic 155, 3) := by decide +kernel
theorem dX12_back_9 : decode cX12_back 9 = .ok (.ifCond .eq 12, 3) := by decide +kernel
theorem dX12_back_12 : decode cX12_back 12 = .ok (.aload_n 0, 1) := by decide +kernel
theorem dX12_back_13 : decode cX12_back 13 = .ok (.getfield 148, 3) := by decide +kernel
theorem dX12_back_16 : decode cX12_back 16 = .ok (.iload_n 1, 1) := by decide +kernel
theorem dX12_back_17 : decode cX12_back 17 = .ok (.baload, 1) := by decide +kernel
theorem dX12_back_18 : decode cX12_back 18 = .ok (.ifCond .ne 5, 3) := by decide +kernel
theorem dX12_back_21 : decode cX12_back 21 = .ok (.iconst (-1), 1) := by decide +kernel
theorem dX12_back_22 : decode cX12_back 22 = .ok (.ireturn, 1) := by decide +kernel
theorem dX12_back_23 : decode cX12_back 23 = .ok (.aload_n 0, 1) := by decide +kernel
theorem dX12_back_24 : decode cX12_back 24 = .ok (.iload_n 1, 1) := by decide +kernel
theorem dX12_back_25 : decode cX12_back 25 = .ok (.iconst 1, 1) := by decide +kernel
theorem dX12_back_26 : decode cX12_back 26 = .ok (.invokevirtual 436, 3) := by decide +kernel
theorem dX12_back_29 : decode cX12_back 29 = .ok (.aload_n 0, 1) := by decide +kernel
theorem dX12_back_30 : decode cX12_back 30 = .ok (.getfield 9, 3) := by decide +kernel
theorem dX12_back_33 : decode cX12_back 33 = .ok (.iconst 5, 1) := by decide +kernel
theorem dX12_back_34 : decode cX12_back 34 = .ok (.iaload, 1) := by decide +kernel
theorem dX12_back_35 : decode cX12_back 35 = .ok (.ireturn, 1) := by decide +kernel
theorem dJ6_bitCount_0f7a4_0 : decode cJ6_bitCount_0f7a4 0 = .ok (.iload_n 0, 1) := by decide +kernel
theorem dJ6_bitCount_0f7a4_1 : decode cJ6_bitCount_0f7a4 1 = .ok (.iload_n 0, 1) := by decide +kernel
theorem dJ6_bitCount_0f7a4_2 : decode cJ6_bitCount_0f7a4 2 = .ok (.iconst 1, 1) := by decide +kernel
theorem dJ6_bitCount_0f7a4_3 : decode cJ6_bitCount_0f7a4 3 = .ok (.iushr, 1) := by decide +kernel
theorem dJ6_bitCount_0f7a4_4 : decode cJ6_bitCount_0f7a4 4 = .ok (.ldc_w 265, 3) := by decide +kernel
theorem dJ6_bitCount_0f7a4_7 : decode cJ6_bitCount_0f7a4 7 = .ok (.iand, 1) := by decide +kernel
theorem dJ6_bitCount_0f7a4_8 : decode cJ6_bitCount_0f7a4 8 = .ok (.isub, 1) := by decide +kernel
theorem dJ6_bitCount_0f7a4_9 : decode cJ6_bitCount_0f7a4 9 = .ok (.istore_n 0, 1) := by decide +kernel
theorem dJ6_bitCount_0f7a4_10 : decode cJ6_bitCount_0f7a4 10 = .ok (.iload_n 0, 1) := by decide +kernel
theorem dJ6_bitCount_0f7a4_11 : decode cJ6_bitCount_0f7a4 11 = .ok (.ldc_w 266, 3) := by decide +kernel
theorem dJ6_bitCount_0f7a4_14 : decode cJ6_bitCount_0f7a4 14 = .ok (.iand, 1) := by decide +kernel
theorem dJ6_bitCount_0f7a4_15 : decode cJ6_bitCount_0f7a4 15 = .ok (.iload_n 0, 1) := by decide +kernel
theorem dJ6_bitCount_0f7a4_16 : decode cJ6_bitCount_0f7a4 16 = .ok (.iconst 2, 1) := by decide +kernel
theorem dJ6_bitCount_0f7a4_17 : decode cJ6_bitCount_0f7a4 17 = .ok (.iushr, 1) := by decide +kernel
theorem dJ6_bitCount_0f7a4_18 : decode cJ6_bitCount_0f7a4 18 = .ok (.ldc_w 266, 3) := by decide +kernel
theorem dJ6_bitCount_0f7a4_21 : decode cJ6_bitCount_0f7a4 21 = .ok (.iand, 1) := by decide +kernel
theorem dJ6_bitCount_0f7a4_22 : decode cJ6_bitCount_0f7a4 22 = .ok (.iadd, 1) := by decide +kernel
theorem dJ6_bitCount_0f7a4_23 : decode cJ6_bitCount_0f7a4 23 = .ok (.istore_n 0, 1) := by decide +kernel
theorem dJ6_bitCount_0f7a4_24 : decode cJ6_bitCount_0f7a4 24 = .ok (.iload_n 0, 1) := by decide +kernel
theorem dJ6_bitCount_0f7a4_25 : decode cJ6_bitCount_0f7a4 25 = .ok (.iload_n 0, 1) := by decide +kernel
theorem dJ6_bitCount_0f7a4_26 : decode cJ6_bitCount_0f7a4 26 = .ok (.iconst 4, 1) := by decide +kernel
theorem dJ6_bitCount_0f7a4_27 : decode cJ6_bitCount_0f7a4 27 = .ok (.iushr, 1) := by decide +kernel
theorem dJ6_bitCount_0f7a4_28 : decode cJ6_bitCount_0f7a4 28 = .ok (.iadd, 1) := by decide +kernel
theorem dJ6_bitCount_0f7a4_29 : decode cJ6_bitCount_0f7a4 29 = .ok (.ldc_w 267, 3) := by decide +kernel
theorem dJ6_bitCount_0f7a4_32 : decode cJ6_bitCount_0f7a4 32 = .ok (.iand, 1) := by decide +kernel
theorem dJ6_bitCount_0f7a4_33 : decode cJ6_bitCount_0f7a4 33 = .ok (.istore_n 0, 1) := by decide +kernel
theorem dJ6_bitCount_0f7a4_34 : decode cJ6_bitCount_0f7a4 34 = .ok (.iload_n 0, 1) := by decide +kernel
theorem dJ6_bitCount_0f7a4_35 : decode cJ6_bitCount_0f7a4 35 = .ok (.iload_n 0, 1) := by decide +kernel
theorem dJ6_bitCount_0f7a4_36 : decode cJ6_bitCount_0f7a4 36 = .ok (.bipush 8, 2) := by decide +kernel
theorem dJ6_bitCount_0f7a4_38 : decode cJ6_bitCount_0f7a4 38 = .ok (.iushr, 1) := by decide +kernel
theorem dJ6_bitCount_0f7a4_39 : decode cJ6_bitCount_0f7a4 39 = .ok (.iadd, 1) := by decide +kernel
theorem dJ6_bitCount_0f7a4_40 : decode cJ6_bitCount_0f7a4 40 = .ok (.istore_n 0, 1) := by decide +kernel
theorem dJ6_bitCount_0f7a4_41 : decode cJ6_bitCount_0f7a4 41 = .ok (.iload_n 0, 1) := by decide +kernel
theorem dJ6_bitCount_0f7a4_42 : decode cJ6_bitCount_0f7a4 42 = .ok (.iload_n 0, 1) := by decide +kernel
theorem dJ6_bitCount_0f7a4_43 : decode cJ6_bitCount_0f7a4 43 = .ok (.bipush 16, 2) := by decide +kernel
theorem dJ6_bitCount_0f7a4_45 : decode cJ6_bitCount_0f7a4 45 = .ok (.iushr, 1) := by decide +kernel
theorem dJ6_bitCount_0f7a4_46 : decode cJ6_bitCount_0f7a4 46 = .ok (.iadd, 1) := by decide +kernel
theorem dJ6_bitCount_0f7a4_47 : decode cJ6_bitCount_0f7a4 47 = .ok (.istore_n 0, 1) := by decide +kernel
theorem dJ6_bitCount_0f7a4_48 : decode cJ6_bitCount_0f7a4 48 = .ok (.iload_n 0, 1) := by decide +kernel
theorem dJ6_bitCount_0f7a4_49 : decode cJ6_bitCount_0f7a4 49 = .ok (.bipush 63, 2) := by decide +kernel
theorem dJ6_bitCount_0f7a4_51 : decode cJ6_bitCount_0f7a4 51 = .ok (.iand, 1) := by decide +kernel
theorem dJ6_bitCount_0f7a4_52 : decode cJ6_bitCount_0f7a4 52 = .ok (.ireturn, 1) := by decide +kernel
theorem dJ9_max_7cf53_0 : decode cJ9_max_7cf53 0 = .ok (.iload_n 0, 1) := by decide +kernel
theorem dJ9_max_7cf53_1 : decode cJ9_max_7cf53 1 = .ok (.iload_n 1, 1) := by decide +kernel
theorem dJ9_max_7cf53_2 : decode cJ9_max_7cf53 2 = .ok (.if_icmp .lt 7, 3) := by decide +kernel
theorem dJ9_max_7cf53_5 : decode cJ9_max_7cf53 5 = .ok (.iload_n 0, 1) := by decide +kernel
theorem dJ9_max_7cf53_6 : decode cJ9_max_7cf53 6 = .ok (.goto 4, 3) := by decide +kernel
theorem dJ9_max_7cf53_9 : decode cJ9_max_7cf53 9 = .ok (.iload_n 1, 1) := by decide +kernel
theorem dJ9_max_7cf53_10 : decode cJ9_max_7cf53 10 = .ok (.ireturn, 1) := by decide +kernel
theorem dJ9_min_7cf53_0 : decode cJ9_min_7cf53 0 = .ok (.iload_n 0, 1) := by decide +kernel
theorem dJ9_min_7cf53_1 : decode cJ9_min_7cf53 1 = .ok (.iload_n 1, 1) := by decide +kernel
theorem dJ9_min_7cf53_2 : decode cJ9_min_7cf53 2 = .ok (.if_icmp .gt 7, 3) := by decide +kernel
theorem dJ9_min_7cf53_5 : decode cJ9_min_7cf53 5 = .ok (.iload_n 0, 1) := by decide +kernel
theorem dJ9_min_7cf53_6 : decode cJ9_min_7cf53 6 = .ok (.goto 4, 3) := by decide +kernel
theorem dJ9_min_7cf53_9 : decode cJ9_min_7cf53 9 = .ok (.iload_n 1, 1) := by decide +kernel
theorem dJ9_min_7cf53_10 : decode cJ9_min_7cf53 10 = .ok (.ireturn, 1) := by decide +kernel
theorem dJ0_length_8abf5_0 : decode cJ0_length_8abf5 0 = .ok (.aload_n 0, 1) := by decide +kernel
theorem dJ0_length_8abf5_1 : decode cJ0_length_8abf5 1 = .ok (.getfield 9, 3) := by decide +kernel
theorem dJ0_length_8abf5_4 : decode cJ0_length_8abf5 4 = .ok (.arraylength, 1) := by decide +kernel
theorem dJ0_length_8abf5_5 : decode cJ0_length_8abf5 5 = .ok (.aload_n 0, 1) := by decide +kernel
theorem dJ0_length_8abf5_6 : decode cJ0_length_8abf5 6 = .ok (.invokevirtual 335, 3) := by decide +kernel
theorem dJ0_length_8abf5_9 : decode cJ0_length_8abf5 9 = .ok (.ishr, 1) := by decide +kernel
theorem dJ0_length_8abf5_10 : decode cJ0_length_8abf5 10 = .ok (.ireturn, 1) := by decide +kernel
theorem dJ0_charAt_5068e_0 : decode cJ0_charAt_5068e 0 = .ok (.aload_n 0, 1) := by decide +kernel
theorem dJ0_charAt_5068e_1 : decode cJ0_charAt_5068e 1 = .ok (.invokevirtual 492, 3) := by decide +kernel
theorem dJ0_charAt_5068e_4 : decode cJ0_charAt_5068e 4 = .ok (.ifCond .eq 12, 3) := by decide +kernel
theorem dJ0_charAt_5068e_7 : decode cJ0_charAt_5068e 7 = .ok (.aload_n 0, 1) := by decide +kernel
theorem dJ0_charAt_5068e_8 : decode cJ0_charAt_5068e 8 = .ok (.getfield 9, 3) := by decide +kernel
theorem dJ0_charAt_5068e_11 : decode cJ0_charAt_5068e 11 = .ok (.iload_n 1, 1) := by decide +kernel
theorem dJ0_charAt_5068e_12 : decode cJ0_charAt_5068e 12 = .ok (.invokestatic 495, 3) := by decide +kernel
theorem dJ0_charAt_5068e_15 : decode cJ0_charAt_5068e 15 = .ok (.ireturn, 1) := by decide +kernel
theorem dJ0_charAt_5068e_16 : decode cJ0_charAt_5068e 16 = .ok (.aload_n 0, 1) := by decide +kernel
theorem dJ0_charAt_5068e_17 : decode cJ0_charAt_5068e 17 = .ok (.getfield 9, 3) := by decide +kernel
theorem dJ0_charAt_5068e_20 : decode cJ0_charAt_5068e 20 = .ok (.iload_n 1, 1) := by decide +kernel
theorem dJ0_charAt_5068e_21 : decode cJ0_charAt_5068e 21 = .ok (.invokestatic 498, 3) := by decide +kernel
theorem dJ0_charAt_5068e_24 : decode cJ0_charAt_5068e 24 = .ok (.ireturn, 1) := by decide +kernel
theorem dJ0_coder_7d493_0 : decode cJ0_coder_7d493 0 = .ok (.getstatic 38, 3) := by decide +kernel
theorem dJ0_coder_7d493_3 : decode cJ0_coder_7d493 3 = .ok (.ifCond .eq 10, 3) := by decide +kernel
theorem dJ0_coder_7d493_6 : decode cJ0_coder_7d493 6 = .ok (.aload_n 0, 1) := by decide +kernel
theorem dJ0_coder_7d493_7 : decode cJ0_coder_7d493 7 = .ok (.getfield 15, 3) := by decide +kernel
theorem dJ0_coder_7d493_10 : decode cJ0_coder_7d493 10 = .ok (.goto 4, 3) := by decide +kernel
theorem dJ0_coder_7d493_13 : decode cJ0_coder_7d493 13 = .ok (.iconst 1, 1) := by decide +kernel
theorem dJ0_coder_7d493_14 : decode cJ0_coder_7d493 14 = .ok (.ireturn, 1) := by decide +kernel
theorem dJ0_isLatin1_aae02_0 : decode cJ0_isLatin1_aae02 0 = .ok (.getstatic 38, 3) := by decide +kernel
theorem dJ0_isLatin1_aae02_3 : decode cJ0_isLatin1_aae02 3 = .ok (.ifCond .eq 14, 3) := by decide +kernel
theorem dJ0_isLatin1_aae02_6 : decode cJ0_isLatin1_aae02 6 = .ok (.aload_n 0, 1) := by decide +kernel
theorem dJ0_isLatin1_aae02_7 : decode cJ0_isLatin1_aae02 7 = .ok (.getfield 15, 3) := by decide +kernel
theorem dJ0_isLatin1_aae02_10 : decode cJ0_isLatin1_aae02 10 = .ok (.ifCond .ne 7, 3) := by decide +kernel
theorem dJ0_isLatin1_aae02_13 : decode cJ0_isLatin1_aae02 13 = .ok (.iconst 1, 1) := by decide +kernel
theorem dJ0_isLatin1_aae02_14 : decode cJ0_isLatin1_aae02 14 = .ok (.goto 4, 3) := by decide +kernel
theorem dJ0_isLatin1_aae02_17 : decode cJ0_isLatin1_aae02 17 = .ok (.iconst 0, 1) := by decide +kernel
theorem dJ0_isLatin1_aae02_18 : decode cJ0_isLatin1_aae02 18 = .ok (.ireturn, 1) := by decide +kernel
theorem dJ0_checkIndex_df160_0 : decode cJ0_checkIndex_df160 0 = .ok (.iload_n 0, 1) := by decide +kernel
theorem dJ0_checkIndex_df160_1 : decode cJ0_checkIndex_df160 1 = .ok (.iload_n 1, 1) := by decide +kernel
theorem dJ0_checkIndex_df160_2 : decode cJ0_checkIndex_df160 2 = .ok (.getstatic 1053, 3) := by decide +kernel
theorem dJ0_checkIndex_df160_5 : decode cJ0_checkIndex_df160 5 = .ok (.invokestatic 1059, 3) := by decide +kernel
theorem dJ0_checkIndex_df160_8 : decode cJ0_checkIndex_df160 8 = .ok (.pop, 1) := by decide +kernel
theorem dJ0_checkIndex_df160_9 : decode cJ0_checkIndex_df160 9 = .ok (.return_, 1) := by decide +kernel
theorem dJ1_charAt_3b067_0 : decode cJ1_charAt_3b067 0 = .ok (.iload_n 1, 1) := by decide +kernel
theorem dJ1_charAt_3b067_1 : decode cJ1_charAt_3b067 1 = .ok (.aload_n 0, 1) := by decide +kernel
theorem dJ1_charAt_3b067_2 : decode cJ1_charAt_3b067 2 = .ok (.arraylength, 1) := by decide +kernel
theorem dJ1_charAt_3b067_3 : decode cJ1_charAt_3b067 3 = .ok (.invokestatic 9, 3) := by decide +kernel
theorem dJ1_charAt_3b067_6 : decode cJ1_charAt_3b067 6 = .ok (.aload_n 0, 1) := by decide +kernel
theorem dJ1_charAt_3b067_7 : decode cJ1_charAt_3b067 7 = .ok (.iload_n 1, 1) := by decide +kernel
theorem dJ1_charAt_3b067_8 : decode cJ1_charAt_3b067 8 = .ok (.baload, 1) := by decide +kernel
theorem dJ1_charAt_3b067_9 : decode cJ1_charAt_3b067 9 = .ok (.sipush 255, 3) := by decide +kernel
theorem dJ1_charAt_3b067_12 : decode cJ1_charAt_3b067 12 = .ok (.iand, 1) := by decide +kernel
theorem dJ1_charAt_3b067_13 : decode cJ1_charAt_3b067 13 = .ok (.i2c, 1) := by decide +kernel
theorem dJ1_charAt_3b067_14 : decode cJ1_charAt_3b067 14 = .ok (.ireturn, 1) := by decide +kernel
theorem dJ2_getChar_3b067_0 : decode cJ2_getChar_3b067 0 = .ok (.getstatic 44, 3) := by decide +kernel
theorem dJ2_getChar_3b067_3 : decode cJ2_getChar_3b067 3 = .ok (.ifCond .ne 25, 3) := by decide +kernel
theorem dJ2_getChar_3b067_6 : decode cJ2_getChar_3b067 6 = .ok (.iload_n 1, 1) := by decide +kernel
theorem dJ2_getChar_3b067_7 : decode cJ2_getChar_3b067 7 = .ok (.ifCond .lt 11, 3) := by decide +kernel
theorem dJ2_getChar_3b067_10 : decode cJ2_getChar_3b067 10 = .ok (.iload_n 1, 1) := by decide +kernel
theorem dJ2_getChar_3b067_11 : decode cJ2_getChar_3b067 11 = .ok (.aload_n 0, 1) := by decide +kernel
theorem dJ2_getChar_3b067_12 : decode cJ2_getChar_3b067 12 = .ok (.invokestatic 48, 3) := by decide +kernel
theorem dJ2_getChar_3b067_15 : decode cJ2_getChar_3b067 15 = .ok (.if_icmp .lt 13, 3) := by decide +kernel
theorem dJ2_getChar_3b067_18 : decode cJ2_getChar_3b067 18 = .ok (.new 52, 3) := by decide +kernel
theorem dJ2_getChar_3b067_21 : decode cJ2_getChar_3b067 21 = .ok (.dup, 1) := by decide +kernel
theorem dJ2_getChar_3b067_22 : decode cJ2_getChar_3b067 22 = .ok (.ldc 54, 2) := by decide +kernel
theorem dJ2_getChar_3b067_24 : decode cJ2_getChar_3b067 24 = .ok (.invokespecial 56, 3) := by decide +kernel
theorem dJ2_getChar_3b067_27 : decode cJ2_getChar_3b067 27 = .ok (.athrow, 1) := by decide +kernel
theorem dJ2_getChar_3b067_28 : decode cJ2_getChar_3b067 28 = .ok (.iload_n 1, 1) := by decide +kernel
theorem dJ2_getChar_3b067_29 : decode cJ2_getChar_3b067 29 = .ok (.iconst 1, 1) := by decide +kernel
theorem dJ2_getChar_3b067_30 : decode cJ2_getChar_3b067 30 = .ok (.ishl, 1) := by decide +kernel
theorem dJ2_getChar_3b067_31 : decode cJ2_getChar_3b067 31 = .ok (.istore_n 1, 1) := by decide +kernel
theorem dJ2_getChar_3b067_32 : decode cJ2_getChar_3b067 32 = .ok (.aload_n 0, 1) := by decide +kernel
theorem dJ2_getChar_3b067_33 : decode cJ2_getChar_3b067 33 = .ok (.iload_n 1, 1) := by decide +kernel
theorem dJ2_getChar_3b067_34 : decode cJ2_getChar_3b067 34 = .ok (.iinc 1 1, 3) := by decide +kernel
theorem dJ2_getChar_3b067_37 : decode cJ2_getChar_3b067 37 = .ok (.baload, 1) := by decide +kernel
theorem dJ2_getChar_3b067_38 : decode cJ2_getChar_3b067 38 = .ok (.sipush 255, 3) := by decide +kernel
theorem dJ2_getChar_3b067_41 : decode cJ2_getChar_3b067 41 = .ok (.iand, 1) := by decide +kernel
theorem dJ2_getChar_3b067_42 : decode cJ2_getChar_3b067 42 = .ok (.getstatic 59, 3) := by decide +kernel
theorem dJ2_getChar_3b067_45 : decode cJ2_getChar_3b067 45 = .ok (.ishl, 1) := by decide +kernel
theorem dJ2_getChar_3b067_46 : decode cJ2_getChar_3b067 46 = .ok (.aload_n 0, 1) := by decide +kernel
theorem dJ2_getChar_3b067_47 : decode cJ2_getChar_3b067 47 = .ok (.iload_n 1, 1) := by decide +kernel
theorem dJ2_getChar_3b067_48 : decode cJ2_getChar_3b067 48 = .ok (.baload, 1) := by decide +kernel
theorem dJ2_getChar_3b067_49 : decode cJ2_getChar_3b067 49 = .ok (.sipush 255, 3) := by decide +kernel
theorem dJ2_getChar_3b067_52 : decode cJ2_getChar_3b067 52 = .ok (.iand, 1) := by decide +kernel
theorem dJ2_getChar_3b067_53 : decode cJ2_getChar_3b067 53 = .ok (.getstatic 63, 3) := by decide +kernel
theorem dJ2_getChar_3b067_56 : decode cJ2_getChar_3b067 56 = .ok (.ishl, 1) := by decide +kernel
theorem dJ2_getChar_3b067_57 : decode cJ2_getChar_3b067 57 = .ok (.ior, 1) := by decide +kernel
theorem dJ2_getChar_3b067_58 : decode cJ2_getChar_3b067 58 = .ok (.i2c, 1) := by decide +kernel
theorem dJ2_getChar_3b067_59 : decode cJ2_getChar_3b067 59 = .ok (.ireturn, 1) := by decide +kernel
theorem dJ2_length_9d52b_0 : decode cJ2_length_9d52b 0 = .ok (.aload_n 0, 1) := by decide +kernel
theorem dJ2_length_9d52b_1 : decode cJ2_length_9d52b 1 = .ok (.arraylength, 1) := by decide +kernel
theorem dJ2_length_9d52b_2 : decode cJ2_length_9d52b 2 = .ok (.iconst 1, 1) := by decide +kernel
theorem dJ2_length_9d52b_3 : decode cJ2_length_9d52b 3 = .ok (.ishr, 1) := by decide +kernel
theorem dJ2_length_9d52b_4 : decode cJ2_length_9d52b 4 = .ok (.ireturn, 1) := by decide +kernel
theorem dJ2_charAt_3b067_0 : decode cJ2_charAt_3b067 0 = .ok (.iload_n 1, 1) := by decide +kernel
theorem dJ2_charAt_3b067_1 : decode cJ2_charAt_3b067 1 = .ok (.aload_n 0, 1) := by decide +kernel
theorem dJ2_charAt_3b067_2 : decode cJ2_charAt_3b067 2 = .ok (.invokestatic 67, 3) := by decide +kernel
theorem dJ2_charAt_3b067_5 : decode cJ2_charAt_3b067 5 = .ok (.aload_n 0, 1) := by decide +kernel
theorem dJ2_charAt_3b067_6 : decode cJ2_charAt_3b067 6 = .ok (.iload_n 1, 1) := by decide +kernel
theorem dJ2_charAt_3b067_7 : decode cJ2_charAt_3b067 7 = .ok (.invokestatic 71, 3) := by decide +kernel
theorem dJ2_charAt_3b067_10 : decode cJ2_charAt_3b067 10 = .ok (.ireturn, 1) := by decide +kernel
theorem dJ2_checkIndex_2214a_0 : decode cJ2_checkIndex_2214a 0 = .ok (.iload_n 0, 1) := by decide +kernel
theorem dJ2_checkIndex_2214a_1 : decode cJ2_checkIndex_2214a 1 = .ok (.aload_n 1, 1) := by decide +kernel
theorem dJ2_checkIndex_2214a_2 : decode cJ2_checkIndex_2214a 2 = .ok (.invokestatic 48, 3) := by decide +kernel
theorem dJ2_checkIndex_2214a_5 : decode cJ2_checkIndex_2214a 5 = .ok (.invokestatic 414, 3) := by decide +kernel
theorem dJ2_checkIndex_2214a_8 : decode cJ2_checkIndex_2214a 8 = .ok (.return_, 1) := by decide +kernel
theorem dJ7_fill_53178_0 : decode cJ7_fill_53178 0 = .ok (.iconst 0, 1) := by decide +kernel
theorem dJ7_fill_53178_1 : decode cJ7_fill_53178 1 = .ok (.istore_n 2, 1) := by decide +kernel
theorem dJ7_fill_53178_2 : decode cJ7_fill_53178 2 = .ok (.aload_n 0, 1) := by decide +kernel
theorem dJ7_fill_53178_3 : decode cJ7_fill_53178 3 = .ok (.arraylength, 1) := by decide +kernel
theorem dJ7_fill_53178_4 : decode cJ7_fill_53178 4 = .ok (.istore_n 3, 1) := by decide +kernel
theorem dJ7_fill_53178_5 : decode cJ7_fill_53178 5 = .ok (.iload_n 2, 1) := by decide +kernel
theorem dJ7_fill_53178_6 : decode cJ7_fill_53178 6 = .ok (.iload_n 3, 1) := by decide +kernel
theorem dJ7_fill_53178_7 : decode cJ7_fill_53178 7 = .ok (.if_icmp .ge 13, 3) := by decide +kernel
theorem dJ7_fill_53178_10 : decode cJ7_fill_53178 10 = .ok (.aload_n 0, 1) := by decide +kernel
theorem dJ7_fill_53178_11 : decode cJ7_fill_53178 11 = .ok (.iload_n 2, 1) := by decide +kernel
theorem dJ7_fill_53178_12 : decode cJ7_fill_53178 12 = .ok (.iload_n 1, 1) := by decide +kernel
theorem dJ7_fill_53178_13 : decode cJ7_fill_53178 13 = .ok (.iastore, 1) := by decide +kernel
theorem dJ7_fill_53178_14 : decode cJ7_fill_53178 14 = .ok (.iinc 2 1, 3) := by decide +kernel
theorem dJ7_fill_53178_17 : decode cJ7_fill_53178 17 = .ok (.goto (-12), 3) := by decide +kernel
theorem dJ7_fill_53178_20 : decode cJ7_fill_53178 20 = .ok (.return_, 1) := by decide +kernel
theorem dJ7_copyOf_59c91_0 : decode cJ7_copyOf_59c91 0 = .ok (.iload_n 1, 1) := by decide +kernel
theorem dJ7_copyOf_59c91_1 : decode cJ7_copyOf_59c91 1 = .ok (.aload_n 0, 1) := by decide +kernel
theorem dJ7_copyOf_59c91_2 : decode cJ7_copyOf_59c91 2 = .ok (.arraylength, 1) := by decide +kernel
theorem dJ7_copyOf_59c91_3 : decode cJ7_copyOf_59c91 3 = .ok (.if_icmp .ne 11, 3) := by decide +kernel
theorem dJ7_copyOf_59c91_6 : decode cJ7_copyOf_59c91 6 = .ok (.aload_n 0, 1) := by decide +kernel
theorem dJ7_copyOf_59c91_7 : decode cJ7_copyOf_59c91 7 = .ok (.invokevirtual 316, 3) := by decide +kernel
theorem dJ7_copyOf_59c91_10 : decode cJ7_copyOf_59c91 10 = .ok (.checkcast 317, 3) := by decide +kernel
theorem dJ7_copyOf_59c91_13 : decode cJ7_copyOf_59c91 13 = .ok (.areturn, 1) := by decide +kernel
theorem dJ7_copyOf_59c91_14 : decode cJ7_copyOf_59c91 14 = .ok (.iload_n 1, 1) := by decide +kernel
theorem dJ7_copyOf_59c91_15 : decode cJ7_copyOf_59c91 15 = .ok (.newarray .int, 2) := by decide +kernel
theorem dJ7_copyOf_59c91_17 : decode cJ7_copyOf_59c91 17 = .ok (.astore_n 2, 1) := by decide +kernel
theorem dJ7_copyOf_59c91_18 : decode cJ7_copyOf_59c91 18 = .ok (.aload_n 0, 1) := by decide +kernel
theorem dJ7_copyOf_59c91_19 : decode cJ7_copyOf_59c91 19 = .ok (.iconst 0, 1) := by decide +kernel
theorem dJ7_copyOf_59c91_20 : decode cJ7_copyOf_59c91 20 = .ok (.aload_n 2, 1) := by decide +kernel
theorem dJ7_copyOf_59c91_21 : decode cJ7_copyOf_59c91 21 = .ok (.iconst 0, 1) := by decide +kernel
theorem dJ7_copyOf_59c91_22 : decode cJ7_copyOf_59c91 22 = .ok (.aload_n 0, 1) := by decide +kernel
theorem dJ7_copyOf_59c91_23 : decode cJ7_copyOf_59c91 23 = .ok (.arraylength, 1) := by decide +kernel
theorem dJ7_copyOf_59c91_24 : decode cJ7_copyOf_59c91 24 = .ok (.iload_n 1, 1) := by decide +kernel
theorem dJ7_copyOf_59c91_25 : decode cJ7_copyOf_59c91 25 = .ok (.invokestatic 304, 3) := by decide +kernel
theorem dJ7_copyOf_59c91_28 : decode cJ7_copyOf_59c91 28 = .ok (.invokestatic 150, 3) := by decide +kernel
theorem dJ7_copyOf_59c91_31 : decode cJ7_copyOf_59c91 31 = .ok (.aload_n 2, 1) := by decide +kernel
theorem dJ7_copyOf_59c91_32 : decode cJ7_copyOf_59c91 32 = .ok (.areturn, 1) := by decide +kernel
theorem dJ3_checkIndex_8e157_0 : decode cJ3_checkIndex_8e157 0 = .ok (.iload_n 0, 1) := by decide +kernel
theorem dJ3_checkIndex_8e157_1 : decode cJ3_checkIndex_8e157 1 = .ok (.ifCond .lt 8, 3) := by decide +kernel
theorem dJ3_checkIndex_8e157_4 : decode cJ3_checkIndex_8e157 4 = .ok (.iload_n 0, 1) := by decide +kernel
theorem dJ3_checkIndex_8e157_5 : decode cJ3_checkIndex_8e157 5 = .ok (.iload_n 1, 1) := by decide +kernel
theorem dJ3_checkIndex_8e157_6 : decode cJ3_checkIndex_8e157 6 = .ok (.if_icmp .lt 10, 3) := by decide +kernel
theorem dJ3_checkIndex_8e157_9 : decode cJ3_checkIndex_8e157 9 = .ok (.aload_n 2, 1) := by decide +kernel
theorem dJ3_checkIndex_8e157_10 : decode cJ3_checkIndex_8e157 10 = .ok (.iload_n 0, 1) := by decide +kernel
theorem dJ3_checkIndex_8e157_11 : decode cJ3_checkIndex_8e157 11 = .ok (.iload_n 1, 1) := by decide +kernel
theorem dJ3_checkIndex_8e157_12 : decode cJ3_checkIndex_8e157 12 = .ok (.invokestatic 95, 3) := by decide +kernel
theorem dJ3_checkIndex_8e157_15 : decode cJ3_checkIndex_8e157 15 = .ok (.athrow, 1) := by decide +kernel
theorem dJ3_checkIndex_8e157_16 : decode cJ3_checkIndex_8e157 16 = .ok (.iload_n 0, 1) := by decide +kernel
theorem dJ3_checkIndex_8e157_17 : decode cJ3_checkIndex_8e157 17 = .ok (.ireturn, 1) := by decide +kernel
theorem dL_law_0 : decode cL_law 0 = .ok (.new 7, 3) := by decide +kernel
theorem dL_law_3 : decode cL_law 3 = .ok (.dup, 1) := by decide +kernel
theorem dL_law_4 : decode cL_law 4 = .ok (.invokespecial 9, 3) := by decide +kernel
theorem dL_law_7 : decode cL_law 7 = .ok (.astore_n 1, 1) := by decide +kernel
theorem dL_law_8 : decode cL_law 8 = .ok (.new 10, 3) := by decide +kernel
theorem dL_law_11 : decode cL_law 11 = .ok (.dup, 1) := by decide +kernel
theorem dL_law_12 : decode cL_law 12 = .ok (.invokespecial 12, 3) := by decide +kernel
theorem dL_law_15 : decode cL_law 15 = .ok (.astore_n 2, 1) := by decide +kernel
theorem dL_law_16 : decode cL_law 16 = .ok (.iconst 0, 1) := by decide +kernel
theorem dL_law_17 : decode cL_law 17 = .ok (.istore_n 3, 1) := by decide +kernel
theorem dL_law_18 : decode cL_law 18 = .ok (.iload_n 3, 1) := by decide +kernel
theorem dL_law_19 : decode cL_law 19 = .ok (.aload_n 0, 1) := by decide +kernel
theorem dL_law_20 : decode cL_law 20 = .ok (.arraylength, 1) := by decide +kernel
theorem dL_law_21 : decode cL_law 21 = .ok (.bipush 6, 2) := by decide +kernel
theorem dL_law_23 : decode cL_law 23 = .ok (.isub, 1) := by decide +kernel
theorem dL_law_24 : decode cL_law 24 = .ok (.if_icmp .gt 1024, 3) := by decide +kernel
theorem dL_law_27 : decode cL_law 27 = .ok (.aload_n 0, 1) := by decide +kernel
theorem dL_law_28 : decode cL_law 28 = .ok (.iload_n 3, 1) := by decide +kernel
theorem dL_law_29 : decode cL_law 29 = .ok (.iaload, 1) := by decide +kernel
theorem dL_law_30 : decode cL_law 30 = .ok (.bipush 31, 2) := by decide +kernel
theorem dL_law_32 : decode cL_law 32 = .ok (.iand, 1) := by decide +kernel
theorem dL_law_33 : decode cL_law 33 = .ok (.tableswitch 1009 0 31 #[143, 206, 229, 242, 255, 278, 311, 344, 377, 390, 423, 446, 469, 502, 515, 558, 581, 604, 637, 660, 683, 706, 729, 752, 775, 818, 841, 874, 897, 940, 963, 986], 143) := by decide +kernel
theorem dL_law_176 : decode cL_law 176 = .ok (.aload_n 1, 1) := by decide +kernel
theorem dL_law_177 : decode cL_law 177 = .ok (.aload_n 0, 1) := by decide +kernel
theorem dL_law_178 : decode cL_law 178 = .ok (.iload_n 3, 1) := by decide +kernel
theorem dL_law_179 : decode cL_law 179 = .ok (.iconst 1, 1) := by decide +kernel
theorem dL_law_180 : decode cL_law 180 = .ok (.iadd, 1) := by decide +kernel
theorem dL_law_181 : decode cL_law 181 = .ok (.iaload, 1) := by decide +kernel
theorem dL_law_182 : decode cL_law 182 = .ok (.aload_n 0, 1) := by decide +kernel
theorem dL_law_183 : decode cL_law 183 = .ok (.iload_n 3, 1) := by decide +kernel
theorem dL_law_184 : decode cL_law 184 = .ok (.iconst 2, 1) := by decide +kernel
theorem dL_law_185 : decode cL_law 185 = .ok (.iadd, 1) := by decide +kernel
theorem dL_law_186 : decode cL_law 186 = .ok (.iaload, 1) := by decide +kernel
theorem dL_law_187 : decode cL_law 187 = .ok (.aload_n 0, 1) := by decide +kernel
theorem dL_law_188 : decode cL_law 188 = .ok (.iload_n 3, 1) := by decide +kernel
theorem dL_law_189 : decode cL_law 189 = .ok (.iconst 3, 1) := by decide +kernel
theorem dL_law_190 : decode cL_law 190 = .ok (.iadd, 1) := by decide +kernel
theorem dL_law_191 : decode cL_law 191 = .ok (.iaload, 1) := by decide +kernel
theorem dL_law_192 : decode cL_law 192 = .ok (.aload_n 0, 1) := by decide +kernel
theorem dL_law_193 : decode cL_law 193 = .ok (.iload_n 3, 1) := by decide +kernel
theorem dL_law_194 : decode cL_law 194 = .ok (.iconst 4, 1) := by decide +kernel
theorem dL_law_195 : decode cL_law 195 = .ok (.iadd, 1) := by decide +kernel
theorem dL_law_196 : decode cL_law 196 = .ok (.iaload, 1) := by decide +kernel
theorem dL_law_197 : decode cL_law 197 = .ok (.aload_n 0, 1) := by decide +kernel
theorem dL_law_198 : decode cL_law 198 = .ok (.iload_n 3, 1) := by decide +kernel
theorem dL_law_199 : decode cL_law 199 = .ok (.iconst 5, 1) := by decide +kernel
theorem dL_law_200 : decode cL_law 200 = .ok (.iadd, 1) := by decide +kernel
theorem dL_law_201 : decode cL_law 201 = .ok (.iaload, 1) := by decide +kernel
theorem dL_law_202 : decode cL_law 202 = .ok (.invokevirtual 13, 3) := by decide +kernel
theorem dL_law_205 : decode cL_law 205 = .ok (.aload_n 2, 1) := by decide +kernel
theorem dL_law_206 : decode cL_law 206 = .ok (.aload_n 0, 1) := by decide +kernel
theorem dL_law_207 : decode cL_law 207 = .ok (.iload_n 3, 1) := by decide +kernel
theorem dL_law_208 : decode cL_law 208 = .ok (.iconst 1, 1) := by decide +kernel
theorem dL_law_209 : decode cL_law 209 = .ok (.iadd, 1) := by decide +kernel
theorem dL_law_210 : decode cL_law 210 = .ok (.iaload, 1) := by decide +kernel
theorem dL_law_211 : decode cL_law 211 = .ok (.aload_n 0, 1) := by decide +kernel
theorem dL_law_212 : decode cL_law 212 = .ok (.iload_n 3, 1) := by decide +kernel
theorem dL_law_213 : decode cL_law 213 = .ok (.iconst 2, 1) := by decide +kernel
theorem dL_law_214 : decode cL_law 214 = .ok (.iadd, 1) := by decide +kernel
theorem dL_law_215 : decode cL_law 215 = .ok (.iaload, 1) := by decide +kernel
theorem dL_law_216 : decode cL_law 216 = .ok (.aload_n 0, 1) := by decide +kernel
theorem dL_law_217 : decode cL_law 217 = .ok (.iload_n 3, 1) := by decide +kernel
theorem dL_law_218 : decode cL_law 218 = .ok (.iconst 3, 1) := by decide +kernel
theorem dL_law_219 : decode cL_law 219 = .ok (.iadd, 1) := by decide +kernel
theorem dL_law_220 : decode cL_law 220 = .ok (.iaload, 1) := by decide +kernel
theorem dL_law_221 : decode cL_law 221 = .ok (.aload_n 0, 1) := by decide +kernel
theorem dL_law_222 : decode cL_law 222 = .ok (.iload_n 3, 1) := by decide +kernel
theorem dL_law_223 : decode cL_law 223 = .ok (.iconst 4, 1) := by decide +kernel
theorem dL_law_224 : decode cL_law 224 = .ok (.iadd, 1) := by decide +kernel
theorem dL_law_225 : decode cL_law 225 = .ok (.iaload, 1) := by decide +kernel
theorem dL_law_226 : decode cL_law 226 = .ok (.aload_n 0, 1) := by decide +kernel
theorem dL_law_227 : decode cL_law 227 = .ok (.iload_n 3, 1) := by decide +kernel
theorem dL_law_228 : decode cL_law 228 = .ok (.iconst 5, 1) := by decide +kernel
theorem dL_law_229 : decode cL_law 229 = .ok (.iadd, 1) := by decide +kernel
theorem dL_law_230 : decode cL_law 230 = .ok (.iaload, 1) := by decide +kernel
theorem dL_law_231 : decode cL_law 231 = .ok (.invokevirtual 17, 3) := by decide +kernel
theorem dL_law_234 : decode cL_law 234 = .ok (.if_icmp .eq 808, 3) := by decide +kernel
theorem dL_law_237 : decode cL_law 237 = .ok (.iconst 0, 1) := by decide +kernel
theorem dL_law_238 : decode cL_law 238 = .ok (.ireturn, 1) := by decide +kernel
theorem dL_law_239 : decode cL_law 239 = .ok (.aload_n 1, 1) := by decide +kernel
theorem dL_law_240 : decode cL_law 240 = .ok (.aload_n 0, 1) := by decide +kernel
theorem dL_law_241 : decode cL_law 241 = .ok (.iload_n 3, 1) := by decide +kernel
theorem dL_law_242 : decode cL_law 242 = .ok (.iconst 1, 1) := by decide +kernel
theorem dL_law_243 : decode cL_law 243 = .ok (.iadd, 1) := by decide +kernel
theorem dL_law_244 : decode cL_law 244 = .ok (.iaload, 1) := by decide +kernel
theorem dL_law_245 : decode cL_law 245 = .ok (.invokevirtual 18, 3) := by decide +kernel
theorem dL_law_248 : decode cL_law 248 = .ok (.aload_n 2, 1) := by decide +kernel
theorem dL_law_249 : decode cL_law 249 = .ok (.aload_n 0, 1) := by decide +kernel
theorem dL_law_250 : decode cL_law 250 = .ok (.iload_n 3, 1) := by decide +kernel
theorem dL_law_251 : decode cL_law 251 = .ok (.iconst 1, 1) := by decide +kernel
theorem dL_law_252 : decode cL_law 252 = .ok (.iadd, 1) := by decide +kernel
theorem dL_law_253 : decode cL_law 253 = .ok (.iaload, 1) := by decide +kernel
theorem dL_law_254 : decode cL_law 254 = .ok (.invokevirtual 22, 3) := by decide +kernel
theorem dL_law_257 : decode cL_law 257 = .ok (.if_icmp .eq 785, 3) := by decide +kernel
theorem dL_law_260 : decode cL_law 260 = .ok (.iconst 0, 1) := by decide +kernel
theorem dL_law_261 : decode cL_law 261 = .ok (.ireturn, 1) := by decide +kernel
theorem dL_law_262 : decode cL_law 262 = .ok (.aload_n 1, 1) := by decide +kernel
theorem dL_law_263 : decode cL_law 263 = .ok (.invokevirtual 23, 3) := by decide +kernel
theorem dL_law_266 : decode cL_law 266 = .ok (.aload_n 2, 1) := by decide +kernel
theorem dL_law_267 : decode cL_law 267 = .ok (.invokevirtual 27, 3) := by decide +kernel
theorem dL_law_270 : decode cL_law 270 = .ok (.if_icmp .eq 772, 3) := by decide +kernel
theorem dL_law_273 : decode cL_law 273 = .ok (.iconst 0, 1) := by decide +kernel
theorem dL_law_274 : decode cL_law 274 = .ok (.ireturn, 1) := by decide +kernel
theorem dL_law_275 : decode cL_law 275 = .ok (.aload_n 1, 1) := by decide +kernel
theorem dL_law_276 : decode cL_law 276 = .ok (.invokevirtual 28, 3) := by decide +kernel
theorem dL_law_279 : decode cL_law 279 = .ok (.aload_n 2, 1) := by decide +kernel
theorem dL_law_280 : decode cL_law 280 = .ok (.invokevirtual 31, 3) := by decide +kernel
theorem dL_law_283 : decode cL_law 283 = .ok (.if_icmp .eq 759, 3) := by decide +kernel
theorem dL_law_286 : decode cL_law 286 = .ok (.iconst 0, 1) := by decide +kernel
theorem dL_law_287 : decode cL_law 287 = .ok (.ireturn, 1) := by decide +kernel
theorem dL_law_288 : decode cL_law 288 = .ok (.aload_n 1, 1) := by decide +kernel
theorem dL_law_289 : decode cL_law 289 = .ok (.aload_n 0, 1) := by decide +kernel
theorem dL_law_290 : decode cL_law 290 = .ok (.iload_n 3, 1) := by decide +kernel
theorem dL_law_291 : decode cL_law 291 = .ok (.iconst 1, 1) := by decide +kernel
theorem dL_law_292 : decode cL_law 292 = .ok (.iadd, 1) := by decide +kernel
theorem dL_law_293 : decode cL_law 293 = .ok (.iaload, 1) := by decide +kernel
theorem dL_law_294 : decode cL_law 294 = .ok (.invokevirtual 32, 3) := by decide +kernel
theorem dL_law_297 : decode cL_law 297 = .ok (.aload_n 2, 1) := by decide +kernel
theorem dL_law_298 : decode cL_law 298 = .ok (.aload_n 0, 1) := by decide +kernel
theorem dL_law_299 : decode cL_law 299 = .ok (.iload_n 3, 1) := by decide +kernel
theorem dL_law_300 : decode cL_law 300 = .ok (.iconst 1, 1) := by decide +kernel
theorem dL_law_301 : decode cL_law 301 = .ok (.iadd, 1) := by decide +kernel
theorem dL_law_302 : decode cL_law 302 = .ok (.iaload, 1) := by decide +kernel
theorem dL_law_303 : decode cL_law 303 = .ok (.invokevirtual 35, 3) := by decide +kernel
theorem dL_law_306 : decode cL_law 306 = .ok (.if_icmp .eq 736, 3) := by decide +kernel
theorem dL_law_309 : decode cL_law 309 = .ok (.iconst 0, 1) := by decide +kernel
theorem dL_law_310 : decode cL_law 310 = .ok (.ireturn, 1) := by decide +kernel
theorem dL_law_311 : decode cL_law 311 = .ok (.aload_n 1, 1) := by decide +kernel
theorem dL_law_312 : decode cL_law 312 = .ok (.aload_n 0, 1) := by decide +kernel
theorem dL_law_313 : decode cL_law 313 = .ok (.iload_n 3, 1) := by decide +kernel
theorem dL_law_314 : decode cL_law 314 = .ok (.iconst 1, 1) := by decide +kernel
theorem dL_law_315 : decode cL_law 315 = .ok (.iadd, 1) := by decide +kernel
theorem dL_law_316 : decode cL_law 316 = .ok (.iaload, 1) := by decide +kernel
theorem dL_law_317 : decode cL_law 317 = .ok (.aload_n 0, 1) := by decide +kernel
theorem dL_law_318 : decode cL_law 318 = .ok (.iload_n 3, 1) := by decide +kernel
theorem dL_law_319 : decode cL_law 319 = .ok (.iconst 2, 1) := by decide +kernel
theorem dL_law_320 : decode cL_law 320 = .ok (.iadd, 1) := by decide +kernel
theorem dL_law_321 : decode cL_law 321 = .ok (.iaload, 1) := by decide +kernel
theorem dL_law_322 : decode cL_law 322 = .ok (.invokevirtual 36, 3) := by decide +kernel
theorem dL_law_325 : decode cL_law 325 = .ok (.aload_n 2, 1) := by decide +kernel
theorem dL_law_326 : decode cL_law 326 = .ok (.aload_n 0, 1) := by decide +kernel
theorem dL_law_327 : decode cL_law 327 = .ok (.iload_n 3, 1) := by decide +kernel
theorem dL_law_328 : decode cL_law 328 = .ok (.iconst 1, 1) := by decide +kernel
theorem dL_law_329 : decode cL_law 329 = .ok (.iadd, 1) := by decide +kernel
theorem dL_law_330 : decode cL_law 330 = .ok (.iaload, 1) := by decide +kernel
theorem dL_law_331 : decode cL_law 331 = .ok (.aload_n 0, 1) := by decide +kernel
theorem dL_law_332 : decode cL_law 332 = .ok (.iload_n 3, 1) := by decide +kernel
theorem dL_law_333 : decode cL_law 333 = .ok (.iconst 2, 1) := by decide +kernel
theorem dL_law_334 : decode cL_law 334 = .ok (.iadd, 1) := by decide +kernel
theorem dL_law_335 : decode cL_law 335 = .ok (.iaload, 1) := by decide +kernel
theorem dL_law_336 : decode cL_law 336 = .ok (.invokevirtual 40, 3) := by decide +kernel
theorem dL_law_339 : decode cL_law 339 = .ok (.if_icmp .eq 703, 3) := by decide +kernel
theorem dL_law_342 : decode cL_law 342 = .ok (.iconst 0, 1) := by decide +kernel
theorem dL_law_343 : decode cL_law 343 = .ok (.ireturn, 1) := by decide +kernel
theorem dL_law_344 : decode cL_law 344 = .ok (.aload_n 1, 1) := by decide +kernel
theorem dL_law_345 : decode cL_law 345 = .ok (.aload_n 0, 1) := by decide +kernel
theorem dL_law_346 : decode cL_law 346 = .ok (.iload_n 3, 1) := by decide +kernel
theorem dL_law_347 : decode cL_law 347 = .ok (.iconst 1, 1) := by decide +kernel
theorem dL_law_348 : decode cL_law 348 = .ok (.iadd, 1) := by decide +kernel
theorem dL_law_349 : decode cL_law 349 = .ok (.iaload, 1) := by decide +kernel
theorem dL_law_350 : decode cL_law 350 = .ok (.aload_n 0, 1) := by decide +kernel
theorem dL_law_351 : decode cL_law 351 = .ok (.iload_n 3, 1) := by decide +kernel
theorem dL_law_352 : decode cL_law 352 = .ok (.iconst 2, 1) := by decide +kernel
theorem dL_law_353 : decode cL_law 353 = .ok (.iadd, 1) := by decide +kernel
theorem dL_law_354 : decode cL_law 354 = .ok (.iaload, 1) := by decide +kernel
theorem dL_law_355 : decode cL_law 355 = .ok (.invokevirtual 41, 3) := by decide +kernel
theorem dL_law_358 : decode cL_law 358 = .ok (.aload_n 2, 1) := by decide +kernel
theorem dL_law_359 : decode cL_law 359 = .ok (.aload_n 0, 1) := by decide +kernel
theorem dL_law_360 : decode cL_law 360 = .ok (.iload_n 3, 1) := by decide +kernel
theorem dL_law_361 : decode cL_law 361 = .ok (.iconst 1, 1) := by decide +kernel
theorem dL_law_362 : decode cL_law 362 = .ok (.iadd, 1) := by decide +kernel
theorem dL_law_363 : decode cL_law 363 = .ok (.iaload, 1) := by decide +kernel
theorem dL_law_364 : decode cL_law 364 = .ok (.aload_n 0, 1) := by decide +kernel
theorem dL_law_365 : decode cL_law 365 = .ok (.iload_n 3, 1) := by decide +kernel
theorem dL_law_366 : decode cL_law 366 = .ok (.iconst 2, 1) := by decide +kernel
theorem dL_law_367 : decode cL_law 367 = .ok (.iadd, 1) := by decide +kernel
theorem dL_law_368 : decode cL_law 368 = .ok (.iaload, 1) := by decide +kernel
theorem dL_law_369 : decode cL_law 369 = .ok (.invokevirtual 44, 3) := by decide +kernel
theorem dL_law_372 : decode cL_law 372 = .ok (.if_icmp .eq 670, 3) := by decide +kernel
theorem dL_law_375 : decode cL_law 375 = .ok (.iconst 0, 1) := by decide +kernel
theorem dL_law_376 : decode cL_law 376 = .ok (.ireturn, 1) := by decide +kernel
theorem dL_law_377 : decode cL_law 377 = .ok (.aload_n 1, 1) := by decide +kernel
theorem dL_law_378 : decode cL_law 378 = .ok (.aload_n 0, 1) := by decide +kernel
theorem dL_law_379 : decode cL_law 379 = .ok (.iload_n 3, 1) := by decide +kernel
theorem dL_law_380 : decode cL_law 380 = .ok (.iconst 1, 1) := by decide +kernel
theorem dL_law_381 : decode cL_law 381 = .ok (.iadd, 1) := by decide +kernel
theorem dL_law_382 : decode cL_law 382 = .ok (.iaload, 1) := by decide +kernel
theorem dL_law_383 : decode cL_law 383 = .ok (.aload_n 0, 1) := by decide +kernel
theorem dL_law_384 : decode cL_law 384 = .ok (.iload_n 3, 1) := by decide +kernel
theorem dL_law_385 : decode cL_law 385 = .ok (.iconst 2, 1) := by decide +kernel
theorem dL_law_386 : decode cL_law 386 = .ok (.iadd, 1) := by decide +kernel
theorem dL_law_387 : decode cL_law 387 = .ok (.iaload, 1) := by decide +kernel
theorem dL_law_388 : decode cL_law 388 = .ok (.invokevirtual 45, 3) := by decide +kernel
theorem dL_law_391 : decode cL_law 391 = .ok (.aload_n 2, 1) := by decide +kernel
theorem dL_law_392 : decode cL_law 392 = .ok (.aload_n 0, 1) := by decide +kernel
theorem dL_law_393 : decode cL_law 393 = .ok (.iload_n 3, 1) := by decide +kernel
theorem dL_law_394 : decode cL_law 394 = .ok (.iconst 1, 1) := by decide +kernel
theorem dL_law_395 : decode cL_law 395 = .ok (.iadd, 1) := by decide +kernel
theorem dL_law_396 : decode cL_law 396 = .ok (.iaload, 1) := by decide +kernel
theorem dL_law_397 : decode cL_law 397 = .ok (.aload_n 0, 1) := by decide +kernel
theorem dL_law_398 : decode cL_law 398 = .ok (.iload_n 3, 1) := by decide +kernel
theorem dL_law_399 : decode cL_law 399 = .ok (.iconst 2, 1) := by decide +kernel
theorem dL_law_400 : decode cL_law 400 = .ok (.iadd, 1) := by decide +kernel
theorem dL_law_401 : decode cL_law 401 = .ok (.iaload, 1) := by decide +kernel
theorem dL_law_402 : decode cL_law 402 = .ok (.invokevirtual 48, 3) := by decide +kernel
theorem dL_law_405 : decode cL_law 405 = .ok (.if_icmp .eq 637, 3) := by decide +kernel
theorem dL_law_408 : decode cL_law 408 = .ok (.iconst 0, 1) := by decide +kernel
theorem dL_law_409 : decode cL_law 409 = .ok (.ireturn, 1) := by decide +kernel
theorem dL_law_410 : decode cL_law 410 = .ok (.aload_n 1, 1) := by decide +kernel
theorem dL_law_411 : decode cL_law 411 = .ok (.invokevirtual 49, 3) := by decide +kernel
theorem dL_law_414 : decode cL_law 414 = .ok (.aload_n 2, 1) := by decide +kernel
theorem dL_law_415 : decode cL_law 415 = .ok (.invokevirtual 52, 3) := by decide +kernel
theorem dL_law_418 : decode cL_law 418 = .ok (.if_icmp .eq 624, 3) := by decide +kernel
theorem dL_law_421 : decode cL_law 421 = .ok (.iconst 0, 1) := by decide +kernel
theorem dL_law_422 : decode cL_law 422 = .ok (.ireturn, 1) := by decide +kernel
theorem dL_law_423 : decode cL_law 423 = .ok (.aload_n 1, 1) := by decide +kernel
theorem dL_law_424 : decode cL_law 424 = .ok (.aload_n 0, 1) := by decide +kernel
theorem dL_law_425 : decode cL_law 425 = .ok (.iload_n 3, 1) := by decide +kernel
theorem dL_law_426 : decode cL_law 426 = .ok (.iconst 1, 1) := by decide +kernel
theorem dL_law_427 : decode cL_law 427 = .ok (.iadd, 1) := by decide +kernel
theorem dL_law_428 : decode cL_law 428 = .ok (.iaload, 1) := by decide +kernel
theorem dL_law_429 : decode cL_law 429 = .ok (.aload_n 0, 1) := by decide +kernel
theorem dL_law_430 : decode cL_law 430 = .ok (.iload_n 3, 1) := by decide +kernel
theorem dL_law_431 : decode cL_law 431 = .ok (.iconst 2, 1) := by decide +kernel
theorem dL_law_432 : decode cL_law 432 = .ok (.iadd, 1) := by decide +kernel
theorem dL_law_433 : decode cL_law 433 = .ok (.iaload, 1) := by decide +kernel
theorem dL_law_434 : decode cL_law 434 = .ok (.invokevirtual 53, 3) := by decide +kernel
theorem dL_law_437 : decode cL_law 437 = .ok (.aload_n 2, 1) := by decide +kernel
theorem dL_law_438 : decode cL_law 438 = .ok (.aload_n 0, 1) := by decide +kernel
theorem dL_law_439 : decode cL_law 439 = .ok (.iload_n 3, 1) := by decide +kernel
theorem dL_law_440 : decode cL_law 440 = .ok (.iconst 1, 1) := by decide +kernel
theorem dL_law_441 : decode cL_law 441 = .ok (.iadd, 1) := by decide +kernel
theorem dL_law_442 : decode cL_law 442 = .ok (.iaload, 1) := by decide +kernel
theorem dL_law_443 : decode cL_law 443 = .ok (.aload_n 0, 1) := by decide +kernel
theorem dL_law_444 : decode cL_law 444 = .ok (.iload_n 3, 1) := by decide +kernel
theorem dL_law_445 : decode cL_law 445 = .ok (.iconst 2, 1) := by decide +kernel
theorem dL_law_446 : decode cL_law 446 = .ok (.iadd, 1) := by decide +kernel
theorem dL_law_447 : decode cL_law 447 = .ok (.iaload, 1) := by decide +kernel
theorem dL_law_448 : decode cL_law 448 = .ok (.invokevirtual 56, 3) := by decide +kernel
theorem dL_law_451 : decode cL_law 451 = .ok (.if_icmp .eq 591, 3) := by decide +kernel
theorem dL_law_454 : decode cL_law 454 = .ok (.iconst 0, 1) := by decide +kernel
theorem dL_law_455 : decode cL_law 455 = .ok (.ireturn, 1) := by decide +kernel
theorem dL_law_456 : decode cL_law 456 = .ok (.aload_n 1, 1) := by decide +kernel
theorem dL_law_457 : decode cL_law 457 = .ok (.aload_n 0, 1) := by decide +kernel
theorem dL_law_458 : decode cL_law 458 = .ok (.iload_n 3, 1) := by decide +kernel
theorem dL_law_459 : decode cL_law 459 = .ok (.iconst 1, 1) := by decide +kernel
theorem dL_law_460 : decode cL_law 460 = .ok (.iadd, 1) := by decide +kernel
theorem dL_law_461 : decode cL_law 461 = .ok (.iaload, 1) := by decide +kernel
theorem dL_law_462 : decode cL_law 462 = .ok (.invokevirtual 57, 3) := by decide +kernel
theorem dL_law_465 : decode cL_law 465 = .ok (.aload_n 2, 1) := by decide +kernel
theorem dL_law_466 : decode cL_law 466 = .ok (.aload_n 0, 1) := by decide +kernel
theorem dL_law_467 : decode cL_law 467 = .ok (.iload_n 3, 1) := by decide +kernel
theorem dL_law_468 : decode cL_law 468 = .ok (.iconst 1, 1) := by decide +kernel
theorem dL_law_469 : decode cL_law 469 = .ok (.iadd, 1) := by decide +kernel
theorem dL_law_470 : decode cL_law 470 = .ok (.iaload, 1) := by decide +kernel
theorem dL_law_471 : decode cL_law 471 = .ok (.invokevirtual 60, 3) := by decide +kernel
theorem dL_law_474 : decode cL_law 474 = .ok (.if_icmp .eq 568, 3) := by decide +kernel
theorem dL_law_477 : decode cL_law 477 = .ok (.iconst 0, 1) := by decide +kernel
theorem dL_law_478 : decode cL_law 478 = .ok (.ireturn, 1) := by decide +kernel
theorem dL_law_479 : decode cL_law 479 = .ok (.aload_n 1, 1) := by decide +kernel
theorem dL_law_480 : decode cL_law 480 = .ok (.aload_n 0, 1) := by decide +kernel
theorem dL_law_481 : decode cL_law 481 = .ok (.iload_n 3, 1) := by decide +kernel
theorem dL_law_482 : decode cL_law 482 = .ok (.iconst 1, 1) := by decide +kernel
theorem dL_law_483 : decode cL_law 483 = .ok (.iadd, 1) := by decide +kernel
theorem dL_law_484 : decode cL_law 484 = .ok (.iaload, 1) := by decide +kernel
theorem dL_law_485 : decode cL_law 485 = .ok (.invokevirtual 61, 3) := by decide +kernel
theorem dL_law_488 : decode cL_law 488 = .ok (.aload_n 2, 1) := by decide +kernel
theorem dL_law_489 : decode cL_law 489 = .ok (.aload_n 0, 1) := by decide +kernel
theorem dL_law_490 : decode cL_law 490 = .ok (.iload_n 3, 1) := by decide +kernel
theorem dL_law_491 : decode cL_law 491 = .ok (.iconst 1, 1) := by decide +kernel
theorem dL_law_492 : decode cL_law 492 = .ok (.iadd, 1) := by decide +kernel
theorem dL_law_493 : decode cL_law 493 = .ok (.iaload, 1) := by decide +kernel
theorem dL_law_494 : decode cL_law 494 = .ok (.invokevirtual 64, 3) := by decide +kernel
theorem dL_law_497 : decode cL_law 497 = .ok (.if_icmp .eq 545, 3) := by decide +kernel
theorem dL_law_500 : decode cL_law 500 = .ok (.iconst 0, 1) := by decide +kernel
theorem dL_law_501 : decode cL_law 501 = .ok (.ireturn, 1) := by decide +kernel
theorem dL_law_502 : decode cL_law 502 = .ok (.aload_n 1, 1) := by decide +kernel
theorem dL_law_503 : decode cL_law 503 = .ok (.aload_n 0, 1) := by decide +kernel
theorem dL_law_504 : decode cL_law 504 = .ok (.iload_n 3, 1) := by decide +kernel
theorem dL_law_505 : decode cL_law 505 = .ok (.iconst 1, 1) := by decide +kernel
theorem dL_law_506 : decode cL_law 506 = .ok (.iadd, 1) := by decide +kernel
theorem dL_law_507 : decode cL_law 507 = .ok (.iaload, 1) := by decide +kernel
theorem dL_law_508 : decode cL_law 508 = .ok (.aload_n 0, 1) := by decide +kernel
theorem dL_law_509 : decode cL_law 509 = .ok (.iload_n 3, 1) := by decide +kernel
theorem dL_law_510 : decode cL_law 510 = .ok (.iconst 2, 1) := by decide +kernel
theorem dL_law_511 : decode cL_law 511 = .ok (.iadd, 1) := by decide +kernel
theorem dL_law_512 : decode cL_law 512 = .ok (.iaload, 1) := by decide +kernel
theorem dL_law_513 : decode cL_law 513 = .ok (.invokevirtual 65, 3) := by decide +kernel
theorem dL_law_516 : decode cL_law 516 = .ok (.aload_n 2, 1) := by decide +kernel
theorem dL_law_517 : decode cL_law 517 = .ok (.aload_n 0, 1) := by decide +kernel
theorem dL_law_518 : decode cL_law 518 = .ok (.iload_n 3, 1) := by decide +kernel
theorem dL_law_519 : decode cL_law 519 = .ok (.iconst 1, 1) := by decide +kernel
theorem dL_law_520 : decode cL_law 520 = .ok (.iadd, 1) := by decide +kernel
theorem dL_law_521 : decode cL_law 521 = .ok (.iaload, 1) := by decide +kernel
theorem dL_law_522 : decode cL_law 522 = .ok (.aload_n 0, 1) := by decide +kernel
theorem dL_law_523 : decode cL_law 523 = .ok (.iload_n 3, 1) := by decide +kernel
theorem dL_law_524 : decode cL_law 524 = .ok (.iconst 2, 1) := by decide +kernel
theorem dL_law_525 : decode cL_law 525 = .ok (.iadd, 1) := by decide +kernel
theorem dL_law_526 : decode cL_law 526 = .ok (.iaload, 1) := by decide +kernel
theorem dL_law_527 : decode cL_law 527 = .ok (.invokevirtual 68, 3) := by decide +kernel
theorem dL_law_530 : decode cL_law 530 = .ok (.if_icmp .eq 512, 3) := by decide +kernel
theorem dL_law_533 : decode cL_law 533 = .ok (.iconst 0, 1) := by decide +kernel
theorem dL_law_534 : decode cL_law 534 = .ok (.ireturn, 1) := by decide +kernel
theorem dL_law_535 : decode cL_law 535 = .ok (.aload_n 1, 1) := by decide +kernel
theorem dL_law_536 : decode cL_law 536 = .ok (.invokevirtual 69, 3) := by decide +kernel
theorem dL_law_539 : decode cL_law 539 = .ok (.aload_n 2, 1) := by decide +kernel
theorem dL_law_540 : decode cL_law 540 = .ok (.invokevirtual 72, 3) := by decide +kernel
theorem dL_law_543 : decode cL_law 543 = .ok (.if_icmp .eq 499, 3) := by decide +kernel
theorem dL_law_546 : decode cL_law 546 = .ok (.iconst 0, 1) := by decide +kernel
theorem dL_law_547 : decode cL_law 547 = .ok (.ireturn, 1) := by decide +kernel
theorem dL_law_548 : decode cL_law 548 = .ok (.aload_n 1, 1) := by decide +kernel
theorem dL_law_549 : decode cL_law 549 = .ok (.aload_n 0, 1) := by decide +kernel
theorem dL_law_550 : decode cL_law 550 = .ok (.iload_n 3, 1) := by decide +kernel
theorem dL_law_551 : decode cL_law 551 = .ok (.iconst 1, 1) := by decide +kernel
theorem dL_law_552 : decode cL_law 552 = .ok (.iadd, 1) := by decide +kernel
theorem dL_law_553 : decode cL_law 553 = .ok (.iaload, 1) := by decide +kernel
theorem dL_law_554 : decode cL_law 554 = .ok (.aload_n 0, 1) := by decide +kernel
theorem dL_law_555 : decode cL_law 555 = .ok (.iload_n 3, 1) := by decide +kernel
theorem dL_law_556 : decode cL_law 556 = .ok (.iconst 2, 1) := by decide +kernel
theorem dL_law_557 : decode cL_law 557 = .ok (.iadd, 1) := by decide +kernel
theorem dL_law_558 : decode cL_law 558 = .ok (.iaload, 1) := by decide +kernel
theorem dL_law_559 : decode cL_law 559 = .ok (.aload_n 0, 1) := by decide +kernel
theorem dL_law_560 : decode cL_law 560 = .ok (.iload_n 3, 1) := by decide +kernel
theorem dL_law_561 : decode cL_law 561 = .ok (.iconst 3, 1) := by decide +kernel
theorem dL_law_562 : decode cL_law 562 = .ok (.iadd, 1) := by decide +kernel
theorem dL_law_563 : decode cL_law 563 = .ok (.iaload, 1) := by decide +kernel
theorem dL_law_564 : decode cL_law 564 = .ok (.invokevirtual 73, 3) := by decide +kernel
theorem dL_law_567 : decode cL_law 567 = .ok (.aload_n 2, 1) := by decide +kernel
theorem dL_law_568 : decode cL_law 568 = .ok (.aload_n 0, 1) := by decide +kernel
theorem dL_law_569 : decode cL_law 569 = .ok (.iload_n 3, 1) := by decide +kernel
theorem dL_law_570 : decode cL_law 570 = .ok (.iconst 1, 1) := by decide +kernel
theorem dL_law_571 : decode cL_law 571 = .ok (.iadd, 1) := by decide +kernel
theorem dL_law_572 : decode cL_law 572 = .ok (.iaload, 1) := by decide +kernel
theorem dL_law_573 : decode cL_law 573 = .ok (.aload_n 0, 1) := by decide +kernel
theorem dL_law_574 : decode cL_law 574 = .ok (.iload_n 3, 1) := by decide +kernel
theorem dL_law_575 : decode cL_law 575 = .ok (.iconst 2, 1) := by decide +kernel
theorem dL_law_576 : decode cL_law 576 = .ok (.iadd, 1) := by decide +kernel
theorem dL_law_577 : decode cL_law 577 = .ok (.iaload, 1) := by decide +kernel
theorem dL_law_578 : decode cL_law 578 = .ok (.aload_n 0, 1) := by decide +kernel
theorem dL_law_579 : decode cL_law 579 = .ok (.iload_n 3, 1) := by decide +kernel
theorem dL_law_580 : decode cL_law 580 = .ok (.iconst 3, 1) := by decide +kernel
theorem dL_law_581 : decode cL_law 581 = .ok (.iadd, 1) := by decide +kernel
theorem dL_law_582 : decode cL_law 582 = .ok (.iaload, 1) := by decide +kernel
theorem dL_law_583 : decode cL_law 583 = .ok (.invokevirtual 77, 3) := by decide +kernel
theorem dL_law_586 : decode cL_law 586 = .ok (.if_icmp .eq 456, 3) := by decide +kernel
theorem dL_law_589 : decode cL_law 589 = .ok (.iconst 0, 1) := by decide +kernel
theorem dL_law_590 : decode cL_law 590 = .ok (.ireturn, 1) := by decide +kernel
theorem dL_law_591 : decode cL_law 591 = .ok (.aload_n 1, 1) := by decide +kernel
theorem dL_law_592 : decode cL_law 592 = .ok (.aload_n 0, 1) := by decide +kernel
theorem dL_law_593 : decode cL_law 593 = .ok (.iload_n 3, 1) := by decide +kernel
theorem dL_law_594 : decode cL_law 594 = .ok (.iconst 1, 1) := by decide +kernel
theorem dL_law_595 : decode cL_law 595 = .ok (.iadd, 1) := by decide +kernel
theorem dL_law_596 : decode cL_law 596 = .ok (.iaload, 1) := by decide +kernel
theorem dL_law_597 : decode cL_law 597 = .ok (.invokevirtual 78, 3) := by decide +kernel
theorem dL_law_600 : decode cL_law 600 = .ok (.aload_n 2, 1) := by decide +kernel
theorem dL_law_601 : decode cL_law 601 = .ok (.aload_n 0, 1) := by decide +kernel
theorem dL_law_602 : decode cL_law 602 = .ok (.iload_n 3, 1) := by decide +kernel
theorem dL_law_603 : decode cL_law 603 = .ok (.iconst 1, 1) := by decide +kernel
theorem dL_law_604 : decode cL_law 604 = .ok (.iadd, 1) := by decide +kernel
theorem dL_law_605 : decode cL_law 605 = .ok (.iaload, 1) := by decide +kernel
theorem dL_law_606 : decode cL_law 606 = .ok (.invokevirtual 81, 3) := by decide +kernel
theorem dL_law_609 : decode cL_law 609 = .ok (.if_icmp .eq 433, 3) := by decide +kernel
theorem dL_law_612 : decode cL_law 612 = .ok (.iconst 0, 1) := by decide +kernel
theorem dL_law_613 : decode cL_law 613 = .ok (.ireturn, 1) := by decide +kernel
theorem dL_law_614 : decode cL_law 614 = .ok (.aload_n 1, 1) := by decide +kernel
theorem dL_law_615 : decode cL_law 615 = .ok (.aload_n 0, 1) := by decide +kernel
theorem dL_law_616 : decode cL_law 616 = .ok (.iload_n 3, 1) := by decide +kernel
theorem dL_law_617 : decode cL_law 617 = .ok (.iconst 1, 1) := by decide +kernel
theorem dL_law_618 : decode cL_law 618 = .ok (.iadd, 1) := by decide +kernel
theorem dL_law_619 : decode cL_law 619 = .ok (.iaload, 1) := by decide +kernel
theorem dL_law_620 : decode cL_law 620 = .ok (.invokevirtual 82, 3) := by decide +kernel
theorem dL_law_623 : decode cL_law 623 = .ok (.aload_n 2, 1) := by decide +kernel
theorem dL_law_624 : decode cL_law 624 = .ok (.aload_n 0, 1) := by decide +kernel
theorem dL_law_625 : decode cL_law 625 = .ok (.iload_n 3, 1) := by decide +kernel
theorem dL_law_626 : decode cL_law 626 = .ok (.iconst 1, 1) := by decide +kernel
theorem dL_law_627 : decode cL_law 627 = .ok (.iadd, 1) := by decide +kernel
theorem dL_law_628 : decode cL_law 628 = .ok (.iaload, 1) := by decide +kernel
theorem dL_law_629 : decode cL_law 629 = .ok (.invokevirtual 85, 3) := by decide +kernel
theorem dL_law_632 : decode cL_law 632 = .ok (.if_icmp .eq 410, 3) := by decide +kernel
theorem dL_law_635 : decode cL_law 635 = .ok (.iconst 0, 1) := by decide +kernel
theorem dL_law_636 : decode cL_law 636 = .ok (.ireturn, 1) := by decide +kernel
theorem dL_law_637 : decode cL_law 637 = .ok (.aload_n 1, 1) := by decide +kernel
theorem dL_law_638 : decode cL_law 638 = .ok (.aload_n 0, 1) := by decide +kernel
theorem dL_law_639 : decode cL_law 639 = .ok (.iload_n 3, 1) := by decide +kernel
theorem dL_law_640 : decode cL_law 640 = .ok (.iconst 1, 1) := by decide +kernel
theorem dL_law_641 : decode cL_law 641 = .ok (.iadd, 1) := by decide +kernel
theorem dL_law_642 : decode cL_law 642 = .ok (.iaload, 1) := by decide +kernel
theorem dL_law_643 : decode cL_law 643 = .ok (.aload_n 0, 1) := by decide +kernel
theorem dL_law_644 : decode cL_law 644 = .ok (.iload_n 3, 1) := by decide +kernel
theorem dL_law_645 : decode cL_law 645 = .ok (.iconst 2, 1) := by decide +kernel
theorem dL_law_646 : decode cL_law 646 = .ok (.iadd, 1) := by decide +kernel
theorem dL_law_647 : decode cL_law 647 = .ok (.iaload, 1) := by decide +kernel
theorem dL_law_648 : decode cL_law 648 = .ok (.invokevirtual 86, 3) := by decide +kernel
theorem dL_law_651 : decode cL_law 651 = .ok (.aload_n 2, 1) := by decide +kernel
theorem dL_law_652 : decode cL_law 652 = .ok (.aload_n 0, 1) := by decide +kernel
theorem dL_law_653 : decode cL_law 653 = .ok (.iload_n 3, 1) := by decide +kernel
theorem dL_law_654 : decode cL_law 654 = .ok (.iconst 1, 1) := by decide +kernel
theorem dL_law_655 : decode cL_law 655 = .ok (.iadd, 1) := by decide +kernel
theorem dL_law_656 : decode cL_law 656 = .ok (.iaload, 1) := by decide +kernel
theorem dL_law_657 : decode cL_law 657 = .ok (.aload_n 0, 1) := by decide +kernel
theorem dL_law_658 : decode cL_law 658 = .ok (.iload_n 3, 1) := by decide +kernel
theorem dL_law_659 : decode cL_law 659 = .ok (.iconst 2, 1) := by decide +kernel
theorem dL_law_660 : decode cL_law 660 = .ok (.iadd, 1) := by decide +kernel
theorem dL_law_661 : decode cL_law 661 = .ok (.iaload, 1) := by decide +kernel
theorem dL_law_662 : decode cL_law 662 = .ok (.invokevirtual 89, 3) := by decide +kernel
theorem dL_law_665 : decode cL_law 665 = .ok (.if_icmp .eq 377, 3) := by decide +kernel
theorem dL_law_668 : decode cL_law 668 = .ok (.iconst 0, 1) := by decide +kernel
theorem dL_law_669 : decode cL_law 669 = .ok (.ireturn, 1) := by decide +kernel
theorem dL_law_670 : decode cL_law 670 = .ok (.aload_n 1, 1) := by decide +kernel
theorem dL_law_671 : decode cL_law 671 = .ok (.aload_n 0, 1) := by decide +kernel
theorem dL_law_672 : decode cL_law 672 = .ok (.iload_n 3, 1) := by decide +kernel
theorem dL_law_673 : decode cL_law 673 = .ok (.iconst 1, 1) := by decide +kernel
theorem dL_law_674 : decode cL_law 674 = .ok (.iadd, 1) := by decide +kernel
theorem dL_law_675 : decode cL_law 675 = .ok (.iaload, 1) := by decide +kernel
theorem dL_law_676 : decode cL_law 676 = .ok (.invokevirtual 90, 3) := by decide +kernel
theorem dL_law_679 : decode cL_law 679 = .ok (.aload_n 2, 1) := by decide +kernel
theorem dL_law_680 : decode cL_law 680 = .ok (.aload_n 0, 1) := by decide +kernel
theorem dL_law_681 : decode cL_law 681 = .ok (.iload_n 3, 1) := by decide +kernel
theorem dL_law_682 : decode cL_law 682 = .ok (.iconst 1, 1) := by decide +kernel
theorem dL_law_683 : decode cL_law 683 = .ok (.iadd, 1) := by decide +kernel
theorem dL_law_684 : decode cL_law 684 = .ok (.iaload, 1) := by decide +kernel
theorem dL_law_685 : decode cL_law 685 = .ok (.invokevirtual 93, 3) := by decide +kernel
theorem dL_law_688 : decode cL_law 688 = .ok (.if_icmp .eq 354, 3) := by decide +kernel
theorem dL_law_691 : decode cL_law 691 = .ok (.iconst 0, 1) := by decide +kernel
theorem dL_law_692 : decode cL_law 692 = .ok (.ireturn, 1) := by decide +kernel
theorem dL_law_693 : decode cL_law 693 = .ok (.aload_n 1, 1) := by decide +kernel
theorem dL_law_694 : decode cL_law 694 = .ok (.aload_n 0, 1) := by decide +kernel
theorem dL_law_695 : decode cL_law 695 = .ok (.iload_n 3, 1) := by decide +kernel
theorem dL_law_696 : decode cL_law 696 = .ok (.iconst 1, 1) := by decide +kernel
theorem dL_law_697 : decode cL_law 697 = .ok (.iadd, 1) := by decide +kernel
theorem dL_law_698 : decode cL_law 698 = .ok (.iaload, 1) := by decide +kernel
theorem dL_law_699 : decode cL_law 699 = .ok (.invokevirtual 94, 3) := by decide +kernel
theorem dL_law_702 : decode cL_law 702 = .ok (.aload_n 2, 1) := by decide +kernel
theorem dL_law_703 : decode cL_law 703 = .ok (.aload_n 0, 1) := by decide +kernel
theorem dL_law_704 : decode cL_law 704 = .ok (.iload_n 3, 1) := by decide +kernel
theorem dL_law_705 : decode cL_law 705 = .ok (.iconst 1, 1) := by decide +kernel
theorem dL_law_706 : decode cL_law 706 = .ok (.iadd, 1) := by decide +kernel
theorem dL_law_707 : decode cL_law 707 = .ok (.iaload, 1) := by decide +kernel
theorem dL_law_708 : decode cL_law 708 = .ok (.invokevirtual 97, 3) := by decide +kernel
theorem dL_law_711 : decode cL_law 711 = .ok (.if_icmp .eq 331, 3) := by decide +kernel
theorem dL_law_714 : decode cL_law 714 = .ok (.iconst 0, 1) := by decide +kernel
theorem dL_law_715 : decode cL_law 715 = .ok (.ireturn, 1) := by decide +kernel
theorem dL_law_716 : decode cL_law 716 = .ok (.aload_n 1, 1) := by decide +kernel
theorem dL_law_717 : decode cL_law 717 = .ok (.aload_n 0, 1) := by decide +kernel
theorem dL_law_718 : decode cL_law 718 = .ok (.iload_n 3, 1) := by decide +kernel
theorem dL_law_719 : decode cL_law 719 = .ok (.iconst 1, 1) := by decide +kernel
theorem dL_law_720 : decode cL_law 720 = .ok (.iadd, 1) := by decide +kernel
theorem dL_law_721 : decode cL_law 721 = .ok (.iaload, 1) := by decide +kernel
theorem dL_law_722 : decode cL_law 722 = .ok (.invokevirtual 98, 3) := by decide +kernel
theorem dL_law_725 : decode cL_law 725 = .ok (.aload_n 2, 1) := by decide +kernel
theorem dL_law_726 : decode cL_law 726 = .ok (.aload_n 0, 1) := by decide +kernel
theorem dL_law_727 : decode cL_law 727 = .ok (.iload_n 3, 1) := by decide +kernel
theorem dL_law_728 : decode cL_law 728 = .ok (.iconst 1, 1) := by decide +kernel
theorem dL_law_729 : decode cL_law 729 = .ok (.iadd, 1) := by decide +kernel
theorem dL_law_730 : decode cL_law 730 = .ok (.iaload, 1) := by decide +kernel
theorem dL_law_731 : decode cL_law 731 = .ok (.invokevirtual 101, 3) := by decide +kernel
theorem dL_law_734 : decode cL_law 734 = .ok (.if_icmp .eq 308, 3) := by decide +kernel
theorem dL_law_737 : decode cL_law 737 = .ok (.iconst 0, 1) := by decide +kernel
theorem dL_law_738 : decode cL_law 738 = .ok (.ireturn, 1) := by decide +kernel
theorem dL_law_739 : decode cL_law 739 = .ok (.aload_n 1, 1) := by decide +kernel
theorem dL_law_740 : decode cL_law 740 = .ok (.aload_n 0, 1) := by decide +kernel
theorem dL_law_741 : decode cL_law 741 = .ok (.iload_n 3, 1) := by decide +kernel
theorem dL_law_742 : decode cL_law 742 = .ok (.iconst 1, 1) := by decide +kernel
theorem dL_law_743 : decode cL_law 743 = .ok (.iadd, 1) := by decide +kernel
theorem dL_law_744 : decode cL_law 744 = .ok (.iaload, 1) := by decide +kernel
theorem dL_law_745 : decode cL_law 745 = .ok (.invokevirtual 102, 3) := by decide +kernel
theorem dL_law_748 : decode cL_law 748 = .ok (.aload_n 2, 1) := by decide +kernel
theorem dL_law_749 : decode cL_law 749 = .ok (.aload_n 0, 1) := by decide +kernel
theorem dL_law_750 : decode cL_law 750 = .ok (.iload_n 3, 1) := by decide +kernel
theorem dL_law_751 : decode cL_law 751 = .ok (.iconst 1, 1) := by decide +kernel
theorem dL_law_752 : decode cL_law 752 = .ok (.iadd, 1) := by decide +kernel
theorem dL_law_753 : decode cL_law 753 = .ok (.iaload, 1) := by decide +kernel
theorem dL_law_754 : decode cL_law 754 = .ok (.invokevirtual 105, 3) := by decide +kernel
theorem dL_law_757 : decode cL_law 757 = .ok (.if_icmp .eq 285, 3) := by decide +kernel
theorem dL_law_760 : decode cL_law 760 = .ok (.iconst 0, 1) := by decide +kernel
theorem dL_law_761 : decode cL_law 761 = .ok (.ireturn, 1) := by decide +kernel
theorem dL_law_762 : decode cL_law 762 = .ok (.aload_n 1, 1) := by decide +kernel
theorem dL_law_763 : decode cL_law 763 = .ok (.aload_n 0, 1) := by decide +kernel
theorem dL_law_764 : decode cL_law 764 = .ok (.iload_n 3, 1) := by decide +kernel
theorem dL_law_765 : decode cL_law 765 = .ok (.iconst 1, 1) := by decide +kernel
theorem dL_law_766 : decode cL_law 766 = .ok (.iadd, 1) := by decide +kernel
theorem dL_law_767 : decode cL_law 767 = .ok (.iaload, 1) := by decide +kernel
theorem dL_law_768 : decode cL_law 768 = .ok (.invokevirtual 106, 3) := by decide +kernel
theorem dL_law_771 : decode cL_law 771 = .ok (.aload_n 2, 1) := by decide +kernel
theorem dL_law_772 : decode cL_law 772 = .ok (.aload_n 0, 1) := by decide +kernel
theorem dL_law_773 : decode cL_law 773 = .ok (.iload_n 3, 1) := by decide +kernel
theorem dL_law_774 : decode cL_law 774 = .ok (.iconst 1, 1) := by decide +kernel
theorem dL_law_775 : decode cL_law 775 = .ok (.iadd, 1) := by decide +kernel
theorem dL_law_776 : decode cL_law 776 = .ok (.iaload, 1) := by decide +kernel
theorem dL_law_777 : decode cL_law 777 = .ok (.invokevirtual 109, 3) := by decide +kernel
theorem dL_law_780 : decode cL_law 780 = .ok (.if_icmp .eq 262, 3) := by decide +kernel
theorem dL_law_783 : decode cL_law 783 = .ok (.iconst 0, 1) := by decide +kernel
theorem dL_law_784 : decode cL_law 784 = .ok (.ireturn, 1) := by decide +kernel
theorem dL_law_785 : decode cL_law 785 = .ok (.aload_n 1, 1) := by decide +kernel
theorem dL_law_786 : decode cL_law 786 = .ok (.aload_n 0, 1) := by decide +kernel
theorem dL_law_787 : decode cL_law 787 = .ok (.iload_n 3, 1) := by decide +kernel
theorem dL_law_788 : decode cL_law 788 = .ok (.iconst 1, 1) := by decide +kernel
theorem dL_law_789 : decode cL_law 789 = .ok (.iadd, 1) := by decide +kernel
theorem dL_law_790 : decode cL_law 790 = .ok (.iaload, 1) := by decide +kernel
theorem dL_law_791 : decode cL_law 791 = .ok (.invokevirtual 110, 3) := by decide +kernel
theorem dL_law_794 : decode cL_law 794 = .ok (.aload_n 2, 1) := by decide +kernel
theorem dL_law_795 : decode cL_law 795 = .ok (.aload_n 0, 1) := by decide +kernel
theorem dL_law_796 : decode cL_law 796 = .ok (.iload_n 3, 1) := by decide +kernel
theorem dL_law_797 : decode cL_law 797 = .ok (.iconst 1, 1) := by decide +kernel
theorem dL_law_798 : decode cL_law 798 = .ok (.iadd, 1) := by decide +kernel
theorem dL_law_799 : decode cL_law 799 = .ok (.iaload, 1) := by decide +kernel
theorem dL_law_800 : decode cL_law 800 = .ok (.invokevirtual 113, 3) := by decide +kernel
theorem dL_law_803 : decode cL_law 803 = .ok (.if_icmp .eq 239, 3) := by decide +kernel
theorem dL_law_806 : decode cL_law 806 = .ok (.iconst 0, 1) := by decide +kernel
theorem dL_law_807 : decode cL_law 807 = .ok (.ireturn, 1) := by decide +kernel
theorem dL_law_808 : decode cL_law 808 = .ok (.aload_n 1, 1) := by decide +kernel
theorem dL_law_809 : decode cL_law 809 = .ok (.aload_n 0, 1) := by decide +kernel
theorem dL_law_810 : decode cL_law 810 = .ok (.iload_n 3, 1) := by decide +kernel
theorem dL_law_811 : decode cL_law 811 = .ok (.iconst 1, 1) := by decide +kernel
theorem dL_law_812 : decode cL_law 812 = .ok (.iadd, 1) := by decide +kernel
theorem dL_law_813 : decode cL_law 813 = .ok (.iaload, 1) := by decide +kernel
theorem dL_law_814 : decode cL_law 814 = .ok (.aload_n 0, 1) := by decide +kernel
theorem dL_law_815 : decode cL_law 815 = .ok (.iload_n 3, 1) := by decide +kernel
theorem dL_law_816 : decode cL_law 816 = .ok (.iconst 2, 1) := by decide +kernel
theorem dL_law_817 : decode cL_law 817 = .ok (.iadd, 1) := by decide +kernel
theorem dL_law_818 : decode cL_law 818 = .ok (.iaload, 1) := by decide +kernel
theorem dL_law_819 : decode cL_law 819 = .ok (.aload_n 0, 1) := by decide +kernel
theorem dL_law_820 : decode cL_law 820 = .ok (.iload_n 3, 1) := by decide +kernel
theorem dL_law_821 : decode cL_law 821 = .ok (.iconst 3, 1) := by decide +kernel
theorem dL_law_822 : decode cL_law 822 = .ok (.iadd, 1) := by decide +kernel
theorem dL_law_823 : decode cL_law 823 = .ok (.iaload, 1) := by decide +kernel
theorem dL_law_824 : decode cL_law 824 = .ok (.invokevirtual 114, 3) := by decide +kernel
theorem dL_law_827 : decode cL_law 827 = .ok (.aload_n 2, 1) := by decide +kernel
theorem dL_law_828 : decode cL_law 828 = .ok (.aload_n 0, 1) := by decide +kernel
theorem dL_law_829 : decode cL_law 829 = .ok (.iload_n 3, 1) := by decide +kernel
theorem dL_law_830 : decode cL_law 830 = .ok (.iconst 1, 1) := by decide +kernel
theorem dL_law_831 : decode cL_law 831 = .ok (.iadd, 1) := by decide +kernel
theorem dL_law_832 : decode cL_law 832 = .ok (.iaload, 1) := by decide +kernel
theorem dL_law_833 : decode cL_law 833 = .ok (.aload_n 0, 1) := by decide +kernel
theorem dL_law_834 : decode cL_law 834 = .ok (.iload_n 3, 1) := by decide +kernel
theorem dL_law_835 : decode cL_law 835 = .ok (.iconst 2, 1) := by decide +kernel
theorem dL_law_836 : decode cL_law 836 = .ok (.iadd, 1) := by decide +kernel
theorem dL_law_837 : decode cL_law 837 = .ok (.iaload, 1) := by decide +kernel
theorem dL_law_838 : decode cL_law 838 = .ok (.aload_n 0, 1) := by decide +kernel
theorem dL_law_839 : decode cL_law 839 = .ok (.iload_n 3, 1) := by decide +kernel
theorem dL_law_840 : decode cL_law 840 = .ok (.iconst 3, 1) := by decide +kernel
theorem dL_law_841 : decode cL_law 841 = .ok (.iadd, 1) := by decide +kernel
theorem dL_law_842 : decode cL_law 842 = .ok (.iaload, 1) := by decide +kernel
theorem dL_law_843 : decode cL_law 843 = .ok (.invokevirtual 117, 3) := by decide +kernel
theorem dL_law_846 : decode cL_law 846 = .ok (.if_icmp .eq 196, 3) := by decide +kernel
theorem dL_law_849 : decode cL_law 849 = .ok (.iconst 0, 1) := by decide +kernel
theorem dL_law_850 : decode cL_law 850 = .ok (.ireturn, 1) := by decide +kernel
theorem dL_law_851 : decode cL_law 851 = .ok (.aload_n 1, 1) := by decide +kernel
theorem dL_law_852 : decode cL_law 852 = .ok (.aload_n 0, 1) := by decide +kernel
theorem dL_law_853 : decode cL_law 853 = .ok (.iload_n 3, 1) := by decide +kernel
theorem dL_law_854 : decode cL_law 854 = .ok (.iconst 1, 1) := by decide +kernel
theorem dL_law_855 : decode cL_law 855 = .ok (.iadd, 1) := by decide +kernel
theorem dL_law_856 : decode cL_law 856 = .ok (.iaload, 1) := by decide +kernel
theorem dL_law_857 : decode cL_law 857 = .ok (.invokevirtual 118, 3) := by decide +kernel
theorem dL_law_860 : decode cL_law 860 = .ok (.aload_n 2, 1) := by decide +kernel
theorem dL_law_861 : decode cL_law 861 = .ok (.aload_n 0, 1) := by decide +kernel
theorem dL_law_862 : decode cL_law 862 = .ok (.iload_n 3, 1) := by decide +kernel
theorem dL_law_863 : decode cL_law 863 = .ok (.iconst 1, 1) := by decide +kernel
theorem dL_law_864 : decode cL_law 864 = .ok (.iadd, 1) := by decide +kernel
theorem dL_law_865 : decode cL_law 865 = .ok (.iaload, 1) := by decide +kernel
theorem dL_law_866 : decode cL_law 866 = .ok (.invokevirtual 121, 3) := by decide +kernel
theorem dL_law_869 : decode cL_law 869 = .ok (.if_icmp .eq 173, 3) := by decide +kernel
theorem dL_law_872 : decode cL_law 872 = .ok (.iconst 0, 1) := by decide +kernel
theorem dL_law_873 : decode cL_law 873 = .ok (.ireturn, 1) := by decide +kernel
theorem dL_law_874 : decode cL_law 874 = .ok (.aload_n 1, 1) := by decide +kernel
theorem dL_law_875 : decode cL_law 875 = .ok (.aload_n 0, 1) := by decide +kernel
theorem dL_law_876 : decode cL_law 876 = .ok (.iload_n 3, 1) := by decide +kernel
theorem dL_law_877 : decode cL_law 877 = .ok (.iconst 1, 1) := by decide +kernel
theorem dL_law_878 : decode cL_law 878 = .ok (.iadd, 1) := by decide +kernel
theorem dL_law_879 : decode cL_law 879 = .ok (.iaload, 1) := by decide +kernel
theorem dL_law_880 : decode cL_law 880 = .ok (.aload_n 0, 1) := by decide +kernel
theorem dL_law_881 : decode cL_law 881 = .ok (.iload_n 3, 1) := by decide +kernel
theorem dL_law_882 : decode cL_law 882 = .ok (.iconst 2, 1) := by decide +kernel
theorem dL_law_883 : decode cL_law 883 = .ok (.iadd, 1) := by decide +kernel
theorem dL_law_884 : decode cL_law 884 = .ok (.iaload, 1) := by decide +kernel
theorem dL_law_885 : decode cL_law 885 = .ok (.invokevirtual 122, 3) := by decide +kernel
theorem dL_law_888 : decode cL_law 888 = .ok (.aload_n 2, 1) := by decide +kernel
theorem dL_law_889 : decode cL_law 889 = .ok (.aload_n 0, 1) := by decide +kernel
theorem dL_law_890 : decode cL_law 890 = .ok (.iload_n 3, 1) := by decide +kernel
theorem dL_law_891 : decode cL_law 891 = .ok (.iconst 1, 1) := by decide +kernel
theorem dL_law_892 : decode cL_law 892 = .ok (.iadd, 1) := by decide +kernel
theorem dL_law_893 : decode cL_law 893 = .ok (.iaload, 1) := by decide +kernel
theorem dL_law_894 : decode cL_law 894 = .ok (.aload_n 0, 1) := by decide +kernel
theorem dL_law_895 : decode cL_law 895 = .ok (.iload_n 3, 1) := by decide +kernel
theorem dL_law_896 : decode cL_law 896 = .ok (.iconst 2, 1) := by decide +kernel
theorem dL_law_897 : decode cL_law 897 = .ok (.iadd, 1) := by decide +kernel
theorem dL_law_898 : decode cL_law 898 = .ok (.iaload, 1) := by decide +kernel
theorem dL_law_899 : decode cL_law 899 = .ok (.invokevirtual 125, 3) := by decide +kernel
theorem dL_law_902 : decode cL_law 902 = .ok (.if_icmp .eq 140, 3) := by decide +kernel
theorem dL_law_905 : decode cL_law 905 = .ok (.iconst 0, 1) := by decide +kernel
theorem dL_law_906 : decode cL_law 906 = .ok (.ireturn, 1) := by decide +kernel
theorem dL_law_907 : decode cL_law 907 = .ok (.aload_n 1, 1) := by decide +kernel
theorem dL_law_908 : decode cL_law 908 = .ok (.aload_n 0, 1) := by decide +kernel
theorem dL_law_909 : decode cL_law 909 = .ok (.iload_n 3, 1) := by decide +kernel
theorem dL_law_910 : decode cL_law 910 = .ok (.iconst 1, 1) := by decide +kernel
theorem dL_law_911 : decode cL_law 911 = .ok (.iadd, 1) := by decide +kernel
theorem dL_law_912 : decode cL_law 912 = .ok (.iaload, 1) := by decide +kernel
theorem dL_law_913 : decode cL_law 913 = .ok (.invokevirtual 126, 3) := by decide +kernel
theorem dL_law_916 : decode cL_law 916 = .ok (.aload_n 2, 1) := by decide +kernel
theorem dL_law_917 : decode cL_law 917 = .ok (.aload_n 0, 1) := by decide +kernel
theorem dL_law_918 : decode cL_law 918 = .ok (.iload_n 3, 1) := by decide +kernel
theorem dL_law_919 : decode cL_law 919 = .ok (.iconst 1, 1) := by decide +kernel
theorem dL_law_920 : decode cL_law 920 = .ok (.iadd, 1) := by decide +kernel
theorem dL_law_921 : decode cL_law 921 = .ok (.iaload, 1) := by decide +kernel
theorem dL_law_922 : decode cL_law 922 = .ok (.invokevirtual 129, 3) := by decide +kernel
theorem dL_law_925 : decode cL_law 925 = .ok (.if_icmp .eq 117, 3) := by decide +kernel
theorem dL_law_928 : decode cL_law 928 = .ok (.iconst 0, 1) := by decide +kernel
theorem dL_law_929 : decode cL_law 929 = .ok (.ireturn, 1) := by decide +kernel
theorem dL_law_930 : decode cL_law 930 = .ok (.aload_n 1, 1) := by decide +kernel
theorem dL_law_931 : decode cL_law 931 = .ok (.aload_n 0, 1) := by decide +kernel
theorem dL_law_932 : decode cL_law 932 = .ok (.iload_n 3, 1) := by decide +kernel
theorem dL_law_933 : decode cL_law 933 = .ok (.iconst 1, 1) := by decide +kernel
theorem dL_law_934 : decode cL_law 934 = .ok (.iadd, 1) := by decide +kernel
theorem dL_law_935 : decode cL_law 935 = .ok (.iaload, 1) := by decide +kernel
theorem dL_law_936 : decode cL_law 936 = .ok (.aload_n 0, 1) := by decide +kernel
theorem dL_law_937 : decode cL_law 937 = .ok (.iload_n 3, 1) := by decide +kernel
theorem dL_law_938 : decode cL_law 938 = .ok (.iconst 2, 1) := by decide +kernel
theorem dL_law_939 : decode cL_law 939 = .ok (.iadd, 1) := by decide +kernel
theorem dL_law_940 : decode cL_law 940 = .ok (.iaload, 1) := by decide +kernel
