theorem dX0_init_0 : decode cX0_init 0 = .ok (.aload_n 0, 1) := by decide +kernel
theorem dX0_init_1 : decode cX0_init 1 = .ok (.invokespecial 3, 3) := by decide +kernel
theorem dX0_init_4 : decode cX0_init 4 = .ok (.aload_n 0, 1) := by decide +kernel
theorem dX0_init_5 : decode cX0_init 5 = .ok (.aload_n 1, 1) := by decide +kernel
theorem dX0_init_6 : decode cX0_init 6 = .ok (.putfield 9, 3) := by decide +kernel
theorem dX0_init_9 : decode cX0_init 9 = .ok (.aload_n 0, 1) := by decide +kernel
theorem dX0_init_10 : decode cX0_init 10 = .ok (.new 15, 3) := by decide +kernel
theorem dX0_init_13 : decode cX0_init 13 = .ok (.dup, 1) := by decide +kernel
theorem dX0_init_14 : decode cX0_init 14 = .ok (.aload_n 2, 1) := by decide +kernel
theorem dX0_init_15 : decode cX0_init 15 = .ok (.invokespecial 17, 3) := by decide +kernel
theorem dX0_init_18 : decode cX0_init 18 = .ok (.putfield 20, 3) := by decide +kernel
theorem dX0_init_21 : decode cX0_init 21 = .ok (.aload_n 0, 1) := by decide +kernel
theorem dX0_init_22 : decode cX0_init 22 = .ok (.new 23, 3) := by decide +kernel
theorem dX0_init_25 : decode cX0_init 25 = .ok (.dup, 1) := by decide +kernel
theorem dX0_init_26 : decode cX0_init 26 = .ok (.aload_n 0, 1) := by decide +kernel
theorem dX0_init_27 : decode cX0_init 27 = .ok (.getfield 20, 3) := by decide +kernel
theorem dX0_init_30 : decode cX0_init 30 = .ok (.invokespecial 25, 3) := by decide +kernel
theorem dX0_init_33 : decode cX0_init 33 = .ok (.putfield 28, 3) := by decide +kernel
theorem dX0_init_36 : decode cX0_init 36 = .ok (.return_, 1) := by decide +kernel
theorem dX0_dayAfter_0 : decode cX0_dayAfter 0 = .ok (.aload_n 0, 1) := by decide +kernel
theorem dX0_dayAfter_1 : decode cX0_dayAfter 1 = .ok (.getfield 20, 3) := by decide +kernel
theorem dX0_dayAfter_4 : decode cX0_dayAfter 4 = .ok (.aload_n 0, 1) := by decide +kernel
theorem dX0_dayAfter_5 : decode cX0_dayAfter 5 = .ok (.getfield 9, 3) := by decide +kernel
theorem dX0_dayAfter_8 : decode cX0_dayAfter 8 = .ok (.invokevirtual 32, 3) := by decide +kernel
theorem dX0_dayAfter_11 : decode cX0_dayAfter 11 = .ok (.aload_n 0, 1) := by decide +kernel
theorem dX0_dayAfter_12 : decode cX0_dayAfter 12 = .ok (.getfield 20, 3) := by decide +kernel
theorem dX0_dayAfter_15 : decode cX0_dayAfter 15 = .ok (.iload_n 1, 1) := by decide +kernel
theorem dX0_dayAfter_16 : decode cX0_dayAfter 16 = .ok (.invokevirtual 35, 3) := by decide +kernel
theorem dX0_dayAfter_19 : decode cX0_dayAfter 19 = .ok (.aload_n 0, 1) := by decide +kernel
theorem dX0_dayAfter_20 : decode cX0_dayAfter 20 = .ok (.getfield 20, 3) := by decide +kernel
theorem dX0_dayAfter_23 : decode cX0_dayAfter 23 = .ok (.areturn, 1) := by decide +kernel
theorem dX0_whenMended_0 : decode cX0_whenMended 0 = .ok (.aload_n 0, 1) := by decide +kernel
theorem dX0_whenMended_1 : decode cX0_whenMended 1 = .ok (.getfield 20, 3) := by decide +kernel
theorem dX0_whenMended_4 : decode cX0_whenMended 4 = .ok (.aload_n 0, 1) := by decide +kernel
theorem dX0_whenMended_5 : decode cX0_whenMended 5 = .ok (.getfield 9, 3) := by decide +kernel
theorem dX0_whenMended_8 : decode cX0_whenMended 8 = .ok (.invokevirtual 32, 3) := by decide +kernel
theorem dX0_whenMended_11 : decode cX0_whenMended 11 = .ok (.aload_n 0, 1) := by decide +kernel
theorem dX0_whenMended_12 : decode cX0_whenMended 12 = .ok (.iload_n 1, 1) := by decide +kernel
theorem dX0_whenMended_13 : decode cX0_whenMended 13 = .ok (.invokevirtual 39, 3) := by decide +kernel
theorem dX0_whenMended_16 : decode cX0_whenMended 16 = .ok (.aload_n 0, 1) := by decide +kernel
theorem dX0_whenMended_17 : decode cX0_whenMended 17 = .ok (.getfield 20, 3) := by decide +kernel
theorem dX0_whenMended_20 : decode cX0_whenMended 20 = .ok (.iload_n 1, 1) := by decide +kernel
theorem dX0_whenMended_21 : decode cX0_whenMended 21 = .ok (.invokevirtual 42, 3) := by decide +kernel
theorem dX0_whenMended_24 : decode cX0_whenMended 24 = .ok (.iconst 3, 1) := by decide +kernel
theorem dX0_whenMended_25 : decode cX0_whenMended 25 = .ok (.if_icmp .ne 18, 3) := by decide +kernel
theorem dX0_whenMended_28 : decode cX0_whenMended 28 = .ok (.aload_n 0, 1) := by decide +kernel
theorem dX0_whenMended_29 : decode cX0_whenMended 29 = .ok (.getfield 20, 3) := by decide +kernel
theorem dX0_whenMended_32 : decode cX0_whenMended 32 = .ok (.getfield 46, 3) := by decide +kernel
theorem dX0_whenMended_35 : decode cX0_whenMended 35 = .ok (.bipush 28, 2) := by decide +kernel
theorem dX0_whenMended_37 : decode cX0_whenMended 37 = .ok (.iload_n 1, 1) := by decide +kernel
theorem dX0_whenMended_38 : decode cX0_whenMended 38 = .ok (.iadd, 1) := by decide +kernel
theorem dX0_whenMended_39 : decode cX0_whenMended 39 = .ok (.iaload, 1) := by decide +kernel
theorem dX0_whenMended_40 : decode cX0_whenMended 40 = .ok (.goto 5, 3) := by decide +kernel
theorem dX0_whenMended_43 : decode cX0_whenMended 43 = .ok (.bipush (-2), 2) := by decide +kernel
theorem dX0_whenMended_45 : decode cX0_whenMended 45 = .ok (.ireturn, 1) := by decide +kernel
theorem dX0_goTillOver_0 : decode cX0_goTillOver 0 = .ok (.iconst 0, 1) := by decide +kernel
theorem dX0_goTillOver_1 : decode cX0_goTillOver 1 = .ok (.istore_n 2, 1) := by decide +kernel
theorem dX0_goTillOver_2 : decode cX0_goTillOver 2 = .ok (.iload_n 2, 1) := by decide +kernel
theorem dX0_goTillOver_3 : decode cX0_goTillOver 3 = .ok (.sipush 400, 3) := by decide +kernel
theorem dX0_goTillOver_6 : decode cX0_goTillOver 6 = .ok (.if_icmp .ge 29, 3) := by decide +kernel
theorem dX0_goTillOver_9 : decode cX0_goTillOver 9 = .ok (.aload_n 0, 1) := by decide +kernel
theorem dX0_goTillOver_10 : decode cX0_goTillOver 10 = .ok (.getfield 20, 3) := by decide +kernel
theorem dX0_goTillOver_13 : decode cX0_goTillOver 13 = .ok (.iload_n 1, 1) := by decide +kernel
theorem dX0_goTillOver_14 : decode cX0_goTillOver 14 = .ok (.invokevirtual 42, 3) := by decide +kernel
theorem dX0_goTillOver_17 : decode cX0_goTillOver 17 = .ok (.iconst 3, 1) := by decide +kernel
theorem dX0_goTillOver_18 : decode cX0_goTillOver 18 = .ok (.if_icmp .ge 17, 3) := by decide +kernel
theorem dX0_goTillOver_21 : decode cX0_goTillOver 21 = .ok (.aload_n 0, 1) := by decide +kernel
theorem dX0_goTillOver_22 : decode cX0_goTillOver 22 = .ok (.getfield 20, 3) := by decide +kernel
theorem dX0_goTillOver_25 : decode cX0_goTillOver 25 = .ok (.invokevirtual 50, 3) := by decide +kernel
theorem dX0_goTillOver_28 : decode cX0_goTillOver 28 = .ok (.pop, 1) := by decide +kernel
theorem dX0_goTillOver_29 : decode cX0_goTillOver 29 = .ok (.iinc 2 1, 3) := by decide +kernel
theorem dX0_goTillOver_32 : decode cX0_goTillOver 32 = .ok (.goto (-30), 3) := by decide +kernel
theorem dX0_goTillOver_35 : decode cX0_goTillOver 35 = .ok (.return_, 1) := by decide +kernel
theorem dX0_minutesTillTaken_0 : decode cX0_minutesTillTaken 0 = .ok (.aload_n 0, 1) := by decide +kernel
theorem dX0_minutesTillTaken_1 : decode cX0_minutesTillTaken 1 = .ok (.getfield 20, 3) := by decide +kernel
theorem dX0_minutesTillTaken_4 : decode cX0_minutesTillTaken 4 = .ok (.aload_n 0, 1) := by decide +kernel
theorem dX0_minutesTillTaken_5 : decode cX0_minutesTillTaken 5 = .ok (.getfield 9, 3) := by decide +kernel
theorem dX0_minutesTillTaken_8 : decode cX0_minutesTillTaken 8 = .ok (.invokevirtual 32, 3) := by decide +kernel
theorem dX0_minutesTillTaken_11 : decode cX0_minutesTillTaken 11 = .ok (.iconst 0, 1) := by decide +kernel
theorem dX0_minutesTillTaken_12 : decode cX0_minutesTillTaken 12 = .ok (.istore_n 2, 1) := by decide +kernel
theorem dX0_minutesTillTaken_13 : decode cX0_minutesTillTaken 13 = .ok (.iload_n 2, 1) := by decide +kernel
theorem dX0_minutesTillTaken_14 : decode cX0_minutesTillTaken 14 = .ok (.sipush 400, 3) := by decide +kernel
theorem dX0_minutesTillTaken_17 : decode cX0_minutesTillTaken 17 = .ok (.if_icmp .ge 52, 3) := by decide +kernel
theorem dX0_minutesTillTaken_20 : decode cX0_minutesTillTaken 20 = .ok (.aload_n 0, 1) := by decide +kernel
theorem dX0_minutesTillTaken_21 : decode cX0_minutesTillTaken 21 = .ok (.getfield 20, 3) := by decide +kernel
theorem dX0_minutesTillTaken_24 : decode cX0_minutesTillTaken 24 = .ok (.invokevirtual 50, 3) := by decide +kernel
theorem dX0_minutesTillTaken_27 : decode cX0_minutesTillTaken 27 = .ok (.pop, 1) := by decide +kernel
theorem dX0_minutesTillTaken_28 : decode cX0_minutesTillTaken 28 = .ok (.aload_n 0, 1) := by decide +kernel
theorem dX0_minutesTillTaken_29 : decode cX0_minutesTillTaken 29 = .ok (.getfield 20, 3) := by decide +kernel
theorem dX0_minutesTillTaken_32 : decode cX0_minutesTillTaken 32 = .ok (.iload_n 1, 1) := by decide +kernel
theorem dX0_minutesTillTaken_33 : decode cX0_minutesTillTaken 33 = .ok (.invokevirtual 42, 3) := by decide +kernel
theorem dX0_minutesTillTaken_36 : decode cX0_minutesTillTaken 36 = .ok (.iconst 1, 1) := by decide +kernel
theorem dX0_minutesTillTaken_37 : decode cX0_minutesTillTaken 37 = .ok (.if_icmp .le 26, 3) := by decide +kernel
theorem dX0_minutesTillTaken_40 : decode cX0_minutesTillTaken 40 = .ok (.aload_n 0, 1) := by decide +kernel
theorem dX0_minutesTillTaken_41 : decode cX0_minutesTillTaken 41 = .ok (.getfield 20, 3) := by decide +kernel
theorem dX0_minutesTillTaken_44 : decode cX0_minutesTillTaken 44 = .ok (.invokevirtual 54, 3) := by decide +kernel
theorem dX0_minutesTillTaken_47 : decode cX0_minutesTillTaken 47 = .ok (.iconst 1, 1) := by decide +kernel
theorem dX0_minutesTillTaken_48 : decode cX0_minutesTillTaken 48 = .ok (.isub, 1) := by decide +kernel
theorem dX0_minutesTillTaken_49 : decode cX0_minutesTillTaken 49 = .ok (.aload_n 0, 1) := by decide +kernel
theorem dX0_minutesTillTaken_50 : decode cX0_minutesTillTaken 50 = .ok (.getfield 20, 3) := by decide +kernel
theorem dX0_minutesTillTaken_53 : decode cX0_minutesTillTaken 53 = .ok (.getfield 57, 3) := by decide +kernel
theorem dX0_minutesTillTaken_56 : decode cX0_minutesTillTaken 56 = .ok (.getfield 61, 3) := by decide +kernel
theorem dX0_minutesTillTaken_59 : decode cX0_minutesTillTaken 59 = .ok (.iload_n 1, 1) := by decide +kernel
theorem dX0_minutesTillTaken_60 : decode cX0_minutesTillTaken 60 = .ok (.iaload, 1) := by decide +kernel
theorem dX0_minutesTillTaken_61 : decode cX0_minutesTillTaken 61 = .ok (.isub, 1) := by decide +kernel
theorem dX0_minutesTillTaken_62 : decode cX0_minutesTillTaken 62 = .ok (.ireturn, 1) := by decide +kernel
theorem dX0_minutesTillTaken_63 : decode cX0_minutesTillTaken 63 = .ok (.iinc 2 1, 3) := by decide +kernel
theorem dX0_minutesTillTaken_66 : decode cX0_minutesTillTaken 66 = .ok (.goto (-53), 3) := by decide +kernel
theorem dX0_minutesTillTaken_69 : decode cX0_minutesTillTaken 69 = .ok (.bipush (-2), 2) := by decide +kernel
theorem dX0_minutesTillTaken_71 : decode cX0_minutesTillTaken 71 = .ok (.ireturn, 1) := by decide +kernel
theorem dX0_findTake_0 : decode cX0_findTake 0 = .ok (.aload_n 0, 1) := by decide +kernel
theorem dX0_findTake_1 : decode cX0_findTake 1 = .ok (.invokevirtual 66, 3) := by decide +kernel
theorem dX0_findTake_4 : decode cX0_findTake 4 = .ok (.aload_n 0, 1) := by decide +kernel
theorem dX0_findTake_5 : decode cX0_findTake 5 = .ok (.iconst (-1), 1) := by decide +kernel
theorem dX0_findTake_6 : decode cX0_findTake 6 = .ok (.invokevirtual 69, 3) := by decide +kernel
theorem dX0_findTake_9 : decode cX0_findTake 9 = .ok (.iconst 0, 1) := by decide +kernel
theorem dX0_findTake_10 : decode cX0_findTake 10 = .ok (.istore_n 2, 1) := by decide +kernel
theorem dX0_findTake_11 : decode cX0_findTake 11 = .ok (.iload_n 2, 1) := by decide +kernel
theorem dX0_findTake_12 : decode cX0_findTake 12 = .ok (.aload_n 0, 1) := by decide +kernel
theorem dX0_findTake_13 : decode cX0_findTake 13 = .ok (.getfield 9, 3) := by decide +kernel
theorem dX0_findTake_16 : decode cX0_findTake 16 = .ok (.getfield 57, 3) := by decide +kernel
theorem dX0_findTake_19 : decode cX0_findTake 19 = .ok (.getfield 72, 3) := by decide +kernel
theorem dX0_findTake_22 : decode cX0_findTake 22 = .ok (.if_icmp .ge 46, 3) := by decide +kernel
theorem dX0_findTake_25 : decode cX0_findTake 25 = .ok (.aload_n 0, 1) := by decide +kernel
theorem dX0_findTake_26 : decode cX0_findTake 26 = .ok (.getfield 9, 3) := by decide +kernel
theorem dX0_findTake_29 : decode cX0_findTake 29 = .ok (.iload_n 1, 1) := by decide +kernel
theorem dX0_findTake_30 : decode cX0_findTake 30 = .ok (.iload_n 2, 1) := by decide +kernel
theorem dX0_findTake_31 : decode cX0_findTake 31 = .ok (.invokevirtual 76, 3) := by decide +kernel
theorem dX0_findTake_34 : decode cX0_findTake 34 = .ok (.ifCond .eq 28, 3) := by decide +kernel
theorem dX0_findTake_37 : decode cX0_findTake 37 = .ok (.aload_n 0, 1) := by decide +kernel
theorem dX0_findTake_38 : decode cX0_findTake 38 = .ok (.getfield 20, 3) := by decide +kernel
theorem dX0_findTake_41 : decode cX0_findTake 41 = .ok (.aload_n 0, 1) := by decide +kernel
theorem dX0_findTake_42 : decode cX0_findTake 42 = .ok (.getfield 9, 3) := by decide +kernel
theorem dX0_findTake_45 : decode cX0_findTake 45 = .ok (.invokevirtual 32, 3) := by decide +kernel
theorem dX0_findTake_48 : decode cX0_findTake 48 = .ok (.aload_n 0, 1) := by decide +kernel
theorem dX0_findTake_49 : decode cX0_findTake 49 = .ok (.getfield 20, 3) := by decide +kernel
theorem dX0_findTake_52 : decode cX0_findTake 52 = .ok (.iload_n 1, 1) := by decide +kernel
theorem dX0_findTake_53 : decode cX0_findTake 53 = .ok (.iload_n 2, 1) := by decide +kernel
theorem dX0_findTake_54 : decode cX0_findTake 54 = .ok (.invokevirtual 80, 3) := by decide +kernel
theorem dX0_findTake_57 : decode cX0_findTake 57 = .ok (.aload_n 0, 1) := by decide +kernel
theorem dX0_findTake_58 : decode cX0_findTake 58 = .ok (.iload_n 2, 1) := by decide +kernel
theorem dX0_findTake_59 : decode cX0_findTake 59 = .ok (.invokevirtual 69, 3) := by decide +kernel
theorem dX0_findTake_62 : decode cX0_findTake 62 = .ok (.iinc 2 1, 3) := by decide +kernel
theorem dX0_findTake_65 : decode cX0_findTake 65 = .ok (.goto (-54), 3) := by decide +kernel
theorem dX0_findTake_68 : decode cX0_findTake 68 = .ok (.return_, 1) := by decide +kernel
theorem dX0_findPart_0 : decode cX0_findPart 0 = .ok (.aload_n 0, 1) := by decide +kernel
theorem dX0_findPart_1 : decode cX0_findPart 1 = .ok (.invokevirtual 66, 3) := by decide +kernel
theorem dX0_findPart_4 : decode cX0_findPart 4 = .ok (.aload_n 0, 1) := by decide +kernel
theorem dX0_findPart_5 : decode cX0_findPart 5 = .ok (.iconst (-1), 1) := by decide +kernel
theorem dX0_findPart_6 : decode cX0_findPart 6 = .ok (.invokevirtual 69, 3) := by decide +kernel
theorem dX0_findPart_9 : decode cX0_findPart 9 = .ok (.iconst 0, 1) := by decide +kernel
theorem dX0_findPart_10 : decode cX0_findPart 10 = .ok (.istore_n 1, 1) := by decide +kernel
theorem dX0_findPart_11 : decode cX0_findPart 11 = .ok (.iload_n 1, 1) := by decide +kernel
theorem dX0_findPart_12 : decode cX0_findPart 12 = .ok (.aload_n 0, 1) := by decide +kernel
theorem dX0_findPart_13 : decode cX0_findPart 13 = .ok (.getfield 9, 3) := by decide +kernel
theorem dX0_findPart_16 : decode cX0_findPart 16 = .ok (.getfield 57, 3) := by decide +kernel
theorem dX0_findPart_19 : decode cX0_findPart 19 = .ok (.getfield 84, 3) := by decide +kernel
theorem dX0_findPart_22 : decode cX0_findPart 22 = .ok (.if_icmp .ge 40, 3) := by decide +kernel
theorem dX0_findPart_25 : decode cX0_findPart 25 = .ok (.aload_n 0, 1) := by decide +kernel
theorem dX0_findPart_26 : decode cX0_findPart 26 = .ok (.getfield 20, 3) := by decide +kernel
theorem dX0_findPart_29 : decode cX0_findPart 29 = .ok (.aload_n 0, 1) := by decide +kernel
theorem dX0_findPart_30 : decode cX0_findPart 30 = .ok (.getfield 9, 3) := by decide +kernel
theorem dX0_findPart_33 : decode cX0_findPart 33 = .ok (.invokevirtual 32, 3) := by decide +kernel
theorem dX0_findPart_36 : decode cX0_findPart 36 = .ok (.aload_n 0, 1) := by decide +kernel
theorem dX0_findPart_37 : decode cX0_findPart 37 = .ok (.getfield 20, 3) := by decide +kernel
theorem dX0_findPart_40 : decode cX0_findPart 40 = .ok (.getfield 46, 3) := by decide +kernel
theorem dX0_findPart_43 : decode cX0_findPart 43 = .ok (.iconst 1, 1) := by decide +kernel
theorem dX0_findPart_44 : decode cX0_findPart 44 = .ok (.iload_n 1, 1) := by decide +kernel
theorem dX0_findPart_45 : decode cX0_findPart 45 = .ok (.iadd, 1) := by decide +kernel
theorem dX0_findPart_46 : decode cX0_findPart 46 = .ok (.dup2, 1) := by decide +kernel
theorem dX0_findPart_47 : decode cX0_findPart 47 = .ok (.iaload, 1) := by decide +kernel
theorem dX0_findPart_48 : decode cX0_findPart 48 = .ok (.iconst 1, 1) := by decide +kernel
theorem dX0_findPart_49 : decode cX0_findPart 49 = .ok (.iadd, 1) := by decide +kernel
theorem dX0_findPart_50 : decode cX0_findPart 50 = .ok (.iastore, 1) := by decide +kernel
theorem dX0_findPart_51 : decode cX0_findPart 51 = .ok (.aload_n 0, 1) := by decide +kernel
theorem dX0_findPart_52 : decode cX0_findPart 52 = .ok (.iload_n 1, 1) := by decide +kernel
theorem dX0_findPart_53 : decode cX0_findPart 53 = .ok (.invokevirtual 69, 3) := by decide +kernel
theorem dX0_findPart_56 : decode cX0_findPart 56 = .ok (.iinc 1 1, 3) := by decide +kernel
theorem dX0_findPart_59 : decode cX0_findPart 59 = .ok (.goto (-48), 3) := by decide +kernel
theorem dX0_findPart_62 : decode cX0_findPart 62 = .ok (.return_, 1) := by decide +kernel
theorem dX0_findGuest_0 : decode cX0_findGuest 0 = .ok (.aload_n 0, 1) := by decide +kernel
theorem dX0_findGuest_1 : decode cX0_findGuest 1 = .ok (.invokevirtual 66, 3) := by decide +kernel
theorem dX0_findGuest_4 : decode cX0_findGuest 4 = .ok (.aload_n 0, 1) := by decide +kernel
theorem dX0_findGuest_5 : decode cX0_findGuest 5 = .ok (.iconst (-1), 1) := by decide +kernel
theorem dX0_findGuest_6 : decode cX0_findGuest 6 = .ok (.invokevirtual 69, 3) := by decide +kernel
theorem dX0_findGuest_9 : decode cX0_findGuest 9 = .ok (.aload_n 0, 1) := by decide +kernel
theorem dX0_findGuest_10 : decode cX0_findGuest 10 = .ok (.getfield 9, 3) := by decide +kernel
theorem dX0_findGuest_13 : decode cX0_findGuest 13 = .ok (.getfield 57, 3) := by decide +kernel
theorem dX0_findGuest_16 : decode cX0_findGuest 16 = .ok (.getfield 87, 3) := by decide +kernel
theorem dX0_findGuest_19 : decode cX0_findGuest 19 = .ok (.istore_n 1, 1) := by decide +kernel
theorem dX0_findGuest_20 : decode cX0_findGuest 20 = .ok (.iconst 0, 1) := by decide +kernel
theorem dX0_findGuest_21 : decode cX0_findGuest 21 = .ok (.istore_n 2, 1) := by decide +kernel
theorem dX0_findGuest_22 : decode cX0_findGuest 22 = .ok (.iload_n 2, 1) := by decide +kernel
theorem dX0_findGuest_23 : decode cX0_findGuest 23 = .ok (.aload_n 0, 1) := by decide +kernel
theorem dX0_findGuest_24 : decode cX0_findGuest 24 = .ok (.getfield 9, 3) := by decide +kernel
theorem dX0_findGuest_27 : decode cX0_findGuest 27 = .ok (.getfield 57, 3) := by decide +kernel
theorem dX0_findGuest_30 : decode cX0_findGuest 30 = .ok (.getfield 84, 3) := by decide +kernel
theorem dX0_findGuest_33 : decode cX0_findGuest 33 = .ok (.if_icmp .ge 54, 3) := by decide +kernel
theorem dX0_findGuest_36 : decode cX0_findGuest 36 = .ok (.iload_n 1, 1) := by decide +kernel
theorem dX0_findGuest_37 : decode cX0_findGuest 37 = .ok (.iconst 4, 1) := by decide +kernel
theorem dX0_findGuest_38 : decode cX0_findGuest 38 = .ok (.if_icmp .ge 49, 3) := by decide +kernel
theorem dX0_findGuest_41 : decode cX0_findGuest 41 = .ok (.aload_n 0, 1) := by decide +kernel
theorem dX0_findGuest_42 : decode cX0_findGuest 42 = .ok (.getfield 20, 3) := by decide +kernel
theorem dX0_findGuest_45 : decode cX0_findGuest 45 = .ok (.aload_n 0, 1) := by decide +kernel
theorem dX0_findGuest_46 : decode cX0_findGuest 46 = .ok (.getfield 9, 3) := by decide +kernel
theorem dX0_findGuest_49 : decode cX0_findGuest 49 = .ok (.invokevirtual 32, 3) := by decide +kernel
theorem dX0_findGuest_52 : decode cX0_findGuest 52 = .ok (.aload_n 0, 1) := by decide +kernel
theorem dX0_findGuest_53 : decode cX0_findGuest 53 = .ok (.getfield 20, 3) := by decide +kernel
theorem dX0_findGuest_56 : decode cX0_findGuest 56 = .ok (.getfield 57, 3) := by decide +kernel
theorem dX0_findGuest_59 : decode cX0_findGuest 59 = .ok (.invokevirtual 90, 3) := by decide +kernel
theorem dX0_findGuest_62 : decode cX0_findGuest 62 = .ok (.aload_n 0, 1) := by decide +kernel
theorem dX0_findGuest_63 : decode cX0_findGuest 63 = .ok (.getfield 20, 3) := by decide +kernel
theorem dX0_findGuest_66 : decode cX0_findGuest 66 = .ok (.getfield 57, 3) := by decide +kernel
theorem dX0_findGuest_69 : decode cX0_findGuest 69 = .ok (.iload_n 1, 1) := by decide +kernel
theorem dX0_findGuest_70 : decode cX0_findGuest 70 = .ok (.iload_n 2, 1) := by decide +kernel
theorem dX0_findGuest_71 : decode cX0_findGuest 71 = .ok (.bipush 10, 2) := by decide +kernel
theorem dX0_findGuest_73 : decode cX0_findGuest 73 = .ok (.invokevirtual 93, 3) := by decide +kernel
theorem dX0_findGuest_76 : decode cX0_findGuest 76 = .ok (.aload_n 0, 1) := by decide +kernel
theorem dX0_findGuest_77 : decode cX0_findGuest 77 = .ok (.iload_n 2, 1) := by decide +kernel
theorem dX0_findGuest_78 : decode cX0_findGuest 78 = .ok (.invokevirtual 69, 3) := by decide +kernel
theorem dX0_findGuest_81 : decode cX0_findGuest 81 = .ok (.iinc 2 1, 3) := by decide +kernel
theorem dX0_findGuest_84 : decode cX0_findGuest 84 = .ok (.goto (-62), 3) := by decide +kernel
theorem dX0_findGuest_87 : decode cX0_findGuest 87 = .ok (.return_, 1) := by decide +kernel
theorem dX0_startTrials_0 : decode cX0_startTrials 0 = .ok (.aload_n 0, 1) := by decide +kernel
theorem dX0_startTrials_1 : decode cX0_startTrials 1 = .ok (.getfield 20, 3) := by decide +kernel
theorem dX0_startTrials_4 : decode cX0_startTrials 4 = .ok (.aload_n 0, 1) := by decide +kernel
theorem dX0_startTrials_5 : decode cX0_startTrials 5 = .ok (.getfield 9, 3) := by decide +kernel
theorem dX0_startTrials_8 : decode cX0_startTrials 8 = .ok (.invokevirtual 32, 3) := by decide +kernel
theorem dX0_startTrials_11 : decode cX0_startTrials 11 = .ok (.aload_n 0, 1) := by decide +kernel
theorem dX0_startTrials_12 : decode cX0_startTrials 12 = .ok (.iconst (-1), 1) := by decide +kernel
theorem dX0_startTrials_13 : decode cX0_startTrials 13 = .ok (.putfield 97, 3) := by decide +kernel
theorem dX0_startTrials_16 : decode cX0_startTrials 16 = .ok (.return_, 1) := by decide +kernel
theorem dX0_tryChoice_0 : decode cX0_tryChoice 0 = .ok (.aload_n 0, 1) := by decide +kernel
theorem dX0_tryChoice_1 : decode cX0_tryChoice 1 = .ok (.getfield 20, 3) := by decide +kernel
theorem dX0_tryChoice_4 : decode cX0_tryChoice 4 = .ok (.sipush 400, 3) := by decide +kernel
theorem dX0_tryChoice_7 : decode cX0_tryChoice 7 = .ok (.invokevirtual 35, 3) := by decide +kernel
theorem dX0_tryChoice_10 : decode cX0_tryChoice 10 = .ok (.aload_n 0, 1) := by decide +kernel
theorem dX0_tryChoice_11 : decode cX0_tryChoice 11 = .ok (.getfield 20, 3) := by decide +kernel
theorem dX0_tryChoice_14 : decode cX0_tryChoice 14 = .ok (.invokevirtual 100, 3) := by decide +kernel
theorem dX0_tryChoice_17 : decode cX0_tryChoice 17 = .ok (.istore_n 2, 1) := by decide +kernel
theorem dX0_tryChoice_18 : decode cX0_tryChoice 18 = .ok (.iload_n 2, 1) := by decide +kernel
theorem dX0_tryChoice_19 : decode cX0_tryChoice 19 = .ok (.aload_n 0, 1) := by decide +kernel
theorem dX0_tryChoice_20 : decode cX0_tryChoice 20 = .ok (.getfield 97, 3) := by decide +kernel
theorem dX0_tryChoice_23 : decode cX0_tryChoice 23 = .ok (.if_icmp .le 13, 3) := by decide +kernel
theorem dX0_tryChoice_26 : decode cX0_tryChoice 26 = .ok (.aload_n 0, 1) := by decide +kernel
theorem dX0_tryChoice_27 : decode cX0_tryChoice 27 = .ok (.iload_n 2, 1) := by decide +kernel
theorem dX0_tryChoice_28 : decode cX0_tryChoice 28 = .ok (.putfield 97, 3) := by decide +kernel
theorem dX0_tryChoice_31 : decode cX0_tryChoice 31 = .ok (.aload_n 0, 1) := by decide +kernel
theorem dX0_tryChoice_32 : decode cX0_tryChoice 32 = .ok (.iload_n 1, 1) := by decide +kernel
theorem dX0_tryChoice_33 : decode cX0_tryChoice 33 = .ok (.putfield 103, 3) := by decide +kernel
theorem dX0_tryChoice_36 : decode cX0_tryChoice 36 = .ok (.return_, 1) := by decide +kernel
theorem dX0_findMatch_0 : decode cX0_findMatch 0 = .ok (.aload_n 0, 1) := by decide +kernel
theorem dX0_findMatch_1 : decode cX0_findMatch 1 = .ok (.getfield 20, 3) := by decide +kernel
theorem dX0_findMatch_4 : decode cX0_findMatch 4 = .ok (.aload_n 0, 1) := by decide +kernel
theorem dX0_findMatch_5 : decode cX0_findMatch 5 = .ok (.getfield 9, 3) := by decide +kernel
theorem dX0_findMatch_8 : decode cX0_findMatch 8 = .ok (.invokevirtual 32, 3) := by decide +kernel
theorem dX0_findMatch_11 : decode cX0_findMatch 11 = .ok (.aload_n 0, 1) := by decide +kernel
theorem dX0_findMatch_12 : decode cX0_findMatch 12 = .ok (.getfield 28, 3) := by decide +kernel
theorem dX0_findMatch_15 : decode cX0_findMatch 15 = .ok (.invokevirtual 106, 3) := by decide +kernel
theorem dX0_findMatch_18 : decode cX0_findMatch 18 = .ok (.aload_n 0, 1) := by decide +kernel
theorem dX0_findMatch_19 : decode cX0_findMatch 19 = .ok (.getfield 28, 3) := by decide +kernel
theorem dX0_findMatch_22 : decode cX0_findMatch 22 = .ok (.areturn, 1) := by decide +kernel
theorem dX0_lastCome_0 : decode cX0_lastCome 0 = .ok (.aload_n 0, 1) := by decide +kernel
theorem dX0_lastCome_1 : decode cX0_lastCome 1 = .ok (.getfield 9, 3) := by decide +kernel
theorem dX0_lastCome_4 : decode cX0_lastCome 4 = .ok (.getfield 57, 3) := by decide +kernel
theorem dX0_lastCome_7 : decode cX0_lastCome 7 = .ok (.getfield 72, 3) := by decide +kernel
theorem dX0_lastCome_10 : decode cX0_lastCome 10 = .ok (.istore_n 2, 1) := by decide +kernel
theorem dX0_lastCome_11 : decode cX0_lastCome 11 = .ok (.iload_n 2, 1) := by decide +kernel
theorem dX0_lastCome_12 : decode cX0_lastCome 12 = .ok (.bipush 7, 2) := by decide +kernel
theorem dX0_lastCome_14 : decode cX0_lastCome 14 = .ok (.if_icmp .ge 17, 3) := by decide +kernel
theorem dX0_lastCome_17 : decode cX0_lastCome 17 = .ok (.aload_n 0, 1) := by decide +kernel
theorem dX0_lastCome_18 : decode cX0_lastCome 18 = .ok (.getfield 9, 3) := by decide +kernel
theorem dX0_lastCome_21 : decode cX0_lastCome 21 = .ok (.getfield 57, 3) := by decide +kernel
theorem dX0_lastCome_24 : decode cX0_lastCome 24 = .ok (.iload_n 1, 1) := by decide +kernel
theorem dX0_lastCome_25 : decode cX0_lastCome 25 = .ok (.invokevirtual 109, 3) := by decide +kernel
theorem dX0_lastCome_28 : decode cX0_lastCome 28 = .ok (.ifCond .ne 6, 3) := by decide +kernel
theorem dX0_lastCome_31 : decode cX0_lastCome 31 = .ok (.bipush (-2), 2) := by decide +kernel
theorem dX0_lastCome_33 : decode cX0_lastCome 33 = .ok (.ireturn, 1) := by decide +kernel
theorem dX0_lastCome_34 : decode cX0_lastCome 34 = .ok (.aload_n 0, 1) := by decide +kernel
theorem dX0_lastCome_35 : decode cX0_lastCome 35 = .ok (.getfield 9, 3) := by decide +kernel
theorem dX0_lastCome_38 : decode cX0_lastCome 38 = .ok (.getfield 57, 3) := by decide +kernel
theorem dX0_lastCome_41 : decode cX0_lastCome 41 = .ok (.getfield 113, 3) := by decide +kernel
theorem dX0_lastCome_44 : decode cX0_lastCome 44 = .ok (.istore_n 3, 1) := by decide +kernel
theorem dX0_lastCome_45 : decode cX0_lastCome 45 = .ok (.iload_n 3, 1) := by decide +kernel
theorem dX0_lastCome_46 : decode cX0_lastCome 46 = .ok (.aload_n 0, 1) := by decide +kernel
theorem dX0_lastCome_47 : decode cX0_lastCome 47 = .ok (.getfield 9, 3) := by decide +kernel
theorem dX0_lastCome_50 : decode cX0_lastCome 50 = .ok (.invokevirtual 54, 3) := by decide +kernel
theorem dX0_lastCome_53 : decode cX0_lastCome 53 = .ok (.if_icmp .lt 53, 3) := by decide +kernel
theorem dX0_lastCome_56 : decode cX0_lastCome 56 = .ok (.aload_n 0, 1) := by decide +kernel
theorem dX0_lastCome_57 : decode cX0_lastCome 57 = .ok (.getfield 20, 3) := by decide +kernel
theorem dX0_lastCome_60 : decode cX0_lastCome 60 = .ok (.aload_n 0, 1) := by decide +kernel
theorem dX0_lastCome_61 : decode cX0_lastCome 61 = .ok (.getfield 9, 3) := by decide +kernel
theorem dX0_lastCome_64 : decode cX0_lastCome 64 = .ok (.invokevirtual 32, 3) := by decide +kernel
theorem dX0_lastCome_67 : decode cX0_lastCome 67 = .ok (.aload_n 0, 1) := by decide +kernel
theorem dX0_lastCome_68 : decode cX0_lastCome 68 = .ok (.getfield 20, 3) := by decide +kernel
theorem dX0_lastCome_71 : decode cX0_lastCome 71 = .ok (.getfield 57, 3) := by decide +kernel
theorem dX0_lastCome_74 : decode cX0_lastCome 74 = .ok (.iload_n 1, 1) := by decide +kernel
theorem dX0_lastCome_75 : decode cX0_lastCome 75 = .ok (.iload_n 3, 1) := by decide +kernel
theorem dX0_lastCome_76 : decode cX0_lastCome 76 = .ok (.iconst 1, 1) := by decide +kernel
theorem dX0_lastCome_77 : decode cX0_lastCome 77 = .ok (.iconst 0, 1) := by decide +kernel
theorem dX0_lastCome_78 : decode cX0_lastCome 78 = .ok (.invokevirtual 116, 3) := by decide +kernel
theorem dX0_lastCome_81 : decode cX0_lastCome 81 = .ok (.aload_n 0, 1) := by decide +kernel
theorem dX0_lastCome_82 : decode cX0_lastCome 82 = .ok (.iload_n 2, 1) := by decide +kernel
theorem dX0_lastCome_83 : decode cX0_lastCome 83 = .ok (.invokevirtual 39, 3) := by decide +kernel
theorem dX0_lastCome_86 : decode cX0_lastCome 86 = .ok (.aload_n 0, 1) := by decide +kernel
theorem dX0_lastCome_87 : decode cX0_lastCome 87 = .ok (.getfield 20, 3) := by decide +kernel
theorem dX0_lastCome_90 : decode cX0_lastCome 90 = .ok (.iload_n 2, 1) := by decide +kernel
theorem dX0_lastCome_91 : decode cX0_lastCome 91 = .ok (.invokevirtual 42, 3) := by decide +kernel
theorem dX0_lastCome_94 : decode cX0_lastCome 94 = .ok (.iconst 3, 1) := by decide +kernel
theorem dX0_lastCome_95 : decode cX0_lastCome 95 = .ok (.if_icmp .ne 5, 3) := by decide +kernel
theorem dX0_lastCome_98 : decode cX0_lastCome 98 = .ok (.iload_n 3, 1) := by decide +kernel
theorem dX0_lastCome_99 : decode cX0_lastCome 99 = .ok (.ireturn, 1) := by decide +kernel
theorem dX0_lastCome_100 : decode cX0_lastCome 100 = .ok (.iinc 3 (-1), 3) := by decide +kernel
theorem dX0_lastCome_103 : decode cX0_lastCome 103 = .ok (.goto (-58), 3) := by decide +kernel
theorem dX0_lastCome_106 : decode cX0_lastCome 106 = .ok (.bipush (-2), 2) := by decide +kernel
theorem dX0_lastCome_108 : decode cX0_lastCome 108 = .ok (.ireturn, 1) := by decide +kernel
theorem dX0_idleAtEnd_0 : decode cX0_idleAtEnd 0 = .ok (.aload_n 0, 1) := by decide +kernel
theorem dX0_idleAtEnd_1 : decode cX0_idleAtEnd 1 = .ok (.getfield 20, 3) := by decide +kernel
theorem dX0_idleAtEnd_4 : decode cX0_idleAtEnd 4 = .ok (.aload_n 0, 1) := by decide +kernel
theorem dX0_idleAtEnd_5 : decode cX0_idleAtEnd 5 = .ok (.getfield 9, 3) := by decide +kernel
theorem dX0_idleAtEnd_8 : decode cX0_idleAtEnd 8 = .ok (.invokevirtual 32, 3) := by decide +kernel
theorem dX0_idleAtEnd_11 : decode cX0_idleAtEnd 11 = .ok (.iconst 0, 1) := by decide +kernel
theorem dX0_idleAtEnd_12 : decode cX0_idleAtEnd 12 = .ok (.istore_n 2, 1) := by decide +kernel
theorem dX0_idleAtEnd_13 : decode cX0_idleAtEnd 13 = .ok (.iload_n 2, 1) := by decide +kernel
theorem dX0_idleAtEnd_14 : decode cX0_idleAtEnd 14 = .ok (.sipush 400, 3) := by decide +kernel
theorem dX0_idleAtEnd_17 : decode cX0_idleAtEnd 17 = .ok (.if_icmp .ge 37, 3) := by decide +kernel
theorem dX0_idleAtEnd_20 : decode cX0_idleAtEnd 20 = .ok (.aload_n 0, 1) := by decide +kernel
theorem dX0_idleAtEnd_21 : decode cX0_idleAtEnd 21 = .ok (.getfield 20, 3) := by decide +kernel
theorem dX0_idleAtEnd_24 : decode cX0_idleAtEnd 24 = .ok (.invokevirtual 54, 3) := by decide +kernel
theorem dX0_idleAtEnd_27 : decode cX0_idleAtEnd 27 = .ok (.aload_n 0, 1) := by decide +kernel
theorem dX0_idleAtEnd_28 : decode cX0_idleAtEnd 28 = .ok (.getfield 20, 3) := by decide +kernel
theorem dX0_idleAtEnd_31 : decode cX0_idleAtEnd 31 = .ok (.getfield 57, 3) := by decide +kernel
theorem dX0_idleAtEnd_34 : decode cX0_idleAtEnd 34 = .ok (.getfield 113, 3) := by decide +kernel
theorem dX0_idleAtEnd_37 : decode cX0_idleAtEnd 37 = .ok (.if_icmp .ge 17, 3) := by decide +kernel
theorem dX0_idleAtEnd_40 : decode cX0_idleAtEnd 40 = .ok (.aload_n 0, 1) := by decide +kernel
theorem dX0_idleAtEnd_41 : decode cX0_idleAtEnd 41 = .ok (.getfield 20, 3) := by decide +kernel
theorem dX0_idleAtEnd_44 : decode cX0_idleAtEnd 44 = .ok (.invokevirtual 50, 3) := by decide +kernel
theorem dX0_idleAtEnd_47 : decode cX0_idleAtEnd 47 = .ok (.pop, 1) := by decide +kernel
theorem dX0_idleAtEnd_48 : decode cX0_idleAtEnd 48 = .ok (.iinc 2 1, 3) := by decide +kernel
theorem dX0_idleAtEnd_51 : decode cX0_idleAtEnd 51 = .ok (.goto (-38), 3) := by decide +kernel
theorem dX0_idleAtEnd_54 : decode cX0_idleAtEnd 54 = .ok (.aload_n 0, 1) := by decide +kernel
theorem dX0_idleAtEnd_55 : decode cX0_idleAtEnd 55 = .ok (.getfield 20, 3) := by decide +kernel
theorem dX0_idleAtEnd_58 : decode cX0_idleAtEnd 58 = .ok (.getfield 46, 3) := by decide +kernel
theorem dX0_idleAtEnd_61 : decode cX0_idleAtEnd 61 = .ok (.bipush 17, 2) := by decide +kernel
theorem dX0_idleAtEnd_63 : decode cX0_idleAtEnd 63 = .ok (.iload_n 1, 1) := by decide +kernel
theorem dX0_idleAtEnd_64 : decode cX0_idleAtEnd 64 = .ok (.iadd, 1) := by decide +kernel
theorem dX0_idleAtEnd_65 : decode cX0_idleAtEnd 65 = .ok (.iaload, 1) := by decide +kernel
theorem dX0_idleAtEnd_66 : decode cX0_idleAtEnd 66 = .ok (.ireturn, 1) := by decide +kernel
theorem dX0_fromBegin_0 : decode cX0_fromBegin 0 = .ok (.aload_n 0, 1) := by decide +kernel
theorem dX0_fromBegin_1 : decode cX0_fromBegin 1 = .ok (.getfield 20, 3) := by decide +kernel
theorem dX0_fromBegin_4 : decode cX0_fromBegin 4 = .ok (.aload_n 0, 1) := by decide +kernel
theorem dX0_fromBegin_5 : decode cX0_fromBegin 5 = .ok (.getfield 9, 3) := by decide +kernel
theorem dX0_fromBegin_8 : decode cX0_fromBegin 8 = .ok (.invokevirtual 32, 3) := by decide +kernel
theorem dX0_fromBegin_11 : decode cX0_fromBegin 11 = .ok (.aload_n 0, 1) := by decide +kernel
theorem dX0_fromBegin_12 : decode cX0_fromBegin 12 = .ok (.getfield 20, 3) := by decide +kernel
theorem dX0_fromBegin_15 : decode cX0_fromBegin 15 = .ok (.invokevirtual 120, 3) := by decide +kernel
theorem dX0_fromBegin_18 : decode cX0_fromBegin 18 = .ok (.aload_n 0, 1) := by decide +kernel
theorem dX0_fromBegin_19 : decode cX0_fromBegin 19 = .ok (.getfield 20, 3) := by decide +kernel
theorem dX0_fromBegin_22 : decode cX0_fromBegin 22 = .ok (.aload_n 1, 1) := by decide +kernel
theorem dX0_fromBegin_23 : decode cX0_fromBegin 23 = .ok (.putfield 123, 3) := by decide +kernel
theorem dX0_fromBegin_26 : decode cX0_fromBegin 26 = .ok (.aload_n 0, 1) := by decide +kernel
theorem dX0_fromBegin_27 : decode cX0_fromBegin 27 = .ok (.getfield 20, 3) := by decide +kernel
theorem dX0_fromBegin_30 : decode cX0_fromBegin 30 = .ok (.areturn, 1) := by decide +kernel
theorem dX0_saturday_0 : decode cX0_saturday 0 = .ok (.aload_n 0, 1) := by decide +kernel
theorem dX0_saturday_1 : decode cX0_saturday 1 = .ok (.aload_n 0, 1) := by decide +kernel
theorem dX0_saturday_2 : decode cX0_saturday 2 = .ok (.getfield 9, 3) := by decide +kernel
theorem dX0_saturday_5 : decode cX0_saturday 5 = .ok (.getfield 123, 3) := by decide +kernel
theorem dX0_saturday_8 : decode cX0_saturday 8 = .ok (.invokevirtual 127, 3) := by decide +kernel
theorem dX0_saturday_11 : decode cX0_saturday 11 = .ok (.pop, 1) := by decide +kernel
theorem dX0_saturday_12 : decode cX0_saturday 12 = .ok (.iconst 0, 1) := by decide +kernel
theorem dX0_saturday_13 : decode cX0_saturday 13 = .ok (.istore_n 3, 1) := by decide +kernel
theorem dX0_saturday_14 : decode cX0_saturday 14 = .ok (.iload_n 3, 1) := by decide +kernel
theorem dX0_saturday_15 : decode cX0_saturday 15 = .ok (.aload_n 0, 1) := by decide +kernel
theorem dX0_saturday_16 : decode cX0_saturday 16 = .ok (.getfield 20, 3) := by decide +kernel
theorem dX0_saturday_19 : decode cX0_saturday 19 = .ok (.getfield 57, 3) := by decide +kernel
theorem dX0_saturday_22 : decode cX0_saturday 22 = .ok (.getfield 72, 3) := by decide +kernel
theorem dX0_saturday_25 : decode cX0_saturday 25 = .ok (.if_icmp .ge 54, 3) := by decide +kernel
theorem dX0_saturday_28 : decode cX0_saturday 28 = .ok (.iload_n 1, 1) := by decide +kernel
theorem dX0_saturday_29 : decode cX0_saturday 29 = .ok (.i2l, 1) := by decide +kernel
theorem dX0_saturday_30 : decode cX0_saturday 30 = .ok (.ldc2_w 131, 3) := by decide +kernel
theorem dX0_saturday_33 : decode cX0_saturday 33 = .ok (.lmul, 1) := by decide +kernel
theorem dX0_saturday_34 : decode cX0_saturday 34 = .ok (.ldc2_w 133, 3) := by decide +kernel
theorem dX0_saturday_37 : decode cX0_saturday 37 = .ok (.ladd, 1) := by decide +kernel
theorem dX0_saturday_38 : decode cX0_saturday 38 = .ok (.ldc2_w 135, 3) := by decide +kernel
theorem dX0_saturday_41 : decode cX0_saturday 41 = .ok (.lrem, 1) := by decide +kernel
theorem dX0_saturday_42 : decode cX0_saturday 42 = .ok (.l2i, 1) := by decide +kernel
theorem dX0_saturday_43 : decode cX0_saturday 43 = .ok (.istore_n 1, 1) := by decide +kernel
theorem dX0_saturday_44 : decode cX0_saturday 44 = .ok (.aload_n 0, 1) := by decide +kernel
theorem dX0_saturday_45 : decode cX0_saturday 45 = .ok (.getfield 20, 3) := by decide +kernel
theorem dX0_saturday_48 : decode cX0_saturday 48 = .ok (.getfield 57, 3) := by decide +kernel
theorem dX0_saturday_51 : decode cX0_saturday 51 = .ok (.getfield 61, 3) := by decide +kernel
theorem dX0_saturday_54 : decode cX0_saturday 54 = .ok (.iload_n 3, 1) := by decide +kernel
theorem dX0_saturday_55 : decode cX0_saturday 55 = .ok (.dup2, 1) := by decide +kernel
theorem dX0_saturday_56 : decode cX0_saturday 56 = .ok (.iaload, 1) := by decide +kernel
theorem dX0_saturday_57 : decode cX0_saturday 57 = .ok (.iload_n 2, 1) := by decide +kernel
theorem dX0_saturday_58 : decode cX0_saturday 58 = .ok (.ifCond .le 12, 3) := by decide +kernel
theorem dX0_saturday_61 : decode cX0_saturday 61 = .ok (.iload_n 1, 1) := by decide +kernel
theorem dX0_saturday_62 : decode cX0_saturday 62 = .ok (.ldc 137, 2) := by decide +kernel
theorem dX0_saturday_64 : decode cX0_saturday 64 = .ok (.idiv, 1) := by decide +kernel
theorem dX0_saturday_65 : decode cX0_saturday 65 = .ok (.iload_n 2, 1) := by decide +kernel
theorem dX0_saturday_66 : decode cX0_saturday 66 = .ok (.irem, 1) := by decide +kernel
theorem dX0_saturday_67 : decode cX0_saturday 67 = .ok (.goto 4, 3) := by decide +kernel
theorem dX0_saturday_70 : decode cX0_saturday 70 = .ok (.iconst 0, 1) := by decide +kernel
theorem dX0_saturday_71 : decode cX0_saturday 71 = .ok (.iadd, 1) := by decide +kernel
theorem dX0_saturday_72 : decode cX0_saturday 72 = .ok (.iastore, 1) := by decide +kernel
theorem dX0_saturday_73 : decode cX0_saturday 73 = .ok (.iinc 3 1, 3) := by decide +kernel
theorem dX0_saturday_76 : decode cX0_saturday 76 = .ok (.goto (-62), 3) := by decide +kernel
theorem dX0_saturday_79 : decode cX0_saturday 79 = .ok (.aload_n 0, 1) := by decide +kernel
theorem dX0_saturday_80 : decode cX0_saturday 80 = .ok (.getfield 20, 3) := by decide +kernel
theorem dX0_saturday_83 : decode cX0_saturday 83 = .ok (.sipush 400, 3) := by decide +kernel
theorem dX0_saturday_86 : decode cX0_saturday 86 = .ok (.invokevirtual 35, 3) := by decide +kernel
theorem dX0_saturday_89 : decode cX0_saturday 89 = .ok (.iload_n 1, 1) := by decide +kernel
theorem dX0_saturday_90 : decode cX0_saturday 90 = .ok (.ireturn, 1) := by decide +kernel
theorem dX1_init_0 : decode cX1_init 0 = .ok (.aload_n 0, 1) := by decide +kernel
theorem dX1_init_1 : decode cX1_init 1 = .ok (.invokespecial 3, 3) := by decide +kernel
theorem dX1_init_4 : decode cX1_init 4 = .ok (.aload_n 0, 1) := by decide +kernel
theorem dX1_init_5 : decode cX1_init 5 = .ok (.bipush 10, 2) := by decide +kernel
theorem dX1_init_7 : decode cX1_init 7 = .ok (.newarray .int, 2) := by decide +kernel
theorem dX1_init_9 : decode cX1_init 9 = .ok (.putfield 11, 3) := by decide +kernel
theorem dX1_init_12 : decode cX1_init 12 = .ok (.aload_n 0, 1) := by decide +kernel
theorem dX1_init_13 : decode cX1_init 13 = .ok (.bipush 10, 2) := by decide +kernel
theorem dX1_init_15 : decode cX1_init 15 = .ok (.newarray .int, 2) := by decide +kernel
theorem dX1_init_17 : decode cX1_init 17 = .ok (.putfield 15, 3) := by decide +kernel
theorem dX1_init_20 : decode cX1_init 20 = .ok (.aload_n 0, 1) := by decide +kernel
theorem dX1_init_21 : decode cX1_init 21 = .ok (.bipush 10, 2) := by decide +kernel
theorem dX1_init_23 : decode cX1_init 23 = .ok (.newarray .int, 2) := by decide +kernel
theorem dX1_init_25 : decode cX1_init 25 = .ok (.putfield 18, 3) := by decide +kernel
theorem dX1_init_28 : decode cX1_init 28 = .ok (.aload_n 0, 1) := by decide +kernel
theorem dX1_init_29 : decode cX1_init 29 = .ok (.bipush 35, 2) := by decide +kernel
theorem dX1_init_31 : decode cX1_init 31 = .ok (.newarray .int, 2) := by decide +kernel
theorem dX1_init_33 : decode cX1_init 33 = .ok (.putfield 21, 3) := by decide +kernel
theorem dX1_init_36 : decode cX1_init 36 = .ok (.return_, 1) := by decide +kernel
theorem dX1_write_0 : decode cX1_write 0 = .ok (.aload_n 0, 1) := by decide +kernel
theorem dX1_write_1 : decode cX1_write 1 = .ok (.getfield 24, 3) := by decide +kernel
theorem dX1_write_4 : decode cX1_write 4 = .ok (.bipush 10, 2) := by decide +kernel
theorem dX1_write_6 : decode cX1_write 6 = .ok (.if_icmp .ge 43, 3) := by decide +kernel
theorem dX1_write_9 : decode cX1_write 9 = .ok (.aload_n 0, 1) := by decide +kernel
theorem dX1_write_10 : decode cX1_write 10 = .ok (.getfield 11, 3) := by decide +kernel
theorem dX1_write_13 : decode cX1_write 13 = .ok (.aload_n 0, 1) := by decide +kernel
theorem dX1_write_14 : decode cX1_write 14 = .ok (.getfield 24, 3) := by decide +kernel
theorem dX1_write_17 : decode cX1_write 17 = .ok (.iload_n 1, 1) := by decide +kernel
theorem dX1_write_18 : decode cX1_write 18 = .ok (.iastore, 1) := by decide +kernel
theorem dX1_write_19 : decode cX1_write 19 = .ok (.aload_n 0, 1) := by decide +kernel
theorem dX1_write_20 : decode cX1_write 20 = .ok (.getfield 15, 3) := by decide +kernel
theorem dX1_write_23 : decode cX1_write 23 = .ok (.aload_n 0, 1) := by decide +kernel
theorem dX1_write_24 : decode cX1_write 24 = .ok (.getfield 24, 3) := by decide +kernel
theorem dX1_write_27 : decode cX1_write 27 = .ok (.iload_n 2, 1) := by decide +kernel
theorem dX1_write_28 : decode cX1_write 28 = .ok (.iastore, 1) := by decide +kernel
theorem dX1_write_29 : decode cX1_write 29 = .ok (.aload_n 0, 1) := by decide +kernel
theorem dX1_write_30 : decode cX1_write 30 = .ok (.getfield 18, 3) := by decide +kernel
theorem dX1_write_33 : decode cX1_write 33 = .ok (.aload_n 0, 1) := by decide +kernel
theorem dX1_write_34 : decode cX1_write 34 = .ok (.getfield 24, 3) := by decide +kernel
theorem dX1_write_37 : decode cX1_write 37 = .ok (.iload_n 3, 1) := by decide +kernel
theorem dX1_write_38 : decode cX1_write 38 = .ok (.iastore, 1) := by decide +kernel
theorem dX1_write_39 : decode cX1_write 39 = .ok (.aload_n 0, 1) := by decide +kernel
theorem dX1_write_40 : decode cX1_write 40 = .ok (.dup, 1) := by decide +kernel
theorem dX1_write_41 : decode cX1_write 41 = .ok (.getfield 24, 3) := by decide +kernel
theorem dX1_write_44 : decode cX1_write 44 = .ok (.iconst 1, 1) := by decide +kernel
theorem dX1_write_45 : decode cX1_write 45 = .ok (.iadd, 1) := by decide +kernel
theorem dX1_write_46 : decode cX1_write 46 = .ok (.putfield 24, 3) := by decide +kernel
theorem dX1_write_49 : decode cX1_write 49 = .ok (.return_, 1) := by decide +kernel
theorem dX1_copy_0 : decode cX1_copy 0 = .ok (.aload_n 1, 1) := by decide +kernel
theorem dX1_copy_1 : decode cX1_copy 1 = .ok (.getfield 11, 3) := by decide +kernel
theorem dX1_copy_4 : decode cX1_copy 4 = .ok (.iconst 0, 1) := by decide +kernel
theorem dX1_copy_5 : decode cX1_copy 5 = .ok (.aload_n 0, 1) := by decide +kernel
theorem dX1_copy_6 : decode cX1_copy 6 = .ok (.getfield 11, 3) := by decide +kernel
theorem dX1_copy_9 : decode cX1_copy 9 = .ok (.iconst 0, 1) := by decide +kernel
theorem dX1_copy_10 : decode cX1_copy 10 = .ok (.bipush 10, 2) := by decide +kernel
theorem dX1_copy_12 : decode cX1_copy 12 = .ok (.invokestatic 28, 3) := by decide +kernel
theorem dX1_copy_15 : decode cX1_copy 15 = .ok (.aload_n 1, 1) := by decide +kernel
theorem dX1_copy_16 : decode cX1_copy 16 = .ok (.getfield 15, 3) := by decide +kernel
theorem dX1_copy_19 : decode cX1_copy 19 = .ok (.iconst 0, 1) := by decide +kernel
theorem dX1_copy_20 : decode cX1_copy 20 = .ok (.aload_n 0, 1) := by decide +kernel
theorem dX1_copy_21 : decode cX1_copy 21 = .ok (.getfield 15, 3) := by decide +kernel
theorem dX1_copy_24 : decode cX1_copy 24 = .ok (.iconst 0, 1) := by decide +kernel
theorem dX1_copy_25 : decode cX1_copy 25 = .ok (.bipush 10, 2) := by decide +kernel
theorem dX1_copy_27 : decode cX1_copy 27 = .ok (.invokestatic 28, 3) := by decide +kernel
theorem dX1_copy_30 : decode cX1_copy 30 = .ok (.aload_n 1, 1) := by decide +kernel
theorem dX1_copy_31 : decode cX1_copy 31 = .ok (.getfield 18, 3) := by decide +kernel
theorem dX1_copy_34 : decode cX1_copy 34 = .ok (.iconst 0, 1) := by decide +kernel
theorem dX1_copy_35 : decode cX1_copy 35 = .ok (.aload_n 0, 1) := by decide +kernel
theorem dX1_copy_36 : decode cX1_copy 36 = .ok (.getfield 18, 3) := by decide +kernel
theorem dX1_copy_39 : decode cX1_copy 39 = .ok (.iconst 0, 1) := by decide +kernel
theorem dX1_copy_40 : decode cX1_copy 40 = .ok (.bipush 10, 2) := by decide +kernel
theorem dX1_copy_42 : decode cX1_copy 42 = .ok (.invokestatic 28, 3) := by decide +kernel
theorem dX1_copy_45 : decode cX1_copy 45 = .ok (.aload_n 0, 1) := by decide +kernel
theorem dX1_copy_46 : decode cX1_copy 46 = .ok (.aload_n 1, 1) := by decide +kernel
theorem dX1_copy_47 : decode cX1_copy 47 = .ok (.getfield 24, 3) := by decide +kernel
theorem dX1_copy_50 : decode cX1_copy 50 = .ok (.putfield 24, 3) := by decide +kernel
theorem dX1_copy_53 : decode cX1_copy 53 = .ok (.return_, 1) := by decide +kernel
theorem dX1_sift_0 : decode cX1_sift 0 = .ok (.aload_n 0, 1) := by decide +kernel
theorem dX1_sift_1 : decode cX1_sift 1 = .ok (.iconst 0, 1) := by decide +kernel
theorem dX1_sift_2 : decode cX1_sift 2 = .ok (.putfield 34, 3) := by decide +kernel
theorem dX1_sift_5 : decode cX1_sift 5 = .ok (.aload_n 0, 1) := by decide +kernel
theorem dX1_sift_6 : decode cX1_sift 6 = .ok (.bipush (-2), 2) := by decide +kernel
theorem dX1_sift_8 : decode cX1_sift 8 = .ok (.putfield 37, 3) := by decide +kernel
theorem dX1_sift_11 : decode cX1_sift 11 = .ok (.aload_n 0, 1) := by decide +kernel
theorem dX1_sift_12 : decode cX1_sift 12 = .ok (.getfield 21, 3) := by decide +kernel
theorem dX1_sift_15 : decode cX1_sift 15 = .ok (.iconst 0, 1) := by decide +kernel
theorem dX1_sift_16 : decode cX1_sift 16 = .ok (.invokestatic 40, 3) := by decide +kernel
theorem dX1_sift_19 : decode cX1_sift 19 = .ok (.iconst (-1), 1) := by decide +kernel
theorem dX1_sift_20 : decode cX1_sift 20 = .ok (.istore 5, 2) := by decide +kernel
theorem dX1_sift_22 : decode cX1_sift 22 = .ok (.iload 5, 2) := by decide +kernel
theorem dX1_sift_24 : decode cX1_sift 24 = .ok (.iload_n 2, 1) := by decide +kernel
theorem dX1_sift_25 : decode cX1_sift 25 = .ok (.if_icmp .ge 86, 3) := by decide +kernel
theorem dX1_sift_28 : decode cX1_sift 28 = .ok (.iload 5, 2) := by decide +kernel
theorem dX1_sift_30 : decode cX1_sift 30 = .ok (.aload_n 1, 1) := by decide +kernel
theorem dX1_sift_31 : decode cX1_sift 31 = .ok (.arraylength, 1) := by decide +kernel
theorem dX1_sift_32 : decode cX1_sift 32 = .ok (.if_icmp .ge 79, 3) := by decide +kernel
theorem dX1_sift_35 : decode cX1_sift 35 = .ok (.iload 5, 2) := by decide +kernel
theorem dX1_sift_37 : decode cX1_sift 37 = .ok (.ifCond .ge 7, 3) := by decide +kernel
theorem dX1_sift_40 : decode cX1_sift 40 = .ok (.aconst_null, 1) := by decide +kernel
theorem dX1_sift_41 : decode cX1_sift 41 = .ok (.goto 7, 3) := by decide +kernel
theorem dX1_sift_44 : decode cX1_sift 44 = .ok (.aload_n 1, 1) := by decide +kernel
theorem dX1_sift_45 : decode cX1_sift 45 = .ok (.iload 5, 2) := by decide +kernel
theorem dX1_sift_47 : decode cX1_sift 47 = .ok (.aaload, 1) := by decide +kernel
theorem dX1_sift_48 : decode cX1_sift 48 = .ok (.astore 6, 2) := by decide +kernel
theorem dX1_sift_50 : decode cX1_sift 50 = .ok (.aload_n 0, 1) := by decide +kernel
theorem dX1_sift_51 : decode cX1_sift 51 = .ok (.aload_n 3, 1) := by decide +kernel
theorem dX1_sift_52 : decode cX1_sift 52 = .ok (.aload 6, 2) := by decide +kernel
theorem dX1_sift_54 : decode cX1_sift 54 = .ok (.invokevirtual 46, 3) := by decide +kernel
theorem dX1_sift_57 : decode cX1_sift 57 = .ok (.invokevirtual 52, 3) := by decide +kernel
theorem dX1_sift_60 : decode cX1_sift 60 = .ok (.ifCond .eq 45, 3) := by decide +kernel
theorem dX1_sift_63 : decode cX1_sift 63 = .ok (.aload_n 0, 1) := by decide +kernel
theorem dX1_sift_64 : decode cX1_sift 64 = .ok (.aload_n 0, 1) := by decide +kernel
theorem dX1_sift_65 : decode cX1_sift 65 = .ok (.getfield 34, 3) := by decide +kernel
theorem dX1_sift_68 : decode cX1_sift 68 = .ok (.ifCond .ne 8, 3) := by decide +kernel
theorem dX1_sift_71 : decode cX1_sift 71 = .ok (.iload 5, 2) := by decide +kernel
theorem dX1_sift_73 : decode cX1_sift 73 = .ok (.goto 7, 3) := by decide +kernel
theorem dX1_sift_76 : decode cX1_sift 76 = .ok (.aload_n 0, 1) := by decide +kernel
theorem dX1_sift_77 : decode cX1_sift 77 = .ok (.getfield 37, 3) := by decide +kernel
theorem dX1_sift_80 : decode cX1_sift 80 = .ok (.putfield 37, 3) := by decide +kernel
theorem dX1_sift_83 : decode cX1_sift 83 = .ok (.aload_n 0, 1) := by decide +kernel
theorem dX1_sift_84 : decode cX1_sift 84 = .ok (.dup, 1) := by decide +kernel
theorem dX1_sift_85 : decode cX1_sift 85 = .ok (.getfield 34, 3) := by decide +kernel
theorem dX1_sift_88 : decode cX1_sift 88 = .ok (.iconst 1, 1) := by decide +kernel
theorem dX1_sift_89 : decode cX1_sift 89 = .ok (.iadd, 1) := by decide +kernel
theorem dX1_sift_90 : decode cX1_sift 90 = .ok (.putfield 34, 3) := by decide +kernel
theorem dX1_sift_93 : decode cX1_sift 93 = .ok (.aload_n 0, 1) := by decide +kernel
theorem dX1_sift_94 : decode cX1_sift 94 = .ok (.aload_n 3, 1) := by decide +kernel
theorem dX1_sift_95 : decode cX1_sift 95 = .ok (.aload 6, 2) := by decide +kernel
theorem dX1_sift_97 : decode cX1_sift 97 = .ok (.invokevirtual 46, 3) := by decide +kernel
theorem dX1_sift_100 : decode cX1_sift 100 = .ok (.iload 4, 2) := by decide +kernel
theorem dX1_sift_102 : decode cX1_sift 102 = .ok (.invokevirtual 56, 3) := by decide +kernel
theorem dX1_sift_105 : decode cX1_sift 105 = .ok (.iinc 5 1, 3) := by decide +kernel
theorem dX1_sift_108 : decode cX1_sift 108 = .ok (.goto (-86), 3) := by decide +kernel
theorem dX1_sift_111 : decode cX1_sift 111 = .ok (.return_, 1) := by decide +kernel
theorem dX1_fits_0 : decode cX1_fits 0 = .ok (.iconst (-1), 1) := by decide +kernel
theorem dX1_fits_1 : decode cX1_fits 1 = .ok (.istore_n 2, 1) := by decide +kernel
theorem dX1_fits_2 : decode cX1_fits 2 = .ok (.iconst 0, 1) := by decide +kernel
theorem dX1_fits_3 : decode cX1_fits 3 = .ok (.istore_n 3, 1) := by decide +kernel
theorem dX1_fits_4 : decode cX1_fits 4 = .ok (.iload_n 3, 1) := by decide +kernel
theorem dX1_fits_5 : decode cX1_fits 5 = .ok (.aload_n 0, 1) := by decide +kernel
theorem dX1_fits_6 : decode cX1_fits 6 = .ok (.getfield 24, 3) := by decide +kernel
theorem dX1_fits_9 : decode cX1_fits 9 = .ok (.if_icmp .ge 20, 3) := by decide +kernel
theorem dX1_fits_12 : decode cX1_fits 12 = .ok (.iload_n 2, 1) := by decide +kernel
theorem dX1_fits_13 : decode cX1_fits 13 = .ok (.aload_n 0, 1) := by decide +kernel
theorem dX1_fits_14 : decode cX1_fits 14 = .ok (.getfield 11, 3) := by decide +kernel
theorem dX1_fits_17 : decode cX1_fits 17 = .ok (.iload_n 3, 1) := by decide +kernel
theorem dX1_fits_18 : decode cX1_fits 18 = .ok (.iaload, 1) := by decide +kernel
theorem dX1_fits_19 : decode cX1_fits 19 = .ok (.invokestatic 60, 3) := by decide +kernel
theorem dX1_fits_22 : decode cX1_fits 22 = .ok (.istore_n 2, 1) := by decide +kernel
theorem dX1_fits_23 : decode cX1_fits 23 = .ok (.iinc 3 1, 3) := by decide +kernel
theorem dX1_fits_26 : decode cX1_fits 26 = .ok (.goto (-22), 3) := by decide +kernel
theorem dX1_fits_29 : decode cX1_fits 29 = .ok (.iconst 0, 1) := by decide +kernel
theorem dX1_fits_30 : decode cX1_fits 30 = .ok (.istore_n 3, 1) := by decide +kernel
theorem dX1_fits_31 : decode cX1_fits 31 = .ok (.iload_n 3, 1) := by decide +kernel
theorem dX1_fits_32 : decode cX1_fits 32 = .ok (.iload_n 2, 1) := by decide +kernel
theorem dX1_fits_33 : decode cX1_fits 33 = .ok (.if_icmp .gt 66, 3) := by decide +kernel
theorem dX1_fits_36 : decode cX1_fits 36 = .ok (.aload_n 1, 1) := by decide +kernel
theorem dX1_fits_37 : decode cX1_fits 37 = .ok (.invokevirtual 66, 3) := by decide +kernel
theorem dX1_fits_40 : decode cX1_fits 40 = .ok (.pop, 1) := by decide +kernel
theorem dX1_fits_41 : decode cX1_fits 41 = .ok (.iconst 0, 1) := by decide +kernel
theorem dX1_fits_42 : decode cX1_fits 42 = .ok (.istore 4, 2) := by decide +kernel
theorem dX1_fits_44 : decode cX1_fits 44 = .ok (.iload 4, 2) := by decide +kernel
theorem dX1_fits_46 : decode cX1_fits 46 = .ok (.aload_n 0, 1) := by decide +kernel
theorem dX1_fits_47 : decode cX1_fits 47 = .ok (.getfield 24, 3) := by decide +kernel
theorem dX1_fits_50 : decode cX1_fits 50 = .ok (.if_icmp .ge 43, 3) := by decide +kernel
theorem dX1_fits_53 : decode cX1_fits 53 = .ok (.aload_n 0, 1) := by decide +kernel
theorem dX1_fits_54 : decode cX1_fits 54 = .ok (.getfield 11, 3) := by decide +kernel
theorem dX1_fits_57 : decode cX1_fits 57 = .ok (.iload 4, 2) := by decide +kernel
theorem dX1_fits_59 : decode cX1_fits 59 = .ok (.iaload, 1) := by decide +kernel
theorem dX1_fits_60 : decode cX1_fits 60 = .ok (.iload_n 3, 1) := by decide +kernel
theorem dX1_fits_61 : decode cX1_fits 61 = .ok (.if_icmp .ne 26, 3) := by decide +kernel
theorem dX1_fits_64 : decode cX1_fits 64 = .ok (.aload_n 1, 1) := by decide +kernel
theorem dX1_fits_65 : decode cX1_fits 65 = .ok (.aload_n 0, 1) := by decide +kernel
theorem dX1_fits_66 : decode cX1_fits 66 = .ok (.getfield 15, 3) := by decide +kernel
theorem dX1_fits_69 : decode cX1_fits 69 = .ok (.iload 4, 2) := by decide +kernel
theorem dX1_fits_71 : decode cX1_fits 71 = .ok (.iaload, 1) := by decide +kernel
theorem dX1_fits_72 : decode cX1_fits 72 = .ok (.invokevirtual 72, 3) := by decide +kernel
theorem dX1_fits_75 : decode cX1_fits 75 = .ok (.aload_n 0, 1) := by decide +kernel
theorem dX1_fits_76 : decode cX1_fits 76 = .ok (.getfield 18, 3) := by decide +kernel
theorem dX1_fits_79 : decode cX1_fits 79 = .ok (.iload 4, 2) := by decide +kernel
theorem dX1_fits_81 : decode cX1_fits 81 = .ok (.iaload, 1) := by decide +kernel
theorem dX1_fits_82 : decode cX1_fits 82 = .ok (.if_icmp .eq 5, 3) := by decide +kernel
theorem dX1_fits_85 : decode cX1_fits 85 = .ok (.iconst 0, 1) := by decide +kernel
theorem dX1_fits_86 : decode cX1_fits 86 = .ok (.ireturn, 1) := by decide +kernel
theorem dX1_fits_87 : decode cX1_fits 87 = .ok (.iinc 4 1, 3) := by decide +kernel
theorem dX1_fits_90 : decode cX1_fits 90 = .ok (.goto (-46), 3) := by decide +kernel
theorem dX1_fits_93 : decode cX1_fits 93 = .ok (.iinc 3 1, 3) := by decide +kernel
theorem dX1_fits_96 : decode cX1_fits 96 = .ok (.goto (-65), 3) := by decide +kernel
theorem dX1_fits_99 : decode cX1_fits 99 = .ok (.iconst 1, 1) := by decide +kernel
theorem dX1_fits_100 : decode cX1_fits 100 = .ok (.ireturn, 1) := by decide +kernel
theorem dX1_noteThings_0 : decode cX1_noteThings 0 = .ok (.aload_n 1, 1) := by decide +kernel
theorem dX1_noteThings_1 : decode cX1_noteThings 1 = .ok (.iload_n 2, 1) := by decide +kernel
theorem dX1_noteThings_2 : decode cX1_noteThings 2 = .ok (.iconst 1, 1) := by decide +kernel
theorem dX1_noteThings_3 : decode cX1_noteThings 3 = .ok (.iadd, 1) := by decide +kernel
theorem dX1_noteThings_4 : decode cX1_noteThings 4 = .ok (.invokevirtual 76, 3) := by decide +kernel
theorem dX1_noteThings_7 : decode cX1_noteThings 7 = .ok (.iconst 0, 1) := by decide +kernel
theorem dX1_noteThings_8 : decode cX1_noteThings 8 = .ok (.istore_n 3, 1) := by decide +kernel
theorem dX1_noteThings_9 : decode cX1_noteThings 9 = .ok (.iload_n 3, 1) := by decide +kernel
theorem dX1_noteThings_10 : decode cX1_noteThings 10 = .ok (.aload_n 1, 1) := by decide +kernel
theorem dX1_noteThings_11 : decode cX1_noteThings 11 = .ok (.getfield 80, 3) := by decide +kernel
theorem dX1_noteThings_14 : decode cX1_noteThings 14 = .ok (.getfield 84, 3) := by decide +kernel
theorem dX1_noteThings_17 : decode cX1_noteThings 17 = .ok (.if_icmp .ge 27, 3) := by decide +kernel
theorem dX1_noteThings_20 : decode cX1_noteThings 20 = .ok (.aload_n 0, 1) := by decide +kernel
theorem dX1_noteThings_21 : decode cX1_noteThings 21 = .ok (.getfield 21, 3) := by decide +kernel
theorem dX1_noteThings_24 : decode cX1_noteThings 24 = .ok (.iload_n 3, 1) := by decide +kernel
theorem dX1_noteThings_25 : decode cX1_noteThings 25 = .ok (.iconst 5, 1) := by decide +kernel
theorem dX1_noteThings_26 : decode cX1_noteThings 26 = .ok (.imul, 1) := by decide +kernel
theorem dX1_noteThings_27 : decode cX1_noteThings 27 = .ok (.aload_n 1, 1) := by decide +kernel
theorem dX1_noteThings_28 : decode cX1_noteThings 28 = .ok (.iload_n 3, 1) := by decide +kernel
theorem dX1_noteThings_29 : decode cX1_noteThings 29 = .ok (.invokevirtual 72, 3) := by decide +kernel
theorem dX1_noteThings_32 : decode cX1_noteThings 32 = .ok (.iadd, 1) := by decide +kernel
theorem dX1_noteThings_33 : decode cX1_noteThings 33 = .ok (.dup2, 1) := by decide +kernel
theorem dX1_noteThings_34 : decode cX1_noteThings 34 = .ok (.iaload, 1) := by decide +kernel
theorem dX1_noteThings_35 : decode cX1_noteThings 35 = .ok (.iconst 1, 1) := by decide +kernel
theorem dX1_noteThings_36 : decode cX1_noteThings 36 = .ok (.iadd, 1) := by decide +kernel
theorem dX1_noteThings_37 : decode cX1_noteThings 37 = .ok (.iastore, 1) := by decide +kernel
theorem dX1_noteThings_38 : decode cX1_noteThings 38 = .ok (.iinc 3 1, 3) := by decide +kernel
theorem dX1_noteThings_41 : decode cX1_noteThings 41 = .ok (.goto (-32), 3) := by decide +kernel
theorem dX1_noteThings_44 : decode cX1_noteThings 44 = .ok (.return_, 1) := by decide +kernel
theorem dX1_mostAlike_0 : decode cX1_mostAlike 0 = .ok (.iconst 0, 1) := by decide +kernel
theorem dX1_mostAlike_1 : decode cX1_mostAlike 1 = .ok (.istore_n 2, 1) := by decide +kernel
theorem dX1_mostAlike_2 : decode cX1_mostAlike 2 = .ok (.iconst 0, 1) := by decide +kernel
theorem dX1_mostAlike_3 : decode cX1_mostAlike 3 = .ok (.istore_n 3, 1) := by decide +kernel
theorem dX1_mostAlike_4 : decode cX1_mostAlike 4 = .ok (.iload_n 3, 1) := by decide +kernel
theorem dX1_mostAlike_5 : decode cX1_mostAlike 5 = .ok (.iconst 5, 1) := by decide +kernel
theorem dX1_mostAlike_6 : decode cX1_mostAlike 6 = .ok (.if_icmp .ge 24, 3) := by decide +kernel
theorem dX1_mostAlike_9 : decode cX1_mostAlike 9 = .ok (.iload_n 2, 1) := by decide +kernel
theorem dX1_mostAlike_10 : decode cX1_mostAlike 10 = .ok (.aload_n 0, 1) := by decide +kernel
theorem dX1_mostAlike_11 : decode cX1_mostAlike 11 = .ok (.getfield 21, 3) := by decide +kernel
theorem dX1_mostAlike_14 : decode cX1_mostAlike 14 = .ok (.iload_n 1, 1) := by decide +kernel
theorem dX1_mostAlike_15 : decode cX1_mostAlike 15 = .ok (.iconst 5, 1) := by decide +kernel
theorem dX1_mostAlike_16 : decode cX1_mostAlike 16 = .ok (.imul, 1) := by decide +kernel
theorem dX1_mostAlike_17 : decode cX1_mostAlike 17 = .ok (.iload_n 3, 1) := by decide +kernel
theorem dX1_mostAlike_18 : decode cX1_mostAlike 18 = .ok (.iadd, 1) := by decide +kernel
theorem dX1_mostAlike_19 : decode cX1_mostAlike 19 = .ok (.iaload, 1) := by decide +kernel
theorem dX1_mostAlike_20 : decode cX1_mostAlike 20 = .ok (.invokestatic 60, 3) := by decide +kernel
theorem dX1_mostAlike_23 : decode cX1_mostAlike 23 = .ok (.istore_n 2, 1) := by decide +kernel
theorem dX1_mostAlike_24 : decode cX1_mostAlike 24 = .ok (.iinc 3 1, 3) := by decide +kernel
theorem dX1_mostAlike_27 : decode cX1_mostAlike 27 = .ok (.goto (-23), 3) := by decide +kernel
theorem dX1_mostAlike_30 : decode cX1_mostAlike 30 = .ok (.iload_n 2, 1) := by decide +kernel
theorem dX1_mostAlike_31 : decode cX1_mostAlike 31 = .ok (.ireturn, 1) := by decide +kernel
theorem dX1_partingThing_0 : decode cX1_partingThing 0 = .ok (.iconst (-1), 1) := by decide +kernel
theorem dX1_partingThing_1 : decode cX1_partingThing 1 = .ok (.istore_n 2, 1) := by decide +kernel
theorem dX1_partingThing_2 : decode cX1_partingThing 2 = .ok (.iconst 0, 1) := by decide +kernel
theorem dX1_partingThing_3 : decode cX1_partingThing 3 = .ok (.istore_n 3, 1) := by decide +kernel
theorem dX1_partingThing_4 : decode cX1_partingThing 4 = .ok (.iload_n 3, 1) := by decide +kernel
theorem dX1_partingThing_5 : decode cX1_partingThing 5 = .ok (.iload_n 1, 1) := by decide +kernel
theorem dX1_partingThing_6 : decode cX1_partingThing 6 = .ok (.if_icmp .ge 29, 3) := by decide +kernel
theorem dX1_partingThing_9 : decode cX1_partingThing 9 = .ok (.iload_n 2, 1) := by decide +kernel
theorem dX1_partingThing_10 : decode cX1_partingThing 10 = .ok (.iconst (-1), 1) := by decide +kernel
theorem dX1_partingThing_11 : decode cX1_partingThing 11 = .ok (.if_icmp .eq 16, 3) := by decide +kernel
theorem dX1_partingThing_14 : decode cX1_partingThing 14 = .ok (.aload_n 0, 1) := by decide +kernel
theorem dX1_partingThing_15 : decode cX1_partingThing 15 = .ok (.iload_n 3, 1) := by decide +kernel
theorem dX1_partingThing_16 : decode cX1_partingThing 16 = .ok (.invokevirtual 88, 3) := by decide +kernel
theorem dX1_partingThing_19 : decode cX1_partingThing 19 = .ok (.aload_n 0, 1) := by decide +kernel
theorem dX1_partingThing_20 : decode cX1_partingThing 20 = .ok (.iload_n 2, 1) := by decide +kernel
theorem dX1_partingThing_21 : decode cX1_partingThing 21 = .ok (.invokevirtual 88, 3) := by decide +kernel
theorem dX1_partingThing_24 : decode cX1_partingThing 24 = .ok (.if_icmp .ge 5, 3) := by decide +kernel
theorem dX1_partingThing_27 : decode cX1_partingThing 27 = .ok (.iload_n 3, 1) := by decide +kernel
theorem dX1_partingThing_28 : decode cX1_partingThing 28 = .ok (.istore_n 2, 1) := by decide +kernel
theorem dX1_partingThing_29 : decode cX1_partingThing 29 = .ok (.iinc 3 1, 3) := by decide +kernel
theorem dX1_partingThing_32 : decode cX1_partingThing 32 = .ok (.goto (-28), 3) := by decide +kernel
theorem dX1_partingThing_35 : decode cX1_partingThing 35 = .ok (.iload_n 2, 1) := by decide +kernel
theorem dX1_partingThing_36 : decode cX1_partingThing 36 = .ok (.ireturn, 1) := by decide +kernel
theorem dX2_init_0 : decode cX2_init 0 = .ok (.aload_n 0, 1) := by decide +kernel
theorem dX2_init_1 : decode cX2_init 1 = .ok (.invokespecial 5, 3) := by decide +kernel
theorem dX2_init_4 : decode cX2_init 4 = .ok (.aload_n 0, 1) := by decide +kernel
theorem dX2_init_5 : decode cX2_init 5 = .ok (.new 11, 3) := by decide +kernel
theorem dX2_init_8 : decode cX2_init 8 = .ok (.dup, 1) := by decide +kernel
theorem dX2_init_9 : decode cX2_init 9 = .ok (.invokespecial 13, 3) := by decide +kernel
theorem dX2_init_12 : decode cX2_init 12 = .ok (.putfield 14, 3) := by decide +kernel
theorem dX2_init_15 : decode cX2_init 15 = .ok (.aload_n 0, 1) := by decide +kernel
theorem dX2_init_16 : decode cX2_init 16 = .ok (.bipush 35, 2) := by decide +kernel
theorem dX2_init_18 : decode cX2_init 18 = .ok (.newarray .int, 2) := by decide +kernel
theorem dX2_init_20 : decode cX2_init 20 = .ok (.putfield 18, 3) := by decide +kernel
theorem dX2_init_23 : decode cX2_init 23 = .ok (.aload_n 0, 1) := by decide +kernel
theorem dX2_init_24 : decode cX2_init 24 = .ok (.aload_n 1, 1) := by decide +kernel
theorem dX2_init_25 : decode cX2_init 25 = .ok (.putfield 22, 3) := by decide +kernel
theorem dX2_init_28 : decode cX2_init 28 = .ok (.return_, 1) := by decide +kernel
theorem dX2_clear_0 : decode cX2_clear 0 = .ok (.aload_n 0, 1) := by decide +kernel
theorem dX2_clear_1 : decode cX2_clear 1 = .ok (.getfield 18, 3) := by decide +kernel
theorem dX2_clear_4 : decode cX2_clear 4 = .ok (.iconst 0, 1) := by decide +kernel
theorem dX2_clear_5 : decode cX2_clear 5 = .ok (.invokestatic 26, 3) := by decide +kernel
theorem dX2_clear_8 : decode cX2_clear 8 = .ok (.aload_n 0, 1) := by decide +kernel
theorem dX2_clear_9 : decode cX2_clear 9 = .ok (.getfield 14, 3) := by decide +kernel
theorem dX2_clear_12 : decode cX2_clear 12 = .ok (.getfield 32, 3) := by decide +kernel
theorem dX2_clear_15 : decode cX2_clear 15 = .ok (.iconst 0, 1) := by decide +kernel
theorem dX2_clear_16 : decode cX2_clear 16 = .ok (.aload_n 0, 1) := by decide +kernel
theorem dX2_clear_17 : decode cX2_clear 17 = .ok (.getfield 18, 3) := by decide +kernel
theorem dX2_clear_20 : decode cX2_clear 20 = .ok (.iconst 1, 1) := by decide +kernel
theorem dX2_clear_21 : decode cX2_clear 21 = .ok (.iconst 4, 1) := by decide +kernel
theorem dX2_clear_22 : decode cX2_clear 22 = .ok (.invokestatic 35, 3) := by decide +kernel
theorem dX2_clear_25 : decode cX2_clear 25 = .ok (.iconst 0, 1) := by decide +kernel
theorem dX2_clear_26 : decode cX2_clear 26 = .ok (.istore_n 1, 1) := by decide +kernel
theorem dX2_clear_27 : decode cX2_clear 27 = .ok (.iload_n 1, 1) := by decide +kernel
theorem dX2_clear_28 : decode cX2_clear 28 = .ok (.iconst 4, 1) := by decide +kernel
theorem dX2_clear_29 : decode cX2_clear 29 = .ok (.if_icmp .ge 18, 3) := by decide +kernel
theorem dX2_clear_32 : decode cX2_clear 32 = .ok (.aload_n 0, 1) := by decide +kernel
theorem dX2_clear_33 : decode cX2_clear 33 = .ok (.getfield 18, 3) := by decide +kernel
theorem dX2_clear_36 : decode cX2_clear 36 = .ok (.iconst 5, 1) := by decide +kernel
theorem dX2_clear_37 : decode cX2_clear 37 = .ok (.iload_n 1, 1) := by decide +kernel
theorem dX2_clear_38 : decode cX2_clear 38 = .ok (.iadd, 1) := by decide +kernel
theorem dX2_clear_39 : decode cX2_clear 39 = .ok (.iconst (-1), 1) := by decide +kernel
theorem dX2_clear_40 : decode cX2_clear 40 = .ok (.iastore, 1) := by decide +kernel
theorem dX2_clear_41 : decode cX2_clear 41 = .ok (.iinc 1 1, 3) := by decide +kernel
theorem dX2_clear_44 : decode cX2_clear 44 = .ok (.goto (-17), 3) := by decide +kernel
theorem dX2_clear_47 : decode cX2_clear 47 = .ok (.iconst 0, 1) := by decide +kernel
theorem dX2_clear_48 : decode cX2_clear 48 = .ok (.istore_n 1, 1) := by decide +kernel
theorem dX2_clear_49 : decode cX2_clear 49 = .ok (.iload_n 1, 1) := by decide +kernel
theorem dX2_clear_50 : decode cX2_clear 50 = .ok (.bipush 7, 2) := by decide +kernel
theorem dX2_clear_52 : decode cX2_clear 52 = .ok (.if_icmp .ge 19, 3) := by decide +kernel
theorem dX2_clear_55 : decode cX2_clear 55 = .ok (.aload_n 0, 1) := by decide +kernel
theorem dX2_clear_56 : decode cX2_clear 56 = .ok (.getfield 18, 3) := by decide +kernel
theorem dX2_clear_59 : decode cX2_clear 59 = .ok (.bipush 28, 2) := by decide +kernel
theorem dX2_clear_61 : decode cX2_clear 61 = .ok (.iload_n 1, 1) := by decide +kernel
theorem dX2_clear_62 : decode cX2_clear 62 = .ok (.iadd, 1) := by decide +kernel
theorem dX2_clear_63 : decode cX2_clear 63 = .ok (.iconst (-1), 1) := by decide +kernel
theorem dX2_clear_64 : decode cX2_clear 64 = .ok (.iastore, 1) := by decide +kernel
theorem dX2_clear_65 : decode cX2_clear 65 = .ok (.iinc 1 1, 3) := by decide +kernel
theorem dX2_clear_68 : decode cX2_clear 68 = .ok (.goto (-19), 3) := by decide +kernel
theorem dX2_clear_71 : decode cX2_clear 71 = .ok (.return_, 1) := by decide +kernel
theorem dX2_copy_0 : decode cX2_copy 0 = .ok (.aload_n 0, 1) := by decide +kernel
theorem dX2_copy_1 : decode cX2_copy 1 = .ok (.getfield 14, 3) := by decide +kernel
theorem dX2_copy_4 : decode cX2_copy 4 = .ok (.aload_n 1, 1) := by decide +kernel
theorem dX2_copy_5 : decode cX2_copy 5 = .ok (.getfield 14, 3) := by decide +kernel
theorem dX2_copy_8 : decode cX2_copy 8 = .ok (.invokevirtual 41, 3) := by decide +kernel
theorem dX2_copy_11 : decode cX2_copy 11 = .ok (.aload_n 1, 1) := by decide +kernel
theorem dX2_copy_12 : decode cX2_copy 12 = .ok (.getfield 18, 3) := by decide +kernel
theorem dX2_copy_15 : decode cX2_copy 15 = .ok (.iconst 0, 1) := by decide +kernel
theorem dX2_copy_16 : decode cX2_copy 16 = .ok (.aload_n 0, 1) := by decide +kernel
theorem dX2_copy_17 : decode cX2_copy 17 = .ok (.getfield 18, 3) := by decide +kernel
theorem dX2_copy_20 : decode cX2_copy 20 = .ok (.iconst 0, 1) := by decide +kernel
theorem dX2_copy_21 : decode cX2_copy 21 = .ok (.bipush 35, 2) := by decide +kernel
theorem dX2_copy_23 : decode cX2_copy 23 = .ok (.invokestatic 35, 3) := by decide +kernel
theorem dX2_copy_26 : decode cX2_copy 26 = .ok (.aload_n 0, 1) := by decide +kernel
theorem dX2_copy_27 : decode cX2_copy 27 = .ok (.aload_n 1, 1) := by decide +kernel
theorem dX2_copy_28 : decode cX2_copy 28 = .ok (.getfield 45, 3) := by decide +kernel
theorem dX2_copy_31 : decode cX2_copy 31 = .ok (.putfield 45, 3) := by decide +kernel
theorem dX2_copy_34 : decode cX2_copy 34 = .ok (.return_, 1) := by decide +kernel
theorem dX2_minuteNow_0 : decode cX2_minuteNow 0 = .ok (.aload_n 0, 1) := by decide +kernel
theorem dX2_minuteNow_1 : decode cX2_minuteNow 1 = .ok (.getfield 18, 3) := by decide +kernel
theorem dX2_minuteNow_4 : decode cX2_minuteNow 4 = .ok (.iconst 0, 1) := by decide +kernel
theorem dX2_minuteNow_5 : decode cX2_minuteNow 5 = .ok (.iaload, 1) := by decide +kernel
theorem dX2_minuteNow_6 : decode cX2_minuteNow 6 = .ok (.ireturn, 1) := by decide +kernel
theorem dX2_howIs_0 : decode cX2_howIs 0 = .ok (.aload_n 0, 1) := by decide +kernel
theorem dX2_howIs_1 : decode cX2_howIs 1 = .ok (.getfield 18, 3) := by decide +kernel
theorem dX2_howIs_4 : decode cX2_howIs 4 = .ok (.bipush 21, 2) := by decide +kernel
theorem dX2_howIs_6 : decode cX2_howIs 6 = .ok (.iload_n 1, 1) := by decide +kernel
theorem dX2_howIs_7 : decode cX2_howIs 7 = .ok (.iadd, 1) := by decide +kernel
theorem dX2_howIs_8 : decode cX2_howIs 8 = .ok (.iaload, 1) := by decide +kernel
theorem dX2_howIs_9 : decode cX2_howIs 9 = .ok (.ireturn, 1) := by decide +kernel
theorem dX2_isFree_0 : decode cX2_isFree 0 = .ok (.aload_n 0, 1) := by decide +kernel
theorem dX2_isFree_1 : decode cX2_isFree 1 = .ok (.getfield 18, 3) := by decide +kernel
theorem dX2_isFree_4 : decode cX2_isFree 4 = .ok (.iconst 5, 1) := by decide +kernel
theorem dX2_isFree_5 : decode cX2_isFree 5 = .ok (.iload_n 1, 1) := by decide +kernel
theorem dX2_isFree_6 : decode cX2_isFree 6 = .ok (.iadd, 1) := by decide +kernel
theorem dX2_isFree_7 : decode cX2_isFree 7 = .ok (.iaload, 1) := by decide +kernel
theorem dX2_isFree_8 : decode cX2_isFree 8 = .ok (.iconst (-1), 1) := by decide +kernel
theorem dX2_isFree_9 : decode cX2_isFree 9 = .ok (.if_icmp .ne 7, 3) := by decide +kernel
theorem dX2_isFree_12 : decode cX2_isFree 12 = .ok (.iconst 1, 1) := by decide +kernel
theorem dX2_isFree_13 : decode cX2_isFree 13 = .ok (.goto 4, 3) := by decide +kernel
theorem dX2_isFree_16 : decode cX2_isFree 16 = .ok (.iconst 0, 1) := by decide +kernel
theorem dX2_isFree_17 : decode cX2_isFree 17 = .ok (.ireturn, 1) := by decide +kernel
theorem dX2_canTake_0 : decode cX2_canTake 0 = .ok (.aload_n 0, 1) := by decide +kernel
theorem dX2_canTake_1 : decode cX2_canTake 1 = .ok (.getfield 14, 3) := by decide +kernel
theorem dX2_canTake_4 : decode cX2_canTake 4 = .ok (.getfield 49, 3) := by decide +kernel
theorem dX2_canTake_7 : decode cX2_canTake 7 = .ok (.iload_n 2, 1) := by decide +kernel
theorem dX2_canTake_8 : decode cX2_canTake 8 = .ok (.iaload, 1) := by decide +kernel
theorem dX2_canTake_9 : decode cX2_canTake 9 = .ok (.istore_n 3, 1) := by decide +kernel
theorem dX2_canTake_10 : decode cX2_canTake 10 = .ok (.aload_n 0, 1) := by decide +kernel
theorem dX2_canTake_11 : decode cX2_canTake 11 = .ok (.getfield 18, 3) := by decide +kernel
theorem dX2_canTake_14 : decode cX2_canTake 14 = .ok (.bipush 21, 2) := by decide +kernel
theorem dX2_canTake_16 : decode cX2_canTake 16 = .ok (.iload_n 2, 1) := by decide +kernel
theorem dX2_canTake_17 : decode cX2_canTake 17 = .ok (.iadd, 1) := by decide +kernel
theorem dX2_canTake_18 : decode cX2_canTake 18 = .ok (.iaload, 1) := by decide +kernel
theorem dX2_canTake_19 : decode cX2_canTake 19 = .ok (.iconst 1, 1) := by decide +kernel
theorem dX2_canTake_20 : decode cX2_canTake 20 = .ok (.if_icmp .ne 42, 3) := by decide +kernel
theorem dX2_canTake_23 : decode cX2_canTake 23 = .ok (.aload_n 0, 1) := by decide +kernel
theorem dX2_canTake_24 : decode cX2_canTake 24 = .ok (.getfield 14, 3) := by decide +kernel
theorem dX2_canTake_27 : decode cX2_canTake 27 = .ok (.iload_n 1, 1) := by decide +kernel
theorem dX2_canTake_28 : decode cX2_canTake 28 = .ok (.iload_n 3, 1) := by decide +kernel
theorem dX2_canTake_29 : decode cX2_canTake 29 = .ok (.invokevirtual 52, 3) := by decide +kernel
theorem dX2_canTake_32 : decode cX2_canTake 32 = .ok (.ifCond .le 30, 3) := by decide +kernel
theorem dX2_canTake_35 : decode cX2_canTake 35 = .ok (.aload_n 0, 1) := by decide +kernel
theorem dX2_canTake_36 : decode cX2_canTake 36 = .ok (.getfield 14, 3) := by decide +kernel
theorem dX2_canTake_39 : decode cX2_canTake 39 = .ok (.getfield 56, 3) := by decide +kernel
theorem dX2_canTake_42 : decode cX2_canTake 42 = .ok (.iload_n 2, 1) := by decide +kernel
theorem dX2_canTake_43 : decode cX2_canTake 43 = .ok (.iaload, 1) := by decide +kernel
theorem dX2_canTake_44 : decode cX2_canTake 44 = .ok (.ifCond .eq 14, 3) := by decide +kernel
theorem dX2_canTake_47 : decode cX2_canTake 47 = .ok (.aload_n 0, 1) := by decide +kernel
theorem dX2_canTake_48 : decode cX2_canTake 48 = .ok (.getfield 18, 3) := by decide +kernel
theorem dX2_canTake_51 : decode cX2_canTake 51 = .ok (.iconst 1, 1) := by decide +kernel
theorem dX2_canTake_52 : decode cX2_canTake 52 = .ok (.iload_n 3, 1) := by decide +kernel
theorem dX2_canTake_53 : decode cX2_canTake 53 = .ok (.iadd, 1) := by decide +kernel
theorem dX2_canTake_54 : decode cX2_canTake 54 = .ok (.iaload, 1) := by decide +kernel
theorem dX2_canTake_55 : decode cX2_canTake 55 = .ok (.ifCond .le 7, 3) := by decide +kernel
theorem dX2_canTake_58 : decode cX2_canTake 58 = .ok (.iconst 1, 1) := by decide +kernel
theorem dX2_canTake_59 : decode cX2_canTake 59 = .ok (.goto 4, 3) := by decide +kernel
theorem dX2_canTake_62 : decode cX2_canTake 62 = .ok (.iconst 0, 1) := by decide +kernel
theorem dX2_canTake_63 : decode cX2_canTake 63 = .ok (.ireturn, 1) := by decide +kernel
theorem dX2_effort_0 : decode cX2_effort 0 = .ok (.aload_n 0, 1) := by decide +kernel
theorem dX2_effort_1 : decode cX2_effort 1 = .ok (.getfield 14, 3) := by decide +kernel
theorem dX2_effort_4 : decode cX2_effort 4 = .ok (.getfield 49, 3) := by decide +kernel
theorem dX2_effort_7 : decode cX2_effort 7 = .ok (.iload_n 2, 1) := by decide +kernel
theorem dX2_effort_8 : decode cX2_effort 8 = .ok (.iaload, 1) := by decide +kernel
theorem dX2_effort_9 : decode cX2_effort 9 = .ok (.istore_n 3, 1) := by decide +kernel
theorem dX2_effort_10 : decode cX2_effort 10 = .ok (.aload_n 0, 1) := by decide +kernel
theorem dX2_effort_11 : decode cX2_effort 11 = .ok (.getfield 14, 3) := by decide +kernel
theorem dX2_effort_14 : decode cX2_effort 14 = .ok (.getfield 59, 3) := by decide +kernel
theorem dX2_effort_17 : decode cX2_effort 17 = .ok (.iload_n 1, 1) := by decide +kernel
theorem dX2_effort_18 : decode cX2_effort 18 = .ok (.iconst 4, 1) := by decide +kernel
theorem dX2_effort_19 : decode cX2_effort 19 = .ok (.imul, 1) := by decide +kernel
theorem dX2_effort_20 : decode cX2_effort 20 = .ok (.iload_n 3, 1) := by decide +kernel
theorem dX2_effort_21 : decode cX2_effort 21 = .ok (.iadd, 1) := by decide +kernel
theorem dX2_effort_22 : decode cX2_effort 22 = .ok (.iaload, 1) := by decide +kernel
theorem dX2_effort_23 : decode cX2_effort 23 = .ok (.aload_n 0, 1) := by decide +kernel
theorem dX2_effort_24 : decode cX2_effort 24 = .ok (.getfield 14, 3) := by decide +kernel
theorem dX2_effort_27 : decode cX2_effort 27 = .ok (.getfield 62, 3) := by decide +kernel
theorem dX2_effort_30 : decode cX2_effort 30 = .ok (.iload_n 3, 1) := by decide +kernel
theorem dX2_effort_31 : decode cX2_effort 31 = .ok (.iaload, 1) := by decide +kernel
theorem dX2_effort_32 : decode cX2_effort 32 = .ok (.iadd, 1) := by decide +kernel
theorem dX2_effort_33 : decode cX2_effort 33 = .ok (.ireturn, 1) := by decide +kernel
theorem dX2_begin_0 : decode cX2_begin 0 = .ok (.aload_n 0, 1) := by decide +kernel
theorem dX2_begin_1 : decode cX2_begin 1 = .ok (.getfield 18, 3) := by decide +kernel
theorem dX2_begin_4 : decode cX2_begin 4 = .ok (.iconst 1, 1) := by decide +kernel
theorem dX2_begin_5 : decode cX2_begin 5 = .ok (.aload_n 0, 1) := by decide +kernel
theorem dX2_begin_6 : decode cX2_begin 6 = .ok (.getfield 14, 3) := by decide +kernel
theorem dX2_begin_9 : decode cX2_begin 9 = .ok (.getfield 49, 3) := by decide +kernel
theorem dX2_begin_12 : decode cX2_begin 12 = .ok (.iload_n 2, 1) := by decide +kernel
theorem dX2_begin_13 : decode cX2_begin 13 = .ok (.iaload, 1) := by decide +kernel
theorem dX2_begin_14 : decode cX2_begin 14 = .ok (.iadd, 1) := by decide +kernel
theorem dX2_begin_15 : decode cX2_begin 15 = .ok (.dup2, 1) := by decide +kernel
theorem dX2_begin_16 : decode cX2_begin 16 = .ok (.iaload, 1) := by decide +kernel
theorem dX2_begin_17 : decode cX2_begin 17 = .ok (.aload_n 0, 1) := by decide +kernel
theorem dX2_begin_18 : decode cX2_begin 18 = .ok (.getfield 14, 3) := by decide +kernel
theorem dX2_begin_21 : decode cX2_begin 21 = .ok (.getfield 56, 3) := by decide +kernel
theorem dX2_begin_24 : decode cX2_begin 24 = .ok (.iload_n 2, 1) := by decide +kernel
theorem dX2_begin_25 : decode cX2_begin 25 = .ok (.iaload, 1) := by decide +kernel
theorem dX2_begin_26 : decode cX2_begin 26 = .ok (.isub, 1) := by decide +kernel
theorem dX2_begin_27 : decode cX2_begin 27 = .ok (.iastore, 1) := by decide +kernel
theorem dX2_begin_28 : decode cX2_begin 28 = .ok (.aload_n 0, 1) := by decide +kernel
theorem dX2_begin_29 : decode cX2_begin 29 = .ok (.getfield 18, 3) := by decide +kernel
theorem dX2_begin_32 : decode cX2_begin 32 = .ok (.bipush 21, 2) := by decide +kernel
theorem dX2_begin_34 : decode cX2_begin 34 = .ok (.iload_n 2, 1) := by decide +kernel
theorem dX2_begin_35 : decode cX2_begin 35 = .ok (.iadd, 1) := by decide +kernel
theorem dX2_begin_36 : decode cX2_begin 36 = .ok (.iconst 2, 1) := by decide +kernel
theorem dX2_begin_37 : decode cX2_begin 37 = .ok (.iastore, 1) := by decide +kernel
theorem dX2_begin_38 : decode cX2_begin 38 = .ok (.aload_n 0, 1) := by decide +kernel
theorem dX2_begin_39 : decode cX2_begin 39 = .ok (.getfield 18, 3) := by decide +kernel
theorem dX2_begin_42 : decode cX2_begin 42 = .ok (.iconst 5, 1) := by decide +kernel
theorem dX2_begin_43 : decode cX2_begin 43 = .ok (.iload_n 1, 1) := by decide +kernel
theorem dX2_begin_44 : decode cX2_begin 44 = .ok (.iadd, 1) := by decide +kernel
theorem dX2_begin_45 : decode cX2_begin 45 = .ok (.iload_n 2, 1) := by decide +kernel
theorem dX2_begin_46 : decode cX2_begin 46 = .ok (.iastore, 1) := by decide +kernel
theorem dX2_begin_47 : decode cX2_begin 47 = .ok (.aload_n 0, 1) := by decide +kernel
theorem dX2_begin_48 : decode cX2_begin 48 = .ok (.getfield 18, 3) := by decide +kernel
theorem dX2_begin_51 : decode cX2_begin 51 = .ok (.bipush 9, 2) := by decide +kernel
theorem dX2_begin_53 : decode cX2_begin 53 = .ok (.iload_n 1, 1) := by decide +kernel
theorem dX2_begin_54 : decode cX2_begin 54 = .ok (.iadd, 1) := by decide +kernel
theorem dX2_begin_55 : decode cX2_begin 55 = .ok (.aload_n 0, 1) := by decide +kernel
theorem dX2_begin_56 : decode cX2_begin 56 = .ok (.iload_n 1, 1) := by decide +kernel
theorem dX2_begin_57 : decode cX2_begin 57 = .ok (.iload_n 2, 1) := by decide +kernel
theorem dX2_begin_58 : decode cX2_begin 58 = .ok (.invokevirtual 65, 3) := by decide +kernel
theorem dX2_begin_61 : decode cX2_begin 61 = .ok (.iastore, 1) := by decide +kernel
theorem dX2_begin_62 : decode cX2_begin 62 = .ok (.return_, 1) := by decide +kernel
theorem dX2_layDown_0 : decode cX2_layDown 0 = .ok (.aload_n 0, 1) := by decide +kernel
theorem dX2_layDown_1 : decode cX2_layDown 1 = .ok (.getfield 18, 3) := by decide +kernel
theorem dX2_layDown_4 : decode cX2_layDown 4 = .ok (.iconst 5, 1) := by decide +kernel
theorem dX2_layDown_5 : decode cX2_layDown 5 = .ok (.iload_n 1, 1) := by decide +kernel
theorem dX2_layDown_6 : decode cX2_layDown 6 = .ok (.iadd, 1) := by decide +kernel
theorem dX2_layDown_7 : decode cX2_layDown 7 = .ok (.iaload, 1) := by decide +kernel
theorem dX2_layDown_8 : decode cX2_layDown 8 = .ok (.istore_n 2, 1) := by decide +kernel
theorem dX2_layDown_9 : decode cX2_layDown 9 = .ok (.aload_n 0, 1) := by decide +kernel
theorem dX2_layDown_10 : decode cX2_layDown 10 = .ok (.getfield 14, 3) := by decide +kernel
theorem dX2_layDown_13 : decode cX2_layDown 13 = .ok (.iload_n 2, 1) := by decide +kernel
theorem dX2_layDown_14 : decode cX2_layDown 14 = .ok (.invokevirtual 68, 3) := by decide +kernel
theorem dX2_layDown_17 : decode cX2_layDown 17 = .ok (.ifCond .eq 13, 3) := by decide +kernel
theorem dX2_layDown_20 : decode cX2_layDown 20 = .ok (.aload_n 0, 1) := by decide +kernel
theorem dX2_layDown_21 : decode cX2_layDown 21 = .ok (.getfield 18, 3) := by decide +kernel
theorem dX2_layDown_24 : decode cX2_layDown 24 = .ok (.bipush 21, 2) := by decide +kernel
theorem dX2_layDown_26 : decode cX2_layDown 26 = .ok (.iload_n 2, 1) := by decide +kernel
theorem dX2_layDown_27 : decode cX2_layDown 27 = .ok (.iadd, 1) := by decide +kernel
theorem dX2_layDown_28 : decode cX2_layDown 28 = .ok (.iconst 1, 1) := by decide +kernel
theorem dX2_layDown_29 : decode cX2_layDown 29 = .ok (.iastore, 1) := by decide +kernel
theorem dX2_layDown_30 : decode cX2_layDown 30 = .ok (.aload_n 0, 1) := by decide +kernel
theorem dX2_layDown_31 : decode cX2_layDown 31 = .ok (.getfield 18, 3) := by decide +kernel
theorem dX2_layDown_34 : decode cX2_layDown 34 = .ok (.iconst 5, 1) := by decide +kernel
theorem dX2_layDown_35 : decode cX2_layDown 35 = .ok (.iload_n 1, 1) := by decide +kernel
theorem dX2_layDown_36 : decode cX2_layDown 36 = .ok (.iadd, 1) := by decide +kernel
theorem dX2_layDown_37 : decode cX2_layDown 37 = .ok (.iconst (-1), 1) := by decide +kernel
theorem dX2_layDown_38 : decode cX2_layDown 38 = .ok (.iastore, 1) := by decide +kernel
theorem dX2_layDown_39 : decode cX2_layDown 39 = .ok (.aload_n 0, 1) := by decide +kernel
theorem dX2_layDown_40 : decode cX2_layDown 40 = .ok (.getfield 18, 3) := by decide +kernel
theorem dX2_layDown_43 : decode cX2_layDown 43 = .ok (.bipush 9, 2) := by decide +kernel
theorem dX2_layDown_45 : decode cX2_layDown 45 = .ok (.iload_n 1, 1) := by decide +kernel
theorem dX2_layDown_46 : decode cX2_layDown 46 = .ok (.iadd, 1) := by decide +kernel
theorem dX2_layDown_47 : decode cX2_layDown 47 = .ok (.iconst 0, 1) := by decide +kernel
theorem dX2_layDown_48 : decode cX2_layDown 48 = .ok (.iastore, 1) := by decide +kernel
theorem dX2_layDown_49 : decode cX2_layDown 49 = .ok (.iload_n 2, 1) := by decide +kernel
theorem dX2_layDown_50 : decode cX2_layDown 50 = .ok (.ireturn, 1) := by decide +kernel
theorem dX2_atCoffee_0 : decode cX2_atCoffee 0 = .ok (.iconst 0, 1) := by decide +kernel
theorem dX2_atCoffee_1 : decode cX2_atCoffee 1 = .ok (.istore_n 1, 1) := by decide +kernel
theorem dX2_atCoffee_2 : decode cX2_atCoffee 2 = .ok (.iconst 0, 1) := by decide +kernel
theorem dX2_atCoffee_3 : decode cX2_atCoffee 3 = .ok (.istore_n 2, 1) := by decide +kernel
theorem dX2_atCoffee_4 : decode cX2_atCoffee 4 = .ok (.iload_n 2, 1) := by decide +kernel
theorem dX2_atCoffee_5 : decode cX2_atCoffee 5 = .ok (.aload_n 0, 1) := by decide +kernel
theorem dX2_atCoffee_6 : decode cX2_atCoffee 6 = .ok (.getfield 14, 3) := by decide +kernel
theorem dX2_atCoffee_9 : decode cX2_atCoffee 9 = .ok (.getfield 72, 3) := by decide +kernel
theorem dX2_atCoffee_12 : decode cX2_atCoffee 12 = .ok (.if_icmp .ge 24, 3) := by decide +kernel
theorem dX2_atCoffee_15 : decode cX2_atCoffee 15 = .ok (.aload_n 0, 1) := by decide +kernel
theorem dX2_atCoffee_16 : decode cX2_atCoffee 16 = .ok (.getfield 18, 3) := by decide +kernel
theorem dX2_atCoffee_19 : decode cX2_atCoffee 19 = .ok (.bipush 13, 2) := by decide +kernel
theorem dX2_atCoffee_21 : decode cX2_atCoffee 21 = .ok (.iload_n 2, 1) := by decide +kernel
theorem dX2_atCoffee_22 : decode cX2_atCoffee 22 = .ok (.iadd, 1) := by decide +kernel
theorem dX2_atCoffee_23 : decode cX2_atCoffee 23 = .ok (.iaload, 1) := by decide +kernel
theorem dX2_atCoffee_24 : decode cX2_atCoffee 24 = .ok (.ifCond .le 6, 3) := by decide +kernel
theorem dX2_atCoffee_27 : decode cX2_atCoffee 27 = .ok (.iinc 1 1, 3) := by decide +kernel
theorem dX2_atCoffee_30 : decode cX2_atCoffee 30 = .ok (.iinc 2 1, 3) := by decide +kernel
theorem dX2_atCoffee_33 : decode cX2_atCoffee 33 = .ok (.goto (-29), 3) := by decide +kernel
theorem dX2_atCoffee_36 : decode cX2_atCoffee 36 = .ok (.iload_n 1, 1) := by decide +kernel
theorem dX2_atCoffee_37 : decode cX2_atCoffee 37 = .ok (.ireturn, 1) := by decide +kernel
theorem dX2_saved_0 : decode cX2_saved 0 = .ok (.iconst 0, 1) := by decide +kernel
theorem dX2_saved_1 : decode cX2_saved 1 = .ok (.istore_n 1, 1) := by decide +kernel
theorem dX2_saved_2 : decode cX2_saved 2 = .ok (.iconst 0, 1) := by decide +kernel
theorem dX2_saved_3 : decode cX2_saved 3 = .ok (.istore_n 2, 1) := by decide +kernel
theorem dX2_saved_4 : decode cX2_saved 4 = .ok (.iload_n 2, 1) := by decide +kernel
theorem dX2_saved_5 : decode cX2_saved 5 = .ok (.aload_n 0, 1) := by decide +kernel
theorem dX2_saved_6 : decode cX2_saved 6 = .ok (.getfield 14, 3) := by decide +kernel
theorem dX2_saved_9 : decode cX2_saved 9 = .ok (.getfield 76, 3) := by decide +kernel
theorem dX2_saved_12 : decode cX2_saved 12 = .ok (.if_icmp .ge 34, 3) := by decide +kernel
theorem dX2_saved_15 : decode cX2_saved 15 = .ok (.aload_n 0, 1) := by decide +kernel
theorem dX2_saved_16 : decode cX2_saved 16 = .ok (.getfield 18, 3) := by decide +kernel
theorem dX2_saved_19 : decode cX2_saved 19 = .ok (.bipush 21, 2) := by decide +kernel
theorem dX2_saved_21 : decode cX2_saved 21 = .ok (.iload_n 2, 1) := by decide +kernel
theorem dX2_saved_22 : decode cX2_saved 22 = .ok (.iadd, 1) := by decide +kernel
theorem dX2_saved_23 : decode cX2_saved 23 = .ok (.iaload, 1) := by decide +kernel
theorem dX2_saved_24 : decode cX2_saved 24 = .ok (.iconst 3, 1) := by decide +kernel
theorem dX2_saved_25 : decode cX2_saved 25 = .ok (.if_icmp .ne 15, 3) := by decide +kernel
theorem dX2_saved_28 : decode cX2_saved 28 = .ok (.iload_n 1, 1) := by decide +kernel
theorem dX2_saved_29 : decode cX2_saved 29 = .ok (.aload_n 0, 1) := by decide +kernel
theorem dX2_saved_30 : decode cX2_saved 30 = .ok (.getfield 14, 3) := by decide +kernel
theorem dX2_saved_33 : decode cX2_saved 33 = .ok (.getfield 79, 3) := by decide +kernel
theorem dX2_saved_36 : decode cX2_saved 36 = .ok (.iload_n 2, 1) := by decide +kernel
theorem dX2_saved_37 : decode cX2_saved 37 = .ok (.iaload, 1) := by decide +kernel
theorem dX2_saved_38 : decode cX2_saved 38 = .ok (.iadd, 1) := by decide +kernel
theorem dX2_saved_39 : decode cX2_saved 39 = .ok (.istore_n 1, 1) := by decide +kernel
theorem dX2_saved_40 : decode cX2_saved 40 = .ok (.iinc 2 1, 3) := by decide +kernel
theorem dX2_saved_43 : decode cX2_saved 43 = .ok (.goto (-39), 3) := by decide +kernel
theorem dX2_saved_46 : decode cX2_saved 46 = .ok (.iload_n 1, 1) := by decide +kernel
theorem dX2_saved_47 : decode cX2_saved 47 = .ok (.ireturn, 1) := by decide +kernel
theorem dX2_bitsOf_0 : decode cX2_bitsOf 0 = .ok (.iconst 0, 1) := by decide +kernel
theorem dX2_bitsOf_1 : decode cX2_bitsOf 1 = .ok (.istore_n 2, 1) := by decide +kernel
theorem dX2_bitsOf_2 : decode cX2_bitsOf 2 = .ok (.iconst 0, 1) := by decide +kernel
theorem dX2_bitsOf_3 : decode cX2_bitsOf 3 = .ok (.istore_n 3, 1) := by decide +kernel
theorem dX2_bitsOf_4 : decode cX2_bitsOf 4 = .ok (.iload_n 3, 1) := by decide +kernel
theorem dX2_bitsOf_5 : decode cX2_bitsOf 5 = .ok (.aload_n 0, 1) := by decide +kernel
theorem dX2_bitsOf_6 : decode cX2_bitsOf 6 = .ok (.getfield 14, 3) := by decide +kernel
theorem dX2_bitsOf_9 : decode cX2_bitsOf 9 = .ok (.getfield 76, 3) := by decide +kernel
theorem dX2_bitsOf_12 : decode cX2_bitsOf 12 = .ok (.if_icmp .ge 28, 3) := by decide +kernel
theorem dX2_bitsOf_15 : decode cX2_bitsOf 15 = .ok (.aload_n 0, 1) := by decide +kernel
theorem dX2_bitsOf_16 : decode cX2_bitsOf 16 = .ok (.getfield 18, 3) := by decide +kernel
theorem dX2_bitsOf_19 : decode cX2_bitsOf 19 = .ok (.bipush 21, 2) := by decide +kernel
theorem dX2_bitsOf_21 : decode cX2_bitsOf 21 = .ok (.iload_n 3, 1) := by decide +kernel
theorem dX2_bitsOf_22 : decode cX2_bitsOf 22 = .ok (.iadd, 1) := by decide +kernel
theorem dX2_bitsOf_23 : decode cX2_bitsOf 23 = .ok (.iaload, 1) := by decide +kernel
theorem dX2_bitsOf_24 : decode cX2_bitsOf 24 = .ok (.iload_n 1, 1) := by decide +kernel
theorem dX2_bitsOf_25 : decode cX2_bitsOf 25 = .ok (.if_icmp .ne 9, 3) := by decide +kernel
theorem dX2_bitsOf_28 : decode cX2_bitsOf 28 = .ok (.iload_n 2, 1) := by decide +kernel
theorem dX2_bitsOf_29 : decode cX2_bitsOf 29 = .ok (.iconst 1, 1) := by decide +kernel
theorem dX2_bitsOf_30 : decode cX2_bitsOf 30 = .ok (.iload_n 3, 1) := by decide +kernel
theorem dX2_bitsOf_31 : decode cX2_bitsOf 31 = .ok (.ishl, 1) := by decide +kernel
theorem dX2_bitsOf_32 : decode cX2_bitsOf 32 = .ok (.ior, 1) := by decide +kernel
theorem dX2_bitsOf_33 : decode cX2_bitsOf 33 = .ok (.istore_n 2, 1) := by decide +kernel
theorem dX2_bitsOf_34 : decode cX2_bitsOf 34 = .ok (.iinc 3 1, 3) := by decide +kernel
theorem dX2_bitsOf_37 : decode cX2_bitsOf 37 = .ok (.goto (-33), 3) := by decide +kernel
theorem dX2_bitsOf_40 : decode cX2_bitsOf 40 = .ok (.iload_n 2, 1) := by decide +kernel
theorem dX2_bitsOf_41 : decode cX2_bitsOf 41 = .ok (.ireturn, 1) := by decide +kernel
theorem dX2_lessBySwap_0 : decode cX2_lessBySwap 0 = .ok (.aload_n 0, 1) := by decide +kernel
theorem dX2_lessBySwap_1 : decode cX2_lessBySwap 1 = .ok (.getfield 18, 3) := by decide +kernel
theorem dX2_lessBySwap_4 : decode cX2_lessBySwap 4 = .ok (.iconst 5, 1) := by decide +kernel
theorem dX2_lessBySwap_5 : decode cX2_lessBySwap 5 = .ok (.iload_n 1, 1) := by decide +kernel
theorem dX2_lessBySwap_6 : decode cX2_lessBySwap 6 = .ok (.iadd, 1) := by decide +kernel
theorem dX2_lessBySwap_7 : decode cX2_lessBySwap 7 = .ok (.iaload, 1) := by decide +kernel
theorem dX2_lessBySwap_8 : decode cX2_lessBySwap 8 = .ok (.istore_n 3, 1) := by decide +kernel
theorem dX2_lessBySwap_9 : decode cX2_lessBySwap 9 = .ok (.aload_n 0, 1) := by decide +kernel
theorem dX2_lessBySwap_10 : decode cX2_lessBySwap 10 = .ok (.getfield 18, 3) := by decide +kernel
theorem dX2_lessBySwap_13 : decode cX2_lessBySwap 13 = .ok (.iconst 5, 1) := by decide +kernel
theorem dX2_lessBySwap_14 : decode cX2_lessBySwap 14 = .ok (.iload_n 2, 1) := by decide +kernel
theorem dX2_lessBySwap_15 : decode cX2_lessBySwap 15 = .ok (.iadd, 1) := by decide +kernel
theorem dX2_lessBySwap_16 : decode cX2_lessBySwap 16 = .ok (.iaload, 1) := by decide +kernel
theorem dX2_lessBySwap_17 : decode cX2_lessBySwap 17 = .ok (.istore 4, 2) := by decide +kernel
theorem dX2_lessBySwap_19 : decode cX2_lessBySwap 19 = .ok (.aload_n 0, 1) := by decide +kernel
theorem dX2_lessBySwap_20 : decode cX2_lessBySwap 20 = .ok (.getfield 14, 3) := by decide +kernel
theorem dX2_lessBySwap_23 : decode cX2_lessBySwap 23 = .ok (.iload_n 3, 1) := by decide +kernel
theorem dX2_lessBySwap_24 : decode cX2_lessBySwap 24 = .ok (.invokevirtual 68, 3) := by decide +kernel
theorem dX2_lessBySwap_27 : decode cX2_lessBySwap 27 = .ok (.ifCond .eq 56, 3) := by decide +kernel
theorem dX2_lessBySwap_30 : decode cX2_lessBySwap 30 = .ok (.aload_n 0, 1) := by decide +kernel
theorem dX2_lessBySwap_31 : decode cX2_lessBySwap 31 = .ok (.getfield 14, 3) := by decide +kernel
theorem dX2_lessBySwap_34 : decode cX2_lessBySwap 34 = .ok (.iload 4, 2) := by decide +kernel
theorem dX2_lessBySwap_36 : decode cX2_lessBySwap 36 = .ok (.invokevirtual 68, 3) := by decide +kernel
theorem dX2_lessBySwap_39 : decode cX2_lessBySwap 39 = .ok (.ifCond .eq 44, 3) := by decide +kernel
theorem dX2_lessBySwap_42 : decode cX2_lessBySwap 42 = .ok (.aload_n 0, 1) := by decide +kernel
theorem dX2_lessBySwap_43 : decode cX2_lessBySwap 43 = .ok (.getfield 14, 3) := by decide +kernel
theorem dX2_lessBySwap_46 : decode cX2_lessBySwap 46 = .ok (.iload_n 1, 1) := by decide +kernel
theorem dX2_lessBySwap_47 : decode cX2_lessBySwap 47 = .ok (.aload_n 0, 1) := by decide +kernel
theorem dX2_lessBySwap_48 : decode cX2_lessBySwap 48 = .ok (.getfield 14, 3) := by decide +kernel
theorem dX2_lessBySwap_51 : decode cX2_lessBySwap 51 = .ok (.getfield 49, 3) := by decide +kernel
theorem dX2_lessBySwap_54 : decode cX2_lessBySwap 54 = .ok (.iload 4, 2) := by decide +kernel
theorem dX2_lessBySwap_56 : decode cX2_lessBySwap 56 = .ok (.iaload, 1) := by decide +kernel
theorem dX2_lessBySwap_57 : decode cX2_lessBySwap 57 = .ok (.invokevirtual 52, 3) := by decide +kernel
theorem dX2_lessBySwap_60 : decode cX2_lessBySwap 60 = .ok (.ifCond .eq 23, 3) := by decide +kernel
theorem dX2_lessBySwap_63 : decode cX2_lessBySwap 63 = .ok (.aload_n 0, 1) := by decide +kernel
theorem dX2_lessBySwap_64 : decode cX2_lessBySwap 64 = .ok (.getfield 14, 3) := by decide +kernel
theorem dX2_lessBySwap_67 : decode cX2_lessBySwap 67 = .ok (.iload_n 2, 1) := by decide +kernel
theorem dX2_lessBySwap_68 : decode cX2_lessBySwap 68 = .ok (.aload_n 0, 1) := by decide +kernel
theorem dX2_lessBySwap_69 : decode cX2_lessBySwap 69 = .ok (.getfield 14, 3) := by decide +kernel
theorem dX2_lessBySwap_72 : decode cX2_lessBySwap 72 = .ok (.getfield 49, 3) := by decide +kernel
theorem dX2_lessBySwap_75 : decode cX2_lessBySwap 75 = .ok (.iload_n 3, 1) := by decide +kernel
theorem dX2_lessBySwap_76 : decode cX2_lessBySwap 76 = .ok (.iaload, 1) := by decide +kernel
theorem dX2_lessBySwap_77 : decode cX2_lessBySwap 77 = .ok (.invokevirtual 52, 3) := by decide +kernel
theorem dX2_lessBySwap_80 : decode cX2_lessBySwap 80 = .ok (.ifCond .ne 5, 3) := by decide +kernel
theorem dX2_lessBySwap_83 : decode cX2_lessBySwap 83 = .ok (.iconst 0, 1) := by decide +kernel
theorem dX2_lessBySwap_84 : decode cX2_lessBySwap 84 = .ok (.ireturn, 1) := by decide +kernel
theorem dX2_lessBySwap_85 : decode cX2_lessBySwap 85 = .ok (.aload_n 0, 1) := by decide +kernel
theorem dX2_lessBySwap_86 : decode cX2_lessBySwap 86 = .ok (.getfield 18, 3) := by decide +kernel
theorem dX2_lessBySwap_89 : decode cX2_lessBySwap 89 = .ok (.bipush 9, 2) := by decide +kernel
theorem dX2_lessBySwap_91 : decode cX2_lessBySwap 91 = .ok (.iload_n 1, 1) := by decide +kernel
theorem dX2_lessBySwap_92 : decode cX2_lessBySwap 92 = .ok (.iadd, 1) := by decide +kernel
theorem dX2_lessBySwap_93 : decode cX2_lessBySwap 93 = .ok (.iaload, 1) := by decide +kernel
theorem dX2_lessBySwap_94 : decode cX2_lessBySwap 94 = .ok (.aload_n 0, 1) := by decide +kernel
theorem dX2_lessBySwap_95 : decode cX2_lessBySwap 95 = .ok (.getfield 18, 3) := by decide +kernel
theorem dX2_lessBySwap_98 : decode cX2_lessBySwap 98 = .ok (.bipush 9, 2) := by decide +kernel
theorem dX2_lessBySwap_100 : decode cX2_lessBySwap 100 = .ok (.iload_n 2, 1) := by decide +kernel
theorem dX2_lessBySwap_101 : decode cX2_lessBySwap 101 = .ok (.iadd, 1) := by decide +kernel
theorem dX2_lessBySwap_102 : decode cX2_lessBySwap 102 = .ok (.iaload, 1) := by decide +kernel
theorem dX2_lessBySwap_103 : decode cX2_lessBySwap 103 = .ok (.iadd, 1) := by decide +kernel
theorem dX2_lessBySwap_104 : decode cX2_lessBySwap 104 = .ok (.aload_n 0, 1) := by decide +kernel
theorem dX2_lessBySwap_105 : decode cX2_lessBySwap 105 = .ok (.iload_n 1, 1) := by decide +kernel
theorem dX2_lessBySwap_106 : decode cX2_lessBySwap 106 = .ok (.iload 4, 2) := by decide +kernel
theorem dX2_lessBySwap_108 : decode cX2_lessBySwap 108 = .ok (.invokevirtual 65, 3) := by decide +kernel
theorem dX2_lessBySwap_111 : decode cX2_lessBySwap 111 = .ok (.isub, 1) := by decide +kernel
theorem dX2_lessBySwap_112 : decode cX2_lessBySwap 112 = .ok (.aload_n 0, 1) := by decide +kernel
theorem dX2_lessBySwap_113 : decode cX2_lessBySwap 113 = .ok (.iload_n 2, 1) := by decide +kernel
theorem dX2_lessBySwap_114 : decode cX2_lessBySwap 114 = .ok (.iload_n 3, 1) := by decide +kernel
theorem dX2_lessBySwap_115 : decode cX2_lessBySwap 115 = .ok (.invokevirtual 65, 3) := by decide +kernel
theorem dX2_lessBySwap_118 : decode cX2_lessBySwap 118 = .ok (.isub, 1) := by decide +kernel
theorem dX2_lessBySwap_119 : decode cX2_lessBySwap 119 = .ok (.ireturn, 1) := by decide +kernel
theorem dX2_goOn_0 : decode cX2_goOn 0 = .ok (.aload_n 0, 1) := by decide +kernel
theorem dX2_goOn_1 : decode cX2_goOn 1 = .ok (.invokevirtual 82, 3) := by decide +kernel
theorem dX2_goOn_4 : decode cX2_goOn 4 = .ok (.istore_n 1, 1) := by decide +kernel
theorem dX2_goOn_5 : decode cX2_goOn 5 = .ok (.iconst 0, 1) := by decide +kernel
theorem dX2_goOn_6 : decode cX2_goOn 6 = .ok (.istore_n 2, 1) := by decide +kernel
theorem dX2_goOn_7 : decode cX2_goOn 7 = .ok (.iload_n 2, 1) := by decide +kernel
theorem dX2_goOn_8 : decode cX2_goOn 8 = .ok (.aload_n 0, 1) := by decide +kernel
theorem dX2_goOn_9 : decode cX2_goOn 9 = .ok (.getfield 14, 3) := by decide +kernel
theorem dX2_goOn_12 : decode cX2_goOn 12 = .ok (.getfield 72, 3) := by decide +kernel
theorem dX2_goOn_15 : decode cX2_goOn 15 = .ok (.if_icmp .ge 58, 3) := by decide +kernel
theorem dX2_goOn_18 : decode cX2_goOn 18 = .ok (.iload_n 1, 1) := by decide +kernel
theorem dX2_goOn_19 : decode cX2_goOn 19 = .ok (.ifCond .eq 54, 3) := by decide +kernel
theorem dX2_goOn_22 : decode cX2_goOn 22 = .ok (.aload_n 0, 1) := by decide +kernel
theorem dX2_goOn_23 : decode cX2_goOn 23 = .ok (.getfield 18, 3) := by decide +kernel
theorem dX2_goOn_26 : decode cX2_goOn 26 = .ok (.iconst 5, 1) := by decide +kernel
theorem dX2_goOn_27 : decode cX2_goOn 27 = .ok (.iload_n 2, 1) := by decide +kernel
theorem dX2_goOn_28 : decode cX2_goOn 28 = .ok (.iadd, 1) := by decide +kernel
theorem dX2_goOn_29 : decode cX2_goOn 29 = .ok (.iaload, 1) := by decide +kernel
theorem dX2_goOn_30 : decode cX2_goOn 30 = .ok (.iconst (-1), 1) := by decide +kernel
theorem dX2_goOn_31 : decode cX2_goOn 31 = .ok (.if_icmp .ne 36, 3) := by decide +kernel
theorem dX2_goOn_34 : decode cX2_goOn 34 = .ok (.aload_n 0, 1) := by decide +kernel
theorem dX2_goOn_35 : decode cX2_goOn 35 = .ok (.getfield 18, 3) := by decide +kernel
theorem dX2_goOn_38 : decode cX2_goOn 38 = .ok (.bipush 13, 2) := by decide +kernel
theorem dX2_goOn_40 : decode cX2_goOn 40 = .ok (.iload_n 2, 1) := by decide +kernel
theorem dX2_goOn_41 : decode cX2_goOn 41 = .ok (.iadd, 1) := by decide +kernel
theorem dX2_goOn_42 : decode cX2_goOn 42 = .ok (.iaload, 1) := by decide +kernel
theorem dX2_goOn_43 : decode cX2_goOn 43 = .ok (.ifCond .ne 24, 3) := by decide +kernel
theorem dX2_goOn_46 : decode cX2_goOn 46 = .ok (.aload_n 0, 1) := by decide +kernel
theorem dX2_goOn_47 : decode cX2_goOn 47 = .ok (.getfield 22, 3) := by decide +kernel
theorem dX2_goOn_50 : decode cX2_goOn 50 = .ok (.aload_n 0, 1) := by decide +kernel
theorem dX2_goOn_51 : decode cX2_goOn 51 = .ok (.iload_n 2, 1) := by decide +kernel
theorem dX2_goOn_52 : decode cX2_goOn 52 = .ok (.invokevirtual 86, 3) := by decide +kernel
theorem dX2_goOn_55 : decode cX2_goOn 55 = .ok (.istore_n 3, 1) := by decide +kernel
theorem dX2_goOn_56 : decode cX2_goOn 56 = .ok (.iload_n 3, 1) := by decide +kernel
theorem dX2_goOn_57 : decode cX2_goOn 57 = .ok (.iconst (-1), 1) := by decide +kernel
theorem dX2_goOn_58 : decode cX2_goOn 58 = .ok (.if_icmp .eq 9, 3) := by decide +kernel
theorem dX2_goOn_61 : decode cX2_goOn 61 = .ok (.aload_n 0, 1) := by decide +kernel
theorem dX2_goOn_62 : decode cX2_goOn 62 = .ok (.iload_n 2, 1) := by decide +kernel
theorem dX2_goOn_63 : decode cX2_goOn 63 = .ok (.iload_n 3, 1) := by decide +kernel
theorem dX2_goOn_64 : decode cX2_goOn 64 = .ok (.invokevirtual 92, 3) := by decide +kernel
theorem dX2_goOn_67 : decode cX2_goOn 67 = .ok (.iinc 2 1, 3) := by decide +kernel
theorem dX2_goOn_70 : decode cX2_goOn 70 = .ok (.goto (-63), 3) := by decide +kernel
theorem dX2_goOn_73 : decode cX2_goOn 73 = .ok (.aload_n 0, 1) := by decide +kernel
theorem dX2_goOn_74 : decode cX2_goOn 74 = .ok (.invokevirtual 96, 3) := by decide +kernel
theorem dX2_goOn_77 : decode cX2_goOn 77 = .ok (.istore_n 2, 1) := by decide +kernel
theorem dX2_goOn_78 : decode cX2_goOn 78 = .ok (.iconst 0, 1) := by decide +kernel
theorem dX2_goOn_79 : decode cX2_goOn 79 = .ok (.istore_n 3, 1) := by decide +kernel
theorem dX2_goOn_80 : decode cX2_goOn 80 = .ok (.iload_n 3, 1) := by decide +kernel
theorem dX2_goOn_81 : decode cX2_goOn 81 = .ok (.aload_n 0, 1) := by decide +kernel
theorem dX2_goOn_82 : decode cX2_goOn 82 = .ok (.getfield 14, 3) := by decide +kernel
theorem dX2_goOn_85 : decode cX2_goOn 85 = .ok (.getfield 72, 3) := by decide +kernel
theorem dX2_goOn_88 : decode cX2_goOn 88 = .ok (.if_icmp .ge 34, 3) := by decide +kernel
theorem dX2_goOn_91 : decode cX2_goOn 91 = .ok (.aload_n 0, 1) := by decide +kernel
theorem dX2_goOn_92 : decode cX2_goOn 92 = .ok (.getfield 18, 3) := by decide +kernel
theorem dX2_goOn_95 : decode cX2_goOn 95 = .ok (.bipush 13, 2) := by decide +kernel
theorem dX2_goOn_97 : decode cX2_goOn 97 = .ok (.iload_n 3, 1) := by decide +kernel
theorem dX2_goOn_98 : decode cX2_goOn 98 = .ok (.iadd, 1) := by decide +kernel
theorem dX2_goOn_99 : decode cX2_goOn 99 = .ok (.iaload, 1) := by decide +kernel
theorem dX2_goOn_100 : decode cX2_goOn 100 = .ok (.ifCond .le 16, 3) := by decide +kernel
theorem dX2_goOn_103 : decode cX2_goOn 103 = .ok (.aload_n 0, 1) := by decide +kernel
theorem dX2_goOn_104 : decode cX2_goOn 104 = .ok (.getfield 18, 3) := by decide +kernel
theorem dX2_goOn_107 : decode cX2_goOn 107 = .ok (.bipush 13, 2) := by decide +kernel
theorem dX2_goOn_109 : decode cX2_goOn 109 = .ok (.iload_n 3, 1) := by decide +kernel
theorem dX2_goOn_110 : decode cX2_goOn 110 = .ok (.iadd, 1) := by decide +kernel
theorem dX2_goOn_111 : decode cX2_goOn 111 = .ok (.dup2, 1) := by decide +kernel
theorem dX2_goOn_112 : decode cX2_goOn 112 = .ok (.iaload, 1) := by decide +kernel
theorem dX2_goOn_113 : decode cX2_goOn 113 = .ok (.iconst 1, 1) := by decide +kernel
theorem dX2_goOn_114 : decode cX2_goOn 114 = .ok (.isub, 1) := by decide +kernel
theorem dX2_goOn_115 : decode cX2_goOn 115 = .ok (.iastore, 1) := by decide +kernel
theorem dX2_goOn_116 : decode cX2_goOn 116 = .ok (.iinc 3 1, 3) := by decide +kernel
theorem dX2_goOn_119 : decode cX2_goOn 119 = .ok (.goto (-39), 3) := by decide +kernel
theorem dX2_goOn_122 : decode cX2_goOn 122 = .ok (.aload_n 0, 1) := by decide +kernel
theorem dX2_goOn_123 : decode cX2_goOn 123 = .ok (.getfield 18, 3) := by decide +kernel
theorem dX2_goOn_126 : decode cX2_goOn 126 = .ok (.iconst 0, 1) := by decide +kernel
theorem dX2_goOn_127 : decode cX2_goOn 127 = .ok (.dup2, 1) := by decide +kernel
theorem dX2_goOn_128 : decode cX2_goOn 128 = .ok (.iaload, 1) := by decide +kernel
theorem dX2_goOn_129 : decode cX2_goOn 129 = .ok (.iconst 1, 1) := by decide +kernel
theorem dX2_goOn_130 : decode cX2_goOn 130 = .ok (.iadd, 1) := by decide +kernel
theorem dX2_goOn_131 : decode cX2_goOn 131 = .ok (.iastore, 1) := by decide +kernel
theorem dX2_goOn_132 : decode cX2_goOn 132 = .ok (.iload_n 2, 1) := by decide +kernel
theorem dX2_goOn_133 : decode cX2_goOn 133 = .ok (.ireturn, 1) := by decide +kernel
theorem dX2_comeAndGo_0 : decode cX2_comeAndGo 0 = .ok (.aload_n 0, 1) := by decide +kernel
theorem dX2_comeAndGo_1 : decode cX2_comeAndGo 1 = .ok (.getfield 18, 3) := by decide +kernel
theorem dX2_comeAndGo_4 : decode cX2_comeAndGo 4 = .ok (.iconst 0, 1) := by decide +kernel
theorem dX2_comeAndGo_5 : decode cX2_comeAndGo 5 = .ok (.iaload, 1) := by decide +kernel
theorem dX2_comeAndGo_6 : decode cX2_comeAndGo 6 = .ok (.istore_n 1, 1) := by decide +kernel
theorem dX2_comeAndGo_7 : decode cX2_comeAndGo 7 = .ok (.iconst 0, 1) := by decide +kernel
theorem dX2_comeAndGo_8 : decode cX2_comeAndGo 8 = .ok (.istore_n 2, 1) := by decide +kernel
theorem dX2_comeAndGo_9 : decode cX2_comeAndGo 9 = .ok (.iconst 0, 1) := by decide +kernel
theorem dX2_comeAndGo_10 : decode cX2_comeAndGo 10 = .ok (.istore_n 3, 1) := by decide +kernel
theorem dX2_comeAndGo_11 : decode cX2_comeAndGo 11 = .ok (.iload_n 3, 1) := by decide +kernel
theorem dX2_comeAndGo_12 : decode cX2_comeAndGo 12 = .ok (.aload_n 0, 1) := by decide +kernel
theorem dX2_comeAndGo_13 : decode cX2_comeAndGo 13 = .ok (.getfield 14, 3) := by decide +kernel
theorem dX2_comeAndGo_16 : decode cX2_comeAndGo 16 = .ok (.getfield 76, 3) := by decide +kernel
theorem dX2_comeAndGo_19 : decode cX2_comeAndGo 19 = .ok (.if_icmp .ge 130, 3) := by decide +kernel
theorem dX2_comeAndGo_22 : decode cX2_comeAndGo 22 = .ok (.aload_n 0, 1) := by decide +kernel
theorem dX2_comeAndGo_23 : decode cX2_comeAndGo 23 = .ok (.getfield 18, 3) := by decide +kernel
theorem dX2_comeAndGo_26 : decode cX2_comeAndGo 26 = .ok (.bipush 21, 2) := by decide +kernel
theorem dX2_comeAndGo_28 : decode cX2_comeAndGo 28 = .ok (.iload_n 3, 1) := by decide +kernel
theorem dX2_comeAndGo_29 : decode cX2_comeAndGo 29 = .ok (.iadd, 1) := by decide +kernel
theorem dX2_comeAndGo_30 : decode cX2_comeAndGo 30 = .ok (.iaload, 1) := by decide +kernel
theorem dX2_comeAndGo_31 : decode cX2_comeAndGo 31 = .ok (.ifCond .ne 26, 3) := by decide +kernel
theorem dX2_comeAndGo_34 : decode cX2_comeAndGo 34 = .ok (.aload_n 0, 1) := by decide +kernel
theorem dX2_comeAndGo_35 : decode cX2_comeAndGo 35 = .ok (.getfield 14, 3) := by decide +kernel
theorem dX2_comeAndGo_38 : decode cX2_comeAndGo 38 = .ok (.getfield 100, 3) := by decide +kernel
theorem dX2_comeAndGo_41 : decode cX2_comeAndGo 41 = .ok (.iload_n 3, 1) := by decide +kernel
theorem dX2_comeAndGo_42 : decode cX2_comeAndGo 42 = .ok (.iaload, 1) := by decide +kernel
theorem dX2_comeAndGo_43 : decode cX2_comeAndGo 43 = .ok (.iload_n 1, 1) := by decide +kernel
theorem dX2_comeAndGo_44 : decode cX2_comeAndGo 44 = .ok (.if_icmp .ne 13, 3) := by decide +kernel
theorem dX2_comeAndGo_47 : decode cX2_comeAndGo 47 = .ok (.aload_n 0, 1) := by decide +kernel
theorem dX2_comeAndGo_48 : decode cX2_comeAndGo 48 = .ok (.getfield 18, 3) := by decide +kernel
theorem dX2_comeAndGo_51 : decode cX2_comeAndGo 51 = .ok (.bipush 21, 2) := by decide +kernel
theorem dX2_comeAndGo_53 : decode cX2_comeAndGo 53 = .ok (.iload_n 3, 1) := by decide +kernel
theorem dX2_comeAndGo_54 : decode cX2_comeAndGo 54 = .ok (.iadd, 1) := by decide +kernel
theorem dX2_comeAndGo_55 : decode cX2_comeAndGo 55 = .ok (.iconst 1, 1) := by decide +kernel
theorem dX2_comeAndGo_56 : decode cX2_comeAndGo 56 = .ok (.iastore, 1) := by decide +kernel
theorem dX2_comeAndGo_57 : decode cX2_comeAndGo 57 = .ok (.aload_n 0, 1) := by decide +kernel
theorem dX2_comeAndGo_58 : decode cX2_comeAndGo 58 = .ok (.getfield 18, 3) := by decide +kernel
theorem dX2_comeAndGo_61 : decode cX2_comeAndGo 61 = .ok (.bipush 21, 2) := by decide +kernel
theorem dX2_comeAndGo_63 : decode cX2_comeAndGo 63 = .ok (.iload_n 3, 1) := by decide +kernel
theorem dX2_comeAndGo_64 : decode cX2_comeAndGo 64 = .ok (.iadd, 1) := by decide +kernel
theorem dX2_comeAndGo_65 : decode cX2_comeAndGo 65 = .ok (.iaload, 1) := by decide +kernel
theorem dX2_comeAndGo_66 : decode cX2_comeAndGo 66 = .ok (.iconst 1, 1) := by decide +kernel
theorem dX2_comeAndGo_67 : decode cX2_comeAndGo 67 = .ok (.if_icmp .ne 76, 3) := by decide +kernel
theorem dX2_comeAndGo_70 : decode cX2_comeAndGo 70 = .ok (.iload_n 1, 1) := by decide +kernel
theorem dX2_comeAndGo_71 : decode cX2_comeAndGo 71 = .ok (.aload_n 0, 1) := by decide +kernel
theorem dX2_comeAndGo_72 : decode cX2_comeAndGo 72 = .ok (.getfield 14, 3) := by decide +kernel
theorem dX2_comeAndGo_75 : decode cX2_comeAndGo 75 = .ok (.getfield 100, 3) := by decide +kernel
theorem dX2_comeAndGo_78 : decode cX2_comeAndGo 78 = .ok (.iload_n 3, 1) := by decide +kernel
theorem dX2_comeAndGo_79 : decode cX2_comeAndGo 79 = .ok (.iaload, 1) := by decide +kernel
theorem dX2_comeAndGo_80 : decode cX2_comeAndGo 80 = .ok (.isub, 1) := by decide +kernel
theorem dX2_comeAndGo_81 : decode cX2_comeAndGo 81 = .ok (.aload_n 0, 1) := by decide +kernel
theorem dX2_comeAndGo_82 : decode cX2_comeAndGo 82 = .ok (.getfield 14, 3) := by decide +kernel
theorem dX2_comeAndGo_85 : decode cX2_comeAndGo 85 = .ok (.getfield 103, 3) := by decide +kernel
theorem dX2_comeAndGo_88 : decode cX2_comeAndGo 88 = .ok (.if_icmp .ge 14, 3) := by decide +kernel
theorem dX2_comeAndGo_91 : decode cX2_comeAndGo 91 = .ok (.iload_n 1, 1) := by decide +kernel
theorem dX2_comeAndGo_92 : decode cX2_comeAndGo 92 = .ok (.aload_n 0, 1) := by decide +kernel
theorem dX2_comeAndGo_93 : decode cX2_comeAndGo 93 = .ok (.getfield 14, 3) := by decide +kernel
theorem dX2_comeAndGo_96 : decode cX2_comeAndGo 96 = .ok (.getfield 106, 3) := by decide +kernel
theorem dX2_comeAndGo_99 : decode cX2_comeAndGo 99 = .ok (.if_icmp .lt 7, 3) := by decide +kernel
theorem dX2_comeAndGo_102 : decode cX2_comeAndGo 102 = .ok (.iconst 1, 1) := by decide +kernel
theorem dX2_comeAndGo_103 : decode cX2_comeAndGo 103 = .ok (.goto 4, 3) := by decide +kernel
theorem dX2_comeAndGo_106 : decode cX2_comeAndGo 106 = .ok (.iconst 0, 1) := by decide +kernel
theorem dX2_comeAndGo_107 : decode cX2_comeAndGo 107 = .ok (.istore 4, 2) := by decide +kernel
theorem dX2_comeAndGo_109 : decode cX2_comeAndGo 109 = .ok (.aload_n 0, 1) := by decide +kernel
theorem dX2_comeAndGo_110 : decode cX2_comeAndGo 110 = .ok (.getfield 18, 3) := by decide +kernel
theorem dX2_comeAndGo_113 : decode cX2_comeAndGo 113 = .ok (.bipush 21, 2) := by decide +kernel
theorem dX2_comeAndGo_115 : decode cX2_comeAndGo 115 = .ok (.iload_n 3, 1) := by decide +kernel
theorem dX2_comeAndGo_116 : decode cX2_comeAndGo 116 = .ok (.iadd, 1) := by decide +kernel
theorem dX2_comeAndGo_117 : decode cX2_comeAndGo 117 = .ok (.iload 4, 2) := by decide +kernel
theorem dX2_comeAndGo_119 : decode cX2_comeAndGo 119 = .ok (.ifCond .eq 7, 3) := by decide +kernel
theorem dX2_comeAndGo_122 : decode cX2_comeAndGo 122 = .ok (.iconst 4, 1) := by decide +kernel
theorem dX2_comeAndGo_123 : decode cX2_comeAndGo 123 = .ok (.goto 4, 3) := by decide +kernel
theorem dX2_comeAndGo_126 : decode cX2_comeAndGo 126 = .ok (.iconst 1, 1) := by decide +kernel
theorem dX2_comeAndGo_127 : decode cX2_comeAndGo 127 = .ok (.iastore, 1) := by decide +kernel
theorem dX2_comeAndGo_128 : decode cX2_comeAndGo 128 = .ok (.iload_n 2, 1) := by decide +kernel
theorem dX2_comeAndGo_129 : decode cX2_comeAndGo 129 = .ok (.ifCond .ne 8, 3) := by decide +kernel
theorem dX2_comeAndGo_132 : decode cX2_comeAndGo 132 = .ok (.iload 4, 2) := by decide +kernel
theorem dX2_comeAndGo_134 : decode cX2_comeAndGo 134 = .ok (.ifCond .ne 7, 3) := by decide +kernel
theorem dX2_comeAndGo_137 : decode cX2_comeAndGo 137 = .ok (.iconst 1, 1) := by decide +kernel
theorem dX2_comeAndGo_138 : decode cX2_comeAndGo 138 = .ok (.goto 4, 3) := by decide +kernel
theorem dX2_comeAndGo_141 : decode cX2_comeAndGo 141 = .ok (.iconst 0, 1) := by decide +kernel
theorem dX2_comeAndGo_142 : decode cX2_comeAndGo 142 = .ok (.istore_n 2, 1) := by decide +kernel
theorem dX2_comeAndGo_143 : decode cX2_comeAndGo 143 = .ok (.iinc 3 1, 3) := by decide +kernel
theorem dX2_comeAndGo_146 : decode cX2_comeAndGo 146 = .ok (.goto (-135), 3) := by decide +kernel
theorem dX2_comeAndGo_149 : decode cX2_comeAndGo 149 = .ok (.iload_n 2, 1) := by decide +kernel
theorem dX2_comeAndGo_150 : decode cX2_comeAndGo 150 = .ok (.ireturn, 1) := by decide +kernel
theorem dX2_work_0 : decode cX2_work 0 = .ok (.iconst 0, 1) := by decide +kernel
theorem dX2_work_1 : decode cX2_work 1 = .ok (.istore_n 1, 1) := by decide +kernel
theorem dX2_work_2 : decode cX2_work 2 = .ok (.iconst 0, 1) := by decide +kernel
theorem dX2_work_3 : decode cX2_work 3 = .ok (.istore_n 2, 1) := by decide +kernel
theorem dX2_work_4 : decode cX2_work 4 = .ok (.iload_n 2, 1) := by decide +kernel
theorem dX2_work_5 : decode cX2_work 5 = .ok (.aload_n 0, 1) := by decide +kernel
theorem dX2_work_6 : decode cX2_work 6 = .ok (.getfield 14, 3) := by decide +kernel
theorem dX2_work_9 : decode cX2_work 9 = .ok (.getfield 72, 3) := by decide +kernel
theorem dX2_work_12 : decode cX2_work 12 = .ok (.if_icmp .ge 126, 3) := by decide +kernel
theorem dX2_work_15 : decode cX2_work 15 = .ok (.aload_n 0, 1) := by decide +kernel
theorem dX2_work_16 : decode cX2_work 16 = .ok (.getfield 18, 3) := by decide +kernel
theorem dX2_work_19 : decode cX2_work 19 = .ok (.iconst 5, 1) := by decide +kernel
theorem dX2_work_20 : decode cX2_work 20 = .ok (.iload_n 2, 1) := by decide +kernel
theorem dX2_work_21 : decode cX2_work 21 = .ok (.iadd, 1) := by decide +kernel
theorem dX2_work_22 : decode cX2_work 22 = .ok (.iaload, 1) := by decide +kernel
theorem dX2_work_23 : decode cX2_work 23 = .ok (.istore_n 3, 1) := by decide +kernel
theorem dX2_work_24 : decode cX2_work 24 = .ok (.aload_n 0, 1) := by decide +kernel
theorem dX2_work_25 : decode cX2_work 25 = .ok (.getfield 14, 3) := by decide +kernel
theorem dX2_work_28 : decode cX2_work 28 = .ok (.iload_n 3, 1) := by decide +kernel
theorem dX2_work_29 : decode cX2_work 29 = .ok (.invokevirtual 68, 3) := by decide +kernel
theorem dX2_work_32 : decode cX2_work 32 = .ok (.ifCond .ne 35, 3) := by decide +kernel
theorem dX2_work_35 : decode cX2_work 35 = .ok (.aload_n 0, 1) := by decide +kernel
theorem dX2_work_36 : decode cX2_work 36 = .ok (.getfield 18, 3) := by decide +kernel
theorem dX2_work_39 : decode cX2_work 39 = .ok (.iconst 0, 1) := by decide +kernel
theorem dX2_work_40 : decode cX2_work 40 = .ok (.iaload, 1) := by decide +kernel
theorem dX2_work_41 : decode cX2_work 41 = .ok (.aload_n 0, 1) := by decide +kernel
theorem dX2_work_42 : decode cX2_work 42 = .ok (.getfield 14, 3) := by decide +kernel
theorem dX2_work_45 : decode cX2_work 45 = .ok (.getfield 106, 3) := by decide +kernel
theorem dX2_work_48 : decode cX2_work 48 = .ok (.if_icmp .ge 84, 3) := by decide +kernel
theorem dX2_work_51 : decode cX2_work 51 = .ok (.aload_n 0, 1) := by decide +kernel
theorem dX2_work_52 : decode cX2_work 52 = .ok (.getfield 18, 3) := by decide +kernel
theorem dX2_work_55 : decode cX2_work 55 = .ok (.bipush 17, 2) := by decide +kernel
theorem dX2_work_57 : decode cX2_work 57 = .ok (.iload_n 2, 1) := by decide +kernel
theorem dX2_work_58 : decode cX2_work 58 = .ok (.iadd, 1) := by decide +kernel
theorem dX2_work_59 : decode cX2_work 59 = .ok (.dup2, 1) := by decide +kernel
theorem dX2_work_60 : decode cX2_work 60 = .ok (.iaload, 1) := by decide +kernel
theorem dX2_work_61 : decode cX2_work 61 = .ok (.iconst 1, 1) := by decide +kernel
theorem dX2_work_62 : decode cX2_work 62 = .ok (.iadd, 1) := by decide +kernel
theorem dX2_work_63 : decode cX2_work 63 = .ok (.iastore, 1) := by decide +kernel
theorem dX2_work_64 : decode cX2_work 64 = .ok (.goto 68, 3) := by decide +kernel
theorem dX2_work_67 : decode cX2_work 67 = .ok (.aload_n 0, 1) := by decide +kernel
theorem dX2_work_68 : decode cX2_work 68 = .ok (.getfield 18, 3) := by decide +kernel
theorem dX2_work_71 : decode cX2_work 71 = .ok (.bipush 9, 2) := by decide +kernel
theorem dX2_work_73 : decode cX2_work 73 = .ok (.iload_n 2, 1) := by decide +kernel
theorem dX2_work_74 : decode cX2_work 74 = .ok (.iadd, 1) := by decide +kernel
theorem dX2_work_75 : decode cX2_work 75 = .ok (.dup2, 1) := by decide +kernel
theorem dX2_work_76 : decode cX2_work 76 = .ok (.iaload, 1) := by decide +kernel
theorem dX2_work_77 : decode cX2_work 77 = .ok (.iconst 1, 1) := by decide +kernel
theorem dX2_work_78 : decode cX2_work 78 = .ok (.isub, 1) := by decide +kernel
theorem dX2_work_79 : decode cX2_work 79 = .ok (.iastore, 1) := by decide +kernel
theorem dX2_work_80 : decode cX2_work 80 = .ok (.aload_n 0, 1) := by decide +kernel
theorem dX2_work_81 : decode cX2_work 81 = .ok (.getfield 18, 3) := by decide +kernel
theorem dX2_work_84 : decode cX2_work 84 = .ok (.bipush 9, 2) := by decide +kernel
theorem dX2_work_86 : decode cX2_work 86 = .ok (.iload_n 2, 1) := by decide +kernel
theorem dX2_work_87 : decode cX2_work 87 = .ok (.iadd, 1) := by decide +kernel
theorem dX2_work_88 : decode cX2_work 88 = .ok (.iaload, 1) := by decide +kernel
theorem dX2_work_89 : decode cX2_work 89 = .ok (.ifCond .gt 43, 3) := by decide +kernel
theorem dX2_work_92 : decode cX2_work 92 = .ok (.aload_n 0, 1) := by decide +kernel
theorem dX2_work_93 : decode cX2_work 93 = .ok (.getfield 18, 3) := by decide +kernel
theorem dX2_work_96 : decode cX2_work 96 = .ok (.bipush 21, 2) := by decide +kernel
theorem dX2_work_98 : decode cX2_work 98 = .ok (.iload_n 3, 1) := by decide +kernel
theorem dX2_work_99 : decode cX2_work 99 = .ok (.iadd, 1) := by decide +kernel
theorem dX2_work_100 : decode cX2_work 100 = .ok (.iconst 3, 1) := by decide +kernel
theorem dX2_work_101 : decode cX2_work 101 = .ok (.iastore, 1) := by decide +kernel
theorem dX2_work_102 : decode cX2_work 102 = .ok (.aload_n 0, 1) := by decide +kernel
theorem dX2_work_103 : decode cX2_work 103 = .ok (.getfield 18, 3) := by decide +kernel
theorem dX2_work_106 : decode cX2_work 106 = .ok (.bipush 28, 2) := by decide +kernel
theorem dX2_work_108 : decode cX2_work 108 = .ok (.iload_n 3, 1) := by decide +kernel
theorem dX2_work_109 : decode cX2_work 109 = .ok (.iadd, 1) := by decide +kernel
theorem dX2_work_110 : decode cX2_work 110 = .ok (.aload_n 0, 1) := by decide +kernel
theorem dX2_work_111 : decode cX2_work 111 = .ok (.getfield 18, 3) := by decide +kernel
theorem dX2_work_114 : decode cX2_work 114 = .ok (.iconst 0, 1) := by decide +kernel
theorem dX2_work_115 : decode cX2_work 115 = .ok (.iaload, 1) := by decide +kernel
theorem dX2_work_116 : decode cX2_work 116 = .ok (.iastore, 1) := by decide +kernel
theorem dX2_work_117 : decode cX2_work 117 = .ok (.aload_n 0, 1) := by decide +kernel
theorem dX2_work_118 : decode cX2_work 118 = .ok (.getfield 18, 3) := by decide +kernel
theorem dX2_work_121 : decode cX2_work 121 = .ok (.iconst 5, 1) := by decide +kernel
theorem dX2_work_122 : decode cX2_work 122 = .ok (.iload_n 2, 1) := by decide +kernel
theorem dX2_work_123 : decode cX2_work 123 = .ok (.iadd, 1) := by decide +kernel
theorem dX2_work_124 : decode cX2_work 124 = .ok (.iconst (-1), 1) := by decide +kernel
theorem dX2_work_125 : decode cX2_work 125 = .ok (.iastore, 1) := by decide +kernel
theorem dX2_work_126 : decode cX2_work 126 = .ok (.iload_n 1, 1) := by decide +kernel
theorem dX2_work_127 : decode cX2_work 127 = .ok (.iconst 1, 1) := by decide +kernel
theorem dX2_work_128 : decode cX2_work 128 = .ok (.iload_n 3, 1) := by decide +kernel
theorem dX2_work_129 : decode cX2_work 129 = .ok (.ishl, 1) := by decide +kernel
theorem dX2_work_130 : decode cX2_work 130 = .ok (.ior, 1) := by decide +kernel
theorem dX2_work_131 : decode cX2_work 131 = .ok (.istore_n 1, 1) := by decide +kernel
theorem dX2_work_132 : decode cX2_work 132 = .ok (.iinc 2 1, 3) := by decide +kernel
theorem dX2_work_135 : decode cX2_work 135 = .ok (.goto (-131), 3) := by decide +kernel
theorem dX2_work_138 : decode cX2_work 138 = .ok (.iload_n 1, 1) := by decide +kernel
theorem dX2_work_139 : decode cX2_work 139 = .ok (.ireturn, 1) := by decide +kernel
theorem dX2_goFar_0 : decode cX2_goFar 0 = .ok (.iconst 0, 1) := by decide +kernel
theorem dX2_goFar_1 : decode cX2_goFar 1 = .ok (.istore_n 2, 1) := by decide +kernel
theorem dX2_goFar_2 : decode cX2_goFar 2 = .ok (.iload_n 2, 1) := by decide +kernel
theorem dX2_goFar_3 : decode cX2_goFar 3 = .ok (.iload_n 1, 1) := by decide +kernel
theorem dX2_goFar_4 : decode cX2_goFar 4 = .ok (.if_icmp .ge 21, 3) := by decide +kernel
theorem dX2_goFar_7 : decode cX2_goFar 7 = .ok (.aload_n 0, 1) := by decide +kernel
theorem dX2_goFar_8 : decode cX2_goFar 8 = .ok (.invokevirtual 109, 3) := by decide +kernel
theorem dX2_goFar_11 : decode cX2_goFar 11 = .ok (.ifCond .ne 14, 3) := by decide +kernel
theorem dX2_goFar_14 : decode cX2_goFar 14 = .ok (.aload_n 0, 1) := by decide +kernel
theorem dX2_goFar_15 : decode cX2_goFar 15 = .ok (.invokevirtual 112, 3) := by decide +kernel
theorem dX2_goFar_18 : decode cX2_goFar 18 = .ok (.pop, 1) := by decide +kernel
theorem dX2_goFar_19 : decode cX2_goFar 19 = .ok (.iinc 2 1, 3) := by decide +kernel
theorem dX2_goFar_22 : decode cX2_goFar 22 = .ok (.goto (-20), 3) := by decide +kernel
theorem dX2_goFar_25 : decode cX2_goFar 25 = .ok (.return_, 1) := by decide +kernel
theorem dX2_isOver_0 : decode cX2_isOver 0 = .ok (.iconst 0, 1) := by decide +kernel
theorem dX2_isOver_1 : decode cX2_isOver 1 = .ok (.istore_n 1, 1) := by decide +kernel
theorem dX2_isOver_2 : decode cX2_isOver 2 = .ok (.iload_n 1, 1) := by decide +kernel
theorem dX2_isOver_3 : decode cX2_isOver 3 = .ok (.aload_n 0, 1) := by decide +kernel
theorem dX2_isOver_4 : decode cX2_isOver 4 = .ok (.getfield 14, 3) := by decide +kernel
theorem dX2_isOver_7 : decode cX2_isOver 7 = .ok (.getfield 76, 3) := by decide +kernel
theorem dX2_isOver_10 : decode cX2_isOver 10 = .ok (.if_icmp .ge 24, 3) := by decide +kernel
theorem dX2_isOver_13 : decode cX2_isOver 13 = .ok (.aload_n 0, 1) := by decide +kernel
theorem dX2_isOver_14 : decode cX2_isOver 14 = .ok (.getfield 18, 3) := by decide +kernel
theorem dX2_isOver_17 : decode cX2_isOver 17 = .ok (.bipush 21, 2) := by decide +kernel
theorem dX2_isOver_19 : decode cX2_isOver 19 = .ok (.iload_n 1, 1) := by decide +kernel
theorem dX2_isOver_20 : decode cX2_isOver 20 = .ok (.iadd, 1) := by decide +kernel
theorem dX2_isOver_21 : decode cX2_isOver 21 = .ok (.iaload, 1) := by decide +kernel
theorem dX2_isOver_22 : decode cX2_isOver 22 = .ok (.iconst 3, 1) := by decide +kernel
theorem dX2_isOver_23 : decode cX2_isOver 23 = .ok (.if_icmp .ge 5, 3) := by decide +kernel
theorem dX2_isOver_26 : decode cX2_isOver 26 = .ok (.iconst 0, 1) := by decide +kernel
theorem dX2_isOver_27 : decode cX2_isOver 27 = .ok (.ireturn, 1) := by decide +kernel
theorem dX2_isOver_28 : decode cX2_isOver 28 = .ok (.iinc 1 1, 3) := by decide +kernel
theorem dX2_isOver_31 : decode cX2_isOver 31 = .ok (.goto (-29), 3) := by decide +kernel
theorem dX2_isOver_34 : decode cX2_isOver 34 = .ok (.iconst 1, 1) := by decide +kernel
theorem dX2_isOver_35 : decode cX2_isOver 35 = .ok (.ireturn, 1) := by decide +kernel
theorem dX3_init_0 : decode cX3_init 0 = .ok (.aload_n 0, 1) := by decide +kernel
theorem dX3_init_1 : decode cX3_init 1 = .ok (.invokespecial 3, 3) := by decide +kernel
theorem dX3_init_4 : decode cX3_init 4 = .ok (.aload_n 0, 1) := by decide +kernel
theorem dX3_init_5 : decode cX3_init 5 = .ok (.iconst 4, 1) := by decide +kernel
theorem dX3_init_6 : decode cX3_init 6 = .ok (.newarray .int, 2) := by decide +kernel
theorem dX3_init_8 : decode cX3_init 8 = .ok (.putfield 9, 3) := by decide +kernel
theorem dX3_init_11 : decode cX3_init 11 = .ok (.aload_n 0, 1) := by decide +kernel
theorem dX3_init_12 : decode cX3_init 12 = .ok (.iconst 4, 1) := by decide +kernel
theorem dX3_init_13 : decode cX3_init 13 = .ok (.newarray .int, 2) := by decide +kernel
theorem dX3_init_15 : decode cX3_init 15 = .ok (.putfield 15, 3) := by decide +kernel
theorem dX3_init_18 : decode cX3_init 18 = .ok (.aload_n 0, 1) := by decide +kernel
theorem dX3_init_19 : decode cX3_init 19 = .ok (.bipush 16, 2) := by decide +kernel
theorem dX3_init_21 : decode cX3_init 21 = .ok (.newarray .int, 2) := by decide +kernel
theorem dX3_init_23 : decode cX3_init 23 = .ok (.putfield 18, 3) := by decide +kernel
theorem dX3_init_26 : decode cX3_init 26 = .ok (.aload_n 0, 1) := by decide +kernel
theorem dX3_init_27 : decode cX3_init 27 = .ok (.bipush 7, 2) := by decide +kernel
theorem dX3_init_29 : decode cX3_init 29 = .ok (.newarray .int, 2) := by decide +kernel
theorem dX3_init_31 : decode cX3_init 31 = .ok (.putfield 21, 3) := by decide +kernel
theorem dX3_init_34 : decode cX3_init 34 = .ok (.aload_n 0, 1) := by decide +kernel
theorem dX3_init_35 : decode cX3_init 35 = .ok (.bipush 7, 2) := by decide +kernel
theorem dX3_init_37 : decode cX3_init 37 = .ok (.newarray .int, 2) := by decide +kernel
theorem dX3_init_39 : decode cX3_init 39 = .ok (.putfield 24, 3) := by decide +kernel
theorem dX3_init_42 : decode cX3_init 42 = .ok (.aload_n 0, 1) := by decide +kernel
theorem dX3_init_43 : decode cX3_init 43 = .ok (.bipush 7, 2) := by decide +kernel
theorem dX3_init_45 : decode cX3_init 45 = .ok (.newarray .int, 2) := by decide +kernel
theorem dX3_init_47 : decode cX3_init 47 = .ok (.putfield 27, 3) := by decide +kernel
theorem dX3_init_50 : decode cX3_init 50 = .ok (.aload_n 0, 1) := by decide +kernel
theorem dX3_init_51 : decode cX3_init 51 = .ok (.bipush 7, 2) := by decide +kernel
theorem dX3_init_53 : decode cX3_init 53 = .ok (.newarray .int, 2) := by decide +kernel
theorem dX3_init_55 : decode cX3_init 55 = .ok (.putfield 30, 3) := by decide +kernel
theorem dX3_init_58 : decode cX3_init 58 = .ok (.return_, 1) := by decide +kernel
theorem dX3_clear_0 : decode cX3_clear 0 = .ok (.aload_n 0, 1) := by decide +kernel
theorem dX3_clear_1 : decode cX3_clear 1 = .ok (.iconst 0, 1) := by decide +kernel
theorem dX3_clear_2 : decode cX3_clear 2 = .ok (.putfield 33, 3) := by decide +kernel
theorem dX3_clear_5 : decode cX3_clear 5 = .ok (.aload_n 0, 1) := by decide +kernel
theorem dX3_clear_6 : decode cX3_clear 6 = .ok (.iconst 0, 1) := by decide +kernel
theorem dX3_clear_7 : decode cX3_clear 7 = .ok (.putfield 37, 3) := by decide +kernel
theorem dX3_clear_10 : decode cX3_clear 10 = .ok (.aload_n 0, 1) := by decide +kernel
theorem dX3_clear_11 : decode cX3_clear 11 = .ok (.iconst 0, 1) := by decide +kernel
theorem dX3_clear_12 : decode cX3_clear 12 = .ok (.putfield 40, 3) := by decide +kernel
theorem dX3_clear_15 : decode cX3_clear 15 = .ok (.aload_n 0, 1) := by decide +kernel
theorem dX3_clear_16 : decode cX3_clear 16 = .ok (.getfield 18, 3) := by decide +kernel
theorem dX3_clear_19 : decode cX3_clear 19 = .ok (.iconst 0, 1) := by decide +kernel
theorem dX3_clear_20 : decode cX3_clear 20 = .ok (.invokestatic 43, 3) := by decide +kernel
theorem dX3_clear_23 : decode cX3_clear 23 = .ok (.return_, 1) := by decide +kernel
theorem dX3_copy_0 : decode cX3_copy 0 = .ok (.aload_n 0, 1) := by decide +kernel
theorem dX3_copy_1 : decode cX3_copy 1 = .ok (.aload_n 1, 1) := by decide +kernel
theorem dX3_copy_2 : decode cX3_copy 2 = .ok (.getfield 49, 3) := by decide +kernel
theorem dX3_copy_5 : decode cX3_copy 5 = .ok (.putfield 49, 3) := by decide +kernel
theorem dX3_copy_8 : decode cX3_copy 8 = .ok (.aload_n 0, 1) := by decide +kernel
theorem dX3_copy_9 : decode cX3_copy 9 = .ok (.aload_n 1, 1) := by decide +kernel
theorem dX3_copy_10 : decode cX3_copy 10 = .ok (.getfield 52, 3) := by decide +kernel
theorem dX3_copy_13 : decode cX3_copy 13 = .ok (.putfield 52, 3) := by decide +kernel
theorem dX3_copy_16 : decode cX3_copy 16 = .ok (.aload_n 0, 1) := by decide +kernel
theorem dX3_copy_17 : decode cX3_copy 17 = .ok (.aload_n 1, 1) := by decide +kernel
theorem dX3_copy_18 : decode cX3_copy 18 = .ok (.getfield 33, 3) := by decide +kernel
theorem dX3_copy_21 : decode cX3_copy 21 = .ok (.putfield 33, 3) := by decide +kernel
theorem dX3_copy_24 : decode cX3_copy 24 = .ok (.aload_n 0, 1) := by decide +kernel
theorem dX3_copy_25 : decode cX3_copy 25 = .ok (.aload_n 1, 1) := by decide +kernel
theorem dX3_copy_26 : decode cX3_copy 26 = .ok (.getfield 37, 3) := by decide +kernel
theorem dX3_copy_29 : decode cX3_copy 29 = .ok (.putfield 37, 3) := by decide +kernel
theorem dX3_copy_32 : decode cX3_copy 32 = .ok (.aload_n 0, 1) := by decide +kernel
theorem dX3_copy_33 : decode cX3_copy 33 = .ok (.aload_n 1, 1) := by decide +kernel
theorem dX3_copy_34 : decode cX3_copy 34 = .ok (.getfield 40, 3) := by decide +kernel
theorem dX3_copy_37 : decode cX3_copy 37 = .ok (.putfield 40, 3) := by decide +kernel
theorem dX3_copy_40 : decode cX3_copy 40 = .ok (.aload_n 1, 1) := by decide +kernel
theorem dX3_copy_41 : decode cX3_copy 41 = .ok (.getfield 9, 3) := by decide +kernel
theorem dX3_copy_44 : decode cX3_copy 44 = .ok (.iconst 0, 1) := by decide +kernel
theorem dX3_copy_45 : decode cX3_copy 45 = .ok (.aload_n 0, 1) := by decide +kernel
theorem dX3_copy_46 : decode cX3_copy 46 = .ok (.getfield 9, 3) := by decide +kernel
theorem dX3_copy_49 : decode cX3_copy 49 = .ok (.iconst 0, 1) := by decide +kernel
theorem dX3_copy_50 : decode cX3_copy 50 = .ok (.iconst 4, 1) := by decide +kernel
theorem dX3_copy_51 : decode cX3_copy 51 = .ok (.invokestatic 55, 3) := by decide +kernel
theorem dX3_copy_54 : decode cX3_copy 54 = .ok (.aload_n 1, 1) := by decide +kernel
theorem dX3_copy_55 : decode cX3_copy 55 = .ok (.getfield 15, 3) := by decide +kernel
theorem dX3_copy_58 : decode cX3_copy 58 = .ok (.iconst 0, 1) := by decide +kernel
theorem dX3_copy_59 : decode cX3_copy 59 = .ok (.aload_n 0, 1) := by decide +kernel
theorem dX3_copy_60 : decode cX3_copy 60 = .ok (.getfield 15, 3) := by decide +kernel
theorem dX3_copy_63 : decode cX3_copy 63 = .ok (.iconst 0, 1) := by decide +kernel
theorem dX3_copy_64 : decode cX3_copy 64 = .ok (.iconst 4, 1) := by decide +kernel
theorem dX3_copy_65 : decode cX3_copy 65 = .ok (.invokestatic 55, 3) := by decide +kernel
theorem dX3_copy_68 : decode cX3_copy 68 = .ok (.aload_n 1, 1) := by decide +kernel
theorem dX3_copy_69 : decode cX3_copy 69 = .ok (.getfield 18, 3) := by decide +kernel
theorem dX3_copy_72 : decode cX3_copy 72 = .ok (.iconst 0, 1) := by decide +kernel
theorem dX3_copy_73 : decode cX3_copy 73 = .ok (.aload_n 0, 1) := by decide +kernel
theorem dX3_copy_74 : decode cX3_copy 74 = .ok (.getfield 18, 3) := by decide +kernel
theorem dX3_copy_77 : decode cX3_copy 77 = .ok (.iconst 0, 1) := by decide +kernel
theorem dX3_copy_78 : decode cX3_copy 78 = .ok (.bipush 16, 2) := by decide +kernel
theorem dX3_copy_80 : decode cX3_copy 80 = .ok (.invokestatic 55, 3) := by decide +kernel
theorem dX3_copy_83 : decode cX3_copy 83 = .ok (.aload_n 1, 1) := by decide +kernel
theorem dX3_copy_84 : decode cX3_copy 84 = .ok (.getfield 21, 3) := by decide +kernel
theorem dX3_copy_87 : decode cX3_copy 87 = .ok (.iconst 0, 1) := by decide +kernel
theorem dX3_copy_88 : decode cX3_copy 88 = .ok (.aload_n 0, 1) := by decide +kernel
theorem dX3_copy_89 : decode cX3_copy 89 = .ok (.getfield 21, 3) := by decide +kernel
theorem dX3_copy_92 : decode cX3_copy 92 = .ok (.iconst 0, 1) := by decide +kernel
theorem dX3_copy_93 : decode cX3_copy 93 = .ok (.bipush 7, 2) := by decide +kernel
theorem dX3_copy_95 : decode cX3_copy 95 = .ok (.invokestatic 55, 3) := by decide +kernel
theorem dX3_copy_98 : decode cX3_copy 98 = .ok (.aload_n 1, 1) := by decide +kernel
theorem dX3_copy_99 : decode cX3_copy 99 = .ok (.getfield 24, 3) := by decide +kernel
theorem dX3_copy_102 : decode cX3_copy 102 = .ok (.iconst 0, 1) := by decide +kernel
theorem dX3_copy_103 : decode cX3_copy 103 = .ok (.aload_n 0, 1) := by decide +kernel
theorem dX3_copy_104 : decode cX3_copy 104 = .ok (.getfield 24, 3) := by decide +kernel
theorem dX3_copy_107 : decode cX3_copy 107 = .ok (.iconst 0, 1) := by decide +kernel
theorem dX3_copy_108 : decode cX3_copy 108 = .ok (.bipush 7, 2) := by decide +kernel
theorem dX3_copy_110 : decode cX3_copy 110 = .ok (.invokestatic 55, 3) := by decide +kernel
theorem dX3_copy_113 : decode cX3_copy 113 = .ok (.aload_n 1, 1) := by decide +kernel
theorem dX3_copy_114 : decode cX3_copy 114 = .ok (.getfield 27, 3) := by decide +kernel
theorem dX3_copy_117 : decode cX3_copy 117 = .ok (.iconst 0, 1) := by decide +kernel
theorem dX3_copy_118 : decode cX3_copy 118 = .ok (.aload_n 0, 1) := by decide +kernel
theorem dX3_copy_119 : decode cX3_copy 119 = .ok (.getfield 27, 3) := by decide +kernel
theorem dX3_copy_122 : decode cX3_copy 122 = .ok (.iconst 0, 1) := by decide +kernel
theorem dX3_copy_123 : decode cX3_copy 123 = .ok (.bipush 7, 2) := by decide +kernel
theorem dX3_copy_125 : decode cX3_copy 125 = .ok (.invokestatic 55, 3) := by decide +kernel
theorem dX3_copy_128 : decode cX3_copy 128 = .ok (.aload_n 1, 1) := by decide +kernel
theorem dX3_copy_129 : decode cX3_copy 129 = .ok (.getfield 30, 3) := by decide +kernel
theorem dX3_copy_132 : decode cX3_copy 132 = .ok (.iconst 0, 1) := by decide +kernel
theorem dX3_copy_133 : decode cX3_copy 133 = .ok (.aload_n 0, 1) := by decide +kernel
theorem dX3_copy_134 : decode cX3_copy 134 = .ok (.getfield 30, 3) := by decide +kernel
theorem dX3_copy_137 : decode cX3_copy 137 = .ok (.iconst 0, 1) := by decide +kernel
theorem dX3_copy_138 : decode cX3_copy 138 = .ok (.bipush 7, 2) := by decide +kernel
theorem dX3_copy_140 : decode cX3_copy 140 = .ok (.invokestatic 55, 3) := by decide +kernel
theorem dX3_copy_143 : decode cX3_copy 143 = .ok (.return_, 1) := by decide +kernel
theorem dX3_isSort_0 : decode cX3_isSort 0 = .ok (.iload_n 1, 1) := by decide +kernel
theorem dX3_isSort_1 : decode cX3_isSort 1 = .ok (.ifCond .lt 15, 3) := by decide +kernel
theorem dX3_isSort_4 : decode cX3_isSort 4 = .ok (.iload_n 1, 1) := by decide +kernel
theorem dX3_isSort_5 : decode cX3_isSort 5 = .ok (.aload_n 0, 1) := by decide +kernel
theorem dX3_isSort_6 : decode cX3_isSort 6 = .ok (.getfield 33, 3) := by decide +kernel
theorem dX3_isSort_9 : decode cX3_isSort 9 = .ok (.if_icmp .ge 7, 3) := by decide +kernel
theorem dX3_isSort_12 : decode cX3_isSort 12 = .ok (.iconst 1, 1) := by decide +kernel
theorem dX3_isSort_13 : decode cX3_isSort 13 = .ok (.goto 4, 3) := by decide +kernel
theorem dX3_isSort_16 : decode cX3_isSort 16 = .ok (.iconst 0, 1) := by decide +kernel
theorem dX3_isSort_17 : decode cX3_isSort 17 = .ok (.ireturn, 1) := by decide +kernel
theorem dX3_isMender_0 : decode cX3_isMender 0 = .ok (.iload_n 1, 1) := by decide +kernel
theorem dX3_isMender_1 : decode cX3_isMender 1 = .ok (.ifCond .lt 15, 3) := by decide +kernel
theorem dX3_isMender_4 : decode cX3_isMender 4 = .ok (.iload_n 1, 1) := by decide +kernel
theorem dX3_isMender_5 : decode cX3_isMender 5 = .ok (.aload_n 0, 1) := by decide +kernel
theorem dX3_isMender_6 : decode cX3_isMender 6 = .ok (.getfield 37, 3) := by decide +kernel
theorem dX3_isMender_9 : decode cX3_isMender 9 = .ok (.if_icmp .ge 7, 3) := by decide +kernel
theorem dX3_isMender_12 : decode cX3_isMender 12 = .ok (.iconst 1, 1) := by decide +kernel
theorem dX3_isMender_13 : decode cX3_isMender 13 = .ok (.goto 4, 3) := by decide +kernel
theorem dX3_isMender_16 : decode cX3_isMender 16 = .ok (.iconst 0, 1) := by decide +kernel
theorem dX3_isMender_17 : decode cX3_isMender 17 = .ok (.ireturn, 1) := by decide +kernel
theorem dX3_isThing_0 : decode cX3_isThing 0 = .ok (.iload_n 1, 1) := by decide +kernel
theorem dX3_isThing_1 : decode cX3_isThing 1 = .ok (.ifCond .lt 15, 3) := by decide +kernel
theorem dX3_isThing_4 : decode cX3_isThing 4 = .ok (.iload_n 1, 1) := by decide +kernel
theorem dX3_isThing_5 : decode cX3_isThing 5 = .ok (.aload_n 0, 1) := by decide +kernel
theorem dX3_isThing_6 : decode cX3_isThing 6 = .ok (.getfield 40, 3) := by decide +kernel
theorem dX3_isThing_9 : decode cX3_isThing 9 = .ok (.if_icmp .ge 7, 3) := by decide +kernel
theorem dX3_isThing_12 : decode cX3_isThing 12 = .ok (.iconst 1, 1) := by decide +kernel
theorem dX3_isThing_13 : decode cX3_isThing 13 = .ok (.goto 4, 3) := by decide +kernel
theorem dX3_isThing_16 : decode cX3_isThing 16 = .ok (.iconst 0, 1) := by decide +kernel
theorem dX3_isThing_17 : decode cX3_isThing 17 = .ok (.ireturn, 1) := by decide +kernel
theorem dX3_skillOf_0 : decode cX3_skillOf 0 = .ok (.iload_n 1, 1) := by decide +kernel
theorem dX3_skillOf_1 : decode cX3_skillOf 1 = .ok (.iconst 4, 1) := by decide +kernel
theorem dX3_skillOf_2 : decode cX3_skillOf 2 = .ok (.imul, 1) := by decide +kernel
theorem dX3_skillOf_3 : decode cX3_skillOf 3 = .ok (.iload_n 2, 1) := by decide +kernel
theorem dX3_skillOf_4 : decode cX3_skillOf 4 = .ok (.iadd, 1) := by decide +kernel
theorem dX3_skillOf_5 : decode cX3_skillOf 5 = .ok (.istore_n 3, 1) := by decide +kernel
theorem dX3_skillOf_6 : decode cX3_skillOf 6 = .ok (.iload_n 3, 1) := by decide +kernel
theorem dX3_skillOf_7 : decode cX3_skillOf 7 = .ok (.ifCond .lt 21, 3) := by decide +kernel
theorem dX3_skillOf_10 : decode cX3_skillOf 10 = .ok (.iload_n 3, 1) := by decide +kernel
theorem dX3_skillOf_11 : decode cX3_skillOf 11 = .ok (.aload_n 0, 1) := by decide +kernel
theorem dX3_skillOf_12 : decode cX3_skillOf 12 = .ok (.getfield 18, 3) := by decide +kernel
theorem dX3_skillOf_15 : decode cX3_skillOf 15 = .ok (.arraylength, 1) := by decide +kernel
theorem dX3_skillOf_16 : decode cX3_skillOf 16 = .ok (.if_icmp .ge 12, 3) := by decide +kernel
theorem dX3_skillOf_19 : decode cX3_skillOf 19 = .ok (.aload_n 0, 1) := by decide +kernel
theorem dX3_skillOf_20 : decode cX3_skillOf 20 = .ok (.getfield 18, 3) := by decide +kernel
theorem dX3_skillOf_23 : decode cX3_skillOf 23 = .ok (.iload_n 3, 1) := by decide +kernel
theorem dX3_skillOf_24 : decode cX3_skillOf 24 = .ok (.iaload, 1) := by decide +kernel
theorem dX3_skillOf_25 : decode cX3_skillOf 25 = .ok (.goto 4, 3) := by decide +kernel
theorem dX3_skillOf_28 : decode cX3_skillOf 28 = .ok (.iconst 0, 1) := by decide +kernel
theorem dX3_skillOf_29 : decode cX3_skillOf 29 = .ok (.ireturn, 1) := by decide +kernel
theorem dX3_hasSkillFor_0 : decode cX3_hasSkillFor 0 = .ok (.iconst 0, 1) := by decide +kernel
theorem dX3_hasSkillFor_1 : decode cX3_hasSkillFor 1 = .ok (.istore_n 2, 1) := by decide +kernel
theorem dX3_hasSkillFor_2 : decode cX3_hasSkillFor 2 = .ok (.iload_n 2, 1) := by decide +kernel
theorem dX3_hasSkillFor_3 : decode cX3_hasSkillFor 3 = .ok (.aload_n 0, 1) := by decide +kernel
theorem dX3_hasSkillFor_4 : decode cX3_hasSkillFor 4 = .ok (.getfield 37, 3) := by decide +kernel
theorem dX3_hasSkillFor_7 : decode cX3_hasSkillFor 7 = .ok (.if_icmp .ge 20, 3) := by decide +kernel
theorem dX3_hasSkillFor_10 : decode cX3_hasSkillFor 10 = .ok (.aload_n 0, 1) := by decide +kernel
theorem dX3_hasSkillFor_11 : decode cX3_hasSkillFor 11 = .ok (.iload_n 2, 1) := by decide +kernel
theorem dX3_hasSkillFor_12 : decode cX3_hasSkillFor 12 = .ok (.iload_n 1, 1) := by decide +kernel
theorem dX3_hasSkillFor_13 : decode cX3_hasSkillFor 13 = .ok (.invokevirtual 61, 3) := by decide +kernel
theorem dX3_hasSkillFor_16 : decode cX3_hasSkillFor 16 = .ok (.ifCond .le 5, 3) := by decide +kernel
theorem dX3_hasSkillFor_19 : decode cX3_hasSkillFor 19 = .ok (.iconst 1, 1) := by decide +kernel
theorem dX3_hasSkillFor_20 : decode cX3_hasSkillFor 20 = .ok (.ireturn, 1) := by decide +kernel
theorem dX3_hasSkillFor_21 : decode cX3_hasSkillFor 21 = .ok (.iinc 2 1, 3) := by decide +kernel
theorem dX3_hasSkillFor_24 : decode cX3_hasSkillFor 24 = .ok (.goto (-22), 3) := by decide +kernel
theorem dX3_hasSkillFor_27 : decode cX3_hasSkillFor 27 = .ok (.iconst 0, 1) := by decide +kernel
theorem dX3_hasSkillFor_28 : decode cX3_hasSkillFor 28 = .ok (.ireturn, 1) := by decide +kernel
theorem dX3_addSort_0 : decode cX3_addSort 0 = .ok (.aload_n 0, 1) := by decide +kernel
theorem dX3_addSort_1 : decode cX3_addSort 1 = .ok (.getfield 33, 3) := by decide +kernel
theorem dX3_addSort_4 : decode cX3_addSort 4 = .ok (.iconst 4, 1) := by decide +kernel
theorem dX3_addSort_5 : decode cX3_addSort 5 = .ok (.if_icmp .ge 33, 3) := by decide +kernel
theorem dX3_addSort_8 : decode cX3_addSort 8 = .ok (.aload_n 0, 1) := by decide +kernel
theorem dX3_addSort_9 : decode cX3_addSort 9 = .ok (.getfield 9, 3) := by decide +kernel
theorem dX3_addSort_12 : decode cX3_addSort 12 = .ok (.aload_n 0, 1) := by decide +kernel
theorem dX3_addSort_13 : decode cX3_addSort 13 = .ok (.getfield 33, 3) := by decide +kernel
theorem dX3_addSort_16 : decode cX3_addSort 16 = .ok (.iload_n 1, 1) := by decide +kernel
theorem dX3_addSort_17 : decode cX3_addSort 17 = .ok (.iastore, 1) := by decide +kernel
theorem dX3_addSort_18 : decode cX3_addSort 18 = .ok (.aload_n 0, 1) := by decide +kernel
theorem dX3_addSort_19 : decode cX3_addSort 19 = .ok (.getfield 15, 3) := by decide +kernel
theorem dX3_addSort_22 : decode cX3_addSort 22 = .ok (.aload_n 0, 1) := by decide +kernel
theorem dX3_addSort_23 : decode cX3_addSort 23 = .ok (.getfield 33, 3) := by decide +kernel
theorem dX3_addSort_26 : decode cX3_addSort 26 = .ok (.iload_n 2, 1) := by decide +kernel
theorem dX3_addSort_27 : decode cX3_addSort 27 = .ok (.iastore, 1) := by decide +kernel
theorem dX3_addSort_28 : decode cX3_addSort 28 = .ok (.aload_n 0, 1) := by decide +kernel
theorem dX3_addSort_29 : decode cX3_addSort 29 = .ok (.dup, 1) := by decide +kernel
theorem dX3_addSort_30 : decode cX3_addSort 30 = .ok (.getfield 33, 3) := by decide +kernel
theorem dX3_addSort_33 : decode cX3_addSort 33 = .ok (.iconst 1, 1) := by decide +kernel
theorem dX3_addSort_34 : decode cX3_addSort 34 = .ok (.iadd, 1) := by decide +kernel
theorem dX3_addSort_35 : decode cX3_addSort 35 = .ok (.putfield 33, 3) := by decide +kernel
theorem dX3_addSort_38 : decode cX3_addSort 38 = .ok (.return_, 1) := by decide +kernel
theorem dX3_addMender_0 : decode cX3_addMender 0 = .ok (.aload_n 0, 1) := by decide +kernel
theorem dX3_addMender_1 : decode cX3_addMender 1 = .ok (.getfield 37, 3) := by decide +kernel
theorem dX3_addMender_4 : decode cX3_addMender 4 = .ok (.iconst 4, 1) := by decide +kernel
theorem dX3_addMender_5 : decode cX3_addMender 5 = .ok (.if_icmp .ge 13, 3) := by decide +kernel
theorem dX3_addMender_8 : decode cX3_addMender 8 = .ok (.aload_n 0, 1) := by decide +kernel
theorem dX3_addMender_9 : decode cX3_addMender 9 = .ok (.dup, 1) := by decide +kernel
theorem dX3_addMender_10 : decode cX3_addMender 10 = .ok (.getfield 37, 3) := by decide +kernel
theorem dX3_addMender_13 : decode cX3_addMender 13 = .ok (.iconst 1, 1) := by decide +kernel
theorem dX3_addMender_14 : decode cX3_addMender 14 = .ok (.iadd, 1) := by decide +kernel
theorem dX3_addMender_15 : decode cX3_addMender 15 = .ok (.putfield 37, 3) := by decide +kernel
theorem dX3_addMender_18 : decode cX3_addMender 18 = .ok (.return_, 1) := by decide +kernel
theorem dX3_setSkill_0 : decode cX3_setSkill 0 = .ok (.aload_n 0, 1) := by decide +kernel
theorem dX3_setSkill_1 : decode cX3_setSkill 1 = .ok (.iload_n 1, 1) := by decide +kernel
theorem dX3_setSkill_2 : decode cX3_setSkill 2 = .ok (.invokevirtual 65, 3) := by decide +kernel
theorem dX3_setSkill_5 : decode cX3_setSkill 5 = .ok (.ifCond .eq 22, 3) := by decide +kernel
theorem dX3_setSkill_8 : decode cX3_setSkill 8 = .ok (.aload_n 0, 1) := by decide +kernel
theorem dX3_setSkill_9 : decode cX3_setSkill 9 = .ok (.iload_n 2, 1) := by decide +kernel
theorem dX3_setSkill_10 : decode cX3_setSkill 10 = .ok (.invokevirtual 69, 3) := by decide +kernel
theorem dX3_setSkill_13 : decode cX3_setSkill 13 = .ok (.ifCond .eq 14, 3) := by decide +kernel
theorem dX3_setSkill_16 : decode cX3_setSkill 16 = .ok (.aload_n 0, 1) := by decide +kernel
theorem dX3_setSkill_17 : decode cX3_setSkill 17 = .ok (.getfield 18, 3) := by decide +kernel
theorem dX3_setSkill_20 : decode cX3_setSkill 20 = .ok (.iload_n 1, 1) := by decide +kernel
theorem dX3_setSkill_21 : decode cX3_setSkill 21 = .ok (.iconst 4, 1) := by decide +kernel
theorem dX3_setSkill_22 : decode cX3_setSkill 22 = .ok (.imul, 1) := by decide +kernel
theorem dX3_setSkill_23 : decode cX3_setSkill 23 = .ok (.iload_n 2, 1) := by decide +kernel
theorem dX3_setSkill_24 : decode cX3_setSkill 24 = .ok (.iadd, 1) := by decide +kernel
theorem dX3_setSkill_25 : decode cX3_setSkill 25 = .ok (.iload_n 3, 1) := by decide +kernel
theorem dX3_setSkill_26 : decode cX3_setSkill 26 = .ok (.iastore, 1) := by decide +kernel
theorem dX3_setSkill_27 : decode cX3_setSkill 27 = .ok (.return_, 1) := by decide +kernel
theorem dX3_addThing_0 : decode cX3_addThing 0 = .ok (.aload_n 0, 1) := by decide +kernel
theorem dX3_addThing_1 : decode cX3_addThing 1 = .ok (.getfield 40, 3) := by decide +kernel
theorem dX3_addThing_4 : decode cX3_addThing 4 = .ok (.bipush 7, 2) := by decide +kernel
theorem dX3_addThing_6 : decode cX3_addThing 6 = .ok (.if_icmp .ge 54, 3) := by decide +kernel
theorem dX3_addThing_9 : decode cX3_addThing 9 = .ok (.aload_n 0, 1) := by decide +kernel
theorem dX3_addThing_10 : decode cX3_addThing 10 = .ok (.getfield 21, 3) := by decide +kernel
theorem dX3_addThing_13 : decode cX3_addThing 13 = .ok (.aload_n 0, 1) := by decide +kernel
theorem dX3_addThing_14 : decode cX3_addThing 14 = .ok (.getfield 40, 3) := by decide +kernel
theorem dX3_addThing_17 : decode cX3_addThing 17 = .ok (.iload_n 1, 1) := by decide +kernel
theorem dX3_addThing_18 : decode cX3_addThing 18 = .ok (.iastore, 1) := by decide +kernel
theorem dX3_addThing_19 : decode cX3_addThing 19 = .ok (.aload_n 0, 1) := by decide +kernel
theorem dX3_addThing_20 : decode cX3_addThing 20 = .ok (.getfield 24, 3) := by decide +kernel
theorem dX3_addThing_23 : decode cX3_addThing 23 = .ok (.aload_n 0, 1) := by decide +kernel
theorem dX3_addThing_24 : decode cX3_addThing 24 = .ok (.getfield 40, 3) := by decide +kernel
theorem dX3_addThing_27 : decode cX3_addThing 27 = .ok (.iload_n 2, 1) := by decide +kernel
theorem dX3_addThing_28 : decode cX3_addThing 28 = .ok (.iastore, 1) := by decide +kernel
theorem dX3_addThing_29 : decode cX3_addThing 29 = .ok (.aload_n 0, 1) := by decide +kernel
theorem dX3_addThing_30 : decode cX3_addThing 30 = .ok (.getfield 27, 3) := by decide +kernel
theorem dX3_addThing_33 : decode cX3_addThing 33 = .ok (.aload_n 0, 1) := by decide +kernel
theorem dX3_addThing_34 : decode cX3_addThing 34 = .ok (.getfield 40, 3) := by decide +kernel
theorem dX3_addThing_37 : decode cX3_addThing 37 = .ok (.iload_n 3, 1) := by decide +kernel
theorem dX3_addThing_38 : decode cX3_addThing 38 = .ok (.iastore, 1) := by decide +kernel
theorem dX3_addThing_39 : decode cX3_addThing 39 = .ok (.aload_n 0, 1) := by decide +kernel
theorem dX3_addThing_40 : decode cX3_addThing 40 = .ok (.getfield 30, 3) := by decide +kernel
theorem dX3_addThing_43 : decode cX3_addThing 43 = .ok (.aload_n 0, 1) := by decide +kernel
theorem dX3_addThing_44 : decode cX3_addThing 44 = .ok (.getfield 40, 3) := by decide +kernel
theorem dX3_addThing_47 : decode cX3_addThing 47 = .ok (.iload 4, 2) := by decide +kernel
theorem dX3_addThing_49 : decode cX3_addThing 49 = .ok (.iastore, 1) := by decide +kernel
theorem dX3_addThing_50 : decode cX3_addThing 50 = .ok (.aload_n 0, 1) := by decide +kernel
theorem dX3_addThing_51 : decode cX3_addThing 51 = .ok (.dup, 1) := by decide +kernel
theorem dX3_addThing_52 : decode cX3_addThing 52 = .ok (.getfield 40, 3) := by decide +kernel
theorem dX3_addThing_55 : decode cX3_addThing 55 = .ok (.iconst 1, 1) := by decide +kernel
theorem dX3_addThing_56 : decode cX3_addThing 56 = .ok (.iadd, 1) := by decide +kernel
theorem dX3_addThing_57 : decode cX3_addThing 57 = .ok (.putfield 40, 3) := by decide +kernel
theorem dX3_addThing_60 : decode cX3_addThing 60 = .ok (.return_, 1) := by decide +kernel
theorem dX4_init_0 : decode cX4_init 0 = .ok (.aload_n 0, 1) := by decide +kernel
theorem dX4_init_1 : decode cX4_init 1 = .ok (.invokespecial 3, 3) := by decide +kernel
theorem dX4_init_4 : decode cX4_init 4 = .ok (.aload_n 0, 1) := by decide +kernel
theorem dX4_init_5 : decode cX4_init 5 = .ok (.new 9, 3) := by decide +kernel
theorem dX4_init_8 : decode cX4_init 8 = .ok (.dup, 1) := by decide +kernel
theorem dX4_init_9 : decode cX4_init 9 = .ok (.invokespecial 11, 3) := by decide +kernel
theorem dX4_init_12 : decode cX4_init 12 = .ok (.putfield 12, 3) := by decide +kernel
theorem dX4_init_15 : decode cX4_init 15 = .ok (.aload_n 0, 1) := by decide +kernel
theorem dX4_init_16 : decode cX4_init 16 = .ok (.new 18, 3) := by decide +kernel
theorem dX4_init_19 : decode cX4_init 19 = .ok (.dup, 1) := by decide +kernel
theorem dX4_init_20 : decode cX4_init 20 = .ok (.aload_n 1, 1) := by decide +kernel
theorem dX4_init_21 : decode cX4_init 21 = .ok (.invokespecial 20, 3) := by decide +kernel
theorem dX4_init_24 : decode cX4_init 24 = .ok (.putfield 23, 3) := by decide +kernel
theorem dX4_init_27 : decode cX4_init 27 = .ok (.return_, 1) := by decide +kernel
theorem dX4_readAll_0 : decode cX4_readAll 0 = .ok (.aload_n 0, 1) := by decide +kernel
theorem dX4_readAll_1 : decode cX4_readAll 1 = .ok (.getfield 12, 3) := by decide +kernel
theorem dX4_readAll_4 : decode cX4_readAll 4 = .ok (.invokevirtual 27, 3) := by decide +kernel
theorem dX4_readAll_7 : decode cX4_readAll 7 = .ok (.aload_n 0, 1) := by decide +kernel
theorem dX4_readAll_8 : decode cX4_readAll 8 = .ok (.getfield 23, 3) := by decide +kernel
theorem dX4_readAll_11 : decode cX4_readAll 11 = .ok (.iload_n 1, 1) := by decide +kernel
theorem dX4_readAll_12 : decode cX4_readAll 12 = .ok (.invokevirtual 30, 3) := by decide +kernel
theorem dX4_readAll_15 : decode cX4_readAll 15 = .ok (.aload_n 0, 1) := by decide +kernel
theorem dX4_readAll_16 : decode cX4_readAll 16 = .ok (.iconst 0, 1) := by decide +kernel
theorem dX4_readAll_17 : decode cX4_readAll 17 = .ok (.invokevirtual 34, 3) := by decide +kernel
theorem dX4_readAll_20 : decode cX4_readAll 20 = .ok (.iconst 1, 1) := by decide +kernel
theorem dX4_readAll_21 : decode cX4_readAll 21 = .ok (.istore_n 2, 1) := by decide +kernel
theorem dX4_readAll_22 : decode cX4_readAll 22 = .ok (.iload_n 2, 1) := by decide +kernel
theorem dX4_readAll_23 : decode cX4_readAll 23 = .ok (.bipush 40, 2) := by decide +kernel
theorem dX4_readAll_25 : decode cX4_readAll 25 = .ok (.if_icmp .gt 33, 3) := by decide +kernel
theorem dX4_readAll_28 : decode cX4_readAll 28 = .ok (.aload_n 0, 1) := by decide +kernel
theorem dX4_readAll_29 : decode cX4_readAll 29 = .ok (.getfield 23, 3) := by decide +kernel
theorem dX4_readAll_32 : decode cX4_readAll 32 = .ok (.bipush 59, 2) := by decide +kernel
theorem dX4_readAll_34 : decode cX4_readAll 34 = .ok (.invokevirtual 37, 3) := by decide +kernel
theorem dX4_readAll_37 : decode cX4_readAll 37 = .ok (.ifCond .eq 21, 3) := by decide +kernel
theorem dX4_readAll_40 : decode cX4_readAll 40 = .ok (.aload_n 0, 1) := by decide +kernel
theorem dX4_readAll_41 : decode cX4_readAll 41 = .ok (.getfield 23, 3) := by decide +kernel
theorem dX4_readAll_44 : decode cX4_readAll 44 = .ok (.invokevirtual 41, 3) := by decide +kernel
theorem dX4_readAll_47 : decode cX4_readAll 47 = .ok (.aload_n 0, 1) := by decide +kernel
theorem dX4_readAll_48 : decode cX4_readAll 48 = .ok (.iload_n 2, 1) := by decide +kernel
theorem dX4_readAll_49 : decode cX4_readAll 49 = .ok (.invokevirtual 34, 3) := by decide +kernel
theorem dX4_readAll_52 : decode cX4_readAll 52 = .ok (.iinc 2 1, 3) := by decide +kernel
theorem dX4_readAll_55 : decode cX4_readAll 55 = .ok (.goto (-33), 3) := by decide +kernel
theorem dX4_readAll_58 : decode cX4_readAll 58 = .ok (.aload_n 0, 1) := by decide +kernel
theorem dX4_readAll_59 : decode cX4_readAll 59 = .ok (.getfield 23, 3) := by decide +kernel
theorem dX4_readAll_62 : decode cX4_readAll 62 = .ok (.invokevirtual 44, 3) := by decide +kernel
theorem dX4_readAll_65 : decode cX4_readAll 65 = .ok (.aload_n 0, 1) := by decide +kernel
theorem dX4_readAll_66 : decode cX4_readAll 66 = .ok (.getfield 23, 3) := by decide +kernel
theorem dX4_readAll_69 : decode cX4_readAll 69 = .ok (.getfield 47, 3) := by decide +kernel
theorem dX4_readAll_72 : decode cX4_readAll 72 = .ok (.ireturn, 1) := by decide +kernel
theorem dX4_readClause_0 : decode cX4_readClause 0 = .ok (.aload_n 0, 1) := by decide +kernel
theorem dX4_readClause_1 : decode cX4_readClause 1 = .ok (.getfield 23, 3) := by decide +kernel
theorem dX4_readClause_4 : decode cX4_readClause 4 = .ok (.ldc 51, 2) := by decide +kernel
theorem dX4_readClause_6 : decode cX4_readClause 6 = .ok (.invokevirtual 53, 3) := by decide +kernel
theorem dX4_readClause_9 : decode cX4_readClause 9 = .ok (.istore_n 2, 1) := by decide +kernel
theorem dX4_readClause_10 : decode cX4_readClause 10 = .ok (.iload_n 2, 1) := by decide +kernel
theorem dX4_readClause_11 : decode cX4_readClause 11 = .ok (.iconst (-1), 1) := by decide +kernel
theorem dX4_readClause_12 : decode cX4_readClause 12 = .ok (.if_icmp .ne 12, 3) := by decide +kernel
theorem dX4_readClause_15 : decode cX4_readClause 15 = .ok (.aload_n 0, 1) := by decide +kernel
theorem dX4_readClause_16 : decode cX4_readClause 16 = .ok (.getfield 23, 3) := by decide +kernel
theorem dX4_readClause_19 : decode cX4_readClause 19 = .ok (.iconst 0, 1) := by decide +kernel
theorem dX4_readClause_20 : decode cX4_readClause 20 = .ok (.invokevirtual 57, 3) := by decide +kernel
theorem dX4_readClause_23 : decode cX4_readClause 23 = .ok (.return_, 1) := by decide +kernel
theorem dX4_readClause_24 : decode cX4_readClause 24 = .ok (.aload_n 0, 1) := by decide +kernel
theorem dX4_readClause_25 : decode cX4_readClause 25 = .ok (.iload_n 2, 1) := by decide +kernel
theorem dX4_readClause_26 : decode cX4_readClause 26 = .ok (.iload_n 1, 1) := by decide +kernel
theorem dX4_readClause_27 : decode cX4_readClause 27 = .ok (.invokevirtual 60, 3) := by decide +kernel
theorem dX4_readClause_30 : decode cX4_readClause 30 = .ok (.ifCond .eq 12, 3) := by decide +kernel
theorem dX4_readClause_33 : decode cX4_readClause 33 = .ok (.aload_n 0, 1) := by decide +kernel
theorem dX4_readClause_34 : decode cX4_readClause 34 = .ok (.getfield 23, 3) := by decide +kernel
theorem dX4_readClause_37 : decode cX4_readClause 37 = .ok (.iconst 4, 1) := by decide +kernel
theorem dX4_readClause_38 : decode cX4_readClause 38 = .ok (.invokevirtual 57, 3) := by decide +kernel
theorem dX4_readClause_41 : decode cX4_readClause 41 = .ok (.return_, 1) := by decide +kernel
theorem dX4_readClause_42 : decode cX4_readClause 42 = .ok (.aload_n 0, 1) := by decide +kernel
theorem dX4_readClause_43 : decode cX4_readClause 43 = .ok (.getfield 23, 3) := by decide +kernel
theorem dX4_readClause_46 : decode cX4_readClause 46 = .ok (.invokevirtual 41, 3) := by decide +kernel
theorem dX4_readClause_49 : decode cX4_readClause 49 = .ok (.iload_n 2, 1) := by decide +kernel
theorem dX4_readClause_50 : decode cX4_readClause 50 = .ok (.tableswitch 93 0 3 #[30, 69, 76, 86], 30) := by decide +kernel
theorem dX4_readClause_80 : decode cX4_readClause 80 = .ok (.aload_n 0, 1) := by decide +kernel
theorem dX4_readClause_81 : decode cX4_readClause 81 = .ok (.getfield 12, 3) := by decide +kernel
theorem dX4_readClause_84 : decode cX4_readClause 84 = .ok (.aload_n 0, 1) := by decide +kernel
theorem dX4_readClause_85 : decode cX4_readClause 85 = .ok (.getfield 23, 3) := by decide +kernel
theorem dX4_readClause_88 : decode cX4_readClause 88 = .ok (.iconst 1, 1) := by decide +kernel
theorem dX4_readClause_89 : decode cX4_readClause 89 = .ok (.sipush 300, 3) := by decide +kernel
theorem dX4_readClause_92 : decode cX4_readClause 92 = .ok (.invokevirtual 64, 3) := by decide +kernel
theorem dX4_readClause_95 : decode cX4_readClause 95 = .ok (.putfield 68, 3) := by decide +kernel
theorem dX4_readClause_98 : decode cX4_readClause 98 = .ok (.aload_n 0, 1) := by decide +kernel
theorem dX4_readClause_99 : decode cX4_readClause 99 = .ok (.getfield 12, 3) := by decide +kernel
theorem dX4_readClause_102 : decode cX4_readClause 102 = .ok (.aload_n 0, 1) := by decide +kernel
theorem dX4_readClause_103 : decode cX4_readClause 103 = .ok (.getfield 23, 3) := by decide +kernel
theorem dX4_readClause_106 : decode cX4_readClause 106 = .ok (.iconst 1, 1) := by decide +kernel
theorem dX4_readClause_107 : decode cX4_readClause 107 = .ok (.sipush 300, 3) := by decide +kernel
theorem dX4_readClause_110 : decode cX4_readClause 110 = .ok (.invokevirtual 64, 3) := by decide +kernel
theorem dX4_readClause_113 : decode cX4_readClause 113 = .ok (.putfield 71, 3) := by decide +kernel
theorem dX4_readClause_116 : decode cX4_readClause 116 = .ok (.goto 31, 3) := by decide +kernel
theorem dX4_readClause_119 : decode cX4_readClause 119 = .ok (.aload_n 0, 1) := by decide +kernel
theorem dX4_readClause_120 : decode cX4_readClause 120 = .ok (.invokevirtual 74, 3) := by decide +kernel
theorem dX4_readClause_123 : decode cX4_readClause 123 = .ok (.goto 24, 3) := by decide +kernel
theorem dX4_readClause_126 : decode cX4_readClause 126 = .ok (.aload_n 0, 1) := by decide +kernel
theorem dX4_readClause_127 : decode cX4_readClause 127 = .ok (.getfield 12, 3) := by decide +kernel
theorem dX4_readClause_130 : decode cX4_readClause 130 = .ok (.invokevirtual 77, 3) := by decide +kernel
theorem dX4_readClause_133 : decode cX4_readClause 133 = .ok (.goto 14, 3) := by decide +kernel
theorem dX4_readClause_136 : decode cX4_readClause 136 = .ok (.aload_n 0, 1) := by decide +kernel
theorem dX4_readClause_137 : decode cX4_readClause 137 = .ok (.invokevirtual 80, 3) := by decide +kernel
theorem dX4_readClause_140 : decode cX4_readClause 140 = .ok (.goto 7, 3) := by decide +kernel
theorem dX4_readClause_143 : decode cX4_readClause 143 = .ok (.aload_n 0, 1) := by decide +kernel
theorem dX4_readClause_144 : decode cX4_readClause 144 = .ok (.invokevirtual 83, 3) := by decide +kernel
theorem dX4_readClause_147 : decode cX4_readClause 147 = .ok (.return_, 1) := by decide +kernel
theorem dX4_isOneTooMany_0 : decode cX4_isOneTooMany 0 = .ok (.iload_n 2, 1) := by decide +kernel
theorem dX4_isOneTooMany_1 : decode cX4_isOneTooMany 1 = .ok (.bipush 40, 2) := by decide +kernel
theorem dX4_isOneTooMany_3 : decode cX4_isOneTooMany 3 = .ok (.if_icmp .ge 73, 3) := by decide +kernel
theorem dX4_isOneTooMany_6 : decode cX4_isOneTooMany 6 = .ok (.iload_n 1, 1) := by decide +kernel
theorem dX4_isOneTooMany_7 : decode cX4_isOneTooMany 7 = .ok (.ifCond .ne 7, 3) := by decide +kernel
theorem dX4_isOneTooMany_10 : decode cX4_isOneTooMany 10 = .ok (.iconst 1, 1) := by decide +kernel
theorem dX4_isOneTooMany_11 : decode cX4_isOneTooMany 11 = .ok (.goto 4, 3) := by decide +kernel
theorem dX4_isOneTooMany_14 : decode cX4_isOneTooMany 14 = .ok (.iconst 0, 1) := by decide +kernel
theorem dX4_isOneTooMany_15 : decode cX4_isOneTooMany 15 = .ok (.iload_n 2, 1) := by decide +kernel
theorem dX4_isOneTooMany_16 : decode cX4_isOneTooMany 16 = .ok (.ifCond .ne 7, 3) := by decide +kernel
theorem dX4_isOneTooMany_19 : decode cX4_isOneTooMany 19 = .ok (.iconst 1, 1) := by decide +kernel
theorem dX4_isOneTooMany_20 : decode cX4_isOneTooMany 20 = .ok (.goto 4, 3) := by decide +kernel
theorem dX4_isOneTooMany_23 : decode cX4_isOneTooMany 23 = .ok (.iconst 0, 1) := by decide +kernel
theorem dX4_isOneTooMany_24 : decode cX4_isOneTooMany 24 = .ok (.if_icmp .ne 52, 3) := by decide +kernel
theorem dX4_isOneTooMany_27 : decode cX4_isOneTooMany 27 = .ok (.iload_n 1, 1) := by decide +kernel
theorem dX4_isOneTooMany_28 : decode cX4_isOneTooMany 28 = .ok (.iconst 1, 1) := by decide +kernel
theorem dX4_isOneTooMany_29 : decode cX4_isOneTooMany 29 = .ok (.if_icmp .ne 14, 3) := by decide +kernel
theorem dX4_isOneTooMany_32 : decode cX4_isOneTooMany 32 = .ok (.aload_n 0, 1) := by decide +kernel
theorem dX4_isOneTooMany_33 : decode cX4_isOneTooMany 33 = .ok (.getfield 12, 3) := by decide +kernel
theorem dX4_isOneTooMany_36 : decode cX4_isOneTooMany 36 = .ok (.getfield 86, 3) := by decide +kernel
theorem dX4_isOneTooMany_39 : decode cX4_isOneTooMany 39 = .ok (.iconst 4, 1) := by decide +kernel
theorem dX4_isOneTooMany_40 : decode cX4_isOneTooMany 40 = .ok (.if_icmp .ge 36, 3) := by decide +kernel
theorem dX4_isOneTooMany_43 : decode cX4_isOneTooMany 43 = .ok (.iload_n 1, 1) := by decide +kernel
theorem dX4_isOneTooMany_44 : decode cX4_isOneTooMany 44 = .ok (.iconst 2, 1) := by decide +kernel
theorem dX4_isOneTooMany_45 : decode cX4_isOneTooMany 45 = .ok (.if_icmp .ne 14, 3) := by decide +kernel
theorem dX4_isOneTooMany_48 : decode cX4_isOneTooMany 48 = .ok (.aload_n 0, 1) := by decide +kernel
theorem dX4_isOneTooMany_49 : decode cX4_isOneTooMany 49 = .ok (.getfield 12, 3) := by decide +kernel
theorem dX4_isOneTooMany_52 : decode cX4_isOneTooMany 52 = .ok (.getfield 89, 3) := by decide +kernel
theorem dX4_isOneTooMany_55 : decode cX4_isOneTooMany 55 = .ok (.iconst 4, 1) := by decide +kernel
theorem dX4_isOneTooMany_56 : decode cX4_isOneTooMany 56 = .ok (.if_icmp .ge 20, 3) := by decide +kernel
theorem dX4_isOneTooMany_59 : decode cX4_isOneTooMany 59 = .ok (.iload_n 1, 1) := by decide +kernel
theorem dX4_isOneTooMany_60 : decode cX4_isOneTooMany 60 = .ok (.iconst 4, 1) := by decide +kernel
theorem dX4_isOneTooMany_61 : decode cX4_isOneTooMany 61 = .ok (.if_icmp .ne 19, 3) := by decide +kernel
theorem dX4_isOneTooMany_64 : decode cX4_isOneTooMany 64 = .ok (.aload_n 0, 1) := by decide +kernel
theorem dX4_isOneTooMany_65 : decode cX4_isOneTooMany 65 = .ok (.getfield 12, 3) := by decide +kernel
theorem dX4_isOneTooMany_68 : decode cX4_isOneTooMany 68 = .ok (.getfield 92, 3) := by decide +kernel
theorem dX4_isOneTooMany_71 : decode cX4_isOneTooMany 71 = .ok (.bipush 7, 2) := by decide +kernel
theorem dX4_isOneTooMany_73 : decode cX4_isOneTooMany 73 = .ok (.if_icmp .lt 7, 3) := by decide +kernel
theorem dX4_isOneTooMany_76 : decode cX4_isOneTooMany 76 = .ok (.iconst 1, 1) := by decide +kernel
theorem dX4_isOneTooMany_77 : decode cX4_isOneTooMany 77 = .ok (.goto 4, 3) := by decide +kernel
theorem dX4_isOneTooMany_80 : decode cX4_isOneTooMany 80 = .ok (.iconst 0, 1) := by decide +kernel
theorem dX4_isOneTooMany_81 : decode cX4_isOneTooMany 81 = .ok (.ireturn, 1) := by decide +kernel
theorem dX4_readSort_0 : decode cX4_readSort 0 = .ok (.aload_n 0, 1) := by decide +kernel
theorem dX4_readSort_1 : decode cX4_readSort 1 = .ok (.getfield 23, 3) := by decide +kernel
theorem dX4_readSort_4 : decode cX4_readSort 4 = .ok (.iconst 0, 1) := by decide +kernel
theorem dX4_readSort_5 : decode cX4_readSort 5 = .ok (.bipush 9, 2) := by decide +kernel
theorem dX4_readSort_7 : decode cX4_readSort 7 = .ok (.invokevirtual 64, 3) := by decide +kernel
theorem dX4_readSort_10 : decode cX4_readSort 10 = .ok (.istore_n 1, 1) := by decide +kernel
theorem dX4_readSort_11 : decode cX4_readSort 11 = .ok (.aload_n 0, 1) := by decide +kernel
theorem dX4_readSort_12 : decode cX4_readSort 12 = .ok (.getfield 23, 3) := by decide +kernel
theorem dX4_readSort_15 : decode cX4_readSort 15 = .ok (.iconst 0, 1) := by decide +kernel
theorem dX4_readSort_16 : decode cX4_readSort 16 = .ok (.bipush 9, 2) := by decide +kernel
theorem dX4_readSort_18 : decode cX4_readSort 18 = .ok (.invokevirtual 64, 3) := by decide +kernel
theorem dX4_readSort_21 : decode cX4_readSort 21 = .ok (.istore_n 2, 1) := by decide +kernel
theorem dX4_readSort_22 : decode cX4_readSort 22 = .ok (.aload_n 0, 1) := by decide +kernel
theorem dX4_readSort_23 : decode cX4_readSort 23 = .ok (.getfield 23, 3) := by decide +kernel
theorem dX4_readSort_26 : decode cX4_readSort 26 = .ok (.getfield 47, 3) := by decide +kernel
theorem dX4_readSort_29 : decode cX4_readSort 29 = .ok (.ifCond .ne 12, 3) := by decide +kernel
theorem dX4_readSort_32 : decode cX4_readSort 32 = .ok (.aload_n 0, 1) := by decide +kernel
theorem dX4_readSort_33 : decode cX4_readSort 33 = .ok (.getfield 12, 3) := by decide +kernel
theorem dX4_readSort_36 : decode cX4_readSort 36 = .ok (.iload_n 1, 1) := by decide +kernel
theorem dX4_readSort_37 : decode cX4_readSort 37 = .ok (.iload_n 2, 1) := by decide +kernel
theorem dX4_readSort_38 : decode cX4_readSort 38 = .ok (.invokevirtual 95, 3) := by decide +kernel
theorem dX4_readSort_41 : decode cX4_readSort 41 = .ok (.return_, 1) := by decide +kernel
theorem dX4_readSkill_0 : decode cX4_readSkill 0 = .ok (.aload_n 0, 1) := by decide +kernel
theorem dX4_readSkill_1 : decode cX4_readSkill 1 = .ok (.getfield 23, 3) := by decide +kernel
theorem dX4_readSkill_4 : decode cX4_readSkill 4 = .ok (.iconst 0, 1) := by decide +kernel
theorem dX4_readSkill_5 : decode cX4_readSkill 5 = .ok (.aload_n 0, 1) := by decide +kernel
theorem dX4_readSkill_6 : decode cX4_readSkill 6 = .ok (.getfield 12, 3) := by decide +kernel
theorem dX4_readSkill_9 : decode cX4_readSkill 9 = .ok (.getfield 89, 3) := by decide +kernel
theorem dX4_readSkill_12 : decode cX4_readSkill 12 = .ok (.iconst 1, 1) := by decide +kernel
theorem dX4_readSkill_13 : decode cX4_readSkill 13 = .ok (.isub, 1) := by decide +kernel
theorem dX4_readSkill_14 : decode cX4_readSkill 14 = .ok (.invokevirtual 64, 3) := by decide +kernel
theorem dX4_readSkill_17 : decode cX4_readSkill 17 = .ok (.istore_n 1, 1) := by decide +kernel
theorem dX4_readSkill_18 : decode cX4_readSkill 18 = .ok (.aload_n 0, 1) := by decide +kernel
theorem dX4_readSkill_19 : decode cX4_readSkill 19 = .ok (.getfield 23, 3) := by decide +kernel
theorem dX4_readSkill_22 : decode cX4_readSkill 22 = .ok (.iconst 0, 1) := by decide +kernel
theorem dX4_readSkill_23 : decode cX4_readSkill 23 = .ok (.aload_n 0, 1) := by decide +kernel
theorem dX4_readSkill_24 : decode cX4_readSkill 24 = .ok (.getfield 12, 3) := by decide +kernel
theorem dX4_readSkill_27 : decode cX4_readSkill 27 = .ok (.getfield 86, 3) := by decide +kernel
theorem dX4_readSkill_30 : decode cX4_readSkill 30 = .ok (.iconst 1, 1) := by decide +kernel
theorem dX4_readSkill_31 : decode cX4_readSkill 31 = .ok (.isub, 1) := by decide +kernel
theorem dX4_readSkill_32 : decode cX4_readSkill 32 = .ok (.invokevirtual 64, 3) := by decide +kernel
theorem dX4_readSkill_35 : decode cX4_readSkill 35 = .ok (.istore_n 2, 1) := by decide +kernel
theorem dX4_readSkill_36 : decode cX4_readSkill 36 = .ok (.aload_n 0, 1) := by decide +kernel
theorem dX4_readSkill_37 : decode cX4_readSkill 37 = .ok (.getfield 23, 3) := by decide +kernel
theorem dX4_readSkill_40 : decode cX4_readSkill 40 = .ok (.iconst 1, 1) := by decide +kernel
theorem dX4_readSkill_41 : decode cX4_readSkill 41 = .ok (.bipush 60, 2) := by decide +kernel
theorem dX4_readSkill_43 : decode cX4_readSkill 43 = .ok (.invokevirtual 64, 3) := by decide +kernel
theorem dX4_readSkill_46 : decode cX4_readSkill 46 = .ok (.istore_n 3, 1) := by decide +kernel
theorem dX4_readSkill_47 : decode cX4_readSkill 47 = .ok (.aload_n 0, 1) := by decide +kernel
theorem dX4_readSkill_48 : decode cX4_readSkill 48 = .ok (.getfield 23, 3) := by decide +kernel
theorem dX4_readSkill_51 : decode cX4_readSkill 51 = .ok (.getfield 47, 3) := by decide +kernel
theorem dX4_readSkill_54 : decode cX4_readSkill 54 = .ok (.ifCond .ne 13, 3) := by decide +kernel
theorem dX4_readSkill_57 : decode cX4_readSkill 57 = .ok (.aload_n 0, 1) := by decide +kernel
theorem dX4_readSkill_58 : decode cX4_readSkill 58 = .ok (.getfield 12, 3) := by decide +kernel
theorem dX4_readSkill_61 : decode cX4_readSkill 61 = .ok (.iload_n 1, 1) := by decide +kernel
theorem dX4_readSkill_62 : decode cX4_readSkill 62 = .ok (.iload_n 2, 1) := by decide +kernel
theorem dX4_readSkill_63 : decode cX4_readSkill 63 = .ok (.iload_n 3, 1) := by decide +kernel
theorem dX4_readSkill_64 : decode cX4_readSkill 64 = .ok (.invokevirtual 99, 3) := by decide +kernel
theorem dX4_readSkill_67 : decode cX4_readSkill 67 = .ok (.return_, 1) := by decide +kernel
theorem dX4_readThing_0 : decode cX4_readThing 0 = .ok (.aload_n 0, 1) := by decide +kernel
theorem dX4_readThing_1 : decode cX4_readThing 1 = .ok (.getfield 23, 3) := by decide +kernel
theorem dX4_readThing_4 : decode cX4_readThing 4 = .ok (.iconst 0, 1) := by decide +kernel
theorem dX4_readThing_5 : decode cX4_readThing 5 = .ok (.aload_n 0, 1) := by decide +kernel
theorem dX4_readThing_6 : decode cX4_readThing 6 = .ok (.getfield 12, 3) := by decide +kernel
theorem dX4_readThing_9 : decode cX4_readThing 9 = .ok (.getfield 86, 3) := by decide +kernel
theorem dX4_readThing_12 : decode cX4_readThing 12 = .ok (.iconst 1, 1) := by decide +kernel
theorem dX4_readThing_13 : decode cX4_readThing 13 = .ok (.isub, 1) := by decide +kernel
theorem dX4_readThing_14 : decode cX4_readThing 14 = .ok (.invokevirtual 64, 3) := by decide +kernel
theorem dX4_readThing_17 : decode cX4_readThing 17 = .ok (.istore_n 1, 1) := by decide +kernel
theorem dX4_readThing_18 : decode cX4_readThing 18 = .ok (.aload_n 0, 1) := by decide +kernel
theorem dX4_readThing_19 : decode cX4_readThing 19 = .ok (.getfield 23, 3) := by decide +kernel
theorem dX4_readThing_22 : decode cX4_readThing 22 = .ok (.iconst 0, 1) := by decide +kernel
theorem dX4_readThing_23 : decode cX4_readThing 23 = .ok (.sipush 299, 3) := by decide +kernel
theorem dX4_readThing_26 : decode cX4_readThing 26 = .ok (.invokevirtual 64, 3) := by decide +kernel
theorem dX4_readThing_29 : decode cX4_readThing 29 = .ok (.istore_n 2, 1) := by decide +kernel
theorem dX4_readThing_30 : decode cX4_readThing 30 = .ok (.aload_n 0, 1) := by decide +kernel
theorem dX4_readThing_31 : decode cX4_readThing 31 = .ok (.getfield 23, 3) := by decide +kernel
theorem dX4_readThing_34 : decode cX4_readThing 34 = .ok (.iconst 1, 1) := by decide +kernel
theorem dX4_readThing_35 : decode cX4_readThing 35 = .ok (.bipush 30, 2) := by decide +kernel
theorem dX4_readThing_37 : decode cX4_readThing 37 = .ok (.invokevirtual 64, 3) := by decide +kernel
theorem dX4_readThing_40 : decode cX4_readThing 40 = .ok (.istore_n 3, 1) := by decide +kernel
theorem dX4_readThing_41 : decode cX4_readThing 41 = .ok (.aload_n 0, 1) := by decide +kernel
theorem dX4_readThing_42 : decode cX4_readThing 42 = .ok (.getfield 23, 3) := by decide +kernel
theorem dX4_readThing_45 : decode cX4_readThing 45 = .ok (.iconst 0, 1) := by decide +kernel
theorem dX4_readThing_46 : decode cX4_readThing 46 = .ok (.iconst 1, 1) := by decide +kernel
theorem dX4_readThing_47 : decode cX4_readThing 47 = .ok (.invokevirtual 64, 3) := by decide +kernel
theorem dX4_readThing_50 : decode cX4_readThing 50 = .ok (.istore 4, 2) := by decide +kernel
theorem dX4_readThing_52 : decode cX4_readThing 52 = .ok (.aload_n 0, 1) := by decide +kernel
theorem dX4_readThing_53 : decode cX4_readThing 53 = .ok (.getfield 23, 3) := by decide +kernel
theorem dX4_readThing_56 : decode cX4_readThing 56 = .ok (.getfield 47, 3) := by decide +kernel
theorem dX4_readThing_59 : decode cX4_readThing 59 = .ok (.ifCond .ne 15, 3) := by decide +kernel
theorem dX4_readThing_62 : decode cX4_readThing 62 = .ok (.aload_n 0, 1) := by decide +kernel
theorem dX4_readThing_63 : decode cX4_readThing 63 = .ok (.getfield 12, 3) := by decide +kernel
theorem dX4_readThing_66 : decode cX4_readThing 66 = .ok (.iload_n 1, 1) := by decide +kernel
theorem dX4_readThing_67 : decode cX4_readThing 67 = .ok (.iload_n 2, 1) := by decide +kernel
theorem dX4_readThing_68 : decode cX4_readThing 68 = .ok (.iload_n 3, 1) := by decide +kernel
theorem dX4_readThing_69 : decode cX4_readThing 69 = .ok (.iload 4, 2) := by decide +kernel
theorem dX4_readThing_71 : decode cX4_readThing 71 = .ok (.invokevirtual 103, 3) := by decide +kernel
theorem dX4_readThing_74 : decode cX4_readThing 74 = .ok (.return_, 1) := by decide +kernel
theorem dX5_init_0 : decode cX5_init 0 = .ok (.aload_n 0, 1) := by decide +kernel
theorem dX5_init_1 : decode cX5_init 1 = .ok (.invokespecial 3, 3) := by decide +kernel
theorem dX5_init_4 : decode cX5_init 4 = .ok (.aload_n 0, 1) := by decide +kernel
theorem dX5_init_5 : decode cX5_init 5 = .ok (.bipush 12, 2) := by decide +kernel
theorem dX5_init_7 : decode cX5_init 7 = .ok (.newarray .long, 2) := by decide +kernel
theorem dX5_init_9 : decode cX5_init 9 = .ok (.putfield 11, 3) := by decide +kernel
theorem dX5_init_12 : decode cX5_init 12 = .ok (.aload_n 0, 1) := by decide +kernel
theorem dX5_init_13 : decode cX5_init 13 = .ok (.bipush 32, 2) := by decide +kernel
theorem dX5_init_15 : decode cX5_init 15 = .ok (.newarray .long, 2) := by decide +kernel
theorem dX5_init_17 : decode cX5_init 17 = .ok (.putfield 17, 3) := by decide +kernel
theorem dX5_init_20 : decode cX5_init 20 = .ok (.return_, 1) := by decide +kernel
theorem dX5_choose_0 : decode cX5_choose 0 = .ok (.iconst (-1), 1) := by decide +kernel
theorem dX5_choose_1 : decode cX5_choose 1 = .ok (.istore_n 3, 1) := by decide +kernel
theorem dX5_choose_2 : decode cX5_choose 2 = .ok (.lconst 0, 1) := by decide +kernel
theorem dX5_choose_3 : decode cX5_choose 3 = .ok (.lstore 4, 2) := by decide +kernel
theorem dX5_choose_5 : decode cX5_choose 5 = .ok (.aload_n 1, 1) := by decide +kernel
theorem dX5_choose_6 : decode cX5_choose 6 = .ok (.getfield 20, 3) := by decide +kernel
theorem dX5_choose_9 : decode cX5_choose 9 = .ok (.ifnull 9, 3) := by decide +kernel
theorem dX5_choose_12 : decode cX5_choose 12 = .ok (.aload_n 0, 1) := by decide +kernel
theorem dX5_choose_13 : decode cX5_choose 13 = .ok (.aload_n 1, 1) := by decide +kernel
theorem dX5_choose_14 : decode cX5_choose 14 = .ok (.iload_n 2, 1) := by decide +kernel
theorem dX5_choose_15 : decode cX5_choose 15 = .ok (.invokevirtual 26, 3) := by decide +kernel
theorem dX5_choose_18 : decode cX5_choose 18 = .ok (.iconst 0, 1) := by decide +kernel
theorem dX5_choose_19 : decode cX5_choose 19 = .ok (.istore 6, 2) := by decide +kernel
theorem dX5_choose_21 : decode cX5_choose 21 = .ok (.iload 6, 2) := by decide +kernel
theorem dX5_choose_23 : decode cX5_choose 23 = .ok (.aload_n 1, 1) := by decide +kernel
theorem dX5_choose_24 : decode cX5_choose 24 = .ok (.getfield 30, 3) := by decide +kernel
theorem dX5_choose_27 : decode cX5_choose 27 = .ok (.getfield 34, 3) := by decide +kernel
theorem dX5_choose_30 : decode cX5_choose 30 = .ok (.if_icmp .ge 83, 3) := by decide +kernel
theorem dX5_choose_33 : decode cX5_choose 33 = .ok (.aload_n 1, 1) := by decide +kernel
theorem dX5_choose_34 : decode cX5_choose 34 = .ok (.iload_n 2, 1) := by decide +kernel
theorem dX5_choose_35 : decode cX5_choose 35 = .ok (.iload 6, 2) := by decide +kernel
theorem dX5_choose_37 : decode cX5_choose 37 = .ok (.invokevirtual 40, 3) := by decide +kernel
theorem dX5_choose_40 : decode cX5_choose 40 = .ok (.ifCond .eq 67, 3) := by decide +kernel
theorem dX5_choose_43 : decode cX5_choose 43 = .ok (.sipush 1000, 3) := by decide +kernel
theorem dX5_choose_46 : decode cX5_choose 46 = .ok (.aload_n 1, 1) := by decide +kernel
theorem dX5_choose_47 : decode cX5_choose 47 = .ok (.getfield 30, 3) := by decide +kernel
theorem dX5_choose_50 : decode cX5_choose 50 = .ok (.getfield 44, 3) := by decide +kernel
theorem dX5_choose_53 : decode cX5_choose 53 = .ok (.iload 6, 2) := by decide +kernel
theorem dX5_choose_55 : decode cX5_choose 55 = .ok (.iaload, 1) := by decide +kernel
theorem dX5_choose_56 : decode cX5_choose 56 = .ok (.isub, 1) := by decide +kernel
theorem dX5_choose_57 : decode cX5_choose 57 = .ok (.i2l, 1) := by decide +kernel
theorem dX5_choose_58 : decode cX5_choose 58 = .ok (.lstore 7, 2) := by decide +kernel
theorem dX5_choose_60 : decode cX5_choose 60 = .ok (.aload_n 1, 1) := by decide +kernel
theorem dX5_choose_61 : decode cX5_choose 61 = .ok (.getfield 20, 3) := by decide +kernel
theorem dX5_choose_64 : decode cX5_choose 64 = .ok (.ifnull 28, 3) := by decide +kernel
theorem dX5_choose_67 : decode cX5_choose 67 = .ok (.aload_n 0, 1) := by decide +kernel
theorem dX5_choose_68 : decode cX5_choose 68 = .ok (.aload_n 1, 1) := by decide +kernel
theorem dX5_choose_69 : decode cX5_choose 69 = .ok (.iload_n 2, 1) := by decide +kernel
theorem dX5_choose_70 : decode cX5_choose 70 = .ok (.iload 6, 2) := by decide +kernel
theorem dX5_choose_72 : decode cX5_choose 72 = .ok (.invokevirtual 48, 3) := by decide +kernel
theorem dX5_choose_75 : decode cX5_choose 75 = .ok (.aload_n 1, 1) := by decide +kernel
theorem dX5_choose_76 : decode cX5_choose 76 = .ok (.getfield 20, 3) := by decide +kernel
theorem dX5_choose_79 : decode cX5_choose 79 = .ok (.aload_n 0, 1) := by decide +kernel
theorem dX5_choose_80 : decode cX5_choose 80 = .ok (.getfield 11, 3) := by decide +kernel
theorem dX5_choose_83 : decode cX5_choose 83 = .ok (.aload_n 0, 1) := by decide +kernel
theorem dX5_choose_84 : decode cX5_choose 84 = .ok (.getfield 17, 3) := by decide +kernel
theorem dX5_choose_87 : decode cX5_choose 87 = .ok (.invokevirtual 52, 3) := by decide +kernel
theorem dX5_choose_90 : decode cX5_choose 90 = .ok (.lstore 7, 2) := by decide +kernel
theorem dX5_choose_92 : decode cX5_choose 92 = .ok (.lload 7, 2) := by decide +kernel
theorem dX5_choose_94 : decode cX5_choose 94 = .ok (.lload 4, 2) := by decide +kernel
theorem dX5_choose_96 : decode cX5_choose 96 = .ok (.lcmp, 1) := by decide +kernel
theorem dX5_choose_97 : decode cX5_choose 97 = .ok (.ifCond .le 10, 3) := by decide +kernel
theorem dX5_choose_100 : decode cX5_choose 100 = .ok (.lload 7, 2) := by decide +kernel
theorem dX5_choose_102 : decode cX5_choose 102 = .ok (.lstore 4, 2) := by decide +kernel
theorem dX5_choose_104 : decode cX5_choose 104 = .ok (.iload 6, 2) := by decide +kernel
theorem dX5_choose_106 : decode cX5_choose 106 = .ok (.istore_n 3, 1) := by decide +kernel
theorem dX5_choose_107 : decode cX5_choose 107 = .ok (.iinc 6 1, 3) := by decide +kernel
theorem dX5_choose_110 : decode cX5_choose 110 = .ok (.goto (-89), 3) := by decide +kernel
theorem dX5_choose_113 : decode cX5_choose 113 = .ok (.iload_n 3, 1) := by decide +kernel
theorem dX5_choose_114 : decode cX5_choose 114 = .ok (.ireturn, 1) := by decide +kernel
theorem dX5_tellMender_0 : decode cX5_tellMender 0 = .ok (.iconst 0, 1) := by decide +kernel
theorem dX5_tellMender_1 : decode cX5_tellMender 1 = .ok (.istore_n 3, 1) := by decide +kernel
theorem dX5_tellMender_2 : decode cX5_tellMender 2 = .ok (.iconst 0, 1) := by decide +kernel
theorem dX5_tellMender_3 : decode cX5_tellMender 3 = .ok (.istore 4, 2) := by decide +kernel
theorem dX5_tellMender_5 : decode cX5_tellMender 5 = .ok (.iload 4, 2) := by decide +kernel
theorem dX5_tellMender_7 : decode cX5_tellMender 7 = .ok (.aload_n 1, 1) := by decide +kernel
theorem dX5_tellMender_8 : decode cX5_tellMender 8 = .ok (.getfield 30, 3) := by decide +kernel
theorem dX5_tellMender_11 : decode cX5_tellMender 11 = .ok (.getfield 56, 3) := by decide +kernel
theorem dX5_tellMender_14 : decode cX5_tellMender 14 = .ok (.if_icmp .ge 21, 3) := by decide +kernel
theorem dX5_tellMender_17 : decode cX5_tellMender 17 = .ok (.aload_n 1, 1) := by decide +kernel
theorem dX5_tellMender_18 : decode cX5_tellMender 18 = .ok (.iload 4, 2) := by decide +kernel
theorem dX5_tellMender_20 : decode cX5_tellMender 20 = .ok (.invokevirtual 59, 3) := by decide +kernel
theorem dX5_tellMender_23 : decode cX5_tellMender 23 = .ok (.ifCond .eq 6, 3) := by decide +kernel
theorem dX5_tellMender_26 : decode cX5_tellMender 26 = .ok (.iinc 3 1, 3) := by decide +kernel
theorem dX5_tellMender_29 : decode cX5_tellMender 29 = .ok (.iinc 4 1, 3) := by decide +kernel
theorem dX5_tellMender_32 : decode cX5_tellMender 32 = .ok (.goto (-27), 3) := by decide +kernel
theorem dX5_tellMender_35 : decode cX5_tellMender 35 = .ok (.iconst 0, 1) := by decide +kernel
theorem dX5_tellMender_36 : decode cX5_tellMender 36 = .ok (.istore 4, 2) := by decide +kernel
theorem dX5_tellMender_38 : decode cX5_tellMender 38 = .ok (.iconst 0, 1) := by decide +kernel
theorem dX5_tellMender_39 : decode cX5_tellMender 39 = .ok (.istore 5, 2) := by decide +kernel
theorem dX5_tellMender_41 : decode cX5_tellMender 41 = .ok (.iload 5, 2) := by decide +kernel
theorem dX5_tellMender_43 : decode cX5_tellMender 43 = .ok (.aload_n 1, 1) := by decide +kernel
theorem dX5_tellMender_44 : decode cX5_tellMender 44 = .ok (.getfield 30, 3) := by decide +kernel
theorem dX5_tellMender_47 : decode cX5_tellMender 47 = .ok (.getfield 63, 3) := by decide +kernel
theorem dX5_tellMender_50 : decode cX5_tellMender 50 = .ok (.if_icmp .ge 25, 3) := by decide +kernel
theorem dX5_tellMender_53 : decode cX5_tellMender 53 = .ok (.aload_n 1, 1) := by decide +kernel
theorem dX5_tellMender_54 : decode cX5_tellMender 54 = .ok (.getfield 30, 3) := by decide +kernel
theorem dX5_tellMender_57 : decode cX5_tellMender 57 = .ok (.iload_n 2, 1) := by decide +kernel
theorem dX5_tellMender_58 : decode cX5_tellMender 58 = .ok (.iload 5, 2) := by decide +kernel
theorem dX5_tellMender_60 : decode cX5_tellMender 60 = .ok (.invokevirtual 66, 3) := by decide +kernel
theorem dX5_tellMender_63 : decode cX5_tellMender 63 = .ok (.ifCond .le 6, 3) := by decide +kernel
theorem dX5_tellMender_66 : decode cX5_tellMender 66 = .ok (.iinc 4 1, 3) := by decide +kernel
theorem dX5_tellMender_69 : decode cX5_tellMender 69 = .ok (.iinc 5 1, 3) := by decide +kernel
theorem dX5_tellMender_72 : decode cX5_tellMender 72 = .ok (.goto (-31), 3) := by decide +kernel
theorem dX5_tellMender_75 : decode cX5_tellMender 75 = .ok (.aload_n 0, 1) := by decide +kernel
theorem dX5_tellMender_76 : decode cX5_tellMender 76 = .ok (.getfield 11, 3) := by decide +kernel
theorem dX5_tellMender_79 : decode cX5_tellMender 79 = .ok (.iconst 0, 1) := by decide +kernel
theorem dX5_tellMender_80 : decode cX5_tellMender 80 = .ok (.iload_n 2, 1) := by decide +kernel
theorem dX5_tellMender_81 : decode cX5_tellMender 81 = .ok (.i2l, 1) := by decide +kernel
theorem dX5_tellMender_82 : decode cX5_tellMender 82 = .ok (.lastore, 1) := by decide +kernel
theorem dX5_tellMender_83 : decode cX5_tellMender 83 = .ok (.aload_n 0, 1) := by decide +kernel
theorem dX5_tellMender_84 : decode cX5_tellMender 84 = .ok (.getfield 11, 3) := by decide +kernel
theorem dX5_tellMender_87 : decode cX5_tellMender 87 = .ok (.bipush 8, 2) := by decide +kernel
theorem dX5_tellMender_89 : decode cX5_tellMender 89 = .ok (.aload_n 1, 1) := by decide +kernel
theorem dX5_tellMender_90 : decode cX5_tellMender 90 = .ok (.iconst 1, 1) := by decide +kernel
theorem dX5_tellMender_91 : decode cX5_tellMender 91 = .ok (.invokevirtual 70, 3) := by decide +kernel
theorem dX5_tellMender_94 : decode cX5_tellMender 94 = .ok (.invokestatic 74, 3) := by decide +kernel
theorem dX5_tellMender_97 : decode cX5_tellMender 97 = .ok (.i2l, 1) := by decide +kernel
theorem dX5_tellMender_98 : decode cX5_tellMender 98 = .ok (.lastore, 1) := by decide +kernel
theorem dX5_tellMender_99 : decode cX5_tellMender 99 = .ok (.aload_n 0, 1) := by decide +kernel
theorem dX5_tellMender_100 : decode cX5_tellMender 100 = .ok (.getfield 11, 3) := by decide +kernel
theorem dX5_tellMender_103 : decode cX5_tellMender 103 = .ok (.bipush 9, 2) := by decide +kernel
theorem dX5_tellMender_105 : decode cX5_tellMender 105 = .ok (.aload_n 1, 1) := by decide +kernel
theorem dX5_tellMender_106 : decode cX5_tellMender 106 = .ok (.getfield 30, 3) := by decide +kernel
theorem dX5_tellMender_109 : decode cX5_tellMender 109 = .ok (.getfield 79, 3) := by decide +kernel
theorem dX5_tellMender_112 : decode cX5_tellMender 112 = .ok (.aload_n 1, 1) := by decide +kernel
theorem dX5_tellMender_113 : decode cX5_tellMender 113 = .ok (.getfield 82, 3) := by decide +kernel
theorem dX5_tellMender_116 : decode cX5_tellMender 116 = .ok (.iconst 0, 1) := by decide +kernel
theorem dX5_tellMender_117 : decode cX5_tellMender 117 = .ok (.iaload, 1) := by decide +kernel
theorem dX5_tellMender_118 : decode cX5_tellMender 118 = .ok (.isub, 1) := by decide +kernel
theorem dX5_tellMender_119 : decode cX5_tellMender 119 = .ok (.i2l, 1) := by decide +kernel
theorem dX5_tellMender_120 : decode cX5_tellMender 120 = .ok (.lastore, 1) := by decide +kernel
theorem dX5_tellMender_121 : decode cX5_tellMender 121 = .ok (.aload_n 0, 1) := by decide +kernel
theorem dX5_tellMender_122 : decode cX5_tellMender 122 = .ok (.getfield 11, 3) := by decide +kernel
theorem dX5_tellMender_125 : decode cX5_tellMender 125 = .ok (.bipush 10, 2) := by decide +kernel
theorem dX5_tellMender_127 : decode cX5_tellMender 127 = .ok (.iload_n 3, 1) := by decide +kernel
theorem dX5_tellMender_128 : decode cX5_tellMender 128 = .ok (.i2l, 1) := by decide +kernel
theorem dX5_tellMender_129 : decode cX5_tellMender 129 = .ok (.lastore, 1) := by decide +kernel
theorem dX5_tellMender_130 : decode cX5_tellMender 130 = .ok (.aload_n 0, 1) := by decide +kernel
theorem dX5_tellMender_131 : decode cX5_tellMender 131 = .ok (.getfield 11, 3) := by decide +kernel
theorem dX5_tellMender_134 : decode cX5_tellMender 134 = .ok (.bipush 11, 2) := by decide +kernel
theorem dX5_tellMender_136 : decode cX5_tellMender 136 = .ok (.iload 4, 2) := by decide +kernel
theorem dX5_tellMender_138 : decode cX5_tellMender 138 = .ok (.i2l, 1) := by decide +kernel
theorem dX5_tellMender_139 : decode cX5_tellMender 139 = .ok (.lastore, 1) := by decide +kernel
theorem dX5_tellMender_140 : decode cX5_tellMender 140 = .ok (.return_, 1) := by decide +kernel
theorem dX5_tellThing_0 : decode cX5_tellThing 0 = .ok (.aload_n 1, 1) := by decide +kernel
theorem dX5_tellThing_1 : decode cX5_tellThing 1 = .ok (.getfield 30, 3) := by decide +kernel
theorem dX5_tellThing_4 : decode cX5_tellThing 4 = .ok (.getfield 85, 3) := by decide +kernel
theorem dX5_tellThing_7 : decode cX5_tellThing 7 = .ok (.iload_n 3, 1) := by decide +kernel
theorem dX5_tellThing_8 : decode cX5_tellThing 8 = .ok (.iaload, 1) := by decide +kernel
theorem dX5_tellThing_9 : decode cX5_tellThing 9 = .ok (.istore 4, 2) := by decide +kernel
theorem dX5_tellThing_11 : decode cX5_tellThing 11 = .ok (.aload_n 0, 1) := by decide +kernel
theorem dX5_tellThing_12 : decode cX5_tellThing 12 = .ok (.getfield 11, 3) := by decide +kernel
theorem dX5_tellThing_15 : decode cX5_tellThing 15 = .ok (.iconst 1, 1) := by decide +kernel
theorem dX5_tellThing_16 : decode cX5_tellThing 16 = .ok (.iload_n 3, 1) := by decide +kernel
theorem dX5_tellThing_17 : decode cX5_tellThing 17 = .ok (.i2l, 1) := by decide +kernel
theorem dX5_tellThing_18 : decode cX5_tellThing 18 = .ok (.lastore, 1) := by decide +kernel
theorem dX5_tellThing_19 : decode cX5_tellThing 19 = .ok (.aload_n 0, 1) := by decide +kernel
theorem dX5_tellThing_20 : decode cX5_tellThing 20 = .ok (.getfield 11, 3) := by decide +kernel
theorem dX5_tellThing_23 : decode cX5_tellThing 23 = .ok (.iconst 2, 1) := by decide +kernel
theorem dX5_tellThing_24 : decode cX5_tellThing 24 = .ok (.iload 4, 2) := by decide +kernel
theorem dX5_tellThing_26 : decode cX5_tellThing 26 = .ok (.i2l, 1) := by decide +kernel
theorem dX5_tellThing_27 : decode cX5_tellThing 27 = .ok (.lastore, 1) := by decide +kernel
theorem dX5_tellThing_28 : decode cX5_tellThing 28 = .ok (.aload_n 0, 1) := by decide +kernel
theorem dX5_tellThing_29 : decode cX5_tellThing 29 = .ok (.getfield 11, 3) := by decide +kernel
theorem dX5_tellThing_32 : decode cX5_tellThing 32 = .ok (.iconst 3, 1) := by decide +kernel
theorem dX5_tellThing_33 : decode cX5_tellThing 33 = .ok (.aload_n 1, 1) := by decide +kernel
theorem dX5_tellThing_34 : decode cX5_tellThing 34 = .ok (.getfield 30, 3) := by decide +kernel
theorem dX5_tellThing_37 : decode cX5_tellThing 37 = .ok (.getfield 88, 3) := by decide +kernel
theorem dX5_tellThing_40 : decode cX5_tellThing 40 = .ok (.iload_n 3, 1) := by decide +kernel
theorem dX5_tellThing_41 : decode cX5_tellThing 41 = .ok (.iaload, 1) := by decide +kernel
theorem dX5_tellThing_42 : decode cX5_tellThing 42 = .ok (.i2l, 1) := by decide +kernel
theorem dX5_tellThing_43 : decode cX5_tellThing 43 = .ok (.lastore, 1) := by decide +kernel
theorem dX5_tellThing_44 : decode cX5_tellThing 44 = .ok (.aload_n 0, 1) := by decide +kernel
theorem dX5_tellThing_45 : decode cX5_tellThing 45 = .ok (.getfield 11, 3) := by decide +kernel
theorem dX5_tellThing_48 : decode cX5_tellThing 48 = .ok (.iconst 4, 1) := by decide +kernel
theorem dX5_tellThing_49 : decode cX5_tellThing 49 = .ok (.aload_n 1, 1) := by decide +kernel
theorem dX5_tellThing_50 : decode cX5_tellThing 50 = .ok (.getfield 82, 3) := by decide +kernel
theorem dX5_tellThing_53 : decode cX5_tellThing 53 = .ok (.iconst 0, 1) := by decide +kernel
theorem dX5_tellThing_54 : decode cX5_tellThing 54 = .ok (.iaload, 1) := by decide +kernel
theorem dX5_tellThing_55 : decode cX5_tellThing 55 = .ok (.aload_n 1, 1) := by decide +kernel
theorem dX5_tellThing_56 : decode cX5_tellThing 56 = .ok (.getfield 30, 3) := by decide +kernel
theorem dX5_tellThing_59 : decode cX5_tellThing 59 = .ok (.getfield 44, 3) := by decide +kernel
theorem dX5_tellThing_62 : decode cX5_tellThing 62 = .ok (.iload_n 3, 1) := by decide +kernel
theorem dX5_tellThing_63 : decode cX5_tellThing 63 = .ok (.iaload, 1) := by decide +kernel
theorem dX5_tellThing_64 : decode cX5_tellThing 64 = .ok (.isub, 1) := by decide +kernel
theorem dX5_tellThing_65 : decode cX5_tellThing 65 = .ok (.i2l, 1) := by decide +kernel
theorem dX5_tellThing_66 : decode cX5_tellThing 66 = .ok (.lastore, 1) := by decide +kernel
theorem dX5_tellThing_67 : decode cX5_tellThing 67 = .ok (.aload_n 0, 1) := by decide +kernel
theorem dX5_tellThing_68 : decode cX5_tellThing 68 = .ok (.getfield 11, 3) := by decide +kernel
theorem dX5_tellThing_71 : decode cX5_tellThing 71 = .ok (.iconst 5, 1) := by decide +kernel
theorem dX5_tellThing_72 : decode cX5_tellThing 72 = .ok (.aload_n 1, 1) := by decide +kernel
theorem dX5_tellThing_73 : decode cX5_tellThing 73 = .ok (.iload_n 2, 1) := by decide +kernel
theorem dX5_tellThing_74 : decode cX5_tellThing 74 = .ok (.iload_n 3, 1) := by decide +kernel
theorem dX5_tellThing_75 : decode cX5_tellThing 75 = .ok (.invokevirtual 91, 3) := by decide +kernel
theorem dX5_tellThing_78 : decode cX5_tellThing 78 = .ok (.i2l, 1) := by decide +kernel
theorem dX5_tellThing_79 : decode cX5_tellThing 79 = .ok (.lastore, 1) := by decide +kernel
theorem dX5_tellThing_80 : decode cX5_tellThing 80 = .ok (.aload_n 0, 1) := by decide +kernel
theorem dX5_tellThing_81 : decode cX5_tellThing 81 = .ok (.getfield 11, 3) := by decide +kernel
theorem dX5_tellThing_84 : decode cX5_tellThing 84 = .ok (.bipush 6, 2) := by decide +kernel
theorem dX5_tellThing_86 : decode cX5_tellThing 86 = .ok (.aload_n 1, 1) := by decide +kernel
theorem dX5_tellThing_87 : decode cX5_tellThing 87 = .ok (.getfield 30, 3) := by decide +kernel
theorem dX5_tellThing_90 : decode cX5_tellThing 90 = .ok (.getfield 94, 3) := by decide +kernel
theorem dX5_tellThing_93 : decode cX5_tellThing 93 = .ok (.iload_n 3, 1) := by decide +kernel
theorem dX5_tellThing_94 : decode cX5_tellThing 94 = .ok (.iaload, 1) := by decide +kernel
theorem dX5_tellThing_95 : decode cX5_tellThing 95 = .ok (.i2l, 1) := by decide +kernel
theorem dX5_tellThing_96 : decode cX5_tellThing 96 = .ok (.lastore, 1) := by decide +kernel
theorem dX5_tellThing_97 : decode cX5_tellThing 97 = .ok (.aload_n 0, 1) := by decide +kernel
theorem dX5_tellThing_98 : decode cX5_tellThing 98 = .ok (.getfield 11, 3) := by decide +kernel
theorem dX5_tellThing_101 : decode cX5_tellThing 101 = .ok (.bipush 7, 2) := by decide +kernel
theorem dX5_tellThing_103 : decode cX5_tellThing 103 = .ok (.aload_n 1, 1) := by decide +kernel
theorem dX5_tellThing_104 : decode cX5_tellThing 104 = .ok (.getfield 82, 3) := by decide +kernel
theorem dX5_tellThing_107 : decode cX5_tellThing 107 = .ok (.iconst 1, 1) := by decide +kernel
theorem dX5_tellThing_108 : decode cX5_tellThing 108 = .ok (.iload 4, 2) := by decide +kernel
theorem dX5_tellThing_110 : decode cX5_tellThing 110 = .ok (.iadd, 1) := by decide +kernel
theorem dX5_tellThing_111 : decode cX5_tellThing 111 = .ok (.iaload, 1) := by decide +kernel
theorem dX5_tellThing_112 : decode cX5_tellThing 112 = .ok (.i2l, 1) := by decide +kernel
theorem dX5_tellThing_113 : decode cX5_tellThing 113 = .ok (.lastore, 1) := by decide +kernel
theorem dX5_tellThing_114 : decode cX5_tellThing 114 = .ok (.return_, 1) := by decide +kernel
theorem dX6_init_0 : decode cX6_init 0 = .ok (.aload_n 0, 1) := by decide +kernel
theorem dX6_init_1 : decode cX6_init 1 = .ok (.invokespecial 3, 3) := by decide +kernel
theorem dX6_init_4 : decode cX6_init 4 = .ok (.aload_n 0, 1) := by decide +kernel
theorem dX6_init_5 : decode cX6_init 5 = .ok (.iconst 4, 1) := by decide +kernel
theorem dX6_init_6 : decode cX6_init 6 = .ok (.newarray .int, 2) := by decide +kernel
theorem dX6_init_8 : decode cX6_init 8 = .ok (.putfield 9, 3) := by decide +kernel
theorem dX6_init_11 : decode cX6_init 11 = .ok (.aload_n 0, 1) := by decide +kernel
theorem dX6_init_12 : decode cX6_init 12 = .ok (.iconst 4, 1) := by decide +kernel
theorem dX6_init_13 : decode cX6_init 13 = .ok (.newarray .int, 2) := by decide +kernel
theorem dX6_init_15 : decode cX6_init 15 = .ok (.putfield 15, 3) := by decide +kernel
theorem dX6_init_18 : decode cX6_init 18 = .ok (.aload_n 0, 1) := by decide +kernel
theorem dX6_init_19 : decode cX6_init 19 = .ok (.aload_n 1, 1) := by decide +kernel
theorem dX6_init_20 : decode cX6_init 20 = .ok (.putfield 18, 3) := by decide +kernel
theorem dX6_init_23 : decode cX6_init 23 = .ok (.return_, 1) := by decide +kernel
theorem dX6_search_0 : decode cX6_search 0 = .ok (.aload_n 0, 1) := by decide +kernel
theorem dX6_search_1 : decode cX6_search 1 = .ok (.iconst (-1), 1) := by decide +kernel
theorem dX6_search_2 : decode cX6_search 2 = .ok (.putfield 22, 3) := by decide +kernel
theorem dX6_search_5 : decode cX6_search 5 = .ok (.aload_n 0, 1) := by decide +kernel
theorem dX6_search_6 : decode cX6_search 6 = .ok (.iconst 0, 1) := by decide +kernel
theorem dX6_search_7 : decode cX6_search 7 = .ok (.iconst 0, 1) := by decide +kernel
theorem dX6_search_8 : decode cX6_search 8 = .ok (.iconst 0, 1) := by decide +kernel
theorem dX6_search_9 : decode cX6_search 9 = .ok (.invokevirtual 26, 3) := by decide +kernel
theorem dX6_search_12 : decode cX6_search 12 = .ok (.return_, 1) := by decide +kernel
theorem dX6_tryFrom_0 : decode cX6_tryFrom 0 = .ok (.iload_n 1, 1) := by decide +kernel
theorem dX6_tryFrom_1 : decode cX6_tryFrom 1 = .ok (.aload_n 0, 1) := by decide +kernel
theorem dX6_tryFrom_2 : decode cX6_tryFrom 2 = .ok (.getfield 18, 3) := by decide +kernel
theorem dX6_tryFrom_5 : decode cX6_tryFrom 5 = .ok (.getfield 30, 3) := by decide +kernel
theorem dX6_tryFrom_8 : decode cX6_tryFrom 8 = .ok (.getfield 36, 3) := by decide +kernel
theorem dX6_tryFrom_11 : decode cX6_tryFrom 11 = .ok (.if_icmp .ge 8, 3) := by decide +kernel
theorem dX6_tryFrom_14 : decode cX6_tryFrom 14 = .ok (.iload_n 1, 1) := by decide +kernel
theorem dX6_tryFrom_15 : decode cX6_tryFrom 15 = .ok (.iconst 4, 1) := by decide +kernel
theorem dX6_tryFrom_16 : decode cX6_tryFrom 16 = .ok (.if_icmp .lt 10, 3) := by decide +kernel
theorem dX6_tryFrom_19 : decode cX6_tryFrom 19 = .ok (.aload_n 0, 1) := by decide +kernel
theorem dX6_tryFrom_20 : decode cX6_tryFrom 20 = .ok (.iload_n 2, 1) := by decide +kernel
theorem dX6_tryFrom_21 : decode cX6_tryFrom 21 = .ok (.iload_n 3, 1) := by decide +kernel
theorem dX6_tryFrom_22 : decode cX6_tryFrom 22 = .ok (.invokevirtual 41, 3) := by decide +kernel
theorem dX6_tryFrom_25 : decode cX6_tryFrom 25 = .ok (.return_, 1) := by decide +kernel
theorem dX6_tryFrom_26 : decode cX6_tryFrom 26 = .ok (.aload_n 0, 1) := by decide +kernel
theorem dX6_tryFrom_27 : decode cX6_tryFrom 27 = .ok (.getfield 9, 3) := by decide +kernel
theorem dX6_tryFrom_30 : decode cX6_tryFrom 30 = .ok (.iload_n 1, 1) := by decide +kernel
theorem dX6_tryFrom_31 : decode cX6_tryFrom 31 = .ok (.iconst (-1), 1) := by decide +kernel
theorem dX6_tryFrom_32 : decode cX6_tryFrom 32 = .ok (.iastore, 1) := by decide +kernel
theorem dX6_tryFrom_33 : decode cX6_tryFrom 33 = .ok (.aload_n 0, 1) := by decide +kernel
theorem dX6_tryFrom_34 : decode cX6_tryFrom 34 = .ok (.iload_n 1, 1) := by decide +kernel
theorem dX6_tryFrom_35 : decode cX6_tryFrom 35 = .ok (.iconst 1, 1) := by decide +kernel
theorem dX6_tryFrom_36 : decode cX6_tryFrom 36 = .ok (.iadd, 1) := by decide +kernel
theorem dX6_tryFrom_37 : decode cX6_tryFrom 37 = .ok (.iload_n 2, 1) := by decide +kernel
theorem dX6_tryFrom_38 : decode cX6_tryFrom 38 = .ok (.iload_n 3, 1) := by decide +kernel
theorem dX6_tryFrom_39 : decode cX6_tryFrom 39 = .ok (.invokevirtual 26, 3) := by decide +kernel
theorem dX6_tryFrom_42 : decode cX6_tryFrom 42 = .ok (.aload_n 0, 1) := by decide +kernel
theorem dX6_tryFrom_43 : decode cX6_tryFrom 43 = .ok (.getfield 18, 3) := by decide +kernel
theorem dX6_tryFrom_46 : decode cX6_tryFrom 46 = .ok (.iload_n 1, 1) := by decide +kernel
theorem dX6_tryFrom_47 : decode cX6_tryFrom 47 = .ok (.invokevirtual 45, 3) := by decide +kernel
theorem dX6_tryFrom_50 : decode cX6_tryFrom 50 = .ok (.ifCond .ne 4, 3) := by decide +kernel
theorem dX6_tryFrom_53 : decode cX6_tryFrom 53 = .ok (.return_, 1) := by decide +kernel
theorem dX6_tryFrom_54 : decode cX6_tryFrom 54 = .ok (.iconst 0, 1) := by decide +kernel
theorem dX6_tryFrom_55 : decode cX6_tryFrom 55 = .ok (.istore 4, 2) := by decide +kernel
theorem dX6_tryFrom_57 : decode cX6_tryFrom 57 = .ok (.iload 4, 2) := by decide +kernel
theorem dX6_tryFrom_59 : decode cX6_tryFrom 59 = .ok (.aload_n 0, 1) := by decide +kernel
theorem dX6_tryFrom_60 : decode cX6_tryFrom 60 = .ok (.getfield 18, 3) := by decide +kernel
theorem dX6_tryFrom_63 : decode cX6_tryFrom 63 = .ok (.getfield 30, 3) := by decide +kernel
theorem dX6_tryFrom_66 : decode cX6_tryFrom 66 = .ok (.getfield 49, 3) := by decide +kernel
theorem dX6_tryFrom_69 : decode cX6_tryFrom 69 = .ok (.if_icmp .ge 122, 3) := by decide +kernel
theorem dX6_tryFrom_72 : decode cX6_tryFrom 72 = .ok (.aload_n 0, 1) := by decide +kernel
theorem dX6_tryFrom_73 : decode cX6_tryFrom 73 = .ok (.getfield 18, 3) := by decide +kernel
theorem dX6_tryFrom_76 : decode cX6_tryFrom 76 = .ok (.iload_n 1, 1) := by decide +kernel
theorem dX6_tryFrom_77 : decode cX6_tryFrom 77 = .ok (.iload 4, 2) := by decide +kernel
theorem dX6_tryFrom_79 : decode cX6_tryFrom 79 = .ok (.invokevirtual 52, 3) := by decide +kernel
theorem dX6_tryFrom_82 : decode cX6_tryFrom 82 = .ok (.ifCond .eq 103, 3) := by decide +kernel
theorem dX6_tryFrom_85 : decode cX6_tryFrom 85 = .ok (.aload_n 0, 1) := by decide +kernel
theorem dX6_tryFrom_86 : decode cX6_tryFrom 86 = .ok (.getfield 9, 3) := by decide +kernel
theorem dX6_tryFrom_89 : decode cX6_tryFrom 89 = .ok (.iload_n 1, 1) := by decide +kernel
theorem dX6_tryFrom_90 : decode cX6_tryFrom 90 = .ok (.iload 4, 2) := by decide +kernel
theorem dX6_tryFrom_92 : decode cX6_tryFrom 92 = .ok (.iastore, 1) := by decide +kernel
theorem dX6_tryFrom_93 : decode cX6_tryFrom 93 = .ok (.aload_n 0, 1) := by decide +kernel
theorem dX6_tryFrom_94 : decode cX6_tryFrom 94 = .ok (.getfield 18, 3) := by decide +kernel
theorem dX6_tryFrom_97 : decode cX6_tryFrom 97 = .ok (.iload_n 1, 1) := by decide +kernel
theorem dX6_tryFrom_98 : decode cX6_tryFrom 98 = .ok (.iload 4, 2) := by decide +kernel
theorem dX6_tryFrom_100 : decode cX6_tryFrom 100 = .ok (.invokevirtual 56, 3) := by decide +kernel
theorem dX6_tryFrom_103 : decode cX6_tryFrom 103 = .ok (.aload_n 0, 1) := by decide +kernel
theorem dX6_tryFrom_104 : decode cX6_tryFrom 104 = .ok (.iload_n 1, 1) := by decide +kernel
theorem dX6_tryFrom_105 : decode cX6_tryFrom 105 = .ok (.iconst 1, 1) := by decide +kernel
theorem dX6_tryFrom_106 : decode cX6_tryFrom 106 = .ok (.iadd, 1) := by decide +kernel
theorem dX6_tryFrom_107 : decode cX6_tryFrom 107 = .ok (.iload_n 2, 1) := by decide +kernel
theorem dX6_tryFrom_108 : decode cX6_tryFrom 108 = .ok (.aload_n 0, 1) := by decide +kernel
theorem dX6_tryFrom_109 : decode cX6_tryFrom 109 = .ok (.getfield 18, 3) := by decide +kernel
theorem dX6_tryFrom_112 : decode cX6_tryFrom 112 = .ok (.getfield 30, 3) := by decide +kernel
theorem dX6_tryFrom_115 : decode cX6_tryFrom 115 = .ok (.getfield 59, 3) := by decide +kernel
theorem dX6_tryFrom_118 : decode cX6_tryFrom 118 = .ok (.iload 4, 2) := by decide +kernel
theorem dX6_tryFrom_120 : decode cX6_tryFrom 120 = .ok (.iaload, 1) := by decide +kernel
theorem dX6_tryFrom_121 : decode cX6_tryFrom 121 = .ok (.iadd, 1) := by decide +kernel
theorem dX6_tryFrom_122 : decode cX6_tryFrom 122 = .ok (.iload_n 3, 1) := by decide +kernel
theorem dX6_tryFrom_123 : decode cX6_tryFrom 123 = .ok (.aload_n 0, 1) := by decide +kernel
theorem dX6_tryFrom_124 : decode cX6_tryFrom 124 = .ok (.getfield 18, 3) := by decide +kernel
theorem dX6_tryFrom_127 : decode cX6_tryFrom 127 = .ok (.iload_n 1, 1) := by decide +kernel
theorem dX6_tryFrom_128 : decode cX6_tryFrom 128 = .ok (.iload 4, 2) := by decide +kernel
theorem dX6_tryFrom_130 : decode cX6_tryFrom 130 = .ok (.invokevirtual 62, 3) := by decide +kernel
theorem dX6_tryFrom_133 : decode cX6_tryFrom 133 = .ok (.iadd, 1) := by decide +kernel
theorem dX6_tryFrom_134 : decode cX6_tryFrom 134 = .ok (.invokevirtual 26, 3) := by decide +kernel
theorem dX6_tryFrom_137 : decode cX6_tryFrom 137 = .ok (.aload_n 0, 1) := by decide +kernel
theorem dX6_tryFrom_138 : decode cX6_tryFrom 138 = .ok (.getfield 18, 3) := by decide +kernel
theorem dX6_tryFrom_141 : decode cX6_tryFrom 141 = .ok (.iload_n 1, 1) := by decide +kernel
theorem dX6_tryFrom_142 : decode cX6_tryFrom 142 = .ok (.invokevirtual 66, 3) := by decide +kernel
theorem dX6_tryFrom_145 : decode cX6_tryFrom 145 = .ok (.pop, 1) := by decide +kernel
theorem dX6_tryFrom_146 : decode cX6_tryFrom 146 = .ok (.aload_n 0, 1) := by decide +kernel
theorem dX6_tryFrom_147 : decode cX6_tryFrom 147 = .ok (.getfield 18, 3) := by decide +kernel
theorem dX6_tryFrom_150 : decode cX6_tryFrom 150 = .ok (.getfield 70, 3) := by decide +kernel
theorem dX6_tryFrom_153 : decode cX6_tryFrom 153 = .ok (.iconst 1, 1) := by decide +kernel
theorem dX6_tryFrom_154 : decode cX6_tryFrom 154 = .ok (.aload_n 0, 1) := by decide +kernel
theorem dX6_tryFrom_155 : decode cX6_tryFrom 155 = .ok (.getfield 18, 3) := by decide +kernel
theorem dX6_tryFrom_158 : decode cX6_tryFrom 158 = .ok (.getfield 30, 3) := by decide +kernel
theorem dX6_tryFrom_161 : decode cX6_tryFrom 161 = .ok (.getfield 73, 3) := by decide +kernel
theorem dX6_tryFrom_164 : decode cX6_tryFrom 164 = .ok (.iload 4, 2) := by decide +kernel
theorem dX6_tryFrom_166 : decode cX6_tryFrom 166 = .ok (.iaload, 1) := by decide +kernel
theorem dX6_tryFrom_167 : decode cX6_tryFrom 167 = .ok (.iadd, 1) := by decide +kernel
theorem dX6_tryFrom_168 : decode cX6_tryFrom 168 = .ok (.dup2, 1) := by decide +kernel
theorem dX6_tryFrom_169 : decode cX6_tryFrom 169 = .ok (.iaload, 1) := by decide +kernel
theorem dX6_tryFrom_170 : decode cX6_tryFrom 170 = .ok (.aload_n 0, 1) := by decide +kernel
theorem dX6_tryFrom_171 : decode cX6_tryFrom 171 = .ok (.getfield 18, 3) := by decide +kernel
theorem dX6_tryFrom_174 : decode cX6_tryFrom 174 = .ok (.getfield 30, 3) := by decide +kernel
theorem dX6_tryFrom_177 : decode cX6_tryFrom 177 = .ok (.getfield 76, 3) := by decide +kernel
theorem dX6_tryFrom_180 : decode cX6_tryFrom 180 = .ok (.iload 4, 2) := by decide +kernel
theorem dX6_tryFrom_182 : decode cX6_tryFrom 182 = .ok (.iaload, 1) := by decide +kernel
theorem dX6_tryFrom_183 : decode cX6_tryFrom 183 = .ok (.iadd, 1) := by decide +kernel
theorem dX6_tryFrom_184 : decode cX6_tryFrom 184 = .ok (.iastore, 1) := by decide +kernel
theorem dX6_tryFrom_185 : decode cX6_tryFrom 185 = .ok (.iinc 4 1, 3) := by decide +kernel
theorem dX6_tryFrom_188 : decode cX6_tryFrom 188 = .ok (.goto (-131), 3) := by decide +kernel
theorem dX6_tryFrom_191 : decode cX6_tryFrom 191 = .ok (.return_, 1) := by decide +kernel
theorem dX6_keepIfBetter_0 : decode cX6_keepIfBetter 0 = .ok (.iload_n 1, 1) := by decide +kernel
theorem dX6_keepIfBetter_1 : decode cX6_keepIfBetter 1 = .ok (.aload_n 0, 1) := by decide +kernel
theorem dX6_keepIfBetter_2 : decode cX6_keepIfBetter 2 = .ok (.getfield 22, 3) := by decide +kernel
theorem dX6_keepIfBetter_5 : decode cX6_keepIfBetter 5 = .ok (.if_icmp .gt 19, 3) := by decide +kernel
theorem dX6_keepIfBetter_8 : decode cX6_keepIfBetter 8 = .ok (.iload_n 1, 1) := by decide +kernel
theorem dX6_keepIfBetter_9 : decode cX6_keepIfBetter 9 = .ok (.aload_n 0, 1) := by decide +kernel
theorem dX6_keepIfBetter_10 : decode cX6_keepIfBetter 10 = .ok (.getfield 22, 3) := by decide +kernel
theorem dX6_keepIfBetter_13 : decode cX6_keepIfBetter 13 = .ok (.if_icmp .ne 35, 3) := by decide +kernel
theorem dX6_keepIfBetter_16 : decode cX6_keepIfBetter 16 = .ok (.iload_n 2, 1) := by decide +kernel
theorem dX6_keepIfBetter_17 : decode cX6_keepIfBetter 17 = .ok (.aload_n 0, 1) := by decide +kernel
theorem dX6_keepIfBetter_18 : decode cX6_keepIfBetter 18 = .ok (.getfield 79, 3) := by decide +kernel
theorem dX6_keepIfBetter_21 : decode cX6_keepIfBetter 21 = .ok (.if_icmp .ge 27, 3) := by decide +kernel
theorem dX6_keepIfBetter_24 : decode cX6_keepIfBetter 24 = .ok (.aload_n 0, 1) := by decide +kernel
theorem dX6_keepIfBetter_25 : decode cX6_keepIfBetter 25 = .ok (.iload_n 1, 1) := by decide +kernel
theorem dX6_keepIfBetter_26 : decode cX6_keepIfBetter 26 = .ok (.putfield 22, 3) := by decide +kernel
theorem dX6_keepIfBetter_29 : decode cX6_keepIfBetter 29 = .ok (.aload_n 0, 1) := by decide +kernel
theorem dX6_keepIfBetter_30 : decode cX6_keepIfBetter 30 = .ok (.iload_n 2, 1) := by decide +kernel
theorem dX6_keepIfBetter_31 : decode cX6_keepIfBetter 31 = .ok (.putfield 79, 3) := by decide +kernel
theorem dX6_keepIfBetter_34 : decode cX6_keepIfBetter 34 = .ok (.aload_n 0, 1) := by decide +kernel
theorem dX6_keepIfBetter_35 : decode cX6_keepIfBetter 35 = .ok (.getfield 9, 3) := by decide +kernel
theorem dX6_keepIfBetter_38 : decode cX6_keepIfBetter 38 = .ok (.iconst 0, 1) := by decide +kernel
theorem dX6_keepIfBetter_39 : decode cX6_keepIfBetter 39 = .ok (.aload_n 0, 1) := by decide +kernel
theorem dX6_keepIfBetter_40 : decode cX6_keepIfBetter 40 = .ok (.getfield 15, 3) := by decide +kernel
theorem dX6_keepIfBetter_43 : decode cX6_keepIfBetter 43 = .ok (.iconst 0, 1) := by decide +kernel
theorem dX6_keepIfBetter_44 : decode cX6_keepIfBetter 44 = .ok (.iconst 4, 1) := by decide +kernel
theorem dX6_keepIfBetter_45 : decode cX6_keepIfBetter 45 = .ok (.invokestatic 82, 3) := by decide +kernel
theorem dX6_keepIfBetter_48 : decode cX6_keepIfBetter 48 = .ok (.return_, 1) := by decide +kernel
theorem dX7_init_0 : decode cX7_init 0 = .ok (.aload_n 0, 1) := by decide +kernel
theorem dX7_init_1 : decode cX7_init 1 = .ok (.invokespecial 3, 3) := by decide +kernel
theorem dX7_init_4 : decode cX7_init 4 = .ok (.aload_n 0, 1) := by decide +kernel
theorem dX7_init_5 : decode cX7_init 5 = .ok (.aload_n 1, 1) := by decide +kernel
theorem dX7_init_6 : decode cX7_init 6 = .ok (.putfield 9, 3) := by decide +kernel
theorem dX7_init_9 : decode cX7_init 9 = .ok (.return_, 1) := by decide +kernel
theorem dX7_start_0 : decode cX7_start 0 = .ok (.aload_n 0, 1) := by decide +kernel
theorem dX7_start_1 : decode cX7_start 1 = .ok (.iload_n 1, 1) := by decide +kernel
theorem dX7_start_2 : decode cX7_start 2 = .ok (.aload_n 0, 1) := by decide +kernel
theorem dX7_start_3 : decode cX7_start 3 = .ok (.getfield 9, 3) := by decide +kernel
theorem dX7_start_6 : decode cX7_start 6 = .ok (.arraylength, 1) := by decide +kernel
theorem dX7_start_7 : decode cX7_start 7 = .ok (.invokestatic 15, 3) := by decide +kernel
theorem dX7_start_10 : decode cX7_start 10 = .ok (.putfield 21, 3) := by decide +kernel
theorem dX7_start_13 : decode cX7_start 13 = .ok (.aload_n 0, 1) := by decide +kernel
theorem dX7_start_14 : decode cX7_start 14 = .ok (.iconst 0, 1) := by decide +kernel
theorem dX7_start_15 : decode cX7_start 15 = .ok (.putfield 25, 3) := by decide +kernel
theorem dX7_start_18 : decode cX7_start 18 = .ok (.aload_n 0, 1) := by decide +kernel
theorem dX7_start_19 : decode cX7_start 19 = .ok (.iconst 0, 1) := by decide +kernel
theorem dX7_start_20 : decode cX7_start 20 = .ok (.putfield 28, 3) := by decide +kernel
theorem dX7_start_23 : decode cX7_start 23 = .ok (.aload_n 0, 1) := by decide +kernel
theorem dX7_start_24 : decode cX7_start 24 = .ok (.invokevirtual 31, 3) := by decide +kernel
theorem dX7_start_27 : decode cX7_start 27 = .ok (.return_, 1) := by decide +kernel
theorem dX7_next_0 : decode cX7_next 0 = .ok (.aload_n 0, 1) := by decide +kernel
theorem dX7_next_1 : decode cX7_next 1 = .ok (.getfield 25, 3) := by decide +kernel
theorem dX7_next_4 : decode cX7_next 4 = .ok (.aload_n 0, 1) := by decide +kernel
theorem dX7_next_5 : decode cX7_next 5 = .ok (.getfield 21, 3) := by decide +kernel
theorem dX7_next_8 : decode cX7_next 8 = .ok (.if_icmp .ge 30, 3) := by decide +kernel
theorem dX7_next_11 : decode cX7_next 11 = .ok (.aload_n 0, 1) := by decide +kernel
theorem dX7_next_12 : decode cX7_next 12 = .ok (.getfield 9, 3) := by decide +kernel
theorem dX7_next_15 : decode cX7_next 15 = .ok (.aload_n 0, 1) := by decide +kernel
theorem dX7_next_16 : decode cX7_next 16 = .ok (.getfield 25, 3) := by decide +kernel
theorem dX7_next_19 : decode cX7_next 19 = .ok (.iaload, 1) := by decide +kernel
theorem dX7_next_20 : decode cX7_next 20 = .ok (.bipush 32, 2) := by decide +kernel
theorem dX7_next_22 : decode cX7_next 22 = .ok (.if_icmp .ne 16, 3) := by decide +kernel
theorem dX7_next_25 : decode cX7_next 25 = .ok (.aload_n 0, 1) := by decide +kernel
theorem dX7_next_26 : decode cX7_next 26 = .ok (.dup, 1) := by decide +kernel
theorem dX7_next_27 : decode cX7_next 27 = .ok (.getfield 25, 3) := by decide +kernel
theorem dX7_next_30 : decode cX7_next 30 = .ok (.iconst 1, 1) := by decide +kernel
theorem dX7_next_31 : decode cX7_next 31 = .ok (.iadd, 1) := by decide +kernel
theorem dX7_next_32 : decode cX7_next 32 = .ok (.putfield 25, 3) := by decide +kernel
theorem dX7_next_35 : decode cX7_next 35 = .ok (.goto (-35), 3) := by decide +kernel
theorem dX7_next_38 : decode cX7_next 38 = .ok (.aload_n 0, 1) := by decide +kernel
theorem dX7_next_39 : decode cX7_next 39 = .ok (.aload_n 0, 1) := by decide +kernel
theorem dX7_next_40 : decode cX7_next 40 = .ok (.getfield 25, 3) := by decide +kernel
theorem dX7_next_43 : decode cX7_next 43 = .ok (.putfield 34, 3) := by decide +kernel
theorem dX7_next_46 : decode cX7_next 46 = .ok (.aload_n 0, 1) := by decide +kernel
theorem dX7_next_47 : decode cX7_next 47 = .ok (.aload_n 0, 1) := by decide +kernel
theorem dX7_next_48 : decode cX7_next 48 = .ok (.getfield 25, 3) := by decide +kernel
theorem dX7_next_51 : decode cX7_next 51 = .ok (.aload_n 0, 1) := by decide +kernel
theorem dX7_next_52 : decode cX7_next 52 = .ok (.getfield 21, 3) := by decide +kernel
theorem dX7_next_55 : decode cX7_next 55 = .ok (.if_icmp .ge 15, 3) := by decide +kernel
theorem dX7_next_58 : decode cX7_next 58 = .ok (.aload_n 0, 1) := by decide +kernel
theorem dX7_next_59 : decode cX7_next 59 = .ok (.getfield 9, 3) := by decide +kernel
theorem dX7_next_62 : decode cX7_next 62 = .ok (.aload_n 0, 1) := by decide +kernel
theorem dX7_next_63 : decode cX7_next 63 = .ok (.getfield 25, 3) := by decide +kernel
theorem dX7_next_66 : decode cX7_next 66 = .ok (.iaload, 1) := by decide +kernel
theorem dX7_next_67 : decode cX7_next 67 = .ok (.goto 4, 3) := by decide +kernel
theorem dX7_next_70 : decode cX7_next 70 = .ok (.iconst 0, 1) := by decide +kernel
theorem dX7_next_71 : decode cX7_next 71 = .ok (.putfield 37, 3) := by decide +kernel
theorem dX7_next_74 : decode cX7_next 74 = .ok (.aload_n 0, 1) := by decide +kernel
theorem dX7_next_75 : decode cX7_next 75 = .ok (.iconst 0, 1) := by decide +kernel
theorem dX7_next_76 : decode cX7_next 76 = .ok (.putfield 40, 3) := by decide +kernel
theorem dX7_next_79 : decode cX7_next 79 = .ok (.aload_n 0, 1) := by decide +kernel
theorem dX7_next_80 : decode cX7_next 80 = .ok (.getfield 25, 3) := by decide +kernel
theorem dX7_next_83 : decode cX7_next 83 = .ok (.aload_n 0, 1) := by decide +kernel
theorem dX7_next_84 : decode cX7_next 84 = .ok (.getfield 21, 3) := by decide +kernel
theorem dX7_next_87 : decode cX7_next 87 = .ok (.if_icmp .lt 11, 3) := by decide +kernel
theorem dX7_next_90 : decode cX7_next 90 = .ok (.aload_n 0, 1) := by decide +kernel
theorem dX7_next_91 : decode cX7_next 91 = .ok (.iconst 0, 1) := by decide +kernel
theorem dX7_next_92 : decode cX7_next 92 = .ok (.putfield 43, 3) := by decide +kernel
theorem dX7_next_95 : decode cX7_next 95 = .ok (.goto 274, 3) := by decide +kernel
theorem dX7_next_98 : decode cX7_next 98 = .ok (.aload_n 0, 1) := by decide +kernel
theorem dX7_next_99 : decode cX7_next 99 = .ok (.getfield 37, 3) := by decide +kernel
theorem dX7_next_102 : decode cX7_next 102 = .ok (.bipush 97, 2) := by decide +kernel
theorem dX7_next_104 : decode cX7_next 104 = .ok (.if_icmp .lt 69, 3) := by decide +kernel
theorem dX7_next_107 : decode cX7_next 107 = .ok (.aload_n 0, 1) := by decide +kernel
theorem dX7_next_108 : decode cX7_next 108 = .ok (.getfield 37, 3) := by decide +kernel
theorem dX7_next_111 : decode cX7_next 111 = .ok (.bipush 122, 2) := by decide +kernel
theorem dX7_next_113 : decode cX7_next 113 = .ok (.if_icmp .gt 60, 3) := by decide +kernel
theorem dX7_next_116 : decode cX7_next 116 = .ok (.aload_n 0, 1) := by decide +kernel
theorem dX7_next_117 : decode cX7_next 117 = .ok (.iconst 1, 1) := by decide +kernel
theorem dX7_next_118 : decode cX7_next 118 = .ok (.putfield 43, 3) := by decide +kernel
theorem dX7_next_121 : decode cX7_next 121 = .ok (.aload_n 0, 1) := by decide +kernel
theorem dX7_next_122 : decode cX7_next 122 = .ok (.getfield 25, 3) := by decide +kernel
theorem dX7_next_125 : decode cX7_next 125 = .ok (.aload_n 0, 1) := by decide +kernel
theorem dX7_next_126 : decode cX7_next 126 = .ok (.getfield 21, 3) := by decide +kernel
theorem dX7_next_129 : decode cX7_next 129 = .ok (.if_icmp .ge 240, 3) := by decide +kernel
theorem dX7_next_132 : decode cX7_next 132 = .ok (.aload_n 0, 1) := by decide +kernel
theorem dX7_next_133 : decode cX7_next 133 = .ok (.getfield 9, 3) := by decide +kernel
theorem dX7_next_136 : decode cX7_next 136 = .ok (.aload_n 0, 1) := by decide +kernel
theorem dX7_next_137 : decode cX7_next 137 = .ok (.getfield 25, 3) := by decide +kernel
theorem dX7_next_140 : decode cX7_next 140 = .ok (.iaload, 1) := by decide +kernel
theorem dX7_next_141 : decode cX7_next 141 = .ok (.bipush 97, 2) := by decide +kernel
theorem dX7_next_143 : decode cX7_next 143 = .ok (.if_icmp .lt 226, 3) := by decide +kernel
theorem dX7_next_146 : decode cX7_next 146 = .ok (.aload_n 0, 1) := by decide +kernel
theorem dX7_next_147 : decode cX7_next 147 = .ok (.getfield 9, 3) := by decide +kernel
theorem dX7_next_150 : decode cX7_next 150 = .ok (.aload_n 0, 1) := by decide +kernel
theorem dX7_next_151 : decode cX7_next 151 = .ok (.getfield 25, 3) := by decide +kernel
theorem dX7_next_154 : decode cX7_next 154 = .ok (.iaload, 1) := by decide +kernel
theorem dX7_next_155 : decode cX7_next 155 = .ok (.bipush 122, 2) := by decide +kernel
theorem dX7_next_157 : decode cX7_next 157 = .ok (.if_icmp .gt 212, 3) := by decide +kernel
theorem dX7_next_160 : decode cX7_next 160 = .ok (.aload_n 0, 1) := by decide +kernel
theorem dX7_next_161 : decode cX7_next 161 = .ok (.dup, 1) := by decide +kernel
theorem dX7_next_162 : decode cX7_next 162 = .ok (.getfield 25, 3) := by decide +kernel
theorem dX7_next_165 : decode cX7_next 165 = .ok (.iconst 1, 1) := by decide +kernel
theorem dX7_next_166 : decode cX7_next 166 = .ok (.iadd, 1) := by decide +kernel
theorem dX7_next_167 : decode cX7_next 167 = .ok (.putfield 25, 3) := by decide +kernel
theorem dX7_next_170 : decode cX7_next 170 = .ok (.goto (-49), 3) := by decide +kernel
theorem dX7_next_173 : decode cX7_next 173 = .ok (.aload_n 0, 1) := by decide +kernel
theorem dX7_next_174 : decode cX7_next 174 = .ok (.getfield 37, 3) := by decide +kernel
theorem dX7_next_177 : decode cX7_next 177 = .ok (.bipush 48, 2) := by decide +kernel
theorem dX7_next_179 : decode cX7_next 179 = .ok (.if_icmp .lt 110, 3) := by decide +kernel
theorem dX7_next_182 : decode cX7_next 182 = .ok (.aload_n 0, 1) := by decide +kernel
theorem dX7_next_183 : decode cX7_next 183 = .ok (.getfield 37, 3) := by decide +kernel
theorem dX7_next_186 : decode cX7_next 186 = .ok (.bipush 57, 2) := by decide +kernel
theorem dX7_next_188 : decode cX7_next 188 = .ok (.if_icmp .gt 101, 3) := by decide +kernel
theorem dX7_next_191 : decode cX7_next 191 = .ok (.aload_n 0, 1) := by decide +kernel
theorem dX7_next_192 : decode cX7_next 192 = .ok (.iconst 2, 1) := by decide +kernel
theorem dX7_next_193 : decode cX7_next 193 = .ok (.putfield 43, 3) := by decide +kernel
theorem dX7_next_196 : decode cX7_next 196 = .ok (.aload_n 0, 1) := by decide +kernel
theorem dX7_next_197 : decode cX7_next 197 = .ok (.getfield 25, 3) := by decide +kernel
theorem dX7_next_200 : decode cX7_next 200 = .ok (.aload_n 0, 1) := by decide +kernel
theorem dX7_next_201 : decode cX7_next 201 = .ok (.getfield 21, 3) := by decide +kernel
theorem dX7_next_204 : decode cX7_next 204 = .ok (.if_icmp .ge 165, 3) := by decide +kernel
theorem dX7_next_207 : decode cX7_next 207 = .ok (.aload_n 0, 1) := by decide +kernel
theorem dX7_next_208 : decode cX7_next 208 = .ok (.getfield 9, 3) := by decide +kernel
theorem dX7_next_211 : decode cX7_next 211 = .ok (.aload_n 0, 1) := by decide +kernel
theorem dX7_next_212 : decode cX7_next 212 = .ok (.getfield 25, 3) := by decide +kernel
theorem dX7_next_215 : decode cX7_next 215 = .ok (.iaload, 1) := by decide +kernel
theorem dX7_next_216 : decode cX7_next 216 = .ok (.bipush 48, 2) := by decide +kernel
theorem dX7_next_218 : decode cX7_next 218 = .ok (.if_icmp .lt 151, 3) := by decide +kernel
theorem dX7_next_221 : decode cX7_next 221 = .ok (.aload_n 0, 1) := by decide +kernel
theorem dX7_next_222 : decode cX7_next 222 = .ok (.getfield 9, 3) := by decide +kernel
theorem dX7_next_225 : decode cX7_next 225 = .ok (.aload_n 0, 1) := by decide +kernel
theorem dX7_next_226 : decode cX7_next 226 = .ok (.getfield 25, 3) := by decide +kernel
theorem dX7_next_229 : decode cX7_next 229 = .ok (.iaload, 1) := by decide +kernel
theorem dX7_next_230 : decode cX7_next 230 = .ok (.bipush 57, 2) := by decide +kernel
theorem dX7_next_232 : decode cX7_next 232 = .ok (.if_icmp .gt 137, 3) := by decide +kernel
theorem dX7_next_235 : decode cX7_next 235 = .ok (.aload_n 0, 1) := by decide +kernel
theorem dX7_next_236 : decode cX7_next 236 = .ok (.aload_n 0, 1) := by decide +kernel
theorem dX7_next_237 : decode cX7_next 237 = .ok (.getfield 25, 3) := by decide +kernel
theorem dX7_next_240 : decode cX7_next 240 = .ok (.aload_n 0, 1) := by decide +kernel
theorem dX7_next_241 : decode cX7_next 241 = .ok (.getfield 34, 3) := by decide +kernel
theorem dX7_next_244 : decode cX7_next 244 = .ok (.isub, 1) := by decide +kernel
theorem dX7_next_245 : decode cX7_next 245 = .ok (.iconst 5, 1) := by decide +kernel
theorem dX7_next_246 : decode cX7_next 246 = .ok (.if_icmp .ge 26, 3) := by decide +kernel
theorem dX7_next_249 : decode cX7_next 249 = .ok (.aload_n 0, 1) := by decide +kernel
theorem dX7_next_250 : decode cX7_next 250 = .ok (.getfield 40, 3) := by decide +kernel
theorem dX7_next_253 : decode cX7_next 253 = .ok (.bipush 10, 2) := by decide +kernel
theorem dX7_next_255 : decode cX7_next 255 = .ok (.imul, 1) := by decide +kernel
theorem dX7_next_256 : decode cX7_next 256 = .ok (.aload_n 0, 1) := by decide +kernel
theorem dX7_next_257 : decode cX7_next 257 = .ok (.getfield 9, 3) := by decide +kernel
theorem dX7_next_260 : decode cX7_next 260 = .ok (.aload_n 0, 1) := by decide +kernel
theorem dX7_next_261 : decode cX7_next 261 = .ok (.getfield 25, 3) := by decide +kernel
theorem dX7_next_264 : decode cX7_next 264 = .ok (.iaload, 1) := by decide +kernel
theorem dX7_next_265 : decode cX7_next 265 = .ok (.iadd, 1) := by decide +kernel
theorem dX7_next_266 : decode cX7_next 266 = .ok (.bipush 48, 2) := by decide +kernel
theorem dX7_next_268 : decode cX7_next 268 = .ok (.isub, 1) := by decide +kernel
theorem dX7_next_269 : decode cX7_next 269 = .ok (.goto 4, 3) := by decide +kernel
theorem dX7_next_272 : decode cX7_next 272 = .ok (.iconst (-1), 1) := by decide +kernel
theorem dX7_next_273 : decode cX7_next 273 = .ok (.putfield 40, 3) := by decide +kernel
theorem dX7_next_276 : decode cX7_next 276 = .ok (.aload_n 0, 1) := by decide +kernel
theorem dX7_next_277 : decode cX7_next 277 = .ok (.dup, 1) := by decide +kernel
theorem dX7_next_278 : decode cX7_next 278 = .ok (.getfield 25, 3) := by decide +kernel
theorem dX7_next_281 : decode cX7_next 281 = .ok (.iconst 1, 1) := by decide +kernel
theorem dX7_next_282 : decode cX7_next 282 = .ok (.iadd, 1) := by decide +kernel
theorem dX7_next_283 : decode cX7_next 283 = .ok (.putfield 25, 3) := by decide +kernel
theorem dX7_next_286 : decode cX7_next 286 = .ok (.goto (-90), 3) := by decide +kernel
theorem dX7_next_289 : decode cX7_next 289 = .ok (.aload_n 0, 1) := by decide +kernel
theorem dX7_next_290 : decode cX7_next 290 = .ok (.iconst 3, 1) := by decide +kernel
theorem dX7_next_291 : decode cX7_next 291 = .ok (.putfield 43, 3) := by decide +kernel
theorem dX7_next_294 : decode cX7_next 294 = .ok (.aload_n 0, 1) := by decide +kernel
theorem dX7_next_295 : decode cX7_next 295 = .ok (.dup, 1) := by decide +kernel
theorem dX7_next_296 : decode cX7_next 296 = .ok (.getfield 25, 3) := by decide +kernel
theorem dX7_next_299 : decode cX7_next 299 = .ok (.iconst 1, 1) := by decide +kernel
theorem dX7_next_300 : decode cX7_next 300 = .ok (.iadd, 1) := by decide +kernel
theorem dX7_next_301 : decode cX7_next 301 = .ok (.putfield 25, 3) := by decide +kernel
theorem dX7_next_304 : decode cX7_next 304 = .ok (.aload_n 0, 1) := by decide +kernel
theorem dX7_next_305 : decode cX7_next 305 = .ok (.getfield 37, 3) := by decide +kernel
theorem dX7_next_308 : decode cX7_next 308 = .ok (.bipush 60, 2) := by decide +kernel
theorem dX7_next_310 : decode cX7_next 310 = .ok (.if_icmp .eq 12, 3) := by decide +kernel
theorem dX7_next_313 : decode cX7_next 313 = .ok (.aload_n 0, 1) := by decide +kernel
theorem dX7_next_314 : decode cX7_next 314 = .ok (.getfield 37, 3) := by decide +kernel
theorem dX7_next_317 : decode cX7_next 317 = .ok (.bipush 62, 2) := by decide +kernel
theorem dX7_next_319 : decode cX7_next 319 = .ok (.if_icmp .ne 50, 3) := by decide +kernel
theorem dX7_next_322 : decode cX7_next 322 = .ok (.aload_n 0, 1) := by decide +kernel
theorem dX7_next_323 : decode cX7_next 323 = .ok (.getfield 25, 3) := by decide +kernel
theorem dX7_next_326 : decode cX7_next 326 = .ok (.aload_n 0, 1) := by decide +kernel
theorem dX7_next_327 : decode cX7_next 327 = .ok (.getfield 21, 3) := by decide +kernel
theorem dX7_next_330 : decode cX7_next 330 = .ok (.if_icmp .ge 39, 3) := by decide +kernel
theorem dX7_next_333 : decode cX7_next 333 = .ok (.aload_n 0, 1) := by decide +kernel
theorem dX7_next_334 : decode cX7_next 334 = .ok (.getfield 9, 3) := by decide +kernel
theorem dX7_next_337 : decode cX7_next 337 = .ok (.aload_n 0, 1) := by decide +kernel
theorem dX7_next_338 : decode cX7_next 338 = .ok (.getfield 25, 3) := by decide +kernel
theorem dX7_next_341 : decode cX7_next 341 = .ok (.iaload, 1) := by decide +kernel
theorem dX7_next_342 : decode cX7_next 342 = .ok (.bipush 61, 2) := by decide +kernel
theorem dX7_next_344 : decode cX7_next 344 = .ok (.if_icmp .ne 25, 3) := by decide +kernel
theorem dX7_next_347 : decode cX7_next 347 = .ok (.aload_n 0, 1) := by decide +kernel
theorem dX7_next_348 : decode cX7_next 348 = .ok (.dup, 1) := by decide +kernel
theorem dX7_next_349 : decode cX7_next 349 = .ok (.getfield 37, 3) := by decide +kernel
theorem dX7_next_352 : decode cX7_next 352 = .ok (.sipush 256, 3) := by decide +kernel
theorem dX7_next_355 : decode cX7_next 355 = .ok (.iadd, 1) := by decide +kernel
theorem dX7_next_356 : decode cX7_next 356 = .ok (.putfield 37, 3) := by decide +kernel
theorem dX7_next_359 : decode cX7_next 359 = .ok (.aload_n 0, 1) := by decide +kernel
theorem dX7_next_360 : decode cX7_next 360 = .ok (.dup, 1) := by decide +kernel
theorem dX7_next_361 : decode cX7_next 361 = .ok (.getfield 25, 3) := by decide +kernel
theorem dX7_next_364 : decode cX7_next 364 = .ok (.iconst 1, 1) := by decide +kernel
theorem dX7_next_365 : decode cX7_next 365 = .ok (.iadd, 1) := by decide +kernel
theorem dX7_next_366 : decode cX7_next 366 = .ok (.putfield 25, 3) := by decide +kernel
theorem dX7_next_369 : decode cX7_next 369 = .ok (.return_, 1) := by decide +kernel
theorem dX7_fail_0 : decode cX7_fail 0 = .ok (.aload_n 0, 1) := by decide +kernel
theorem dX7_fail_1 : decode cX7_fail 1 = .ok (.getfield 28, 3) := by decide +kernel
theorem dX7_fail_4 : decode cX7_fail 4 = .ok (.ifCond .ne 18, 3) := by decide +kernel
theorem dX7_fail_7 : decode cX7_fail 7 = .ok (.aload_n 0, 1) := by decide +kernel
theorem dX7_fail_8 : decode cX7_fail 8 = .ok (.iconst 1, 1) := by decide +kernel
theorem dX7_fail_9 : decode cX7_fail 9 = .ok (.bipush 8, 2) := by decide +kernel
theorem dX7_fail_11 : decode cX7_fail 11 = .ok (.aload_n 0, 1) := by decide +kernel
theorem dX7_fail_12 : decode cX7_fail 12 = .ok (.getfield 34, 3) := by decide +kernel
theorem dX7_fail_15 : decode cX7_fail 15 = .ok (.imul, 1) := by decide +kernel
theorem dX7_fail_16 : decode cX7_fail 16 = .ok (.iadd, 1) := by decide +kernel
theorem dX7_fail_17 : decode cX7_fail 17 = .ok (.iload_n 1, 1) := by decide +kernel
theorem dX7_fail_18 : decode cX7_fail 18 = .ok (.iadd, 1) := by decide +kernel
theorem dX7_fail_19 : decode cX7_fail 19 = .ok (.putfield 28, 3) := by decide +kernel
theorem dX7_fail_22 : decode cX7_fail 22 = .ok (.aload_n 0, 1) := by decide +kernel
theorem dX7_fail_23 : decode cX7_fail 23 = .ok (.aload_n 0, 1) := by decide +kernel
theorem dX7_fail_24 : decode cX7_fail 24 = .ok (.getfield 21, 3) := by decide +kernel
theorem dX7_fail_27 : decode cX7_fail 27 = .ok (.putfield 25, 3) := by decide +kernel
theorem dX7_fail_30 : decode cX7_fail 30 = .ok (.aload_n 0, 1) := by decide +kernel
theorem dX7_fail_31 : decode cX7_fail 31 = .ok (.iconst 4, 1) := by decide +kernel
theorem dX7_fail_32 : decode cX7_fail 32 = .ok (.putfield 43, 3) := by decide +kernel
theorem dX7_fail_35 : decode cX7_fail 35 = .ok (.return_, 1) := by decide +kernel
theorem dX7_expectEnd_0 : decode cX7_expectEnd 0 = .ok (.aload_n 0, 1) := by decide +kernel
theorem dX7_expectEnd_1 : decode cX7_expectEnd 1 = .ok (.getfield 43, 3) := by decide +kernel
theorem dX7_expectEnd_4 : decode cX7_expectEnd 4 = .ok (.ifCond .eq 8, 3) := by decide +kernel
theorem dX7_expectEnd_7 : decode cX7_expectEnd 7 = .ok (.aload_n 0, 1) := by decide +kernel
theorem dX7_expectEnd_8 : decode cX7_expectEnd 8 = .ok (.iconst 0, 1) := by decide +kernel
theorem dX7_expectEnd_9 : decode cX7_expectEnd 9 = .ok (.invokevirtual 46, 3) := by decide +kernel
theorem dX7_expectEnd_12 : decode cX7_expectEnd 12 = .ok (.return_, 1) := by decide +kernel
theorem dX7_isSign_0 : decode cX7_isSign 0 = .ok (.aload_n 0, 1) := by decide +kernel
theorem dX7_isSign_1 : decode cX7_isSign 1 = .ok (.getfield 43, 3) := by decide +kernel
theorem dX7_isSign_4 : decode cX7_isSign 4 = .ok (.iconst 3, 1) := by decide +kernel
theorem dX7_isSign_5 : decode cX7_isSign 5 = .ok (.if_icmp .ne 15, 3) := by decide +kernel
theorem dX7_isSign_8 : decode cX7_isSign 8 = .ok (.aload_n 0, 1) := by decide +kernel
theorem dX7_isSign_9 : decode cX7_isSign 9 = .ok (.getfield 37, 3) := by decide +kernel
theorem dX7_isSign_12 : decode cX7_isSign 12 = .ok (.iload_n 1, 1) := by decide +kernel
theorem dX7_isSign_13 : decode cX7_isSign 13 = .ok (.if_icmp .ne 7, 3) := by decide +kernel
theorem dX7_isSign_16 : decode cX7_isSign 16 = .ok (.iconst 1, 1) := by decide +kernel
theorem dX7_isSign_17 : decode cX7_isSign 17 = .ok (.goto 4, 3) := by decide +kernel
