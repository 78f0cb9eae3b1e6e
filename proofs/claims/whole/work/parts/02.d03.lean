theorem dX8_wear_35 : decode cX8_wear 35 = .ok (.ireturn, 1) := by decide +kernel
theorem dX8_kill_0 : decode cX8_kill 0 = .ok (.aload_n 0, 1) := by decide +kernel
theorem dX8_kill_1 : decode cX8_kill 1 = .ok (.iload_n 1, 1) := by decide +kernel
theorem dX8_kill_2 : decode cX8_kill 2 = .ok (.invokevirtual 76, 3) := by decide +kernel
theorem dX8_kill_5 : decode cX8_kill 5 = .ok (.ifCond .ne 5, 3) := by decide +kernel
theorem dX8_kill_8 : decode cX8_kill 8 = .ok (.iconst (-1), 1) := by decide +kernel
theorem dX8_kill_9 : decode cX8_kill 9 = .ok (.ireturn, 1) := by decide +kernel
theorem dX8_kill_10 : decode cX8_kill 10 = .ok (.iload_n 2, 1) := by decide +kernel
theorem dX8_kill_11 : decode cX8_kill 11 = .ok (.sipush 128, 3) := by decide +kernel
theorem dX8_kill_14 : decode cX8_kill 14 = .ok (.invokestatic 50, 3) := by decide +kernel
theorem dX8_kill_17 : decode cX8_kill 17 = .ok (.ifCond .eq 19, 3) := by decide +kernel
theorem dX8_kill_20 : decode cX8_kill 20 = .ok (.aload_n 0, 1) := by decide +kernel
theorem dX8_kill_21 : decode cX8_kill 21 = .ok (.getfield 20, 3) := by decide +kernel
theorem dX8_kill_24 : decode cX8_kill 24 = .ok (.getfield 80, 3) := by decide +kernel
theorem dX8_kill_27 : decode cX8_kill 27 = .ok (.iload_n 1, 1) := by decide +kernel
theorem dX8_kill_28 : decode cX8_kill 28 = .ok (.aaload, 1) := by decide +kernel
theorem dX8_kill_29 : decode cX8_kill 29 = .ok (.iload_n 2, 1) := by decide +kernel
theorem dX8_kill_30 : decode cX8_kill 30 = .ok (.invokevirtual 113, 3) := by decide +kernel
theorem dX8_kill_33 : decode cX8_kill 33 = .ok (.goto 5, 3) := by decide +kernel
theorem dX8_kill_36 : decode cX8_kill 36 = .ok (.bipush (-2), 2) := by decide +kernel
theorem dX8_kill_38 : decode cX8_kill 38 = .ok (.ireturn, 1) := by decide +kernel
theorem dX8_jam_0 : decode cX8_jam 0 = .ok (.aload_n 0, 1) := by decide +kernel
theorem dX8_jam_1 : decode cX8_jam 1 = .ok (.iload_n 1, 1) := by decide +kernel
theorem dX8_jam_2 : decode cX8_jam 2 = .ok (.invokevirtual 76, 3) := by decide +kernel
theorem dX8_jam_5 : decode cX8_jam 5 = .ok (.ifCond .ne 5, 3) := by decide +kernel
theorem dX8_jam_8 : decode cX8_jam 8 = .ok (.iconst (-1), 1) := by decide +kernel
theorem dX8_jam_9 : decode cX8_jam 9 = .ok (.ireturn, 1) := by decide +kernel
theorem dX8_jam_10 : decode cX8_jam 10 = .ok (.iload_n 2, 1) := by decide +kernel
theorem dX8_jam_11 : decode cX8_jam 11 = .ok (.sipush 128, 3) := by decide +kernel
theorem dX8_jam_14 : decode cX8_jam 14 = .ok (.invokestatic 50, 3) := by decide +kernel
theorem dX8_jam_17 : decode cX8_jam 17 = .ok (.ifCond .eq 19, 3) := by decide +kernel
theorem dX8_jam_20 : decode cX8_jam 20 = .ok (.aload_n 0, 1) := by decide +kernel
theorem dX8_jam_21 : decode cX8_jam 21 = .ok (.getfield 20, 3) := by decide +kernel
theorem dX8_jam_24 : decode cX8_jam 24 = .ok (.getfield 80, 3) := by decide +kernel
theorem dX8_jam_27 : decode cX8_jam 27 = .ok (.iload_n 1, 1) := by decide +kernel
theorem dX8_jam_28 : decode cX8_jam 28 = .ok (.aaload, 1) := by decide +kernel
theorem dX8_jam_29 : decode cX8_jam 29 = .ok (.iload_n 2, 1) := by decide +kernel
theorem dX8_jam_30 : decode cX8_jam 30 = .ok (.invokevirtual 116, 3) := by decide +kernel
theorem dX8_jam_33 : decode cX8_jam 33 = .ok (.goto 5, 3) := by decide +kernel
theorem dX8_jam_36 : decode cX8_jam 36 = .ok (.bipush (-2), 2) := by decide +kernel
theorem dX8_jam_38 : decode cX8_jam 38 = .ok (.ireturn, 1) := by decide +kernel
theorem dX8_burns_0 : decode cX8_burns 0 = .ok (.aload_n 0, 1) := by decide +kernel
theorem dX8_burns_1 : decode cX8_burns 1 = .ok (.iload_n 1, 1) := by decide +kernel
theorem dX8_burns_2 : decode cX8_burns 2 = .ok (.invokevirtual 76, 3) := by decide +kernel
theorem dX8_burns_5 : decode cX8_burns 5 = .ok (.ifCond .ne 5, 3) := by decide +kernel
theorem dX8_burns_8 : decode cX8_burns 8 = .ok (.iconst (-1), 1) := by decide +kernel
theorem dX8_burns_9 : decode cX8_burns 9 = .ok (.ireturn, 1) := by decide +kernel
theorem dX8_burns_10 : decode cX8_burns 10 = .ok (.iload_n 2, 1) := by decide +kernel
theorem dX8_burns_11 : decode cX8_burns 11 = .ok (.bipush 10, 2) := by decide +kernel
theorem dX8_burns_13 : decode cX8_burns 13 = .ok (.invokestatic 50, 3) := by decide +kernel
theorem dX8_burns_16 : decode cX8_burns 16 = .ok (.ifCond .eq 19, 3) := by decide +kernel
theorem dX8_burns_19 : decode cX8_burns 19 = .ok (.aload_n 0, 1) := by decide +kernel
theorem dX8_burns_20 : decode cX8_burns 20 = .ok (.getfield 20, 3) := by decide +kernel
theorem dX8_burns_23 : decode cX8_burns 23 = .ok (.getfield 80, 3) := by decide +kernel
theorem dX8_burns_26 : decode cX8_burns 26 = .ok (.iload_n 1, 1) := by decide +kernel
theorem dX8_burns_27 : decode cX8_burns 27 = .ok (.aaload, 1) := by decide +kernel
theorem dX8_burns_28 : decode cX8_burns 28 = .ok (.iload_n 2, 1) := by decide +kernel
theorem dX8_burns_29 : decode cX8_burns 29 = .ok (.invokevirtual 106, 3) := by decide +kernel
theorem dX8_burns_32 : decode cX8_burns 32 = .ok (.goto 5, 3) := by decide +kernel
theorem dX8_burns_35 : decode cX8_burns 35 = .ok (.bipush (-2), 2) := by decide +kernel
theorem dX8_burns_37 : decode cX8_burns 37 = .ok (.ireturn, 1) := by decide +kernel
theorem dX8_digits_0 : decode cX8_digits 0 = .ok (.aload_n 0, 1) := by decide +kernel
theorem dX8_digits_1 : decode cX8_digits 1 = .ok (.iload_n 1, 1) := by decide +kernel
theorem dX8_digits_2 : decode cX8_digits 2 = .ok (.invokevirtual 76, 3) := by decide +kernel
theorem dX8_digits_5 : decode cX8_digits 5 = .ok (.ifCond .ne 5, 3) := by decide +kernel
theorem dX8_digits_8 : decode cX8_digits 8 = .ok (.iconst (-1), 1) := by decide +kernel
theorem dX8_digits_9 : decode cX8_digits 9 = .ok (.ireturn, 1) := by decide +kernel
theorem dX8_digits_10 : decode cX8_digits 10 = .ok (.iload_n 2, 1) := by decide +kernel
theorem dX8_digits_11 : decode cX8_digits 11 = .ok (.sipush 128, 3) := by decide +kernel
theorem dX8_digits_14 : decode cX8_digits 14 = .ok (.invokestatic 50, 3) := by decide +kernel
theorem dX8_digits_17 : decode cX8_digits 17 = .ok (.ifCond .eq 19, 3) := by decide +kernel
theorem dX8_digits_20 : decode cX8_digits 20 = .ok (.aload_n 0, 1) := by decide +kernel
theorem dX8_digits_21 : decode cX8_digits 21 = .ok (.getfield 20, 3) := by decide +kernel
theorem dX8_digits_24 : decode cX8_digits 24 = .ok (.getfield 80, 3) := by decide +kernel
theorem dX8_digits_27 : decode cX8_digits 27 = .ok (.iload_n 1, 1) := by decide +kernel
theorem dX8_digits_28 : decode cX8_digits 28 = .ok (.aaload, 1) := by decide +kernel
theorem dX8_digits_29 : decode cX8_digits 29 = .ok (.iload_n 2, 1) := by decide +kernel
theorem dX8_digits_30 : decode cX8_digits 30 = .ok (.invokevirtual 119, 3) := by decide +kernel
theorem dX8_digits_33 : decode cX8_digits 33 = .ok (.goto 5, 3) := by decide +kernel
theorem dX8_digits_36 : decode cX8_digits 36 = .ok (.bipush (-2), 2) := by decide +kernel
theorem dX8_digits_38 : decode cX8_digits 38 = .ok (.ireturn, 1) := by decide +kernel
theorem dX8_bars_0 : decode cX8_bars 0 = .ok (.aload_n 0, 1) := by decide +kernel
theorem dX8_bars_1 : decode cX8_bars 1 = .ok (.getfield 20, 3) := by decide +kernel
theorem dX8_bars_4 : decode cX8_bars 4 = .ok (.invokevirtual 122, 3) := by decide +kernel
theorem dX8_bars_7 : decode cX8_bars 7 = .ok (.ifCond .eq 6, 3) := by decide +kernel
theorem dX8_bars_10 : decode cX8_bars 10 = .ok (.bipush (-3), 2) := by decide +kernel
theorem dX8_bars_12 : decode cX8_bars 12 = .ok (.ireturn, 1) := by decide +kernel
theorem dX8_bars_13 : decode cX8_bars 13 = .ok (.aload_n 0, 1) := by decide +kernel
theorem dX8_bars_14 : decode cX8_bars 14 = .ok (.getfield 20, 3) := by decide +kernel
theorem dX8_bars_17 : decode cX8_bars 17 = .ok (.iload_n 1, 1) := by decide +kernel
theorem dX8_bars_18 : decode cX8_bars 18 = .ok (.invokevirtual 126, 3) := by decide +kernel
theorem dX8_bars_21 : decode cX8_bars 21 = .ok (.ifCond .eq 14, 3) := by decide +kernel
theorem dX8_bars_24 : decode cX8_bars 24 = .ok (.aload_n 0, 1) := by decide +kernel
theorem dX8_bars_25 : decode cX8_bars 25 = .ok (.getfield 20, 3) := by decide +kernel
theorem dX8_bars_28 : decode cX8_bars 28 = .ok (.iload_n 1, 1) := by decide +kernel
theorem dX8_bars_29 : decode cX8_bars 29 = .ok (.invokevirtual 129, 3) := by decide +kernel
theorem dX8_bars_32 : decode cX8_bars 32 = .ok (.goto 5, 3) := by decide +kernel
theorem dX8_bars_35 : decode cX8_bars 35 = .ok (.bipush (-2), 2) := by decide +kernel
theorem dX8_bars_37 : decode cX8_bars 37 = .ok (.ireturn, 1) := by decide +kernel
theorem dX8_alike_0 : decode cX8_alike 0 = .ok (.aload_n 0, 1) := by decide +kernel
theorem dX8_alike_1 : decode cX8_alike 1 = .ok (.getfield 20, 3) := by decide +kernel
theorem dX8_alike_4 : decode cX8_alike 4 = .ok (.invokevirtual 122, 3) := by decide +kernel
theorem dX8_alike_7 : decode cX8_alike 7 = .ok (.ifCond .eq 6, 3) := by decide +kernel
theorem dX8_alike_10 : decode cX8_alike 10 = .ok (.bipush (-3), 2) := by decide +kernel
theorem dX8_alike_12 : decode cX8_alike 12 = .ok (.ireturn, 1) := by decide +kernel
theorem dX8_alike_13 : decode cX8_alike 13 = .ok (.aload_n 0, 1) := by decide +kernel
theorem dX8_alike_14 : decode cX8_alike 14 = .ok (.getfield 20, 3) := by decide +kernel
theorem dX8_alike_17 : decode cX8_alike 17 = .ok (.iload_n 1, 1) := by decide +kernel
theorem dX8_alike_18 : decode cX8_alike 18 = .ok (.invokevirtual 126, 3) := by decide +kernel
theorem dX8_alike_21 : decode cX8_alike 21 = .ok (.ifCond .eq 14, 3) := by decide +kernel
theorem dX8_alike_24 : decode cX8_alike 24 = .ok (.aload_n 0, 1) := by decide +kernel
theorem dX8_alike_25 : decode cX8_alike 25 = .ok (.getfield 20, 3) := by decide +kernel
theorem dX8_alike_28 : decode cX8_alike 28 = .ok (.iload_n 1, 1) := by decide +kernel
theorem dX8_alike_29 : decode cX8_alike 29 = .ok (.invokevirtual 132, 3) := by decide +kernel
theorem dX8_alike_32 : decode cX8_alike 32 = .ok (.goto 5, 3) := by decide +kernel
theorem dX8_alike_35 : decode cX8_alike 35 = .ok (.bipush (-2), 2) := by decide +kernel
theorem dX8_alike_37 : decode cX8_alike 37 = .ok (.ireturn, 1) := by decide +kernel
theorem dX8_which_0 : decode cX8_which 0 = .ok (.aload_n 0, 1) := by decide +kernel
theorem dX8_which_1 : decode cX8_which 1 = .ok (.getfield 20, 3) := by decide +kernel
theorem dX8_which_4 : decode cX8_which 4 = .ok (.invokevirtual 122, 3) := by decide +kernel
theorem dX8_which_7 : decode cX8_which 7 = .ok (.ifCond .eq 6, 3) := by decide +kernel
theorem dX8_which_10 : decode cX8_which 10 = .ok (.bipush (-3), 2) := by decide +kernel
theorem dX8_which_12 : decode cX8_which 12 = .ok (.ireturn, 1) := by decide +kernel
theorem dX8_which_13 : decode cX8_which 13 = .ok (.aload_n 0, 1) := by decide +kernel
theorem dX8_which_14 : decode cX8_which 14 = .ok (.getfield 20, 3) := by decide +kernel
theorem dX8_which_17 : decode cX8_which 17 = .ok (.iload_n 1, 1) := by decide +kernel
theorem dX8_which_18 : decode cX8_which 18 = .ok (.invokevirtual 126, 3) := by decide +kernel
theorem dX8_which_21 : decode cX8_which 21 = .ok (.ifCond .eq 25, 3) := by decide +kernel
theorem dX8_which_24 : decode cX8_which 24 = .ok (.iload_n 2, 1) := by decide +kernel
theorem dX8_which_25 : decode cX8_which 25 = .ok (.sipush 10000, 3) := by decide +kernel
theorem dX8_which_28 : decode cX8_which 28 = .ok (.invokestatic 50, 3) := by decide +kernel
theorem dX8_which_31 : decode cX8_which 31 = .ok (.ifCond .eq 15, 3) := by decide +kernel
theorem dX8_which_34 : decode cX8_which 34 = .ok (.aload_n 0, 1) := by decide +kernel
theorem dX8_which_35 : decode cX8_which 35 = .ok (.getfield 20, 3) := by decide +kernel
theorem dX8_which_38 : decode cX8_which 38 = .ok (.iload_n 1, 1) := by decide +kernel
theorem dX8_which_39 : decode cX8_which 39 = .ok (.iload_n 2, 1) := by decide +kernel
theorem dX8_which_40 : decode cX8_which 40 = .ok (.invokevirtual 135, 3) := by decide +kernel
theorem dX8_which_43 : decode cX8_which 43 = .ok (.goto 5, 3) := by decide +kernel
theorem dX8_which_46 : decode cX8_which 46 = .ok (.bipush (-2), 2) := by decide +kernel
theorem dX8_which_48 : decode cX8_which 48 = .ok (.ireturn, 1) := by decide +kernel
theorem dX8_flips_0 : decode cX8_flips 0 = .ok (.aload_n 0, 1) := by decide +kernel
theorem dX8_flips_1 : decode cX8_flips 1 = .ok (.getfield 20, 3) := by decide +kernel
theorem dX8_flips_4 : decode cX8_flips 4 = .ok (.invokevirtual 122, 3) := by decide +kernel
theorem dX8_flips_7 : decode cX8_flips 7 = .ok (.ifCond .eq 6, 3) := by decide +kernel
theorem dX8_flips_10 : decode cX8_flips 10 = .ok (.bipush (-3), 2) := by decide +kernel
theorem dX8_flips_12 : decode cX8_flips 12 = .ok (.ireturn, 1) := by decide +kernel
theorem dX8_flips_13 : decode cX8_flips 13 = .ok (.aload_n 0, 1) := by decide +kernel
theorem dX8_flips_14 : decode cX8_flips 14 = .ok (.getfield 20, 3) := by decide +kernel
theorem dX8_flips_17 : decode cX8_flips 17 = .ok (.iload_n 1, 1) := by decide +kernel
theorem dX8_flips_18 : decode cX8_flips 18 = .ok (.invokevirtual 126, 3) := by decide +kernel
theorem dX8_flips_21 : decode cX8_flips 21 = .ok (.ifCond .eq 26, 3) := by decide +kernel
theorem dX8_flips_24 : decode cX8_flips 24 = .ok (.aload_n 0, 1) := by decide +kernel
theorem dX8_flips_25 : decode cX8_flips 25 = .ok (.getfield 20, 3) := by decide +kernel
theorem dX8_flips_28 : decode cX8_flips 28 = .ok (.iload_n 2, 1) := by decide +kernel
theorem dX8_flips_29 : decode cX8_flips 29 = .ok (.invokevirtual 126, 3) := by decide +kernel
theorem dX8_flips_32 : decode cX8_flips 32 = .ok (.ifCond .eq 15, 3) := by decide +kernel
theorem dX8_flips_35 : decode cX8_flips 35 = .ok (.aload_n 0, 1) := by decide +kernel
theorem dX8_flips_36 : decode cX8_flips 36 = .ok (.getfield 20, 3) := by decide +kernel
theorem dX8_flips_39 : decode cX8_flips 39 = .ok (.iload_n 1, 1) := by decide +kernel
theorem dX8_flips_40 : decode cX8_flips 40 = .ok (.iload_n 2, 1) := by decide +kernel
theorem dX8_flips_41 : decode cX8_flips 41 = .ok (.invokevirtual 138, 3) := by decide +kernel
theorem dX8_flips_44 : decode cX8_flips 44 = .ok (.goto 5, 3) := by decide +kernel
theorem dX8_flips_47 : decode cX8_flips 47 = .ok (.bipush (-2), 2) := by decide +kernel
theorem dX8_flips_49 : decode cX8_flips 49 = .ok (.ireturn, 1) := by decide +kernel
theorem dX8_counting_0 : decode cX8_counting 0 = .ok (.aload_n 0, 1) := by decide +kernel
theorem dX8_counting_1 : decode cX8_counting 1 = .ok (.getfield 20, 3) := by decide +kernel
theorem dX8_counting_4 : decode cX8_counting 4 = .ok (.invokevirtual 122, 3) := by decide +kernel
theorem dX8_counting_7 : decode cX8_counting 7 = .ok (.ifCond .eq 6, 3) := by decide +kernel
theorem dX8_counting_10 : decode cX8_counting 10 = .ok (.bipush (-3), 2) := by decide +kernel
theorem dX8_counting_12 : decode cX8_counting 12 = .ok (.ireturn, 1) := by decide +kernel
theorem dX8_counting_13 : decode cX8_counting 13 = .ok (.aload_n 0, 1) := by decide +kernel
theorem dX8_counting_14 : decode cX8_counting 14 = .ok (.getfield 20, 3) := by decide +kernel
theorem dX8_counting_17 : decode cX8_counting 17 = .ok (.iload_n 1, 1) := by decide +kernel
theorem dX8_counting_18 : decode cX8_counting 18 = .ok (.invokevirtual 126, 3) := by decide +kernel
theorem dX8_counting_21 : decode cX8_counting 21 = .ok (.ifCond .eq 27, 3) := by decide +kernel
theorem dX8_counting_24 : decode cX8_counting 24 = .ok (.aload_n 0, 1) := by decide +kernel
theorem dX8_counting_25 : decode cX8_counting 25 = .ok (.getfield 20, 3) := by decide +kernel
theorem dX8_counting_28 : decode cX8_counting 28 = .ok (.iload_n 2, 1) := by decide +kernel
theorem dX8_counting_29 : decode cX8_counting 29 = .ok (.invokevirtual 126, 3) := by decide +kernel
theorem dX8_counting_32 : decode cX8_counting 32 = .ok (.ifCond .eq 16, 3) := by decide +kernel
theorem dX8_counting_35 : decode cX8_counting 35 = .ok (.iload_n 2, 1) := by decide +kernel
theorem dX8_counting_36 : decode cX8_counting 36 = .ok (.iload_n 1, 1) := by decide +kernel
theorem dX8_counting_37 : decode cX8_counting 37 = .ok (.if_icmp .lt 11, 3) := by decide +kernel
theorem dX8_counting_40 : decode cX8_counting 40 = .ok (.iload_n 3, 1) := by decide +kernel
theorem dX8_counting_41 : decode cX8_counting 41 = .ok (.iconst 3, 1) := by decide +kernel
theorem dX8_counting_42 : decode cX8_counting 42 = .ok (.invokestatic 50, 3) := by decide +kernel
theorem dX8_counting_45 : decode cX8_counting 45 = .ok (.ifCond .ne 6, 3) := by decide +kernel
theorem dX8_counting_48 : decode cX8_counting 48 = .ok (.bipush (-2), 2) := by decide +kernel
theorem dX8_counting_50 : decode cX8_counting 50 = .ok (.ireturn, 1) := by decide +kernel
theorem dX8_counting_51 : decode cX8_counting 51 = .ok (.iconst 0, 1) := by decide +kernel
theorem dX8_counting_52 : decode cX8_counting 52 = .ok (.istore 4, 2) := by decide +kernel
theorem dX8_counting_54 : decode cX8_counting 54 = .ok (.iconst 0, 1) := by decide +kernel
theorem dX8_counting_55 : decode cX8_counting 55 = .ok (.istore 5, 2) := by decide +kernel
theorem dX8_counting_57 : decode cX8_counting 57 = .ok (.iconst 0, 1) := by decide +kernel
theorem dX8_counting_58 : decode cX8_counting 58 = .ok (.istore 6, 2) := by decide +kernel
theorem dX8_counting_60 : decode cX8_counting 60 = .ok (.iload_n 1, 1) := by decide +kernel
theorem dX8_counting_61 : decode cX8_counting 61 = .ok (.istore 7, 2) := by decide +kernel
theorem dX8_counting_63 : decode cX8_counting 63 = .ok (.iload 7, 2) := by decide +kernel
theorem dX8_counting_65 : decode cX8_counting 65 = .ok (.iload_n 2, 1) := by decide +kernel
theorem dX8_counting_66 : decode cX8_counting 66 = .ok (.if_icmp .ge 51, 3) := by decide +kernel
theorem dX8_counting_69 : decode cX8_counting 69 = .ok (.aload_n 0, 1) := by decide +kernel
theorem dX8_counting_70 : decode cX8_counting 70 = .ok (.getfield 20, 3) := by decide +kernel
theorem dX8_counting_73 : decode cX8_counting 73 = .ok (.iload 7, 2) := by decide +kernel
theorem dX8_counting_75 : decode cX8_counting 75 = .ok (.invokevirtual 141, 3) := by decide +kernel
theorem dX8_counting_78 : decode cX8_counting 78 = .ok (.istore 8, 2) := by decide +kernel
theorem dX8_counting_80 : decode cX8_counting 80 = .ok (.iload 4, 2) := by decide +kernel
theorem dX8_counting_82 : decode cX8_counting 82 = .ok (.iload 8, 2) := by decide +kernel
theorem dX8_counting_84 : decode cX8_counting 84 = .ok (.ifCond .ne 7, 3) := by decide +kernel
theorem dX8_counting_87 : decode cX8_counting 87 = .ok (.iconst 1, 1) := by decide +kernel
theorem dX8_counting_88 : decode cX8_counting 88 = .ok (.goto 4, 3) := by decide +kernel
theorem dX8_counting_91 : decode cX8_counting 91 = .ok (.iconst 0, 1) := by decide +kernel
theorem dX8_counting_92 : decode cX8_counting 92 = .ok (.iadd, 1) := by decide +kernel
theorem dX8_counting_93 : decode cX8_counting 93 = .ok (.istore 4, 2) := by decide +kernel
theorem dX8_counting_95 : decode cX8_counting 95 = .ok (.iload 5, 2) := by decide +kernel
theorem dX8_counting_97 : decode cX8_counting 97 = .ok (.iload 8, 2) := by decide +kernel
theorem dX8_counting_99 : decode cX8_counting 99 = .ok (.iadd, 1) := by decide +kernel
theorem dX8_counting_100 : decode cX8_counting 100 = .ok (.istore 5, 2) := by decide +kernel
theorem dX8_counting_102 : decode cX8_counting 102 = .ok (.iload 6, 2) := by decide +kernel
theorem dX8_counting_104 : decode cX8_counting 104 = .ok (.iload 8, 2) := by decide +kernel
theorem dX8_counting_106 : decode cX8_counting 106 = .ok (.invokestatic 144, 3) := by decide +kernel
theorem dX8_counting_109 : decode cX8_counting 109 = .ok (.istore 6, 2) := by decide +kernel
theorem dX8_counting_111 : decode cX8_counting 111 = .ok (.iinc 7 1, 3) := by decide +kernel
theorem dX8_counting_114 : decode cX8_counting 114 = .ok (.goto (-51), 3) := by decide +kernel
theorem dX8_counting_117 : decode cX8_counting 117 = .ok (.iload_n 3, 1) := by decide +kernel
theorem dX8_counting_118 : decode cX8_counting 118 = .ok (.iload 4, 2) := by decide +kernel
theorem dX8_counting_120 : decode cX8_counting 120 = .ok (.iload 5, 2) := by decide +kernel
theorem dX8_counting_122 : decode cX8_counting 122 = .ok (.iload 6, 2) := by decide +kernel
theorem dX8_counting_124 : decode cX8_counting 124 = .ok (.invokestatic 149, 3) := by decide +kernel
theorem dX8_counting_127 : decode cX8_counting 127 = .ok (.ireturn, 1) := by decide +kernel
theorem dX8_near_0 : decode cX8_near 0 = .ok (.aload_n 0, 1) := by decide +kernel
theorem dX8_near_1 : decode cX8_near 1 = .ok (.getfield 20, 3) := by decide +kernel
theorem dX8_near_4 : decode cX8_near 4 = .ok (.invokevirtual 122, 3) := by decide +kernel
theorem dX8_near_7 : decode cX8_near 7 = .ok (.ifCond .eq 6, 3) := by decide +kernel
theorem dX8_near_10 : decode cX8_near 10 = .ok (.bipush (-3), 2) := by decide +kernel
theorem dX8_near_12 : decode cX8_near 12 = .ok (.ireturn, 1) := by decide +kernel
theorem dX8_near_13 : decode cX8_near 13 = .ok (.aload_n 0, 1) := by decide +kernel
theorem dX8_near_14 : decode cX8_near 14 = .ok (.getfield 20, 3) := by decide +kernel
theorem dX8_near_17 : decode cX8_near 17 = .ok (.iload_n 1, 1) := by decide +kernel
theorem dX8_near_18 : decode cX8_near 18 = .ok (.invokevirtual 126, 3) := by decide +kernel
theorem dX8_near_21 : decode cX8_near 21 = .ok (.ifCond .eq 11, 3) := by decide +kernel
theorem dX8_near_24 : decode cX8_near 24 = .ok (.iload_n 2, 1) := by decide +kernel
theorem dX8_near_25 : decode cX8_near 25 = .ok (.iconst 2, 1) := by decide +kernel
theorem dX8_near_26 : decode cX8_near 26 = .ok (.invokestatic 50, 3) := by decide +kernel
theorem dX8_near_29 : decode cX8_near 29 = .ok (.ifCond .ne 6, 3) := by decide +kernel
theorem dX8_near_32 : decode cX8_near 32 = .ok (.bipush (-2), 2) := by decide +kernel
theorem dX8_near_34 : decode cX8_near 34 = .ok (.ireturn, 1) := by decide +kernel
theorem dX8_near_35 : decode cX8_near 35 = .ok (.aload_n 0, 1) := by decide +kernel
theorem dX8_near_36 : decode cX8_near 36 = .ok (.getfield 20, 3) := by decide +kernel
theorem dX8_near_39 : decode cX8_near 39 = .ok (.iload_n 1, 1) := by decide +kernel
theorem dX8_near_40 : decode cX8_near 40 = .ok (.invokevirtual 153, 3) := by decide +kernel
theorem dX8_near_43 : decode cX8_near 43 = .ok (.istore_n 3, 1) := by decide +kernel
theorem dX8_near_44 : decode cX8_near 44 = .ok (.iload_n 2, 1) := by decide +kernel
theorem dX8_near_45 : decode cX8_near 45 = .ok (.ifCond .ne 15, 3) := by decide +kernel
theorem dX8_near_48 : decode cX8_near 48 = .ok (.aload_n 0, 1) := by decide +kernel
theorem dX8_near_49 : decode cX8_near 49 = .ok (.getfield 20, 3) := by decide +kernel
theorem dX8_near_52 : decode cX8_near 52 = .ok (.iload_n 1, 1) := by decide +kernel
theorem dX8_near_53 : decode cX8_near 53 = .ok (.iload_n 3, 1) := by decide +kernel
theorem dX8_near_54 : decode cX8_near 54 = .ok (.invokevirtual 138, 3) := by decide +kernel
theorem dX8_near_57 : decode cX8_near 57 = .ok (.goto 4, 3) := by decide +kernel
theorem dX8_near_60 : decode cX8_near 60 = .ok (.iload_n 3, 1) := by decide +kernel
theorem dX8_near_61 : decode cX8_near 61 = .ok (.ireturn, 1) := by decide +kernel
theorem dX8_pictures_0 : decode cX8_pictures 0 = .ok (.aload_n 0, 1) := by decide +kernel
theorem dX8_pictures_1 : decode cX8_pictures 1 = .ok (.getfield 20, 3) := by decide +kernel
theorem dX8_pictures_4 : decode cX8_pictures 4 = .ok (.invokevirtual 122, 3) := by decide +kernel
theorem dX8_pictures_7 : decode cX8_pictures 7 = .ok (.ifCond .eq 8, 3) := by decide +kernel
theorem dX8_pictures_10 : decode cX8_pictures 10 = .ok (.bipush (-3), 2) := by decide +kernel
theorem dX8_pictures_12 : decode cX8_pictures 12 = .ok (.goto 10, 3) := by decide +kernel
theorem dX8_pictures_15 : decode cX8_pictures 15 = .ok (.aload_n 0, 1) := by decide +kernel
theorem dX8_pictures_16 : decode cX8_pictures 16 = .ok (.getfield 20, 3) := by decide +kernel
theorem dX8_pictures_19 : decode cX8_pictures 19 = .ok (.invokevirtual 156, 3) := by decide +kernel
theorem dX8_pictures_22 : decode cX8_pictures 22 = .ok (.ireturn, 1) := by decide +kernel
theorem dX8_go_0 : decode cX8_go 0 = .ok (.aload_n 0, 1) := by decide +kernel
theorem dX8_go_1 : decode cX8_go 1 = .ok (.getfield 20, 3) := by decide +kernel
theorem dX8_go_4 : decode cX8_go 4 = .ok (.invokevirtual 122, 3) := by decide +kernel
theorem dX8_go_7 : decode cX8_go 7 = .ok (.ifCond .eq 6, 3) := by decide +kernel
theorem dX8_go_10 : decode cX8_go 10 = .ok (.bipush (-3), 2) := by decide +kernel
theorem dX8_go_12 : decode cX8_go 12 = .ok (.ireturn, 1) := by decide +kernel
theorem dX8_go_13 : decode cX8_go 13 = .ok (.iload_n 1, 1) := by decide +kernel
theorem dX8_go_14 : decode cX8_go 14 = .ok (.iconst 1, 1) := by decide +kernel
theorem dX8_go_15 : decode cX8_go 15 = .ok (.if_icmp .lt 10, 3) := by decide +kernel
theorem dX8_go_18 : decode cX8_go 18 = .ok (.iload_n 1, 1) := by decide +kernel
theorem dX8_go_19 : decode cX8_go 19 = .ok (.sipush 500, 3) := by decide +kernel
theorem dX8_go_22 : decode cX8_go 22 = .ok (.if_icmp .le 6, 3) := by decide +kernel
theorem dX8_go_25 : decode cX8_go 25 = .ok (.bipush (-2), 2) := by decide +kernel
theorem dX8_go_27 : decode cX8_go 27 = .ok (.ireturn, 1) := by decide +kernel
theorem dX8_go_28 : decode cX8_go 28 = .ok (.iconst 0, 1) := by decide +kernel
theorem dX8_go_29 : decode cX8_go 29 = .ok (.istore_n 2, 1) := by decide +kernel
theorem dX8_go_30 : decode cX8_go 30 = .ok (.iconst 0, 1) := by decide +kernel
theorem dX8_go_31 : decode cX8_go 31 = .ok (.istore_n 3, 1) := by decide +kernel
theorem dX8_go_32 : decode cX8_go 32 = .ok (.iload_n 3, 1) := by decide +kernel
theorem dX8_go_33 : decode cX8_go 33 = .ok (.iload_n 1, 1) := by decide +kernel
theorem dX8_go_34 : decode cX8_go 34 = .ok (.if_icmp .ge 19, 3) := by decide +kernel
theorem dX8_go_37 : decode cX8_go 37 = .ok (.iload_n 2, 1) := by decide +kernel
theorem dX8_go_38 : decode cX8_go 38 = .ok (.aload_n 0, 1) := by decide +kernel
theorem dX8_go_39 : decode cX8_go 39 = .ok (.getfield 20, 3) := by decide +kernel
theorem dX8_go_42 : decode cX8_go 42 = .ok (.invokevirtual 159, 3) := by decide +kernel
theorem dX8_go_45 : decode cX8_go 45 = .ok (.iadd, 1) := by decide +kernel
theorem dX8_go_46 : decode cX8_go 46 = .ok (.istore_n 2, 1) := by decide +kernel
theorem dX8_go_47 : decode cX8_go 47 = .ok (.iinc 3 1, 3) := by decide +kernel
theorem dX8_go_50 : decode cX8_go 50 = .ok (.goto (-18), 3) := by decide +kernel
theorem dX8_go_53 : decode cX8_go 53 = .ok (.iload_n 2, 1) := by decide +kernel
theorem dX8_go_54 : decode cX8_go 54 = .ok (.ireturn, 1) := by decide +kernel
theorem dX8_dies_0 : decode cX8_dies 0 = .ok (.aload_n 0, 1) := by decide +kernel
theorem dX8_dies_1 : decode cX8_dies 1 = .ok (.iload_n 1, 1) := by decide +kernel
theorem dX8_dies_2 : decode cX8_dies 2 = .ok (.invokevirtual 76, 3) := by decide +kernel
theorem dX8_dies_5 : decode cX8_dies 5 = .ok (.ifCond .eq 27, 3) := by decide +kernel
theorem dX8_dies_8 : decode cX8_dies 8 = .ok (.iload_n 2, 1) := by decide +kernel
theorem dX8_dies_9 : decode cX8_dies 9 = .ok (.bipush 7, 2) := by decide +kernel
theorem dX8_dies_11 : decode cX8_dies 11 = .ok (.invokestatic 50, 3) := by decide +kernel
theorem dX8_dies_14 : decode cX8_dies 14 = .ok (.ifCond .eq 18, 3) := by decide +kernel
theorem dX8_dies_17 : decode cX8_dies 17 = .ok (.aload_n 0, 1) := by decide +kernel
theorem dX8_dies_18 : decode cX8_dies 18 = .ok (.getfield 20, 3) := by decide +kernel
theorem dX8_dies_21 : decode cX8_dies 21 = .ok (.iload_n 1, 1) := by decide +kernel
theorem dX8_dies_22 : decode cX8_dies 22 = .ok (.iload_n 2, 1) := by decide +kernel
theorem dX8_dies_23 : decode cX8_dies 23 = .ok (.sipush 1000, 3) := by decide +kernel
theorem dX8_dies_26 : decode cX8_dies 26 = .ok (.invokevirtual 162, 3) := by decide +kernel
theorem dX8_dies_29 : decode cX8_dies 29 = .ok (.goto 4, 3) := by decide +kernel
theorem dX8_dies_32 : decode cX8_dies 32 = .ok (.iconst (-1), 1) := by decide +kernel
theorem dX8_dies_33 : decode cX8_dies 33 = .ok (.ireturn, 1) := by decide +kernel
theorem dX8_first_0 : decode cX8_first 0 = .ok (.iload_n 1, 1) := by decide +kernel
theorem dX8_first_1 : decode cX8_first 1 = .ok (.iconst 3, 1) := by decide +kernel
theorem dX8_first_2 : decode cX8_first 2 = .ok (.invokestatic 50, 3) := by decide +kernel
theorem dX8_first_5 : decode cX8_first 5 = .ok (.ifCond .ne 6, 3) := by decide +kernel
theorem dX8_first_8 : decode cX8_first 8 = .ok (.bipush (-2), 2) := by decide +kernel
theorem dX8_first_10 : decode cX8_first 10 = .ok (.ireturn, 1) := by decide +kernel
theorem dX8_first_11 : decode cX8_first 11 = .ok (.aload_n 0, 1) := by decide +kernel
theorem dX8_first_12 : decode cX8_first 12 = .ok (.getfield 20, 3) := by decide +kernel
theorem dX8_first_15 : decode cX8_first 15 = .ok (.invokevirtual 122, 3) := by decide +kernel
theorem dX8_first_18 : decode cX8_first 18 = .ok (.ifCond .eq 6, 3) := by decide +kernel
theorem dX8_first_21 : decode cX8_first 21 = .ok (.bipush (-3), 2) := by decide +kernel
theorem dX8_first_23 : decode cX8_first 23 = .ok (.ireturn, 1) := by decide +kernel
theorem dX8_first_24 : decode cX8_first 24 = .ok (.bipush (-9), 2) := by decide +kernel
theorem dX8_first_26 : decode cX8_first 26 = .ok (.istore_n 2, 1) := by decide +kernel
theorem dX8_first_27 : decode cX8_first 27 = .ok (.bipush (-9), 2) := by decide +kernel
theorem dX8_first_29 : decode cX8_first 29 = .ok (.istore_n 3, 1) := by decide +kernel
theorem dX8_first_30 : decode cX8_first 30 = .ok (.bipush (-9), 2) := by decide +kernel
theorem dX8_first_32 : decode cX8_first 32 = .ok (.istore 4, 2) := by decide +kernel
theorem dX8_first_34 : decode cX8_first 34 = .ok (.sipush 1000, 3) := by decide +kernel
theorem dX8_first_37 : decode cX8_first 37 = .ok (.istore 5, 2) := by decide +kernel
theorem dX8_first_39 : decode cX8_first 39 = .ok (.iconst 0, 1) := by decide +kernel
theorem dX8_first_40 : decode cX8_first 40 = .ok (.istore 6, 2) := by decide +kernel
theorem dX8_first_42 : decode cX8_first 42 = .ok (.iload 6, 2) := by decide +kernel
theorem dX8_first_44 : decode cX8_first 44 = .ok (.aload_n 0, 1) := by decide +kernel
theorem dX8_first_45 : decode cX8_first 45 = .ok (.getfield 20, 3) := by decide +kernel
theorem dX8_first_48 : decode cX8_first 48 = .ok (.getfield 75, 3) := by decide +kernel
theorem dX8_first_51 : decode cX8_first 51 = .ok (.if_icmp .ge 63, 3) := by decide +kernel
theorem dX8_first_54 : decode cX8_first 54 = .ok (.iconst 0, 1) := by decide +kernel
theorem dX8_first_55 : decode cX8_first 55 = .ok (.istore 7, 2) := by decide +kernel
theorem dX8_first_57 : decode cX8_first 57 = .ok (.iload 7, 2) := by decide +kernel
theorem dX8_first_59 : decode cX8_first 59 = .ok (.bipush 7, 2) := by decide +kernel
theorem dX8_first_61 : decode cX8_first 61 = .ok (.if_icmp .ge 47, 3) := by decide +kernel
theorem dX8_first_64 : decode cX8_first 64 = .ok (.aload_n 0, 1) := by decide +kernel
theorem dX8_first_65 : decode cX8_first 65 = .ok (.getfield 20, 3) := by decide +kernel
theorem dX8_first_68 : decode cX8_first 68 = .ok (.iload 6, 2) := by decide +kernel
theorem dX8_first_70 : decode cX8_first 70 = .ok (.iload 7, 2) := by decide +kernel
theorem dX8_first_72 : decode cX8_first 72 = .ok (.iload 5, 2) := by decide +kernel
theorem dX8_first_74 : decode cX8_first 74 = .ok (.invokevirtual 162, 3) := by decide +kernel
theorem dX8_first_77 : decode cX8_first 77 = .ok (.istore 8, 2) := by decide +kernel
theorem dX8_first_79 : decode cX8_first 79 = .ok (.iload 8, 2) := by decide +kernel
theorem dX8_first_81 : decode cX8_first 81 = .ok (.bipush (-9), 2) := by decide +kernel
theorem dX8_first_83 : decode cX8_first 83 = .ok (.if_icmp .eq 19, 3) := by decide +kernel
theorem dX8_first_86 : decode cX8_first 86 = .ok (.iload 6, 2) := by decide +kernel
theorem dX8_first_88 : decode cX8_first 88 = .ok (.istore_n 2, 1) := by decide +kernel
theorem dX8_first_89 : decode cX8_first 89 = .ok (.iload 7, 2) := by decide +kernel
theorem dX8_first_91 : decode cX8_first 91 = .ok (.istore_n 3, 1) := by decide +kernel
theorem dX8_first_92 : decode cX8_first 92 = .ok (.iload 8, 2) := by decide +kernel
theorem dX8_first_94 : decode cX8_first 94 = .ok (.istore 4, 2) := by decide +kernel
theorem dX8_first_96 : decode cX8_first 96 = .ok (.iload 8, 2) := by decide +kernel
theorem dX8_first_98 : decode cX8_first 98 = .ok (.iconst 1, 1) := by decide +kernel
theorem dX8_first_99 : decode cX8_first 99 = .ok (.isub, 1) := by decide +kernel
theorem dX8_first_100 : decode cX8_first 100 = .ok (.istore 5, 2) := by decide +kernel
theorem dX8_first_102 : decode cX8_first 102 = .ok (.iinc 7 1, 3) := by decide +kernel
theorem dX8_first_105 : decode cX8_first 105 = .ok (.goto (-48), 3) := by decide +kernel
theorem dX8_first_108 : decode cX8_first 108 = .ok (.iinc 6 1, 3) := by decide +kernel
theorem dX8_first_111 : decode cX8_first 111 = .ok (.goto (-69), 3) := by decide +kernel
theorem dX8_first_114 : decode cX8_first 114 = .ok (.iload_n 1, 1) := by decide +kernel
theorem dX8_first_115 : decode cX8_first 115 = .ok (.iload_n 2, 1) := by decide +kernel
theorem dX8_first_116 : decode cX8_first 116 = .ok (.iload_n 3, 1) := by decide +kernel
theorem dX8_first_117 : decode cX8_first 117 = .ok (.iload 4, 2) := by decide +kernel
theorem dX8_first_119 : decode cX8_first 119 = .ok (.invokestatic 149, 3) := by decide +kernel
theorem dX8_first_122 : decode cX8_first 122 = .ok (.ireturn, 1) := by decide +kernel
theorem dX8_seen_0 : decode cX8_seen 0 = .ok (.aload_n 0, 1) := by decide +kernel
theorem dX8_seen_1 : decode cX8_seen 1 = .ok (.iconst 0, 1) := by decide +kernel
theorem dX8_seen_2 : decode cX8_seen 2 = .ok (.putfield 46, 3) := by decide +kernel
theorem dX8_seen_5 : decode cX8_seen 5 = .ok (.iload_n 1, 1) := by decide +kernel
theorem dX8_seen_6 : decode cX8_seen 6 = .ok (.iconst 4, 1) := by decide +kernel
theorem dX8_seen_7 : decode cX8_seen 7 = .ok (.invokestatic 50, 3) := by decide +kernel
theorem dX8_seen_10 : decode cX8_seen 10 = .ok (.ifCond .ne 5, 3) := by decide +kernel
theorem dX8_seen_13 : decode cX8_seen 13 = .ok (.iconst (-1), 1) := by decide +kernel
theorem dX8_seen_14 : decode cX8_seen 14 = .ok (.ireturn, 1) := by decide +kernel
theorem dX8_seen_15 : decode cX8_seen 15 = .ok (.iload_n 2, 1) := by decide +kernel
theorem dX8_seen_16 : decode cX8_seen 16 = .ok (.iconst 3, 1) := by decide +kernel
theorem dX8_seen_17 : decode cX8_seen 17 = .ok (.invokestatic 50, 3) := by decide +kernel
theorem dX8_seen_20 : decode cX8_seen 20 = .ok (.ifCond .eq 32, 3) := by decide +kernel
theorem dX8_seen_23 : decode cX8_seen 23 = .ok (.iload 4, 2) := by decide +kernel
theorem dX8_seen_25 : decode cX8_seen 25 = .ok (.bipush 11, 2) := by decide +kernel
theorem dX8_seen_27 : decode cX8_seen 27 = .ok (.invokestatic 50, 3) := by decide +kernel
theorem dX8_seen_30 : decode cX8_seen 30 = .ok (.ifCond .eq 22, 3) := by decide +kernel
theorem dX8_seen_33 : decode cX8_seen 33 = .ok (.iload 5, 2) := by decide +kernel
theorem dX8_seen_35 : decode cX8_seen 35 = .ok (.bipush 100, 2) := by decide +kernel
theorem dX8_seen_37 : decode cX8_seen 37 = .ok (.invokestatic 50, 3) := by decide +kernel
theorem dX8_seen_40 : decode cX8_seen 40 = .ok (.ifCond .eq 12, 3) := by decide +kernel
theorem dX8_seen_43 : decode cX8_seen 43 = .ok (.iload 6, 2) := by decide +kernel
theorem dX8_seen_45 : decode cX8_seen 45 = .ok (.iconst 3, 1) := by decide +kernel
theorem dX8_seen_46 : decode cX8_seen 46 = .ok (.invokestatic 50, 3) := by decide +kernel
theorem dX8_seen_49 : decode cX8_seen 49 = .ok (.ifCond .ne 6, 3) := by decide +kernel
theorem dX8_seen_52 : decode cX8_seen 52 = .ok (.bipush (-2), 2) := by decide +kernel
theorem dX8_seen_54 : decode cX8_seen 54 = .ok (.ireturn, 1) := by decide +kernel
theorem dX8_seen_55 : decode cX8_seen 55 = .ok (.aload_n 0, 1) := by decide +kernel
theorem dX8_seen_56 : decode cX8_seen 56 = .ok (.getfield 20, 3) := by decide +kernel
theorem dX8_seen_59 : decode cX8_seen 59 = .ok (.invokevirtual 122, 3) := by decide +kernel
theorem dX8_seen_62 : decode cX8_seen 62 = .ok (.ifCond .eq 6, 3) := by decide +kernel
theorem dX8_seen_65 : decode cX8_seen 65 = .ok (.bipush (-3), 2) := by decide +kernel
theorem dX8_seen_67 : decode cX8_seen 67 = .ok (.ireturn, 1) := by decide +kernel
theorem dX8_seen_68 : decode cX8_seen 68 = .ok (.aload_n 0, 1) := by decide +kernel
theorem dX8_seen_69 : decode cX8_seen 69 = .ok (.getfield 13, 3) := by decide +kernel
theorem dX8_seen_72 : decode cX8_seen 72 = .ok (.iload_n 1, 1) := by decide +kernel
theorem dX8_seen_73 : decode cX8_seen 73 = .ok (.aaload, 1) := by decide +kernel
theorem dX8_seen_74 : decode cX8_seen 74 = .ok (.astore 7, 2) := by decide +kernel
theorem dX8_seen_76 : decode cX8_seen 76 = .ok (.aload 7, 2) := by decide +kernel
theorem dX8_seen_78 : decode cX8_seen 78 = .ok (.iload_n 2, 1) := by decide +kernel
theorem dX8_seen_79 : decode cX8_seen 79 = .ok (.iload_n 3, 1) := by decide +kernel
theorem dX8_seen_80 : decode cX8_seen 80 = .ok (.iload 4, 2) := by decide +kernel
theorem dX8_seen_82 : decode cX8_seen 82 = .ok (.aload_n 0, 1) := by decide +kernel
theorem dX8_seen_83 : decode cX8_seen 83 = .ok (.getfield 20, 3) := by decide +kernel
theorem dX8_seen_86 : decode cX8_seen 86 = .ok (.getfield 75, 3) := by decide +kernel
theorem dX8_seen_89 : decode cX8_seen 89 = .ok (.imul, 1) := by decide +kernel
theorem dX8_seen_90 : decode cX8_seen 90 = .ok (.invokevirtual 54, 3) := by decide +kernel
theorem dX8_seen_93 : decode cX8_seen 93 = .ok (.istore 8, 2) := by decide +kernel
theorem dX8_seen_95 : decode cX8_seen 95 = .ok (.iload 8, 2) := by decide +kernel
theorem dX8_seen_97 : decode cX8_seen 97 = .ok (.ifCond .eq 10, 3) := by decide +kernel
theorem dX8_seen_100 : decode cX8_seen 100 = .ok (.aload_n 0, 1) := by decide +kernel
theorem dX8_seen_101 : decode cX8_seen 101 = .ok (.iload 8, 2) := by decide +kernel
theorem dX8_seen_103 : decode cX8_seen 103 = .ok (.invokevirtual 58, 3) := by decide +kernel
theorem dX8_seen_106 : decode cX8_seen 106 = .ok (.ireturn, 1) := by decide +kernel
theorem dX8_seen_107 : decode cX8_seen 107 = .ok (.aload_n 0, 1) := by decide +kernel
theorem dX8_seen_108 : decode cX8_seen 108 = .ok (.getfield 34, 3) := by decide +kernel
theorem dX8_seen_111 : decode cX8_seen 111 = .ok (.aload_n 0, 1) := by decide +kernel
theorem dX8_seen_112 : decode cX8_seen 112 = .ok (.getfield 20, 3) := by decide +kernel
theorem dX8_seen_115 : decode cX8_seen 115 = .ok (.aload 7, 2) := by decide +kernel
theorem dX8_seen_117 : decode cX8_seen 117 = .ok (.iload_n 3, 1) := by decide +kernel
theorem dX8_seen_118 : decode cX8_seen 118 = .ok (.iload 4, 2) := by decide +kernel
theorem dX8_seen_120 : decode cX8_seen 120 = .ok (.invokevirtual 165, 3) := by decide +kernel
theorem dX8_seen_123 : decode cX8_seen 123 = .ok (.ifCond .ne 6, 3) := by decide +kernel
theorem dX8_seen_126 : decode cX8_seen 126 = .ok (.bipush (-2), 2) := by decide +kernel
theorem dX8_seen_128 : decode cX8_seen 128 = .ok (.ireturn, 1) := by decide +kernel
theorem dX8_seen_129 : decode cX8_seen 129 = .ok (.aload_n 0, 1) := by decide +kernel
theorem dX8_seen_130 : decode cX8_seen 130 = .ok (.getfield 34, 3) := by decide +kernel
theorem dX8_seen_133 : decode cX8_seen 133 = .ok (.aload_n 0, 1) := by decide +kernel
theorem dX8_seen_134 : decode cX8_seen 134 = .ok (.getfield 20, 3) := by decide +kernel
theorem dX8_seen_137 : decode cX8_seen 137 = .ok (.iload 5, 2) := by decide +kernel
theorem dX8_seen_139 : decode cX8_seen 139 = .ok (.iload 6, 2) := by decide +kernel
theorem dX8_seen_141 : decode cX8_seen 141 = .ok (.invokevirtual 168, 3) := by decide +kernel
theorem dX8_seen_144 : decode cX8_seen 144 = .ok (.ireturn, 1) := by decide +kernel
theorem dX8_repair_0 : decode cX8_repair 0 = .ok (.aload_n 0, 1) := by decide +kernel
theorem dX8_repair_1 : decode cX8_repair 1 = .ok (.iload_n 1, 1) := by decide +kernel
theorem dX8_repair_2 : decode cX8_repair 2 = .ok (.invokevirtual 76, 3) := by decide +kernel
theorem dX8_repair_5 : decode cX8_repair 5 = .ok (.ifCond .eq 18, 3) := by decide +kernel
theorem dX8_repair_8 : decode cX8_repair 8 = .ok (.aload_n 0, 1) := by decide +kernel
theorem dX8_repair_9 : decode cX8_repair 9 = .ok (.getfield 20, 3) := by decide +kernel
theorem dX8_repair_12 : decode cX8_repair 12 = .ok (.getfield 80, 3) := by decide +kernel
theorem dX8_repair_15 : decode cX8_repair 15 = .ok (.iload_n 1, 1) := by decide +kernel
theorem dX8_repair_16 : decode cX8_repair 16 = .ok (.aaload, 1) := by decide +kernel
theorem dX8_repair_17 : decode cX8_repair 17 = .ok (.invokevirtual 172, 3) := by decide +kernel
theorem dX8_repair_20 : decode cX8_repair 20 = .ok (.goto 4, 3) := by decide +kernel
theorem dX8_repair_23 : decode cX8_repair 23 = .ok (.iconst (-1), 1) := by decide +kernel
theorem dX8_repair_24 : decode cX8_repair 24 = .ok (.ireturn, 1) := by decide +kernel
theorem dX8_order_0 : decode cX8_order 0 = .ok (.aload_n 0, 1) := by decide +kernel
theorem dX8_order_1 : decode cX8_order 1 = .ok (.iconst 0, 1) := by decide +kernel
theorem dX8_order_2 : decode cX8_order 2 = .ok (.putfield 46, 3) := by decide +kernel
theorem dX8_order_5 : decode cX8_order 5 = .ok (.iload_n 1, 1) := by decide +kernel
theorem dX8_order_6 : decode cX8_order 6 = .ok (.iconst 4, 1) := by decide +kernel
theorem dX8_order_7 : decode cX8_order 7 = .ok (.invokestatic 50, 3) := by decide +kernel
theorem dX8_order_10 : decode cX8_order 10 = .ok (.ifCond .ne 5, 3) := by decide +kernel
theorem dX8_order_13 : decode cX8_order 13 = .ok (.iconst (-1), 1) := by decide +kernel
theorem dX8_order_14 : decode cX8_order 14 = .ok (.ireturn, 1) := by decide +kernel
theorem dX8_order_15 : decode cX8_order 15 = .ok (.iload_n 2, 1) := by decide +kernel
theorem dX8_order_16 : decode cX8_order 16 = .ok (.iconst 3, 1) := by decide +kernel
theorem dX8_order_17 : decode cX8_order 17 = .ok (.invokestatic 50, 3) := by decide +kernel
theorem dX8_order_20 : decode cX8_order 20 = .ok (.ifCond .eq 21, 3) := by decide +kernel
theorem dX8_order_23 : decode cX8_order 23 = .ok (.iload 4, 2) := by decide +kernel
theorem dX8_order_25 : decode cX8_order 25 = .ok (.bipush 7, 2) := by decide +kernel
theorem dX8_order_27 : decode cX8_order 27 = .ok (.invokestatic 50, 3) := by decide +kernel
theorem dX8_order_30 : decode cX8_order 30 = .ok (.ifCond .eq 11, 3) := by decide +kernel
theorem dX8_order_33 : decode cX8_order 33 = .ok (.iload 5, 2) := by decide +kernel
theorem dX8_order_35 : decode cX8_order 35 = .ok (.invokestatic 175, 3) := by decide +kernel
theorem dX8_order_38 : decode cX8_order 38 = .ok (.ifCond .ne 6, 3) := by decide +kernel
theorem dX8_order_41 : decode cX8_order 41 = .ok (.bipush (-2), 2) := by decide +kernel
theorem dX8_order_43 : decode cX8_order 43 = .ok (.ireturn, 1) := by decide +kernel
theorem dX8_order_44 : decode cX8_order 44 = .ok (.aload_n 0, 1) := by decide +kernel
theorem dX8_order_45 : decode cX8_order 45 = .ok (.getfield 20, 3) := by decide +kernel
theorem dX8_order_48 : decode cX8_order 48 = .ok (.invokevirtual 122, 3) := by decide +kernel
theorem dX8_order_51 : decode cX8_order 51 = .ok (.ifCond .eq 6, 3) := by decide +kernel
theorem dX8_order_54 : decode cX8_order 54 = .ok (.bipush (-3), 2) := by decide +kernel
theorem dX8_order_56 : decode cX8_order 56 = .ok (.ireturn, 1) := by decide +kernel
theorem dX8_order_57 : decode cX8_order 57 = .ok (.aload_n 0, 1) := by decide +kernel
theorem dX8_order_58 : decode cX8_order 58 = .ok (.getfield 13, 3) := by decide +kernel
theorem dX8_order_61 : decode cX8_order 61 = .ok (.iload_n 1, 1) := by decide +kernel
theorem dX8_order_62 : decode cX8_order 62 = .ok (.aaload, 1) := by decide +kernel
theorem dX8_order_63 : decode cX8_order 63 = .ok (.astore 6, 2) := by decide +kernel
theorem dX8_order_65 : decode cX8_order 65 = .ok (.aload 6, 2) := by decide +kernel
theorem dX8_order_67 : decode cX8_order 67 = .ok (.iload_n 2, 1) := by decide +kernel
theorem dX8_order_68 : decode cX8_order 68 = .ok (.iload_n 3, 1) := by decide +kernel
theorem dX8_order_69 : decode cX8_order 69 = .ok (.iload 4, 2) := by decide +kernel
theorem dX8_order_71 : decode cX8_order 71 = .ok (.invokevirtual 54, 3) := by decide +kernel
theorem dX8_order_74 : decode cX8_order 74 = .ok (.istore 7, 2) := by decide +kernel
theorem dX8_order_76 : decode cX8_order 76 = .ok (.iload 7, 2) := by decide +kernel
theorem dX8_order_78 : decode cX8_order 78 = .ok (.ifCond .eq 10, 3) := by decide +kernel
theorem dX8_order_81 : decode cX8_order 81 = .ok (.aload_n 0, 1) := by decide +kernel
theorem dX8_order_82 : decode cX8_order 82 = .ok (.iload 7, 2) := by decide +kernel
theorem dX8_order_84 : decode cX8_order 84 = .ok (.invokevirtual 58, 3) := by decide +kernel
theorem dX8_order_87 : decode cX8_order 87 = .ok (.ireturn, 1) := by decide +kernel
theorem dX8_order_88 : decode cX8_order 88 = .ok (.aload_n 0, 1) := by decide +kernel
theorem dX8_order_89 : decode cX8_order 89 = .ok (.getfield 41, 3) := by decide +kernel
theorem dX8_order_92 : decode cX8_order 92 = .ok (.aload_n 0, 1) := by decide +kernel
theorem dX8_order_93 : decode cX8_order 93 = .ok (.getfield 20, 3) := by decide +kernel
theorem dX8_order_96 : decode cX8_order 96 = .ok (.aload 6, 2) := by decide +kernel
theorem dX8_order_98 : decode cX8_order 98 = .ok (.iload_n 3, 1) := by decide +kernel
theorem dX8_order_99 : decode cX8_order 99 = .ok (.iload 4, 2) := by decide +kernel
theorem dX8_order_101 : decode cX8_order 101 = .ok (.invokevirtual 178, 3) := by decide +kernel
theorem dX8_order_104 : decode cX8_order 104 = .ok (.ifCond .ne 6, 3) := by decide +kernel
theorem dX8_order_107 : decode cX8_order 107 = .ok (.bipush (-2), 2) := by decide +kernel
theorem dX8_order_109 : decode cX8_order 109 = .ok (.ireturn, 1) := by decide +kernel
theorem dX8_order_110 : decode cX8_order 110 = .ok (.aload_n 0, 1) := by decide +kernel
theorem dX8_order_111 : decode cX8_order 111 = .ok (.getfield 41, 3) := by decide +kernel
theorem dX8_order_114 : decode cX8_order 114 = .ok (.invokevirtual 179, 3) := by decide +kernel
theorem dX8_order_117 : decode cX8_order 117 = .ok (.iload 5, 2) := by decide +kernel
theorem dX8_order_119 : decode cX8_order 119 = .ok (.ifCond .ne 13, 3) := by decide +kernel
theorem dX8_order_122 : decode cX8_order 122 = .ok (.aload_n 0, 1) := by decide +kernel
theorem dX8_order_123 : decode cX8_order 123 = .ok (.getfield 41, 3) := by decide +kernel
theorem dX8_order_126 : decode cX8_order 126 = .ok (.invokevirtual 182, 3) := by decide +kernel
theorem dX8_order_129 : decode cX8_order 129 = .ok (.goto 15, 3) := by decide +kernel
theorem dX8_order_132 : decode cX8_order 132 = .ok (.aload_n 0, 1) := by decide +kernel
theorem dX8_order_133 : decode cX8_order 133 = .ok (.getfield 41, 3) := by decide +kernel
theorem dX8_order_136 : decode cX8_order 136 = .ok (.iload 5, 2) := by decide +kernel
theorem dX8_order_138 : decode cX8_order 138 = .ok (.bipush 10, 2) := by decide +kernel
theorem dX8_order_140 : decode cX8_order 140 = .ok (.isub, 1) := by decide +kernel
theorem dX8_order_141 : decode cX8_order 141 = .ok (.invokevirtual 185, 3) := by decide +kernel
theorem dX8_order_144 : decode cX8_order 144 = .ok (.ireturn, 1) := by decide +kernel
theorem dX8_reading_0 : decode cX8_reading 0 = .ok (.aload_n 0, 1) := by decide +kernel
theorem dX8_reading_1 : decode cX8_reading 1 = .ok (.iload_n 1, 1) := by decide +kernel
theorem dX8_reading_2 : decode cX8_reading 2 = .ok (.invokevirtual 76, 3) := by decide +kernel
theorem dX8_reading_5 : decode cX8_reading 5 = .ok (.ifCond .ne 5, 3) := by decide +kernel
theorem dX8_reading_8 : decode cX8_reading 8 = .ok (.iconst (-1), 1) := by decide +kernel
theorem dX8_reading_9 : decode cX8_reading 9 = .ok (.ireturn, 1) := by decide +kernel
theorem dX8_reading_10 : decode cX8_reading 10 = .ok (.iload_n 2, 1) := by decide +kernel
theorem dX8_reading_11 : decode cX8_reading 11 = .ok (.bipush 10, 2) := by decide +kernel
theorem dX8_reading_13 : decode cX8_reading 13 = .ok (.invokestatic 50, 3) := by decide +kernel
theorem dX8_reading_16 : decode cX8_reading 16 = .ok (.ifCond .eq 13, 3) := by decide +kernel
theorem dX8_reading_19 : decode cX8_reading 19 = .ok (.iload_n 3, 1) := by decide +kernel
theorem dX8_reading_20 : decode cX8_reading 20 = .ok (.sipush 128, 3) := by decide +kernel
theorem dX8_reading_23 : decode cX8_reading 23 = .ok (.invokestatic 50, 3) := by decide +kernel
theorem dX8_reading_26 : decode cX8_reading 26 = .ok (.ifCond .ne 6, 3) := by decide +kernel
theorem dX8_reading_29 : decode cX8_reading 29 = .ok (.bipush (-2), 2) := by decide +kernel
theorem dX8_reading_31 : decode cX8_reading 31 = .ok (.ireturn, 1) := by decide +kernel
theorem dX8_reading_32 : decode cX8_reading 32 = .ok (.aload_n 0, 1) := by decide +kernel
theorem dX8_reading_33 : decode cX8_reading 33 = .ok (.getfield 27, 3) := by decide +kernel
theorem dX8_reading_36 : decode cX8_reading 36 = .ok (.iload_n 1, 1) := by decide +kernel
theorem dX8_reading_37 : decode cX8_reading 37 = .ok (.iload_n 2, 1) := by decide +kernel
theorem dX8_reading_38 : decode cX8_reading 38 = .ok (.iload_n 3, 1) := by decide +kernel
theorem dX8_reading_39 : decode cX8_reading 39 = .ok (.invokevirtual 188, 3) := by decide +kernel
theorem dX8_reading_42 : decode cX8_reading 42 = .ok (.ireturn, 1) := by decide +kernel
theorem dX8_back_0 : decode cX8_back 0 = .ok (.iload_n 1, 1) := by decide +kernel
theorem dX8_back_1 : decode cX8_back 1 = .ok (.ifCond .lt 14, 3) := by decide +kernel
theorem dX8_back_4 : decode cX8_back 4 = .ok (.iload_n 1, 1) := by decide +kernel
theorem dX8_back_5 : decode cX8_back 5 = .ok (.aload_n 0, 1) := by decide +kernel
theorem dX8_back_6 : decode cX8_back 6 = .ok (.getfield 27, 3) := by decide +kernel
theorem dX8_back_9 : decode cX8_back 9 = .ok (.getfield 72, 3) := by decide +kernel
theorem dX8_back_12 : decode cX8_back 12 = .ok (.if_icmp .le 6, 3) := by decide +kernel
theorem dX8_back_15 : decode cX8_back 15 = .ok (.bipush (-2), 2) := by decide +kernel
theorem dX8_back_17 : decode cX8_back 17 = .ok (.ireturn, 1) := by decide +kernel
theorem dX8_back_18 : decode cX8_back 18 = .ok (.aload_n 0, 1) := by decide +kernel
theorem dX8_back_19 : decode cX8_back 19 = .ok (.getfield 27, 3) := by decide +kernel
theorem dX8_back_22 : decode cX8_back 22 = .ok (.dup, 1) := by decide +kernel
theorem dX8_back_23 : decode cX8_back 23 = .ok (.getfield 72, 3) := by decide +kernel
theorem dX8_back_26 : decode cX8_back 26 = .ok (.iload_n 1, 1) := by decide +kernel
theorem dX8_back_27 : decode cX8_back 27 = .ok (.isub, 1) := by decide +kernel
theorem dX8_back_28 : decode cX8_back 28 = .ok (.putfield 72, 3) := by decide +kernel
theorem dX8_back_31 : decode cX8_back 31 = .ok (.aload_n 0, 1) := by decide +kernel
theorem dX8_back_32 : decode cX8_back 32 = .ok (.getfield 27, 3) := by decide +kernel
theorem dX8_back_35 : decode cX8_back 35 = .ok (.getfield 72, 3) := by decide +kernel
theorem dX8_back_38 : decode cX8_back 38 = .ok (.ireturn, 1) := by decide +kernel
theorem dX8_deads_0 : decode cX8_deads 0 = .ok (.aload_n 0, 1) := by decide +kernel
theorem dX8_deads_1 : decode cX8_deads 1 = .ok (.iload_n 1, 1) := by decide +kernel
theorem dX8_deads_2 : decode cX8_deads 2 = .ok (.invokevirtual 76, 3) := by decide +kernel
theorem dX8_deads_5 : decode cX8_deads 5 = .ok (.ifCond .ne 5, 3) := by decide +kernel
theorem dX8_deads_8 : decode cX8_deads 8 = .ok (.iconst (-1), 1) := by decide +kernel
theorem dX8_deads_9 : decode cX8_deads 9 = .ok (.ireturn, 1) := by decide +kernel
theorem dX8_deads_10 : decode cX8_deads 10 = .ok (.iload_n 2, 1) := by decide +kernel
theorem dX8_deads_11 : decode cX8_deads 11 = .ok (.iconst 4, 1) := by decide +kernel
theorem dX8_deads_12 : decode cX8_deads 12 = .ok (.invokestatic 50, 3) := by decide +kernel
theorem dX8_deads_15 : decode cX8_deads 15 = .ok (.ifCond .ne 6, 3) := by decide +kernel
theorem dX8_deads_18 : decode cX8_deads 18 = .ok (.bipush (-2), 2) := by decide +kernel
theorem dX8_deads_20 : decode cX8_deads 20 = .ok (.ireturn, 1) := by decide +kernel
theorem dX8_deads_21 : decode cX8_deads 21 = .ok (.aload_n 0, 1) := by decide +kernel
theorem dX8_deads_22 : decode cX8_deads 22 = .ok (.getfield 20, 3) := by decide +kernel
theorem dX8_deads_25 : decode cX8_deads 25 = .ok (.getfield 80, 3) := by decide +kernel
theorem dX8_deads_28 : decode cX8_deads 28 = .ok (.iload_n 1, 1) := by decide +kernel
theorem dX8_deads_29 : decode cX8_deads 29 = .ok (.aaload, 1) := by decide +kernel
theorem dX8_deads_30 : decode cX8_deads 30 = .ok (.getfield 84, 3) := by decide +kernel
theorem dX8_deads_33 : decode cX8_deads 33 = .ok (.istore_n 3, 1) := by decide +kernel
theorem dX8_deads_34 : decode cX8_deads 34 = .ok (.iconst 0, 1) := by decide +kernel
theorem dX8_deads_35 : decode cX8_deads 35 = .ok (.istore 4, 2) := by decide +kernel
theorem dX8_deads_37 : decode cX8_deads 37 = .ok (.bipush 127, 2) := by decide +kernel
theorem dX8_deads_39 : decode cX8_deads 39 = .ok (.istore 5, 2) := by decide +kernel
theorem dX8_deads_41 : decode cX8_deads 41 = .ok (.iconst 0, 1) := by decide +kernel
theorem dX8_deads_42 : decode cX8_deads 42 = .ok (.istore 6, 2) := by decide +kernel
theorem dX8_deads_44 : decode cX8_deads 44 = .ok (.bipush (-9), 2) := by decide +kernel
theorem dX8_deads_46 : decode cX8_deads 46 = .ok (.istore 7, 2) := by decide +kernel
theorem dX8_deads_48 : decode cX8_deads 48 = .ok (.iconst 0, 1) := by decide +kernel
theorem dX8_deads_49 : decode cX8_deads 49 = .ok (.istore 8, 2) := by decide +kernel
theorem dX8_deads_51 : decode cX8_deads 51 = .ok (.iload 8, 2) := by decide +kernel
theorem dX8_deads_53 : decode cX8_deads 53 = .ok (.sipush 128, 3) := by decide +kernel
theorem dX8_deads_56 : decode cX8_deads 56 = .ok (.if_icmp .ge 58, 3) := by decide +kernel
theorem dX8_deads_59 : decode cX8_deads 59 = .ok (.aload_n 0, 1) := by decide +kernel
theorem dX8_deads_60 : decode cX8_deads 60 = .ok (.getfield 27, 3) := by decide +kernel
theorem dX8_deads_63 : decode cX8_deads 63 = .ok (.aload_n 0, 1) := by decide +kernel
theorem dX8_deads_64 : decode cX8_deads 64 = .ok (.getfield 20, 3) := by decide +kernel
theorem dX8_deads_67 : decode cX8_deads 67 = .ok (.iload_n 1, 1) := by decide +kernel
theorem dX8_deads_68 : decode cX8_deads 68 = .ok (.iload_n 3, 1) := by decide +kernel
theorem dX8_deads_69 : decode cX8_deads 69 = .ok (.iload 8, 2) := by decide +kernel
theorem dX8_deads_71 : decode cX8_deads 71 = .ok (.invokevirtual 191, 3) := by decide +kernel
theorem dX8_deads_74 : decode cX8_deads 74 = .ok (.ifCond .eq 34, 3) := by decide +kernel
theorem dX8_deads_77 : decode cX8_deads 77 = .ok (.iload 4, 2) := by decide +kernel
theorem dX8_deads_79 : decode cX8_deads 79 = .ok (.ifCond .ne 8, 3) := by decide +kernel
theorem dX8_deads_82 : decode cX8_deads 82 = .ok (.iload 8, 2) := by decide +kernel
theorem dX8_deads_84 : decode cX8_deads 84 = .ok (.goto 5, 3) := by decide +kernel
theorem dX8_deads_87 : decode cX8_deads 87 = .ok (.iload 7, 2) := by decide +kernel
theorem dX8_deads_89 : decode cX8_deads 89 = .ok (.istore 7, 2) := by decide +kernel
theorem dX8_deads_91 : decode cX8_deads 91 = .ok (.iinc 4 1, 3) := by decide +kernel
theorem dX8_deads_94 : decode cX8_deads 94 = .ok (.iload 5, 2) := by decide +kernel
theorem dX8_deads_96 : decode cX8_deads 96 = .ok (.iload 8, 2) := by decide +kernel
theorem dX8_deads_98 : decode cX8_deads 98 = .ok (.iand, 1) := by decide +kernel
theorem dX8_deads_99 : decode cX8_deads 99 = .ok (.istore 5, 2) := by decide +kernel
theorem dX8_deads_101 : decode cX8_deads 101 = .ok (.iload 6, 2) := by decide +kernel
theorem dX8_deads_103 : decode cX8_deads 103 = .ok (.iload 8, 2) := by decide +kernel
theorem dX8_deads_105 : decode cX8_deads 105 = .ok (.ior, 1) := by decide +kernel
theorem dX8_deads_106 : decode cX8_deads 106 = .ok (.istore 6, 2) := by decide +kernel
theorem dX8_deads_108 : decode cX8_deads 108 = .ok (.iinc 8 1, 3) := by decide +kernel
theorem dX8_deads_111 : decode cX8_deads 111 = .ok (.goto (-60), 3) := by decide +kernel
theorem dX8_deads_114 : decode cX8_deads 114 = .ok (.iload_n 2, 1) := by decide +kernel
theorem dX8_deads_115 : decode cX8_deads 115 = .ok (.ifCond .ne 6, 3) := by decide +kernel
theorem dX8_deads_118 : decode cX8_deads 118 = .ok (.iload 4, 2) := by decide +kernel
theorem dX8_deads_120 : decode cX8_deads 120 = .ok (.ireturn, 1) := by decide +kernel
theorem dX8_deads_121 : decode cX8_deads 121 = .ok (.iload 4, 2) := by decide +kernel
theorem dX8_deads_123 : decode cX8_deads 123 = .ok (.ifCond .ne 8, 3) := by decide +kernel
theorem dX8_deads_126 : decode cX8_deads 126 = .ok (.bipush (-9), 2) := by decide +kernel
theorem dX8_deads_128 : decode cX8_deads 128 = .ok (.goto 15, 3) := by decide +kernel
theorem dX8_deads_131 : decode cX8_deads 131 = .ok (.iload_n 2, 1) := by decide +kernel
theorem dX8_deads_132 : decode cX8_deads 132 = .ok (.iconst 1, 1) := by decide +kernel
theorem dX8_deads_133 : decode cX8_deads 133 = .ok (.isub, 1) := by decide +kernel
theorem dX8_deads_134 : decode cX8_deads 134 = .ok (.iload 5, 2) := by decide +kernel
theorem dX8_deads_136 : decode cX8_deads 136 = .ok (.iload 6, 2) := by decide +kernel
theorem dX8_deads_138 : decode cX8_deads 138 = .ok (.iload 7, 2) := by decide +kernel
theorem dX8_deads_140 : decode cX8_deads 140 = .ok (.invokestatic 149, 3) := by decide +kernel
theorem dX8_deads_143 : decode cX8_deads 143 = .ok (.ireturn, 1) := by decide +kernel
theorem dX8_kinds_0 : decode cX8_kinds 0 = .ok (.aload_n 0, 1) := by decide +kernel
theorem dX8_kinds_1 : decode cX8_kinds 1 = .ok (.iload_n 1, 1) := by decide +kernel
theorem dX8_kinds_2 : decode cX8_kinds 2 = .ok (.invokevirtual 76, 3) := by decide +kernel
theorem dX8_kinds_5 : decode cX8_kinds 5 = .ok (.ifCond .ne 5, 3) := by decide +kernel
theorem dX8_kinds_8 : decode cX8_kinds 8 = .ok (.iconst (-1), 1) := by decide +kernel
theorem dX8_kinds_9 : decode cX8_kinds 9 = .ok (.ireturn, 1) := by decide +kernel
theorem dX8_kinds_10 : decode cX8_kinds 10 = .ok (.aload_n 0, 1) := by decide +kernel
theorem dX8_kinds_11 : decode cX8_kinds 11 = .ok (.getfield 20, 3) := by decide +kernel
theorem dX8_kinds_14 : decode cX8_kinds 14 = .ok (.getfield 80, 3) := by decide +kernel
theorem dX8_kinds_17 : decode cX8_kinds 17 = .ok (.iload_n 1, 1) := by decide +kernel
theorem dX8_kinds_18 : decode cX8_kinds 18 = .ok (.aaload, 1) := by decide +kernel
theorem dX8_kinds_19 : decode cX8_kinds 19 = .ok (.getfield 89, 3) := by decide +kernel
theorem dX8_kinds_22 : decode cX8_kinds 22 = .ok (.istore_n 2, 1) := by decide +kernel
theorem dX8_kinds_23 : decode cX8_kinds 23 = .ok (.iconst 0, 1) := by decide +kernel
theorem dX8_kinds_24 : decode cX8_kinds 24 = .ok (.istore_n 3, 1) := by decide +kernel
theorem dX8_kinds_25 : decode cX8_kinds 25 = .ok (.iconst 0, 1) := by decide +kernel
theorem dX8_kinds_26 : decode cX8_kinds 26 = .ok (.istore 4, 2) := by decide +kernel
theorem dX8_kinds_28 : decode cX8_kinds 28 = .ok (.iload 4, 2) := by decide +kernel
theorem dX8_kinds_30 : decode cX8_kinds 30 = .ok (.iconst 3, 1) := by decide +kernel
theorem dX8_kinds_31 : decode cX8_kinds 31 = .ok (.if_icmp .ge 34, 3) := by decide +kernel
theorem dX8_kinds_34 : decode cX8_kinds 34 = .ok (.aload_n 0, 1) := by decide +kernel
theorem dX8_kinds_35 : decode cX8_kinds 35 = .ok (.getfield 27, 3) := by decide +kernel
theorem dX8_kinds_38 : decode cX8_kinds 38 = .ok (.aload_n 0, 1) := by decide +kernel
theorem dX8_kinds_39 : decode cX8_kinds 39 = .ok (.getfield 20, 3) := by decide +kernel
theorem dX8_kinds_42 : decode cX8_kinds 42 = .ok (.iload_n 1, 1) := by decide +kernel
theorem dX8_kinds_43 : decode cX8_kinds 43 = .ok (.iload 4, 2) := by decide +kernel
theorem dX8_kinds_45 : decode cX8_kinds 45 = .ok (.iload_n 2, 1) := by decide +kernel
theorem dX8_kinds_46 : decode cX8_kinds 46 = .ok (.invokevirtual 191, 3) := by decide +kernel
theorem dX8_kinds_49 : decode cX8_kinds 49 = .ok (.ifCond .eq 10, 3) := by decide +kernel
theorem dX8_kinds_52 : decode cX8_kinds 52 = .ok (.iload_n 3, 1) := by decide +kernel
theorem dX8_kinds_53 : decode cX8_kinds 53 = .ok (.iconst 1, 1) := by decide +kernel
theorem dX8_kinds_54 : decode cX8_kinds 54 = .ok (.iload 4, 2) := by decide +kernel
theorem dX8_kinds_56 : decode cX8_kinds 56 = .ok (.ishl, 1) := by decide +kernel
theorem dX8_kinds_57 : decode cX8_kinds 57 = .ok (.ior, 1) := by decide +kernel
theorem dX8_kinds_58 : decode cX8_kinds 58 = .ok (.istore_n 3, 1) := by decide +kernel
theorem dX8_kinds_59 : decode cX8_kinds 59 = .ok (.iinc 4 1, 3) := by decide +kernel
theorem dX8_kinds_62 : decode cX8_kinds 62 = .ok (.goto (-34), 3) := by decide +kernel
theorem dX8_kinds_65 : decode cX8_kinds 65 = .ok (.iload_n 3, 1) := by decide +kernel
theorem dX8_kinds_66 : decode cX8_kinds 66 = .ok (.ireturn, 1) := by decide +kernel
theorem dX8_odds_0 : decode cX8_odds 0 = .ok (.iload_n 1, 1) := by decide +kernel
theorem dX8_odds_1 : decode cX8_odds 1 = .ok (.iconst 2, 1) := by decide +kernel
theorem dX8_odds_2 : decode cX8_odds 2 = .ok (.invokestatic 50, 3) := by decide +kernel
theorem dX8_odds_5 : decode cX8_odds 5 = .ok (.ifCond .eq 13, 3) := by decide +kernel
theorem dX8_odds_8 : decode cX8_odds 8 = .ok (.aload_n 0, 1) := by decide +kernel
