theorem dX9_burns_33 : decode cX9_burns 33 = .ok (.ireturn, 1) := by decide +kernel
theorem dX9_digitsOf_0 : decode cX9_digitsOf 0 = .ok (.iconst 0, 1) := by decide +kernel
theorem dX9_digitsOf_1 : decode cX9_digitsOf 1 = .ok (.istore_n 3, 1) := by decide +kernel
theorem dX9_digitsOf_2 : decode cX9_digitsOf 2 = .ok (.iconst 0, 1) := by decide +kernel
theorem dX9_digitsOf_3 : decode cX9_digitsOf 3 = .ok (.istore 4, 2) := by decide +kernel
theorem dX9_digitsOf_5 : decode cX9_digitsOf 5 = .ok (.iload 4, 2) := by decide +kernel
theorem dX9_digitsOf_7 : decode cX9_digitsOf 7 = .ok (.bipush 10, 2) := by decide +kernel
theorem dX9_digitsOf_9 : decode cX9_digitsOf 9 = .ok (.if_icmp .ge 31, 3) := by decide +kernel
theorem dX9_digitsOf_12 : decode cX9_digitsOf 12 = .ok (.iload_n 3, 1) := by decide +kernel
theorem dX9_digitsOf_13 : decode cX9_digitsOf 13 = .ok (.aload_n 0, 1) := by decide +kernel
theorem dX9_digitsOf_14 : decode cX9_digitsOf 14 = .ok (.iload_n 1, 1) := by decide +kernel
theorem dX9_digitsOf_15 : decode cX9_digitsOf 15 = .ok (.iload 4, 2) := by decide +kernel
theorem dX9_digitsOf_17 : decode cX9_digitsOf 17 = .ok (.invokevirtual 157, 3) := by decide +kernel
theorem dX9_digitsOf_20 : decode cX9_digitsOf 20 = .ok (.iload_n 2, 1) := by decide +kernel
theorem dX9_digitsOf_21 : decode cX9_digitsOf 21 = .ok (.if_icmp .ne 10, 3) := by decide +kernel
theorem dX9_digitsOf_24 : decode cX9_digitsOf 24 = .ok (.iconst 1, 1) := by decide +kernel
theorem dX9_digitsOf_25 : decode cX9_digitsOf 25 = .ok (.iload 4, 2) := by decide +kernel
theorem dX9_digitsOf_27 : decode cX9_digitsOf 27 = .ok (.ishl, 1) := by decide +kernel
theorem dX9_digitsOf_28 : decode cX9_digitsOf 28 = .ok (.goto 4, 3) := by decide +kernel
theorem dX9_digitsOf_31 : decode cX9_digitsOf 31 = .ok (.iconst 0, 1) := by decide +kernel
theorem dX9_digitsOf_32 : decode cX9_digitsOf 32 = .ok (.ior, 1) := by decide +kernel
theorem dX9_digitsOf_33 : decode cX9_digitsOf 33 = .ok (.istore_n 3, 1) := by decide +kernel
theorem dX9_digitsOf_34 : decode cX9_digitsOf 34 = .ok (.iinc 4 1, 3) := by decide +kernel
theorem dX9_digitsOf_37 : decode cX9_digitsOf 37 = .ok (.goto (-32), 3) := by decide +kernel
theorem dX9_digitsOf_40 : decode cX9_digitsOf 40 = .ok (.iload_n 3, 1) := by decide +kernel
theorem dX9_digitsOf_41 : decode cX9_digitsOf 41 = .ok (.ireturn, 1) := by decide +kernel
theorem dX9_digits_0 : decode cX9_digits 0 = .ok (.aload_n 0, 1) := by decide +kernel
theorem dX9_digits_1 : decode cX9_digits 1 = .ok (.iload_n 1, 1) := by decide +kernel
theorem dX9_digits_2 : decode cX9_digits 2 = .ok (.invokevirtual 160, 3) := by decide +kernel
theorem dX9_digits_5 : decode cX9_digits 5 = .ok (.ifCond .eq 5, 3) := by decide +kernel
theorem dX9_digits_8 : decode cX9_digits 8 = .ok (.iconst (-1), 1) := by decide +kernel
theorem dX9_digits_9 : decode cX9_digits 9 = .ok (.ireturn, 1) := by decide +kernel
theorem dX9_digits_10 : decode cX9_digits 10 = .ok (.iload_n 2, 1) := by decide +kernel
theorem dX9_digits_11 : decode cX9_digits 11 = .ok (.i2l, 1) := by decide +kernel
theorem dX9_digits_12 : decode cX9_digits 12 = .ok (.lconst 0, 1) := by decide +kernel
theorem dX9_digits_13 : decode cX9_digits 13 = .ok (.ldc2_w 171, 3) := by decide +kernel
theorem dX9_digits_16 : decode cX9_digits 16 = .ok (.invokestatic 80, 3) := by decide +kernel
theorem dX9_digits_19 : decode cX9_digits 19 = .ok (.ifCond .eq 12, 3) := by decide +kernel
theorem dX9_digits_22 : decode cX9_digits 22 = .ok (.aload_n 0, 1) := by decide +kernel
theorem dX9_digits_23 : decode cX9_digits 23 = .ok (.iload_n 1, 1) := by decide +kernel
theorem dX9_digits_24 : decode cX9_digits 24 = .ok (.iload_n 2, 1) := by decide +kernel
theorem dX9_digits_25 : decode cX9_digits 25 = .ok (.invokevirtual 178, 3) := by decide +kernel
theorem dX9_digits_28 : decode cX9_digits 28 = .ok (.goto 5, 3) := by decide +kernel
theorem dX9_digits_31 : decode cX9_digits 31 = .ok (.bipush (-2), 2) := by decide +kernel
theorem dX9_digits_33 : decode cX9_digits 33 = .ok (.ireturn, 1) := by decide +kernel
theorem dX9_noNumber_0 : decode cX9_noNumber 0 = .ok (.iload_n 1, 1) := by decide +kernel
theorem dX9_noNumber_1 : decode cX9_noNumber 1 = .ok (.i2l, 1) := by decide +kernel
theorem dX9_noNumber_2 : decode cX9_noNumber 2 = .ok (.lconst 0, 1) := by decide +kernel
theorem dX9_noNumber_3 : decode cX9_noNumber 3 = .ok (.aload_n 0, 1) := by decide +kernel
theorem dX9_noNumber_4 : decode cX9_noNumber 4 = .ok (.invokevirtual 181, 3) := by decide +kernel
theorem dX9_noNumber_7 : decode cX9_noNumber 7 = .ok (.i2l, 1) := by decide +kernel
theorem dX9_noNumber_8 : decode cX9_noNumber 8 = .ok (.invokestatic 80, 3) := by decide +kernel
theorem dX9_noNumber_11 : decode cX9_noNumber 11 = .ok (.ifCond .ne 7, 3) := by decide +kernel
theorem dX9_noNumber_14 : decode cX9_noNumber 14 = .ok (.iconst 1, 1) := by decide +kernel
theorem dX9_noNumber_15 : decode cX9_noNumber 15 = .ok (.goto 4, 3) := by decide +kernel
theorem dX9_noNumber_18 : decode cX9_noNumber 18 = .ok (.iconst 0, 1) := by decide +kernel
theorem dX9_noNumber_19 : decode cX9_noNumber 19 = .ok (.ireturn, 1) := by decide +kernel
theorem dX9_bars_0 : decode cX9_bars 0 = .ok (.aload_n 0, 1) := by decide +kernel
theorem dX9_bars_1 : decode cX9_bars 1 = .ok (.getfield 77, 3) := by decide +kernel
theorem dX9_bars_4 : decode cX9_bars 4 = .ok (.ifCond .ne 6, 3) := by decide +kernel
theorem dX9_bars_7 : decode cX9_bars 7 = .ok (.bipush (-3), 2) := by decide +kernel
theorem dX9_bars_9 : decode cX9_bars 9 = .ok (.ireturn, 1) := by decide +kernel
theorem dX9_bars_10 : decode cX9_bars 10 = .ok (.aload_n 0, 1) := by decide +kernel
theorem dX9_bars_11 : decode cX9_bars 11 = .ok (.iload_n 1, 1) := by decide +kernel
theorem dX9_bars_12 : decode cX9_bars 12 = .ok (.invokevirtual 185, 3) := by decide +kernel
theorem dX9_bars_15 : decode cX9_bars 15 = .ok (.ifCond .eq 6, 3) := by decide +kernel
theorem dX9_bars_18 : decode cX9_bars 18 = .ok (.bipush (-2), 2) := by decide +kernel
theorem dX9_bars_20 : decode cX9_bars 20 = .ok (.ireturn, 1) := by decide +kernel
theorem dX9_bars_21 : decode cX9_bars 21 = .ok (.iconst 0, 1) := by decide +kernel
theorem dX9_bars_22 : decode cX9_bars 22 = .ok (.istore_n 2, 1) := by decide +kernel
theorem dX9_bars_23 : decode cX9_bars 23 = .ok (.iconst 0, 1) := by decide +kernel
theorem dX9_bars_24 : decode cX9_bars 24 = .ok (.istore_n 3, 1) := by decide +kernel
theorem dX9_bars_25 : decode cX9_bars 25 = .ok (.iload_n 3, 1) := by decide +kernel
theorem dX9_bars_26 : decode cX9_bars 26 = .ok (.aload_n 0, 1) := by decide +kernel
theorem dX9_bars_27 : decode cX9_bars 27 = .ok (.getfield 77, 3) := by decide +kernel
theorem dX9_bars_30 : decode cX9_bars 30 = .ok (.if_icmp .ge 26, 3) := by decide +kernel
theorem dX9_bars_33 : decode cX9_bars 33 = .ok (.iload_n 2, 1) := by decide +kernel
theorem dX9_bars_34 : decode cX9_bars 34 = .ok (.aload_n 0, 1) := by decide +kernel
theorem dX9_bars_35 : decode cX9_bars 35 = .ok (.iload_n 3, 1) := by decide +kernel
theorem dX9_bars_36 : decode cX9_bars 36 = .ok (.aload_n 0, 1) := by decide +kernel
theorem dX9_bars_37 : decode cX9_bars 37 = .ok (.iload_n 3, 1) := by decide +kernel
theorem dX9_bars_38 : decode cX9_bars 38 = .ok (.iload_n 1, 1) := by decide +kernel
theorem dX9_bars_39 : decode cX9_bars 39 = .ok (.invokevirtual 166, 3) := by decide +kernel
theorem dX9_bars_42 : decode cX9_bars 42 = .ok (.invokevirtual 157, 3) := by decide +kernel
theorem dX9_bars_45 : decode cX9_bars 45 = .ok (.invokestatic 188, 3) := by decide +kernel
theorem dX9_bars_48 : decode cX9_bars 48 = .ok (.iadd, 1) := by decide +kernel
theorem dX9_bars_49 : decode cX9_bars 49 = .ok (.istore_n 2, 1) := by decide +kernel
theorem dX9_bars_50 : decode cX9_bars 50 = .ok (.iinc 3 1, 3) := by decide +kernel
theorem dX9_bars_53 : decode cX9_bars 53 = .ok (.goto (-28), 3) := by decide +kernel
theorem dX9_bars_56 : decode cX9_bars 56 = .ok (.iload_n 2, 1) := by decide +kernel
theorem dX9_bars_57 : decode cX9_bars 57 = .ok (.ireturn, 1) := by decide +kernel
theorem dX9_flipsOf_0 : decode cX9_flipsOf 0 = .ok (.iconst 0, 1) := by decide +kernel
theorem dX9_flipsOf_1 : decode cX9_flipsOf 1 = .ok (.istore_n 3, 1) := by decide +kernel
theorem dX9_flipsOf_2 : decode cX9_flipsOf 2 = .ok (.iconst 0, 1) := by decide +kernel
theorem dX9_flipsOf_3 : decode cX9_flipsOf 3 = .ok (.istore 4, 2) := by decide +kernel
theorem dX9_flipsOf_5 : decode cX9_flipsOf 5 = .ok (.iload 4, 2) := by decide +kernel
theorem dX9_flipsOf_7 : decode cX9_flipsOf 7 = .ok (.aload_n 0, 1) := by decide +kernel
theorem dX9_flipsOf_8 : decode cX9_flipsOf 8 = .ok (.getfield 77, 3) := by decide +kernel
theorem dX9_flipsOf_11 : decode cX9_flipsOf 11 = .ok (.if_icmp .ge 61, 3) := by decide +kernel
theorem dX9_flipsOf_14 : decode cX9_flipsOf 14 = .ok (.aload_n 0, 1) := by decide +kernel
theorem dX9_flipsOf_15 : decode cX9_flipsOf 15 = .ok (.iload 4, 2) := by decide +kernel
theorem dX9_flipsOf_17 : decode cX9_flipsOf 17 = .ok (.iload_n 1, 1) := by decide +kernel
theorem dX9_flipsOf_18 : decode cX9_flipsOf 18 = .ok (.invokevirtual 166, 3) := by decide +kernel
theorem dX9_flipsOf_21 : decode cX9_flipsOf 21 = .ok (.istore 5, 2) := by decide +kernel
theorem dX9_flipsOf_23 : decode cX9_flipsOf 23 = .ok (.aload_n 0, 1) := by decide +kernel
theorem dX9_flipsOf_24 : decode cX9_flipsOf 24 = .ok (.iload 4, 2) := by decide +kernel
theorem dX9_flipsOf_26 : decode cX9_flipsOf 26 = .ok (.iload_n 2, 1) := by decide +kernel
theorem dX9_flipsOf_27 : decode cX9_flipsOf 27 = .ok (.invokevirtual 166, 3) := by decide +kernel
theorem dX9_flipsOf_30 : decode cX9_flipsOf 30 = .ok (.istore 6, 2) := by decide +kernel
theorem dX9_flipsOf_32 : decode cX9_flipsOf 32 = .ok (.iload_n 3, 1) := by decide +kernel
theorem dX9_flipsOf_33 : decode cX9_flipsOf 33 = .ok (.iload 5, 2) := by decide +kernel
theorem dX9_flipsOf_35 : decode cX9_flipsOf 35 = .ok (.iload 6, 2) := by decide +kernel
theorem dX9_flipsOf_37 : decode cX9_flipsOf 37 = .ok (.if_icmp .ne 7, 3) := by decide +kernel
theorem dX9_flipsOf_40 : decode cX9_flipsOf 40 = .ok (.iconst 0, 1) := by decide +kernel
theorem dX9_flipsOf_41 : decode cX9_flipsOf 41 = .ok (.goto 23, 3) := by decide +kernel
theorem dX9_flipsOf_44 : decode cX9_flipsOf 44 = .ok (.aload_n 0, 1) := by decide +kernel
theorem dX9_flipsOf_45 : decode cX9_flipsOf 45 = .ok (.iload 4, 2) := by decide +kernel
theorem dX9_flipsOf_47 : decode cX9_flipsOf 47 = .ok (.iload 5, 2) := by decide +kernel
theorem dX9_flipsOf_49 : decode cX9_flipsOf 49 = .ok (.invokevirtual 157, 3) := by decide +kernel
theorem dX9_flipsOf_52 : decode cX9_flipsOf 52 = .ok (.aload_n 0, 1) := by decide +kernel
theorem dX9_flipsOf_53 : decode cX9_flipsOf 53 = .ok (.iload 4, 2) := by decide +kernel
theorem dX9_flipsOf_55 : decode cX9_flipsOf 55 = .ok (.iload 6, 2) := by decide +kernel
theorem dX9_flipsOf_57 : decode cX9_flipsOf 57 = .ok (.invokevirtual 157, 3) := by decide +kernel
theorem dX9_flipsOf_60 : decode cX9_flipsOf 60 = .ok (.ixor, 1) := by decide +kernel
theorem dX9_flipsOf_61 : decode cX9_flipsOf 61 = .ok (.invokestatic 188, 3) := by decide +kernel
theorem dX9_flipsOf_64 : decode cX9_flipsOf 64 = .ok (.iadd, 1) := by decide +kernel
theorem dX9_flipsOf_65 : decode cX9_flipsOf 65 = .ok (.istore_n 3, 1) := by decide +kernel
theorem dX9_flipsOf_66 : decode cX9_flipsOf 66 = .ok (.iinc 4 1, 3) := by decide +kernel
theorem dX9_flipsOf_69 : decode cX9_flipsOf 69 = .ok (.goto (-64), 3) := by decide +kernel
theorem dX9_flipsOf_72 : decode cX9_flipsOf 72 = .ok (.iload_n 3, 1) := by decide +kernel
theorem dX9_flipsOf_73 : decode cX9_flipsOf 73 = .ok (.ireturn, 1) := by decide +kernel
theorem dX9_alike_0 : decode cX9_alike 0 = .ok (.aload_n 0, 1) := by decide +kernel
theorem dX9_alike_1 : decode cX9_alike 1 = .ok (.getfield 77, 3) := by decide +kernel
theorem dX9_alike_4 : decode cX9_alike 4 = .ok (.ifCond .ne 6, 3) := by decide +kernel
theorem dX9_alike_7 : decode cX9_alike 7 = .ok (.bipush (-3), 2) := by decide +kernel
theorem dX9_alike_9 : decode cX9_alike 9 = .ok (.ireturn, 1) := by decide +kernel
theorem dX9_alike_10 : decode cX9_alike 10 = .ok (.aload_n 0, 1) := by decide +kernel
theorem dX9_alike_11 : decode cX9_alike 11 = .ok (.iload_n 1, 1) := by decide +kernel
theorem dX9_alike_12 : decode cX9_alike 12 = .ok (.invokevirtual 185, 3) := by decide +kernel
theorem dX9_alike_15 : decode cX9_alike 15 = .ok (.ifCond .eq 6, 3) := by decide +kernel
theorem dX9_alike_18 : decode cX9_alike 18 = .ok (.bipush (-2), 2) := by decide +kernel
theorem dX9_alike_20 : decode cX9_alike 20 = .ok (.ireturn, 1) := by decide +kernel
theorem dX9_alike_21 : decode cX9_alike 21 = .ok (.iconst 1, 1) := by decide +kernel
theorem dX9_alike_22 : decode cX9_alike 22 = .ok (.istore_n 2, 1) := by decide +kernel
theorem dX9_alike_23 : decode cX9_alike 23 = .ok (.iconst 0, 1) := by decide +kernel
theorem dX9_alike_24 : decode cX9_alike 24 = .ok (.istore_n 3, 1) := by decide +kernel
theorem dX9_alike_25 : decode cX9_alike 25 = .ok (.iload_n 3, 1) := by decide +kernel
theorem dX9_alike_26 : decode cX9_alike 26 = .ok (.aload_n 0, 1) := by decide +kernel
theorem dX9_alike_27 : decode cX9_alike 27 = .ok (.getfield 77, 3) := by decide +kernel
theorem dX9_alike_30 : decode cX9_alike 30 = .ok (.if_icmp .ge 31, 3) := by decide +kernel
theorem dX9_alike_33 : decode cX9_alike 33 = .ok (.iload_n 2, 1) := by decide +kernel
theorem dX9_alike_34 : decode cX9_alike 34 = .ok (.aload_n 0, 1) := by decide +kernel
theorem dX9_alike_35 : decode cX9_alike 35 = .ok (.iload_n 3, 1) := by decide +kernel
theorem dX9_alike_36 : decode cX9_alike 36 = .ok (.aload_n 0, 1) := by decide +kernel
theorem dX9_alike_37 : decode cX9_alike 37 = .ok (.iload_n 3, 1) := by decide +kernel
theorem dX9_alike_38 : decode cX9_alike 38 = .ok (.aload_n 0, 1) := by decide +kernel
theorem dX9_alike_39 : decode cX9_alike 39 = .ok (.iload_n 3, 1) := by decide +kernel
theorem dX9_alike_40 : decode cX9_alike 40 = .ok (.iload_n 1, 1) := by decide +kernel
theorem dX9_alike_41 : decode cX9_alike 41 = .ok (.invokevirtual 166, 3) := by decide +kernel
theorem dX9_alike_44 : decode cX9_alike 44 = .ok (.invokevirtual 157, 3) := by decide +kernel
theorem dX9_alike_47 : decode cX9_alike 47 = .ok (.invokevirtual 178, 3) := by decide +kernel
theorem dX9_alike_50 : decode cX9_alike 50 = .ok (.invokestatic 188, 3) := by decide +kernel
theorem dX9_alike_53 : decode cX9_alike 53 = .ok (.imul, 1) := by decide +kernel
theorem dX9_alike_54 : decode cX9_alike 54 = .ok (.istore_n 2, 1) := by decide +kernel
theorem dX9_alike_55 : decode cX9_alike 55 = .ok (.iinc 3 1, 3) := by decide +kernel
theorem dX9_alike_58 : decode cX9_alike 58 = .ok (.goto (-33), 3) := by decide +kernel
theorem dX9_alike_61 : decode cX9_alike 61 = .ok (.iload_n 2, 1) := by decide +kernel
theorem dX9_alike_62 : decode cX9_alike 62 = .ok (.ireturn, 1) := by decide +kernel
theorem dX9_which_0 : decode cX9_which 0 = .ok (.aload_n 0, 1) := by decide +kernel
theorem dX9_which_1 : decode cX9_which 1 = .ok (.getfield 77, 3) := by decide +kernel
theorem dX9_which_4 : decode cX9_which 4 = .ok (.ifCond .ne 6, 3) := by decide +kernel
theorem dX9_which_7 : decode cX9_which 7 = .ok (.bipush (-3), 2) := by decide +kernel
theorem dX9_which_9 : decode cX9_which 9 = .ok (.ireturn, 1) := by decide +kernel
theorem dX9_which_10 : decode cX9_which 10 = .ok (.aload_n 0, 1) := by decide +kernel
theorem dX9_which_11 : decode cX9_which 11 = .ok (.iload_n 1, 1) := by decide +kernel
theorem dX9_which_12 : decode cX9_which 12 = .ok (.invokevirtual 185, 3) := by decide +kernel
theorem dX9_which_15 : decode cX9_which 15 = .ok (.ifCond .ne 15, 3) := by decide +kernel
theorem dX9_which_18 : decode cX9_which 18 = .ok (.iload_n 2, 1) := by decide +kernel
theorem dX9_which_19 : decode cX9_which 19 = .ok (.i2l, 1) := by decide +kernel
theorem dX9_which_20 : decode cX9_which 20 = .ok (.lconst 0, 1) := by decide +kernel
theorem dX9_which_21 : decode cX9_which 21 = .ok (.ldc2_w 191, 3) := by decide +kernel
theorem dX9_which_24 : decode cX9_which 24 = .ok (.invokestatic 80, 3) := by decide +kernel
theorem dX9_which_27 : decode cX9_which 27 = .ok (.ifCond .ne 6, 3) := by decide +kernel
theorem dX9_which_30 : decode cX9_which 30 = .ok (.bipush (-2), 2) := by decide +kernel
theorem dX9_which_32 : decode cX9_which 32 = .ok (.ireturn, 1) := by decide +kernel
theorem dX9_which_33 : decode cX9_which 33 = .ok (.iload_n 2, 1) := by decide +kernel
theorem dX9_which_34 : decode cX9_which 34 = .ok (.istore_n 3, 1) := by decide +kernel
theorem dX9_which_35 : decode cX9_which 35 = .ok (.iconst 0, 1) := by decide +kernel
theorem dX9_which_36 : decode cX9_which 36 = .ok (.istore 4, 2) := by decide +kernel
theorem dX9_which_38 : decode cX9_which 38 = .ok (.iload 4, 2) := by decide +kernel
theorem dX9_which_40 : decode cX9_which 40 = .ok (.aload_n 0, 1) := by decide +kernel
theorem dX9_which_41 : decode cX9_which 41 = .ok (.invokevirtual 181, 3) := by decide +kernel
theorem dX9_which_44 : decode cX9_which 44 = .ok (.if_icmp .gt 29, 3) := by decide +kernel
theorem dX9_which_47 : decode cX9_which 47 = .ok (.aload_n 0, 1) := by decide +kernel
theorem dX9_which_48 : decode cX9_which 48 = .ok (.iload 4, 2) := by decide +kernel
theorem dX9_which_50 : decode cX9_which 50 = .ok (.iload_n 1, 1) := by decide +kernel
theorem dX9_which_51 : decode cX9_which 51 = .ok (.invokevirtual 193, 3) := by decide +kernel
theorem dX9_which_54 : decode cX9_which 54 = .ok (.ifCond .ne 13, 3) := by decide +kernel
theorem dX9_which_57 : decode cX9_which 57 = .ok (.iload_n 3, 1) := by decide +kernel
theorem dX9_which_58 : decode cX9_which 58 = .ok (.ifCond .ne 6, 3) := by decide +kernel
theorem dX9_which_61 : decode cX9_which 61 = .ok (.iload 4, 2) := by decide +kernel
theorem dX9_which_63 : decode cX9_which 63 = .ok (.ireturn, 1) := by decide +kernel
theorem dX9_which_64 : decode cX9_which 64 = .ok (.iinc 3 (-1), 3) := by decide +kernel
theorem dX9_which_67 : decode cX9_which 67 = .ok (.iinc 4 1, 3) := by decide +kernel
theorem dX9_which_70 : decode cX9_which 70 = .ok (.goto (-32), 3) := by decide +kernel
theorem dX9_which_73 : decode cX9_which 73 = .ok (.bipush (-9), 2) := by decide +kernel
theorem dX9_which_75 : decode cX9_which 75 = .ok (.ireturn, 1) := by decide +kernel
theorem dX9_flips_0 : decode cX9_flips 0 = .ok (.aload_n 0, 1) := by decide +kernel
theorem dX9_flips_1 : decode cX9_flips 1 = .ok (.getfield 77, 3) := by decide +kernel
theorem dX9_flips_4 : decode cX9_flips 4 = .ok (.ifCond .ne 6, 3) := by decide +kernel
theorem dX9_flips_7 : decode cX9_flips 7 = .ok (.bipush (-3), 2) := by decide +kernel
theorem dX9_flips_9 : decode cX9_flips 9 = .ok (.ireturn, 1) := by decide +kernel
theorem dX9_flips_10 : decode cX9_flips 10 = .ok (.aload_n 0, 1) := by decide +kernel
theorem dX9_flips_11 : decode cX9_flips 11 = .ok (.iload_n 1, 1) := by decide +kernel
theorem dX9_flips_12 : decode cX9_flips 12 = .ok (.invokevirtual 185, 3) := by decide +kernel
theorem dX9_flips_15 : decode cX9_flips 15 = .ok (.ifCond .ne 11, 3) := by decide +kernel
theorem dX9_flips_18 : decode cX9_flips 18 = .ok (.aload_n 0, 1) := by decide +kernel
theorem dX9_flips_19 : decode cX9_flips 19 = .ok (.iload_n 2, 1) := by decide +kernel
theorem dX9_flips_20 : decode cX9_flips 20 = .ok (.invokevirtual 185, 3) := by decide +kernel
theorem dX9_flips_23 : decode cX9_flips 23 = .ok (.ifCond .eq 8, 3) := by decide +kernel
theorem dX9_flips_26 : decode cX9_flips 26 = .ok (.bipush (-2), 2) := by decide +kernel
theorem dX9_flips_28 : decode cX9_flips 28 = .ok (.goto 9, 3) := by decide +kernel
theorem dX9_flips_31 : decode cX9_flips 31 = .ok (.aload_n 0, 1) := by decide +kernel
theorem dX9_flips_32 : decode cX9_flips 32 = .ok (.iload_n 1, 1) := by decide +kernel
theorem dX9_flips_33 : decode cX9_flips 33 = .ok (.iload_n 2, 1) := by decide +kernel
theorem dX9_flips_34 : decode cX9_flips 34 = .ok (.invokevirtual 193, 3) := by decide +kernel
theorem dX9_flips_37 : decode cX9_flips 37 = .ok (.ireturn, 1) := by decide +kernel
theorem dX9_counting_0 : decode cX9_counting 0 = .ok (.aload_n 0, 1) := by decide +kernel
theorem dX9_counting_1 : decode cX9_counting 1 = .ok (.getfield 77, 3) := by decide +kernel
theorem dX9_counting_4 : decode cX9_counting 4 = .ok (.ifCond .ne 6, 3) := by decide +kernel
theorem dX9_counting_7 : decode cX9_counting 7 = .ok (.bipush (-3), 2) := by decide +kernel
theorem dX9_counting_9 : decode cX9_counting 9 = .ok (.ireturn, 1) := by decide +kernel
theorem dX9_counting_10 : decode cX9_counting 10 = .ok (.aload_n 0, 1) := by decide +kernel
theorem dX9_counting_11 : decode cX9_counting 11 = .ok (.iload_n 1, 1) := by decide +kernel
theorem dX9_counting_12 : decode cX9_counting 12 = .ok (.invokevirtual 185, 3) := by decide +kernel
theorem dX9_counting_15 : decode cX9_counting 15 = .ok (.ifCond .ne 28, 3) := by decide +kernel
theorem dX9_counting_18 : decode cX9_counting 18 = .ok (.aload_n 0, 1) := by decide +kernel
theorem dX9_counting_19 : decode cX9_counting 19 = .ok (.iload_n 2, 1) := by decide +kernel
theorem dX9_counting_20 : decode cX9_counting 20 = .ok (.invokevirtual 185, 3) := by decide +kernel
theorem dX9_counting_23 : decode cX9_counting 23 = .ok (.ifCond .ne 20, 3) := by decide +kernel
theorem dX9_counting_26 : decode cX9_counting 26 = .ok (.iload_n 2, 1) := by decide +kernel
theorem dX9_counting_27 : decode cX9_counting 27 = .ok (.iload_n 1, 1) := by decide +kernel
theorem dX9_counting_28 : decode cX9_counting 28 = .ok (.if_icmp .lt 15, 3) := by decide +kernel
theorem dX9_counting_31 : decode cX9_counting 31 = .ok (.iload_n 3, 1) := by decide +kernel
theorem dX9_counting_32 : decode cX9_counting 32 = .ok (.i2l, 1) := by decide +kernel
theorem dX9_counting_33 : decode cX9_counting 33 = .ok (.lconst 0, 1) := by decide +kernel
theorem dX9_counting_34 : decode cX9_counting 34 = .ok (.ldc2_w 120, 3) := by decide +kernel
theorem dX9_counting_37 : decode cX9_counting 37 = .ok (.invokestatic 80, 3) := by decide +kernel
theorem dX9_counting_40 : decode cX9_counting 40 = .ok (.ifCond .ne 6, 3) := by decide +kernel
theorem dX9_counting_43 : decode cX9_counting 43 = .ok (.bipush (-2), 2) := by decide +kernel
theorem dX9_counting_45 : decode cX9_counting 45 = .ok (.ireturn, 1) := by decide +kernel
theorem dX9_counting_46 : decode cX9_counting 46 = .ok (.iconst 0, 1) := by decide +kernel
theorem dX9_counting_47 : decode cX9_counting 47 = .ok (.istore 4, 2) := by decide +kernel
theorem dX9_counting_49 : decode cX9_counting 49 = .ok (.iconst 0, 1) := by decide +kernel
theorem dX9_counting_50 : decode cX9_counting 50 = .ok (.istore 5, 2) := by decide +kernel
theorem dX9_counting_52 : decode cX9_counting 52 = .ok (.iconst 0, 1) := by decide +kernel
theorem dX9_counting_53 : decode cX9_counting 53 = .ok (.istore 6, 2) := by decide +kernel
theorem dX9_counting_55 : decode cX9_counting 55 = .ok (.iload_n 1, 1) := by decide +kernel
theorem dX9_counting_56 : decode cX9_counting 56 = .ok (.istore 7, 2) := by decide +kernel
theorem dX9_counting_58 : decode cX9_counting 58 = .ok (.iload 7, 2) := by decide +kernel
theorem dX9_counting_60 : decode cX9_counting 60 = .ok (.iload_n 2, 1) := by decide +kernel
theorem dX9_counting_61 : decode cX9_counting 61 = .ok (.if_icmp .ge 59, 3) := by decide +kernel
theorem dX9_counting_64 : decode cX9_counting 64 = .ok (.aload_n 0, 1) := by decide +kernel
theorem dX9_counting_65 : decode cX9_counting 65 = .ok (.iload 7, 2) := by decide +kernel
theorem dX9_counting_67 : decode cX9_counting 67 = .ok (.iload 7, 2) := by decide +kernel
theorem dX9_counting_69 : decode cX9_counting 69 = .ok (.iconst 1, 1) := by decide +kernel
theorem dX9_counting_70 : decode cX9_counting 70 = .ok (.iadd, 1) := by decide +kernel
theorem dX9_counting_71 : decode cX9_counting 71 = .ok (.invokevirtual 193, 3) := by decide +kernel
theorem dX9_counting_74 : decode cX9_counting 74 = .ok (.istore 8, 2) := by decide +kernel
theorem dX9_counting_76 : decode cX9_counting 76 = .ok (.iload 4, 2) := by decide +kernel
theorem dX9_counting_78 : decode cX9_counting 78 = .ok (.iload 8, 2) := by decide +kernel
theorem dX9_counting_80 : decode cX9_counting 80 = .ok (.ifCond .ne 7, 3) := by decide +kernel
theorem dX9_counting_83 : decode cX9_counting 83 = .ok (.iconst 1, 1) := by decide +kernel
theorem dX9_counting_84 : decode cX9_counting 84 = .ok (.goto 4, 3) := by decide +kernel
theorem dX9_counting_87 : decode cX9_counting 87 = .ok (.iconst 0, 1) := by decide +kernel
theorem dX9_counting_88 : decode cX9_counting 88 = .ok (.iadd, 1) := by decide +kernel
theorem dX9_counting_89 : decode cX9_counting 89 = .ok (.istore 4, 2) := by decide +kernel
theorem dX9_counting_91 : decode cX9_counting 91 = .ok (.iload 5, 2) := by decide +kernel
theorem dX9_counting_93 : decode cX9_counting 93 = .ok (.iload 8, 2) := by decide +kernel
theorem dX9_counting_95 : decode cX9_counting 95 = .ok (.iadd, 1) := by decide +kernel
theorem dX9_counting_96 : decode cX9_counting 96 = .ok (.istore 5, 2) := by decide +kernel
theorem dX9_counting_98 : decode cX9_counting 98 = .ok (.iload 8, 2) := by decide +kernel
theorem dX9_counting_100 : decode cX9_counting 100 = .ok (.iload 6, 2) := by decide +kernel
theorem dX9_counting_102 : decode cX9_counting 102 = .ok (.if_icmp .le 8, 3) := by decide +kernel
theorem dX9_counting_105 : decode cX9_counting 105 = .ok (.iload 8, 2) := by decide +kernel
theorem dX9_counting_107 : decode cX9_counting 107 = .ok (.goto 5, 3) := by decide +kernel
theorem dX9_counting_110 : decode cX9_counting 110 = .ok (.iload 6, 2) := by decide +kernel
theorem dX9_counting_112 : decode cX9_counting 112 = .ok (.istore 6, 2) := by decide +kernel
theorem dX9_counting_114 : decode cX9_counting 114 = .ok (.iinc 7 1, 3) := by decide +kernel
theorem dX9_counting_117 : decode cX9_counting 117 = .ok (.goto (-59), 3) := by decide +kernel
theorem dX9_counting_120 : decode cX9_counting 120 = .ok (.iload_n 3, 1) := by decide +kernel
theorem dX9_counting_121 : decode cX9_counting 121 = .ok (.ifCond .ne 8, 3) := by decide +kernel
theorem dX9_counting_124 : decode cX9_counting 124 = .ok (.iload 4, 2) := by decide +kernel
theorem dX9_counting_126 : decode cX9_counting 126 = .ok (.goto 15, 3) := by decide +kernel
theorem dX9_counting_129 : decode cX9_counting 129 = .ok (.iload_n 3, 1) := by decide +kernel
theorem dX9_counting_130 : decode cX9_counting 130 = .ok (.iconst 1, 1) := by decide +kernel
theorem dX9_counting_131 : decode cX9_counting 131 = .ok (.if_icmp .ne 8, 3) := by decide +kernel
theorem dX9_counting_134 : decode cX9_counting 134 = .ok (.iload 5, 2) := by decide +kernel
theorem dX9_counting_136 : decode cX9_counting 136 = .ok (.goto 5, 3) := by decide +kernel
theorem dX9_counting_139 : decode cX9_counting 139 = .ok (.iload 6, 2) := by decide +kernel
theorem dX9_counting_141 : decode cX9_counting 141 = .ok (.ireturn, 1) := by decide +kernel
theorem dX9_near_0 : decode cX9_near 0 = .ok (.aload_n 0, 1) := by decide +kernel
theorem dX9_near_1 : decode cX9_near 1 = .ok (.getfield 77, 3) := by decide +kernel
theorem dX9_near_4 : decode cX9_near 4 = .ok (.ifCond .ne 6, 3) := by decide +kernel
theorem dX9_near_7 : decode cX9_near 7 = .ok (.bipush (-3), 2) := by decide +kernel
theorem dX9_near_9 : decode cX9_near 9 = .ok (.ireturn, 1) := by decide +kernel
theorem dX9_near_10 : decode cX9_near 10 = .ok (.aload_n 0, 1) := by decide +kernel
theorem dX9_near_11 : decode cX9_near 11 = .ok (.iload_n 1, 1) := by decide +kernel
theorem dX9_near_12 : decode cX9_near 12 = .ok (.invokevirtual 185, 3) := by decide +kernel
theorem dX9_near_15 : decode cX9_near 15 = .ok (.ifCond .ne 13, 3) := by decide +kernel
theorem dX9_near_18 : decode cX9_near 18 = .ok (.iload_n 2, 1) := by decide +kernel
theorem dX9_near_19 : decode cX9_near 19 = .ok (.i2l, 1) := by decide +kernel
theorem dX9_near_20 : decode cX9_near 20 = .ok (.lconst 0, 1) := by decide +kernel
theorem dX9_near_21 : decode cX9_near 21 = .ok (.lconst 1, 1) := by decide +kernel
theorem dX9_near_22 : decode cX9_near 22 = .ok (.invokestatic 80, 3) := by decide +kernel
theorem dX9_near_25 : decode cX9_near 25 = .ok (.ifCond .ne 6, 3) := by decide +kernel
theorem dX9_near_28 : decode cX9_near 28 = .ok (.bipush (-2), 2) := by decide +kernel
theorem dX9_near_30 : decode cX9_near 30 = .ok (.ireturn, 1) := by decide +kernel
theorem dX9_near_31 : decode cX9_near 31 = .ok (.bipush (-9), 2) := by decide +kernel
theorem dX9_near_33 : decode cX9_near 33 = .ok (.istore_n 3, 1) := by decide +kernel
theorem dX9_near_34 : decode cX9_near 34 = .ok (.bipush 99, 2) := by decide +kernel
theorem dX9_near_36 : decode cX9_near 36 = .ok (.istore 4, 2) := by decide +kernel
theorem dX9_near_38 : decode cX9_near 38 = .ok (.iconst 0, 1) := by decide +kernel
theorem dX9_near_39 : decode cX9_near 39 = .ok (.istore 5, 2) := by decide +kernel
theorem dX9_near_41 : decode cX9_near 41 = .ok (.iload 5, 2) := by decide +kernel
theorem dX9_near_43 : decode cX9_near 43 = .ok (.aload_n 0, 1) := by decide +kernel
theorem dX9_near_44 : decode cX9_near 44 = .ok (.invokevirtual 181, 3) := by decide +kernel
theorem dX9_near_47 : decode cX9_near 47 = .ok (.if_icmp .gt 59, 3) := by decide +kernel
theorem dX9_near_50 : decode cX9_near 50 = .ok (.iload 5, 2) := by decide +kernel
theorem dX9_near_52 : decode cX9_near 52 = .ok (.iload_n 1, 1) := by decide +kernel
theorem dX9_near_53 : decode cX9_near 53 = .ok (.if_icmp .ne 8, 3) := by decide +kernel
theorem dX9_near_56 : decode cX9_near 56 = .ok (.bipush 99, 2) := by decide +kernel
theorem dX9_near_58 : decode cX9_near 58 = .ok (.goto 10, 3) := by decide +kernel
theorem dX9_near_61 : decode cX9_near 61 = .ok (.aload_n 0, 1) := by decide +kernel
theorem dX9_near_62 : decode cX9_near 62 = .ok (.iload 5, 2) := by decide +kernel
theorem dX9_near_64 : decode cX9_near 64 = .ok (.iload_n 1, 1) := by decide +kernel
theorem dX9_near_65 : decode cX9_near 65 = .ok (.invokevirtual 193, 3) := by decide +kernel
theorem dX9_near_68 : decode cX9_near 68 = .ok (.istore 6, 2) := by decide +kernel
theorem dX9_near_70 : decode cX9_near 70 = .ok (.iload 6, 2) := by decide +kernel
theorem dX9_near_72 : decode cX9_near 72 = .ok (.iload 4, 2) := by decide +kernel
theorem dX9_near_74 : decode cX9_near 74 = .ok (.if_icmp .ge 8, 3) := by decide +kernel
theorem dX9_near_77 : decode cX9_near 77 = .ok (.iload 5, 2) := by decide +kernel
theorem dX9_near_79 : decode cX9_near 79 = .ok (.goto 4, 3) := by decide +kernel
theorem dX9_near_82 : decode cX9_near 82 = .ok (.iload_n 3, 1) := by decide +kernel
theorem dX9_near_83 : decode cX9_near 83 = .ok (.istore_n 3, 1) := by decide +kernel
theorem dX9_near_84 : decode cX9_near 84 = .ok (.iload 6, 2) := by decide +kernel
theorem dX9_near_86 : decode cX9_near 86 = .ok (.iload 4, 2) := by decide +kernel
theorem dX9_near_88 : decode cX9_near 88 = .ok (.if_icmp .ge 8, 3) := by decide +kernel
theorem dX9_near_91 : decode cX9_near 91 = .ok (.iload 6, 2) := by decide +kernel
theorem dX9_near_93 : decode cX9_near 93 = .ok (.goto 5, 3) := by decide +kernel
theorem dX9_near_96 : decode cX9_near 96 = .ok (.iload 4, 2) := by decide +kernel
theorem dX9_near_98 : decode cX9_near 98 = .ok (.istore 4, 2) := by decide +kernel
theorem dX9_near_100 : decode cX9_near 100 = .ok (.iinc 5 1, 3) := by decide +kernel
theorem dX9_near_103 : decode cX9_near 103 = .ok (.goto (-62), 3) := by decide +kernel
theorem dX9_near_106 : decode cX9_near 106 = .ok (.iload_n 2, 1) := by decide +kernel
theorem dX9_near_107 : decode cX9_near 107 = .ok (.ifCond .ne 8, 3) := by decide +kernel
theorem dX9_near_110 : decode cX9_near 110 = .ok (.iload 4, 2) := by decide +kernel
theorem dX9_near_112 : decode cX9_near 112 = .ok (.goto 4, 3) := by decide +kernel
theorem dX9_near_115 : decode cX9_near 115 = .ok (.iload_n 3, 1) := by decide +kernel
theorem dX9_near_116 : decode cX9_near 116 = .ok (.ireturn, 1) := by decide +kernel
theorem dX9_pictures_0 : decode cX9_pictures 0 = .ok (.aload_n 0, 1) := by decide +kernel
theorem dX9_pictures_1 : decode cX9_pictures 1 = .ok (.getfield 77, 3) := by decide +kernel
theorem dX9_pictures_4 : decode cX9_pictures 4 = .ok (.ifCond .ne 6, 3) := by decide +kernel
theorem dX9_pictures_7 : decode cX9_pictures 7 = .ok (.bipush (-3), 2) := by decide +kernel
theorem dX9_pictures_9 : decode cX9_pictures 9 = .ok (.ireturn, 1) := by decide +kernel
theorem dX9_pictures_10 : decode cX9_pictures 10 = .ok (.iconst 1, 1) := by decide +kernel
theorem dX9_pictures_11 : decode cX9_pictures 11 = .ok (.istore_n 1, 1) := by decide +kernel
theorem dX9_pictures_12 : decode cX9_pictures 12 = .ok (.iconst 0, 1) := by decide +kernel
theorem dX9_pictures_13 : decode cX9_pictures 13 = .ok (.istore_n 2, 1) := by decide +kernel
theorem dX9_pictures_14 : decode cX9_pictures 14 = .ok (.iload_n 2, 1) := by decide +kernel
theorem dX9_pictures_15 : decode cX9_pictures 15 = .ok (.aload_n 0, 1) := by decide +kernel
theorem dX9_pictures_16 : decode cX9_pictures 16 = .ok (.getfield 77, 3) := by decide +kernel
theorem dX9_pictures_19 : decode cX9_pictures 19 = .ok (.if_icmp .ge 17, 3) := by decide +kernel
theorem dX9_pictures_22 : decode cX9_pictures 22 = .ok (.iload_n 1, 1) := by decide +kernel
theorem dX9_pictures_23 : decode cX9_pictures 23 = .ok (.aload_n 0, 1) := by decide +kernel
theorem dX9_pictures_24 : decode cX9_pictures 24 = .ok (.iload_n 2, 1) := by decide +kernel
theorem dX9_pictures_25 : decode cX9_pictures 25 = .ok (.invokevirtual 163, 3) := by decide +kernel
theorem dX9_pictures_28 : decode cX9_pictures 28 = .ok (.imul, 1) := by decide +kernel
theorem dX9_pictures_29 : decode cX9_pictures 29 = .ok (.istore_n 1, 1) := by decide +kernel
theorem dX9_pictures_30 : decode cX9_pictures 30 = .ok (.iinc 2 1, 3) := by decide +kernel
theorem dX9_pictures_33 : decode cX9_pictures 33 = .ok (.goto (-19), 3) := by decide +kernel
theorem dX9_pictures_36 : decode cX9_pictures 36 = .ok (.iload_n 1, 1) := by decide +kernel
theorem dX9_pictures_37 : decode cX9_pictures 37 = .ok (.ireturn, 1) := by decide +kernel
theorem dX9_keepAll_0 : decode cX9_keepAll 0 = .ok (.aload_n 0, 1) := by decide +kernel
theorem dX9_keepAll_1 : decode cX9_keepAll 1 = .ok (.aload_n 0, 1) := by decide +kernel
theorem dX9_keepAll_2 : decode cX9_keepAll 2 = .ok (.getfield 132, 3) := by decide +kernel
theorem dX9_keepAll_5 : decode cX9_keepAll 5 = .ok (.putfield 196, 3) := by decide +kernel
theorem dX9_keepAll_8 : decode cX9_keepAll 8 = .ok (.iconst 0, 1) := by decide +kernel
theorem dX9_keepAll_9 : decode cX9_keepAll 9 = .ok (.istore_n 1, 1) := by decide +kernel
theorem dX9_keepAll_10 : decode cX9_keepAll 10 = .ok (.iload_n 1, 1) := by decide +kernel
theorem dX9_keepAll_11 : decode cX9_keepAll 11 = .ok (.aload_n 0, 1) := by decide +kernel
theorem dX9_keepAll_12 : decode cX9_keepAll 12 = .ok (.getfield 77, 3) := by decide +kernel
theorem dX9_keepAll_15 : decode cX9_keepAll 15 = .ok (.if_icmp .ge 21, 3) := by decide +kernel
theorem dX9_keepAll_18 : decode cX9_keepAll 18 = .ok (.aload_n 0, 1) := by decide +kernel
theorem dX9_keepAll_19 : decode cX9_keepAll 19 = .ok (.getfield 31, 3) := by decide +kernel
theorem dX9_keepAll_22 : decode cX9_keepAll 22 = .ok (.iload_n 1, 1) := by decide +kernel
theorem dX9_keepAll_23 : decode cX9_keepAll 23 = .ok (.aload_n 0, 1) := by decide +kernel
theorem dX9_keepAll_24 : decode cX9_keepAll 24 = .ok (.getfield 13, 3) := by decide +kernel
theorem dX9_keepAll_27 : decode cX9_keepAll 27 = .ok (.iload_n 1, 1) := by decide +kernel
theorem dX9_keepAll_28 : decode cX9_keepAll 28 = .ok (.iaload, 1) := by decide +kernel
theorem dX9_keepAll_29 : decode cX9_keepAll 29 = .ok (.iastore, 1) := by decide +kernel
theorem dX9_keepAll_30 : decode cX9_keepAll 30 = .ok (.iinc 1 1, 3) := by decide +kernel
theorem dX9_keepAll_33 : decode cX9_keepAll 33 = .ok (.goto (-23), 3) := by decide +kernel
theorem dX9_keepAll_36 : decode cX9_keepAll 36 = .ok (.iconst 0, 1) := by decide +kernel
theorem dX9_keepAll_37 : decode cX9_keepAll 37 = .ok (.istore_n 1, 1) := by decide +kernel
theorem dX9_keepAll_38 : decode cX9_keepAll 38 = .ok (.iload_n 1, 1) := by decide +kernel
theorem dX9_keepAll_39 : decode cX9_keepAll 39 = .ok (.bipush 28, 2) := by decide +kernel
theorem dX9_keepAll_41 : decode cX9_keepAll 41 = .ok (.if_icmp .ge 21, 3) := by decide +kernel
theorem dX9_keepAll_44 : decode cX9_keepAll 44 = .ok (.aload_n 0, 1) := by decide +kernel
theorem dX9_keepAll_45 : decode cX9_keepAll 45 = .ok (.getfield 34, 3) := by decide +kernel
theorem dX9_keepAll_48 : decode cX9_keepAll 48 = .ok (.iload_n 1, 1) := by decide +kernel
theorem dX9_keepAll_49 : decode cX9_keepAll 49 = .ok (.aload_n 0, 1) := by decide +kernel
theorem dX9_keepAll_50 : decode cX9_keepAll 50 = .ok (.getfield 19, 3) := by decide +kernel
theorem dX9_keepAll_53 : decode cX9_keepAll 53 = .ok (.iload_n 1, 1) := by decide +kernel
theorem dX9_keepAll_54 : decode cX9_keepAll 54 = .ok (.iaload, 1) := by decide +kernel
theorem dX9_keepAll_55 : decode cX9_keepAll 55 = .ok (.iastore, 1) := by decide +kernel
theorem dX9_keepAll_56 : decode cX9_keepAll 56 = .ok (.iinc 1 1, 3) := by decide +kernel
theorem dX9_keepAll_59 : decode cX9_keepAll 59 = .ok (.goto (-21), 3) := by decide +kernel
theorem dX9_keepAll_62 : decode cX9_keepAll 62 = .ok (.return_, 1) := by decide +kernel
theorem dX9_bringBack_0 : decode cX9_bringBack 0 = .ok (.aload_n 0, 1) := by decide +kernel
theorem dX9_bringBack_1 : decode cX9_bringBack 1 = .ok (.aload_n 0, 1) := by decide +kernel
theorem dX9_bringBack_2 : decode cX9_bringBack 2 = .ok (.getfield 196, 3) := by decide +kernel
theorem dX9_bringBack_5 : decode cX9_bringBack 5 = .ok (.putfield 132, 3) := by decide +kernel
theorem dX9_bringBack_8 : decode cX9_bringBack 8 = .ok (.iconst 0, 1) := by decide +kernel
theorem dX9_bringBack_9 : decode cX9_bringBack 9 = .ok (.istore_n 1, 1) := by decide +kernel
theorem dX9_bringBack_10 : decode cX9_bringBack 10 = .ok (.iload_n 1, 1) := by decide +kernel
theorem dX9_bringBack_11 : decode cX9_bringBack 11 = .ok (.aload_n 0, 1) := by decide +kernel
theorem dX9_bringBack_12 : decode cX9_bringBack 12 = .ok (.getfield 77, 3) := by decide +kernel
theorem dX9_bringBack_15 : decode cX9_bringBack 15 = .ok (.if_icmp .ge 21, 3) := by decide +kernel
theorem dX9_bringBack_18 : decode cX9_bringBack 18 = .ok (.aload_n 0, 1) := by decide +kernel
theorem dX9_bringBack_19 : decode cX9_bringBack 19 = .ok (.getfield 13, 3) := by decide +kernel
theorem dX9_bringBack_22 : decode cX9_bringBack 22 = .ok (.iload_n 1, 1) := by decide +kernel
theorem dX9_bringBack_23 : decode cX9_bringBack 23 = .ok (.aload_n 0, 1) := by decide +kernel
theorem dX9_bringBack_24 : decode cX9_bringBack 24 = .ok (.getfield 31, 3) := by decide +kernel
theorem dX9_bringBack_27 : decode cX9_bringBack 27 = .ok (.iload_n 1, 1) := by decide +kernel
theorem dX9_bringBack_28 : decode cX9_bringBack 28 = .ok (.iaload, 1) := by decide +kernel
theorem dX9_bringBack_29 : decode cX9_bringBack 29 = .ok (.iastore, 1) := by decide +kernel
theorem dX9_bringBack_30 : decode cX9_bringBack 30 = .ok (.iinc 1 1, 3) := by decide +kernel
theorem dX9_bringBack_33 : decode cX9_bringBack 33 = .ok (.goto (-23), 3) := by decide +kernel
theorem dX9_bringBack_36 : decode cX9_bringBack 36 = .ok (.iconst 0, 1) := by decide +kernel
theorem dX9_bringBack_37 : decode cX9_bringBack 37 = .ok (.istore_n 1, 1) := by decide +kernel
theorem dX9_bringBack_38 : decode cX9_bringBack 38 = .ok (.iload_n 1, 1) := by decide +kernel
theorem dX9_bringBack_39 : decode cX9_bringBack 39 = .ok (.bipush 28, 2) := by decide +kernel
theorem dX9_bringBack_41 : decode cX9_bringBack 41 = .ok (.if_icmp .ge 21, 3) := by decide +kernel
theorem dX9_bringBack_44 : decode cX9_bringBack 44 = .ok (.aload_n 0, 1) := by decide +kernel
theorem dX9_bringBack_45 : decode cX9_bringBack 45 = .ok (.getfield 19, 3) := by decide +kernel
theorem dX9_bringBack_48 : decode cX9_bringBack 48 = .ok (.iload_n 1, 1) := by decide +kernel
theorem dX9_bringBack_49 : decode cX9_bringBack 49 = .ok (.aload_n 0, 1) := by decide +kernel
theorem dX9_bringBack_50 : decode cX9_bringBack 50 = .ok (.getfield 34, 3) := by decide +kernel
theorem dX9_bringBack_53 : decode cX9_bringBack 53 = .ok (.iload_n 1, 1) := by decide +kernel
theorem dX9_bringBack_54 : decode cX9_bringBack 54 = .ok (.iaload, 1) := by decide +kernel
theorem dX9_bringBack_55 : decode cX9_bringBack 55 = .ok (.iastore, 1) := by decide +kernel
theorem dX9_bringBack_56 : decode cX9_bringBack 56 = .ok (.iinc 1 1, 3) := by decide +kernel
theorem dX9_bringBack_59 : decode cX9_bringBack 59 = .ok (.goto (-21), 3) := by decide +kernel
theorem dX9_bringBack_62 : decode cX9_bringBack 62 = .ok (.return_, 1) := by decide +kernel
theorem dX9_wears_0 : decode cX9_wears 0 = .ok (.iconst 0, 1) := by decide +kernel
theorem dX9_wears_1 : decode cX9_wears 1 = .ok (.istore_n 3, 1) := by decide +kernel
theorem dX9_wears_2 : decode cX9_wears 2 = .ok (.iconst 0, 1) := by decide +kernel
theorem dX9_wears_3 : decode cX9_wears 3 = .ok (.istore 4, 2) := by decide +kernel
theorem dX9_wears_5 : decode cX9_wears 5 = .ok (.iload 4, 2) := by decide +kernel
theorem dX9_wears_7 : decode cX9_wears 7 = .ok (.bipush 7, 2) := by decide +kernel
theorem dX9_wears_9 : decode cX9_wears 9 = .ok (.if_icmp .ge 68, 3) := by decide +kernel
theorem dX9_wears_12 : decode cX9_wears 12 = .ok (.aload_n 0, 1) := by decide +kernel
theorem dX9_wears_13 : decode cX9_wears 13 = .ok (.getfield 19, 3) := by decide +kernel
theorem dX9_wears_16 : decode cX9_wears 16 = .ok (.bipush 7, 2) := by decide +kernel
theorem dX9_wears_18 : decode cX9_wears 18 = .ok (.iload_n 1, 1) := by decide +kernel
theorem dX9_wears_19 : decode cX9_wears 19 = .ok (.imul, 1) := by decide +kernel
theorem dX9_wears_20 : decode cX9_wears 20 = .ok (.iload 4, 2) := by decide +kernel
theorem dX9_wears_22 : decode cX9_wears 22 = .ok (.iadd, 1) := by decide +kernel
theorem dX9_wears_23 : decode cX9_wears 23 = .ok (.dup2, 1) := by decide +kernel
theorem dX9_wears_24 : decode cX9_wears 24 = .ok (.iaload, 1) := by decide +kernel
theorem dX9_wears_25 : decode cX9_wears 25 = .ok (.iload_n 2, 1) := by decide +kernel
theorem dX9_wears_26 : decode cX9_wears 26 = .ok (.iload 4, 2) := by decide +kernel
theorem dX9_wears_28 : decode cX9_wears 28 = .ok (.invokestatic 173, 3) := by decide +kernel
theorem dX9_wears_31 : decode cX9_wears 31 = .ok (.ifCond .eq 7, 3) := by decide +kernel
theorem dX9_wears_34 : decode cX9_wears 34 = .ok (.iconst 1, 1) := by decide +kernel
theorem dX9_wears_35 : decode cX9_wears 35 = .ok (.goto 4, 3) := by decide +kernel
theorem dX9_wears_38 : decode cX9_wears 38 = .ok (.iconst 0, 1) := by decide +kernel
theorem dX9_wears_39 : decode cX9_wears 39 = .ok (.iadd, 1) := by decide +kernel
theorem dX9_wears_40 : decode cX9_wears 40 = .ok (.iastore, 1) := by decide +kernel
theorem dX9_wears_41 : decode cX9_wears 41 = .ok (.iload_n 3, 1) := by decide +kernel
theorem dX9_wears_42 : decode cX9_wears 42 = .ok (.aload_n 0, 1) := by decide +kernel
theorem dX9_wears_43 : decode cX9_wears 43 = .ok (.getfield 19, 3) := by decide +kernel
theorem dX9_wears_46 : decode cX9_wears 46 = .ok (.bipush 7, 2) := by decide +kernel
theorem dX9_wears_48 : decode cX9_wears 48 = .ok (.iload_n 1, 1) := by decide +kernel
theorem dX9_wears_49 : decode cX9_wears 49 = .ok (.imul, 1) := by decide +kernel
theorem dX9_wears_50 : decode cX9_wears 50 = .ok (.iload 4, 2) := by decide +kernel
theorem dX9_wears_52 : decode cX9_wears 52 = .ok (.iadd, 1) := by decide +kernel
theorem dX9_wears_53 : decode cX9_wears 53 = .ok (.iaload, 1) := by decide +kernel
theorem dX9_wears_54 : decode cX9_wears 54 = .ok (.aload_n 0, 1) := by decide +kernel
theorem dX9_wears_55 : decode cX9_wears 55 = .ok (.getfield 129, 3) := by decide +kernel
theorem dX9_wears_58 : decode cX9_wears 58 = .ok (.if_icmp .lt 10, 3) := by decide +kernel
theorem dX9_wears_61 : decode cX9_wears 61 = .ok (.iconst 1, 1) := by decide +kernel
theorem dX9_wears_62 : decode cX9_wears 62 = .ok (.iload 4, 2) := by decide +kernel
theorem dX9_wears_64 : decode cX9_wears 64 = .ok (.ishl, 1) := by decide +kernel
theorem dX9_wears_65 : decode cX9_wears 65 = .ok (.goto 4, 3) := by decide +kernel
theorem dX9_wears_68 : decode cX9_wears 68 = .ok (.iconst 0, 1) := by decide +kernel
theorem dX9_wears_69 : decode cX9_wears 69 = .ok (.ior, 1) := by decide +kernel
theorem dX9_wears_70 : decode cX9_wears 70 = .ok (.istore_n 3, 1) := by decide +kernel
theorem dX9_wears_71 : decode cX9_wears 71 = .ok (.iinc 4 1, 3) := by decide +kernel
theorem dX9_wears_74 : decode cX9_wears 74 = .ok (.goto (-69), 3) := by decide +kernel
theorem dX9_wears_77 : decode cX9_wears 77 = .ok (.aload_n 0, 1) := by decide +kernel
theorem dX9_wears_78 : decode cX9_wears 78 = .ok (.getfield 13, 3) := by decide +kernel
theorem dX9_wears_81 : decode cX9_wears 81 = .ok (.iload_n 1, 1) := by decide +kernel
theorem dX9_wears_82 : decode cX9_wears 82 = .ok (.dup2, 1) := by decide +kernel
theorem dX9_wears_83 : decode cX9_wears 83 = .ok (.iaload, 1) := by decide +kernel
theorem dX9_wears_84 : decode cX9_wears 84 = .ok (.iload_n 3, 1) := by decide +kernel
theorem dX9_wears_85 : decode cX9_wears 85 = .ok (.ior, 1) := by decide +kernel
theorem dX9_wears_86 : decode cX9_wears 86 = .ok (.iastore, 1) := by decide +kernel
theorem dX9_wears_87 : decode cX9_wears 87 = .ok (.return_, 1) := by decide +kernel
theorem dX9_step_0 : decode cX9_step 0 = .ok (.aload_n 0, 1) := by decide +kernel
theorem dX9_step_1 : decode cX9_step 1 = .ok (.getfield 132, 3) := by decide +kernel
theorem dX9_step_4 : decode cX9_step 4 = .ok (.aload_n 0, 1) := by decide +kernel
theorem dX9_step_5 : decode cX9_step 5 = .ok (.invokevirtual 181, 3) := by decide +kernel
theorem dX9_step_8 : decode cX9_step 8 = .ok (.if_icmp .ne 7, 3) := by decide +kernel
theorem dX9_step_11 : decode cX9_step 11 = .ok (.iconst 0, 1) := by decide +kernel
theorem dX9_step_12 : decode cX9_step 12 = .ok (.goto 9, 3) := by decide +kernel
theorem dX9_step_15 : decode cX9_step 15 = .ok (.aload_n 0, 1) := by decide +kernel
theorem dX9_step_16 : decode cX9_step 16 = .ok (.getfield 132, 3) := by decide +kernel
theorem dX9_step_19 : decode cX9_step 19 = .ok (.iconst 1, 1) := by decide +kernel
theorem dX9_step_20 : decode cX9_step 20 = .ok (.iadd, 1) := by decide +kernel
theorem dX9_step_21 : decode cX9_step 21 = .ok (.istore_n 1, 1) := by decide +kernel
theorem dX9_step_22 : decode cX9_step 22 = .ok (.iconst 0, 1) := by decide +kernel
theorem dX9_step_23 : decode cX9_step 23 = .ok (.istore_n 2, 1) := by decide +kernel
theorem dX9_step_24 : decode cX9_step 24 = .ok (.iload_n 2, 1) := by decide +kernel
theorem dX9_step_25 : decode cX9_step 25 = .ok (.aload_n 0, 1) := by decide +kernel
theorem dX9_step_26 : decode cX9_step 26 = .ok (.getfield 77, 3) := by decide +kernel
theorem dX9_step_29 : decode cX9_step 29 = .ok (.if_icmp .ge 40, 3) := by decide +kernel
theorem dX9_step_32 : decode cX9_step 32 = .ok (.aload_n 0, 1) := by decide +kernel
theorem dX9_step_33 : decode cX9_step 33 = .ok (.iload_n 2, 1) := by decide +kernel
theorem dX9_step_34 : decode cX9_step 34 = .ok (.aload_n 0, 1) := by decide +kernel
theorem dX9_step_35 : decode cX9_step 35 = .ok (.iload_n 2, 1) := by decide +kernel
theorem dX9_step_36 : decode cX9_step 36 = .ok (.aload_n 0, 1) := by decide +kernel
theorem dX9_step_37 : decode cX9_step 37 = .ok (.iload_n 2, 1) := by decide +kernel
theorem dX9_step_38 : decode cX9_step 38 = .ok (.aload_n 0, 1) := by decide +kernel
theorem dX9_step_39 : decode cX9_step 39 = .ok (.getfield 132, 3) := by decide +kernel
theorem dX9_step_42 : decode cX9_step 42 = .ok (.invokevirtual 166, 3) := by decide +kernel
theorem dX9_step_45 : decode cX9_step 45 = .ok (.invokevirtual 157, 3) := by decide +kernel
theorem dX9_step_48 : decode cX9_step 48 = .ok (.aload_n 0, 1) := by decide +kernel
theorem dX9_step_49 : decode cX9_step 49 = .ok (.iload_n 2, 1) := by decide +kernel
theorem dX9_step_50 : decode cX9_step 50 = .ok (.aload_n 0, 1) := by decide +kernel
theorem dX9_step_51 : decode cX9_step 51 = .ok (.iload_n 2, 1) := by decide +kernel
theorem dX9_step_52 : decode cX9_step 52 = .ok (.iload_n 1, 1) := by decide +kernel
theorem dX9_step_53 : decode cX9_step 53 = .ok (.invokevirtual 166, 3) := by decide +kernel
theorem dX9_step_56 : decode cX9_step 56 = .ok (.invokevirtual 157, 3) := by decide +kernel
theorem dX9_step_59 : decode cX9_step 59 = .ok (.ixor, 1) := by decide +kernel
theorem dX9_step_60 : decode cX9_step 60 = .ok (.invokevirtual 199, 3) := by decide +kernel
theorem dX9_step_63 : decode cX9_step 63 = .ok (.iinc 2 1, 3) := by decide +kernel
theorem dX9_step_66 : decode cX9_step 66 = .ok (.goto (-42), 3) := by decide +kernel
theorem dX9_step_69 : decode cX9_step 69 = .ok (.aload_n 0, 1) := by decide +kernel
theorem dX9_step_70 : decode cX9_step 70 = .ok (.iload_n 1, 1) := by decide +kernel
theorem dX9_step_71 : decode cX9_step 71 = .ok (.putfield 132, 3) := by decide +kernel
theorem dX9_step_74 : decode cX9_step 74 = .ok (.return_, 1) := by decide +kernel
theorem dX9_deadNow_0 : decode cX9_deadNow 0 = .ok (.iconst 0, 1) := by decide +kernel
theorem dX9_deadNow_1 : decode cX9_deadNow 1 = .ok (.istore_n 1, 1) := by decide +kernel
theorem dX9_deadNow_2 : decode cX9_deadNow 2 = .ok (.iconst 0, 1) := by decide +kernel
theorem dX9_deadNow_3 : decode cX9_deadNow 3 = .ok (.istore_n 2, 1) := by decide +kernel
theorem dX9_deadNow_4 : decode cX9_deadNow 4 = .ok (.iload_n 2, 1) := by decide +kernel
theorem dX9_deadNow_5 : decode cX9_deadNow 5 = .ok (.aload_n 0, 1) := by decide +kernel
theorem dX9_deadNow_6 : decode cX9_deadNow 6 = .ok (.getfield 77, 3) := by decide +kernel
theorem dX9_deadNow_9 : decode cX9_deadNow 9 = .ok (.if_icmp .ge 21, 3) := by decide +kernel
theorem dX9_deadNow_12 : decode cX9_deadNow 12 = .ok (.iload_n 1, 1) := by decide +kernel
theorem dX9_deadNow_13 : decode cX9_deadNow 13 = .ok (.aload_n 0, 1) := by decide +kernel
theorem dX9_deadNow_14 : decode cX9_deadNow 14 = .ok (.getfield 13, 3) := by decide +kernel
theorem dX9_deadNow_17 : decode cX9_deadNow 17 = .ok (.iload_n 2, 1) := by decide +kernel
theorem dX9_deadNow_18 : decode cX9_deadNow 18 = .ok (.iaload, 1) := by decide +kernel
theorem dX9_deadNow_19 : decode cX9_deadNow 19 = .ok (.invokestatic 188, 3) := by decide +kernel
theorem dX9_deadNow_22 : decode cX9_deadNow 22 = .ok (.iadd, 1) := by decide +kernel
theorem dX9_deadNow_23 : decode cX9_deadNow 23 = .ok (.istore_n 1, 1) := by decide +kernel
theorem dX9_deadNow_24 : decode cX9_deadNow 24 = .ok (.iinc 2 1, 3) := by decide +kernel
theorem dX9_deadNow_27 : decode cX9_deadNow 27 = .ok (.goto (-23), 3) := by decide +kernel
theorem dX9_deadNow_30 : decode cX9_deadNow 30 = .ok (.iload_n 1, 1) := by decide +kernel
theorem dX9_deadNow_31 : decode cX9_deadNow 31 = .ok (.ireturn, 1) := by decide +kernel
theorem dX9_go_0 : decode cX9_go 0 = .ok (.aload_n 0, 1) := by decide +kernel
theorem dX9_go_1 : decode cX9_go 1 = .ok (.getfield 77, 3) := by decide +kernel
theorem dX9_go_4 : decode cX9_go 4 = .ok (.ifCond .ne 6, 3) := by decide +kernel
theorem dX9_go_7 : decode cX9_go 7 = .ok (.bipush (-3), 2) := by decide +kernel
theorem dX9_go_9 : decode cX9_go 9 = .ok (.ireturn, 1) := by decide +kernel
theorem dX9_go_10 : decode cX9_go 10 = .ok (.iload_n 1, 1) := by decide +kernel
theorem dX9_go_11 : decode cX9_go 11 = .ok (.i2l, 1) := by decide +kernel
theorem dX9_go_12 : decode cX9_go 12 = .ok (.lconst 1, 1) := by decide +kernel
theorem dX9_go_13 : decode cX9_go 13 = .ok (.ldc2_w 203, 3) := by decide +kernel
theorem dX9_go_16 : decode cX9_go 16 = .ok (.invokestatic 80, 3) := by decide +kernel
theorem dX9_go_19 : decode cX9_go 19 = .ok (.ifCond .ne 6, 3) := by decide +kernel
theorem dX9_go_22 : decode cX9_go 22 = .ok (.bipush (-2), 2) := by decide +kernel
theorem dX9_go_24 : decode cX9_go 24 = .ok (.ireturn, 1) := by decide +kernel
theorem dX9_go_25 : decode cX9_go 25 = .ok (.aload_n 0, 1) := by decide +kernel
theorem dX9_go_26 : decode cX9_go 26 = .ok (.invokevirtual 205, 3) := by decide +kernel
theorem dX9_go_29 : decode cX9_go 29 = .ok (.istore_n 2, 1) := by decide +kernel
theorem dX9_go_30 : decode cX9_go 30 = .ok (.iconst 0, 1) := by decide +kernel
theorem dX9_go_31 : decode cX9_go 31 = .ok (.istore_n 3, 1) := by decide +kernel
theorem dX9_go_32 : decode cX9_go 32 = .ok (.iload_n 3, 1) := by decide +kernel
theorem dX9_go_33 : decode cX9_go 33 = .ok (.iload_n 1, 1) := by decide +kernel
theorem dX9_go_34 : decode cX9_go 34 = .ok (.if_icmp .ge 13, 3) := by decide +kernel
theorem dX9_go_37 : decode cX9_go 37 = .ok (.aload_n 0, 1) := by decide +kernel
theorem dX9_go_38 : decode cX9_go 38 = .ok (.invokevirtual 208, 3) := by decide +kernel
theorem dX9_go_41 : decode cX9_go 41 = .ok (.iinc 3 1, 3) := by decide +kernel
theorem dX9_go_44 : decode cX9_go 44 = .ok (.goto (-12), 3) := by decide +kernel
theorem dX9_go_47 : decode cX9_go 47 = .ok (.aload_n 0, 1) := by decide +kernel
theorem dX9_go_48 : decode cX9_go 48 = .ok (.invokevirtual 205, 3) := by decide +kernel
theorem dX9_go_51 : decode cX9_go 51 = .ok (.iload_n 2, 1) := by decide +kernel
theorem dX9_go_52 : decode cX9_go 52 = .ok (.isub, 1) := by decide +kernel
theorem dX9_go_53 : decode cX9_go 53 = .ok (.ireturn, 1) := by decide +kernel
theorem dX9_diesAt_0 : decode cX9_diesAt 0 = .ok (.aload_n 0, 1) := by decide +kernel
theorem dX9_diesAt_1 : decode cX9_diesAt 1 = .ok (.invokevirtual 211, 3) := by decide +kernel
theorem dX9_diesAt_4 : decode cX9_diesAt 4 = .ok (.bipush (-9), 2) := by decide +kernel
theorem dX9_diesAt_6 : decode cX9_diesAt 6 = .ok (.istore_n 3, 1) := by decide +kernel
theorem dX9_diesAt_7 : decode cX9_diesAt 7 = .ok (.iconst 1, 1) := by decide +kernel
theorem dX9_diesAt_8 : decode cX9_diesAt 8 = .ok (.istore 4, 2) := by decide +kernel
theorem dX9_diesAt_10 : decode cX9_diesAt 10 = .ok (.iload 4, 2) := by decide +kernel
theorem dX9_diesAt_12 : decode cX9_diesAt 12 = .ok (.sipush 1000, 3) := by decide +kernel
theorem dX9_diesAt_15 : decode cX9_diesAt 15 = .ok (.if_icmp .gt 38, 3) := by decide +kernel
theorem dX9_diesAt_18 : decode cX9_diesAt 18 = .ok (.iload_n 3, 1) := by decide +kernel
theorem dX9_diesAt_19 : decode cX9_diesAt 19 = .ok (.ifCond .ge 34, 3) := by decide +kernel
theorem dX9_diesAt_22 : decode cX9_diesAt 22 = .ok (.aload_n 0, 1) := by decide +kernel
theorem dX9_diesAt_23 : decode cX9_diesAt 23 = .ok (.invokevirtual 208, 3) := by decide +kernel
theorem dX9_diesAt_26 : decode cX9_diesAt 26 = .ok (.aload_n 0, 1) := by decide +kernel
theorem dX9_diesAt_27 : decode cX9_diesAt 27 = .ok (.getfield 13, 3) := by decide +kernel
theorem dX9_diesAt_30 : decode cX9_diesAt 30 = .ok (.iload_n 1, 1) := by decide +kernel
theorem dX9_diesAt_31 : decode cX9_diesAt 31 = .ok (.iaload, 1) := by decide +kernel
theorem dX9_diesAt_32 : decode cX9_diesAt 32 = .ok (.iload_n 2, 1) := by decide +kernel
theorem dX9_diesAt_33 : decode cX9_diesAt 33 = .ok (.invokestatic 173, 3) := by decide +kernel
theorem dX9_diesAt_36 : decode cX9_diesAt 36 = .ok (.ifCond .eq 8, 3) := by decide +kernel
theorem dX9_diesAt_39 : decode cX9_diesAt 39 = .ok (.iload 4, 2) := by decide +kernel
theorem dX9_diesAt_41 : decode cX9_diesAt 41 = .ok (.goto 5, 3) := by decide +kernel
theorem dX9_diesAt_44 : decode cX9_diesAt 44 = .ok (.bipush (-9), 2) := by decide +kernel
theorem dX9_diesAt_46 : decode cX9_diesAt 46 = .ok (.istore_n 3, 1) := by decide +kernel
theorem dX9_diesAt_47 : decode cX9_diesAt 47 = .ok (.iinc 4 1, 3) := by decide +kernel
theorem dX9_diesAt_50 : decode cX9_diesAt 50 = .ok (.goto (-40), 3) := by decide +kernel
theorem dX9_diesAt_53 : decode cX9_diesAt 53 = .ok (.aload_n 0, 1) := by decide +kernel
theorem dX9_diesAt_54 : decode cX9_diesAt 54 = .ok (.invokevirtual 214, 3) := by decide +kernel
theorem dX9_diesAt_57 : decode cX9_diesAt 57 = .ok (.iload_n 3, 1) := by decide +kernel
theorem dX9_diesAt_58 : decode cX9_diesAt 58 = .ok (.ireturn, 1) := by decide +kernel
theorem dX9_dies_0 : decode cX9_dies 0 = .ok (.aload_n 0, 1) := by decide +kernel
theorem dX9_dies_1 : decode cX9_dies 1 = .ok (.iload_n 1, 1) := by decide +kernel
theorem dX9_dies_2 : decode cX9_dies 2 = .ok (.invokevirtual 160, 3) := by decide +kernel
theorem dX9_dies_5 : decode cX9_dies 5 = .ok (.ifCond .ne 15, 3) := by decide +kernel
theorem dX9_dies_8 : decode cX9_dies 8 = .ok (.iload_n 2, 1) := by decide +kernel
theorem dX9_dies_9 : decode cX9_dies 9 = .ok (.i2l, 1) := by decide +kernel
theorem dX9_dies_10 : decode cX9_dies 10 = .ok (.lconst 0, 1) := by decide +kernel
theorem dX9_dies_11 : decode cX9_dies 11 = .ok (.ldc2_w 169, 3) := by decide +kernel
theorem dX9_dies_14 : decode cX9_dies 14 = .ok (.invokestatic 80, 3) := by decide +kernel
theorem dX9_dies_17 : decode cX9_dies 17 = .ok (.ifCond .ne 5, 3) := by decide +kernel
theorem dX9_dies_20 : decode cX9_dies 20 = .ok (.iconst (-1), 1) := by decide +kernel
theorem dX9_dies_21 : decode cX9_dies 21 = .ok (.ireturn, 1) := by decide +kernel
theorem dX9_dies_22 : decode cX9_dies 22 = .ok (.aload_n 0, 1) := by decide +kernel
theorem dX9_dies_23 : decode cX9_dies 23 = .ok (.getfield 13, 3) := by decide +kernel
theorem dX9_dies_26 : decode cX9_dies 26 = .ok (.iload_n 1, 1) := by decide +kernel
theorem dX9_dies_27 : decode cX9_dies 27 = .ok (.iaload, 1) := by decide +kernel
theorem dX9_dies_28 : decode cX9_dies 28 = .ok (.iload_n 2, 1) := by decide +kernel
theorem dX9_dies_29 : decode cX9_dies 29 = .ok (.invokestatic 173, 3) := by decide +kernel
theorem dX9_dies_32 : decode cX9_dies 32 = .ok (.ifCond .eq 8, 3) := by decide +kernel
theorem dX9_dies_35 : decode cX9_dies 35 = .ok (.bipush (-9), 2) := by decide +kernel
theorem dX9_dies_37 : decode cX9_dies 37 = .ok (.goto 9, 3) := by decide +kernel
theorem dX9_dies_40 : decode cX9_dies 40 = .ok (.aload_n 0, 1) := by decide +kernel
theorem dX9_dies_41 : decode cX9_dies 41 = .ok (.iload_n 1, 1) := by decide +kernel
theorem dX9_dies_42 : decode cX9_dies 42 = .ok (.iload_n 2, 1) := by decide +kernel
theorem dX9_dies_43 : decode cX9_dies 43 = .ok (.invokevirtual 217, 3) := by decide +kernel
theorem dX9_dies_46 : decode cX9_dies 46 = .ok (.ireturn, 1) := by decide +kernel
theorem dX9_firstDead_0 : decode cX9_firstDead 0 = .ok (.iconst 0, 1) := by decide +kernel
theorem dX9_firstDead_1 : decode cX9_firstDead 1 = .ok (.istore_n 1, 1) := by decide +kernel
theorem dX9_firstDead_2 : decode cX9_firstDead 2 = .ok (.iload_n 1, 1) := by decide +kernel
theorem dX9_firstDead_3 : decode cX9_firstDead 3 = .ok (.aload_n 0, 1) := by decide +kernel
theorem dX9_firstDead_4 : decode cX9_firstDead 4 = .ok (.getfield 77, 3) := by decide +kernel
theorem dX9_firstDead_7 : decode cX9_firstDead 7 = .ok (.if_icmp .ge 52, 3) := by decide +kernel
theorem dX9_firstDead_10 : decode cX9_firstDead 10 = .ok (.iconst 0, 1) := by decide +kernel
theorem dX9_firstDead_11 : decode cX9_firstDead 11 = .ok (.istore_n 2, 1) := by decide +kernel
theorem dX9_firstDead_12 : decode cX9_firstDead 12 = .ok (.iload_n 2, 1) := by decide +kernel
theorem dX9_firstDead_13 : decode cX9_firstDead 13 = .ok (.bipush 7, 2) := by decide +kernel
theorem dX9_firstDead_15 : decode cX9_firstDead 15 = .ok (.if_icmp .ge 38, 3) := by decide +kernel
theorem dX9_firstDead_18 : decode cX9_firstDead 18 = .ok (.aload_n 0, 1) := by decide +kernel
theorem dX9_firstDead_19 : decode cX9_firstDead 19 = .ok (.getfield 13, 3) := by decide +kernel
theorem dX9_firstDead_22 : decode cX9_firstDead 22 = .ok (.iload_n 1, 1) := by decide +kernel
theorem dX9_firstDead_23 : decode cX9_firstDead 23 = .ok (.iaload, 1) := by decide +kernel
theorem dX9_firstDead_24 : decode cX9_firstDead 24 = .ok (.aload_n 0, 1) := by decide +kernel
theorem dX9_firstDead_25 : decode cX9_firstDead 25 = .ok (.getfield 31, 3) := by decide +kernel
theorem dX9_firstDead_28 : decode cX9_firstDead 28 = .ok (.iload_n 1, 1) := by decide +kernel
theorem dX9_firstDead_29 : decode cX9_firstDead 29 = .ok (.iaload, 1) := by decide +kernel
theorem dX9_firstDead_30 : decode cX9_firstDead 30 = .ok (.iconst (-1), 1) := by decide +kernel
theorem dX9_firstDead_31 : decode cX9_firstDead 31 = .ok (.ixor, 1) := by decide +kernel
theorem dX9_firstDead_32 : decode cX9_firstDead 32 = .ok (.iand, 1) := by decide +kernel
theorem dX9_firstDead_33 : decode cX9_firstDead 33 = .ok (.iload_n 2, 1) := by decide +kernel
theorem dX9_firstDead_34 : decode cX9_firstDead 34 = .ok (.invokestatic 173, 3) := by decide +kernel
theorem dX9_firstDead_37 : decode cX9_firstDead 37 = .ok (.ifCond .eq 10, 3) := by decide +kernel
theorem dX9_firstDead_40 : decode cX9_firstDead 40 = .ok (.bipush 7, 2) := by decide +kernel
theorem dX9_firstDead_42 : decode cX9_firstDead 42 = .ok (.iload_n 1, 1) := by decide +kernel
theorem dX9_firstDead_43 : decode cX9_firstDead 43 = .ok (.imul, 1) := by decide +kernel
theorem dX9_firstDead_44 : decode cX9_firstDead 44 = .ok (.iload_n 2, 1) := by decide +kernel
theorem dX9_firstDead_45 : decode cX9_firstDead 45 = .ok (.iadd, 1) := by decide +kernel
theorem dX9_firstDead_46 : decode cX9_firstDead 46 = .ok (.ireturn, 1) := by decide +kernel
theorem dX9_firstDead_47 : decode cX9_firstDead 47 = .ok (.iinc 2 1, 3) := by decide +kernel
theorem dX9_firstDead_50 : decode cX9_firstDead 50 = .ok (.goto (-38), 3) := by decide +kernel
theorem dX9_firstDead_53 : decode cX9_firstDead 53 = .ok (.iinc 1 1, 3) := by decide +kernel
theorem dX9_firstDead_56 : decode cX9_firstDead 56 = .ok (.goto (-54), 3) := by decide +kernel
theorem dX9_firstDead_59 : decode cX9_firstDead 59 = .ok (.bipush (-9), 2) := by decide +kernel
theorem dX9_firstDead_61 : decode cX9_firstDead 61 = .ok (.ireturn, 1) := by decide +kernel
theorem dX9_first_0 : decode cX9_first 0 = .ok (.iload_n 1, 1) := by decide +kernel
theorem dX9_first_1 : decode cX9_first 1 = .ok (.i2l, 1) := by decide +kernel
theorem dX9_first_2 : decode cX9_first 2 = .ok (.lconst 0, 1) := by decide +kernel
theorem dX9_first_3 : decode cX9_first 3 = .ok (.ldc2_w 120, 3) := by decide +kernel
