theorem dJ6_bitCount_0f7a4_0 : decode cJ6_bitCount_0f7a4 0 = .ok (.iload_n 0, 1) := by decide +kernel
theorem dJ6_bitCount_0f7a4_1 : decode cJ6_bitCount_0f7a4 1 = .ok (.iload_n 0, 1) := by decide +kernel
theorem dJ6_bitCount_0f7a4_2 : decode cJ6_bitCount_0f7a4 2 = .ok (.iconst 1, 1) := by decide +kernel
theorem dJ6_bitCount_0f7a4_3 : decode cJ6_bitCount_0f7a4 3 = .ok (.iushr, 1) := by decide +kernel
theorem dJ6_bitCount_0f7a4_4 : decode cJ6_bitCount_0f7a4 4 = .ok (.ldc_w 265, 3) := by decide +kernel
theorem dJ6_bitCount_0f7a4_7 : decode cJ6_bitCount_0f7a4 7 = .ok (.iand, 1) := by decide +kernel
theorem dJ6_bitCount_0f7a4_8 : decode cJ6_bitCount_0f7a4 8 = .ok (.isub, 1) := by decide +kernel
theorem dJ6_bitCount_0f7a4_9 : decode cJ6_bitCount_0f7a4 9 = .ok (.istore_n 0, 1) := by decide +kernel
theorem dJ6_bitCount_0f7a4_10 : decode cJ6_bitCount_0f7a4 10 = .ok (.iload_n 0, 1) := by decide +kernel
theorem dJ6_bitCount_0f7a4_11 : decode cJ6_bitCount_0f7a4 11 = .ok (.ldc_w 266, 3) := by decide +kernel
theorem dJ6_bitCount_0f7a4_14 : decode cJ6_bitCount_0f7a4 14 = .ok (.iand, 1) := by decide +kernel
theorem dJ6_bitCount_0f7a4_15 : decode cJ6_bitCount_0f7a4 15 = .ok (.iload_n 0, 1) := by decide +kernel
theorem dJ6_bitCount_0f7a4_16 : decode cJ6_bitCount_0f7a4 16 = .ok (.iconst 2, 1) := by decide +kernel
theorem dJ6_bitCount_0f7a4_17 : decode cJ6_bitCount_0f7a4 17 = .ok (.iushr, 1) := by decide +kernel
theorem dJ6_bitCount_0f7a4_18 : decode cJ6_bitCount_0f7a4 18 = .ok (.ldc_w 266, 3) := by decide +kernel
theorem dJ6_bitCount_0f7a4_21 : decode cJ6_bitCount_0f7a4 21 = .ok (.iand, 1) := by decide +kernel
theorem dJ6_bitCount_0f7a4_22 : decode cJ6_bitCount_0f7a4 22 = .ok (.iadd, 1) := by decide +kernel
theorem dJ6_bitCount_0f7a4_23 : decode cJ6_bitCount_0f7a4 23 = .ok (.istore_n 0, 1) := by decide +kernel
theorem dJ6_bitCount_0f7a4_24 : decode cJ6_bitCount_0f7a4 24 = .ok (.iload_n 0, 1) := by decide +kernel
theorem dJ6_bitCount_0f7a4_25 : decode cJ6_bitCount_0f7a4 25 = .ok (.iload_n 0, 1) := by decide +kernel
theorem dJ6_bitCount_0f7a4_26 : decode cJ6_bitCount_0f7a4 26 = .ok (.iconst 4, 1) := by decide +kernel
theorem dJ6_bitCount_0f7a4_27 : decode cJ6_bitCount_0f7a4 27 = .ok (.iushr, 1) := by decide +kernel
theorem dJ6_bitCount_0f7a4_28 : decode cJ6_bitCount_0f7a4 28 = .ok (.iadd, 1) := by decide +kernel
theorem dJ6_bitCount_0f7a4_29 : decode cJ6_bitCount_0f7a4 29 = .ok (.ldc_w 267, 3) := by decide +kernel
theorem dJ6_bitCount_0f7a4_32 : decode cJ6_bitCount_0f7a4 32 = .ok (.iand, 1) := by decide +kernel
theorem dJ6_bitCount_0f7a4_33 : decode cJ6_bitCount_0f7a4 33 = .ok (.istore_n 0, 1) := by decide +kernel
theorem dJ6_bitCount_0f7a4_34 : decode cJ6_bitCount_0f7a4 34 = .ok (.iload_n 0, 1) := by decide +kernel
theorem dJ6_bitCount_0f7a4_35 : decode cJ6_bitCount_0f7a4 35 = .ok (.iload_n 0, 1) := by decide +kernel
theorem dJ6_bitCount_0f7a4_36 : decode cJ6_bitCount_0f7a4 36 = .ok (.bipush 8, 2) := by decide +kernel
theorem dJ6_bitCount_0f7a4_38 : decode cJ6_bitCount_0f7a4 38 = .ok (.iushr, 1) := by decide +kernel
theorem dJ6_bitCount_0f7a4_39 : decode cJ6_bitCount_0f7a4 39 = .ok (.iadd, 1) := by decide +kernel
theorem dJ6_bitCount_0f7a4_40 : decode cJ6_bitCount_0f7a4 40 = .ok (.istore_n 0, 1) := by decide +kernel
theorem dJ6_bitCount_0f7a4_41 : decode cJ6_bitCount_0f7a4 41 = .ok (.iload_n 0, 1) := by decide +kernel
theorem dJ6_bitCount_0f7a4_42 : decode cJ6_bitCount_0f7a4 42 = .ok (.iload_n 0, 1) := by decide +kernel
theorem dJ6_bitCount_0f7a4_43 : decode cJ6_bitCount_0f7a4 43 = .ok (.bipush 16, 2) := by decide +kernel
theorem dJ6_bitCount_0f7a4_45 : decode cJ6_bitCount_0f7a4 45 = .ok (.iushr, 1) := by decide +kernel
theorem dJ6_bitCount_0f7a4_46 : decode cJ6_bitCount_0f7a4 46 = .ok (.iadd, 1) := by decide +kernel
theorem dJ6_bitCount_0f7a4_47 : decode cJ6_bitCount_0f7a4 47 = .ok (.istore_n 0, 1) := by decide +kernel
theorem dJ6_bitCount_0f7a4_48 : decode cJ6_bitCount_0f7a4 48 = .ok (.iload_n 0, 1) := by decide +kernel
theorem dJ6_bitCount_0f7a4_49 : decode cJ6_bitCount_0f7a4 49 = .ok (.bipush 63, 2) := by decide +kernel
theorem dJ6_bitCount_0f7a4_51 : decode cJ6_bitCount_0f7a4 51 = .ok (.iand, 1) := by decide +kernel
theorem dJ6_bitCount_0f7a4_52 : decode cJ6_bitCount_0f7a4 52 = .ok (.ireturn, 1) := by decide +kernel
theorem dJ9_max_7cf53_0 : decode cJ9_max_7cf53 0 = .ok (.iload_n 0, 1) := by decide +kernel
theorem dJ9_max_7cf53_1 : decode cJ9_max_7cf53 1 = .ok (.iload_n 1, 1) := by decide +kernel
theorem dJ9_max_7cf53_2 : decode cJ9_max_7cf53 2 = .ok (.if_icmp .lt 7, 3) := by decide +kernel
theorem dJ9_max_7cf53_5 : decode cJ9_max_7cf53 5 = .ok (.iload_n 0, 1) := by decide +kernel
theorem dJ9_max_7cf53_6 : decode cJ9_max_7cf53 6 = .ok (.goto 4, 3) := by decide +kernel
theorem dJ9_max_7cf53_9 : decode cJ9_max_7cf53 9 = .ok (.iload_n 1, 1) := by decide +kernel
theorem dJ9_max_7cf53_10 : decode cJ9_max_7cf53 10 = .ok (.ireturn, 1) := by decide +kernel
theorem dJ9_min_7cf53_0 : decode cJ9_min_7cf53 0 = .ok (.iload_n 0, 1) := by decide +kernel
theorem dJ9_min_7cf53_1 : decode cJ9_min_7cf53 1 = .ok (.iload_n 1, 1) := by decide +kernel
theorem dJ9_min_7cf53_2 : decode cJ9_min_7cf53 2 = .ok (.if_icmp .gt 7, 3) := by decide +kernel
theorem dJ9_min_7cf53_5 : decode cJ9_min_7cf53 5 = .ok (.iload_n 0, 1) := by decide +kernel
theorem dJ9_min_7cf53_6 : decode cJ9_min_7cf53 6 = .ok (.goto 4, 3) := by decide +kernel
theorem dJ9_min_7cf53_9 : decode cJ9_min_7cf53 9 = .ok (.iload_n 1, 1) := by decide +kernel
theorem dJ9_min_7cf53_10 : decode cJ9_min_7cf53 10 = .ok (.ireturn, 1) := by decide +kernel
theorem dX0_init_0 : decode cX0_init 0 = .ok (.aload_n 0, 1) := by decide +kernel
theorem dX0_init_1 : decode cX0_init 1 = .ok (.invokespecial 3, 3) := by decide +kernel
theorem dX0_init_4 : decode cX0_init 4 = .ok (.aload_n 0, 1) := by decide +kernel
theorem dX0_init_5 : decode cX0_init 5 = .ok (.bipush 30, 2) := by decide +kernel
theorem dX0_init_7 : decode cX0_init 7 = .ok (.newarray .int, 2) := by decide +kernel
theorem dX0_init_9 : decode cX0_init 9 = .ok (.putfield 9, 3) := by decide +kernel
theorem dX0_init_12 : decode cX0_init 12 = .ok (.iconst 0, 1) := by decide +kernel
theorem dX0_init_13 : decode cX0_init 13 = .ok (.istore_n 1, 1) := by decide +kernel
theorem dX0_init_14 : decode cX0_init 14 = .ok (.iload_n 1, 1) := by decide +kernel
theorem dX0_init_15 : decode cX0_init 15 = .ok (.bipush 10, 2) := by decide +kernel
theorem dX0_init_17 : decode cX0_init 17 = .ok (.if_icmp .ge 52, 3) := by decide +kernel
theorem dX0_init_20 : decode cX0_init 20 = .ok (.getstatic 15, 3) := by decide +kernel
theorem dX0_init_23 : decode cX0_init 23 = .ok (.iload_n 1, 1) := by decide +kernel
theorem dX0_init_24 : decode cX0_init 24 = .ok (.iaload, 1) := by decide +kernel
theorem dX0_init_25 : decode cX0_init 25 = .ok (.invokestatic 18, 3) := by decide +kernel
theorem dX0_init_28 : decode cX0_init 28 = .ok (.istore_n 2, 1) := by decide +kernel
theorem dX0_init_29 : decode cX0_init 29 = .ok (.aload_n 0, 1) := by decide +kernel
theorem dX0_init_30 : decode cX0_init 30 = .ok (.getfield 9, 3) := by decide +kernel
theorem dX0_init_33 : decode cX0_init 33 = .ok (.iload_n 1, 1) := by decide +kernel
theorem dX0_init_34 : decode cX0_init 34 = .ok (.getstatic 15, 3) := by decide +kernel
theorem dX0_init_37 : decode cX0_init 37 = .ok (.iload_n 1, 1) := by decide +kernel
theorem dX0_init_38 : decode cX0_init 38 = .ok (.iaload, 1) := by decide +kernel
theorem dX0_init_39 : decode cX0_init 39 = .ok (.iastore, 1) := by decide +kernel
theorem dX0_init_40 : decode cX0_init 40 = .ok (.aload_n 0, 1) := by decide +kernel
theorem dX0_init_41 : decode cX0_init 41 = .ok (.getfield 9, 3) := by decide +kernel
theorem dX0_init_44 : decode cX0_init 44 = .ok (.bipush 10, 2) := by decide +kernel
theorem dX0_init_46 : decode cX0_init 46 = .ok (.iload_n 1, 1) := by decide +kernel
theorem dX0_init_47 : decode cX0_init 47 = .ok (.iadd, 1) := by decide +kernel
theorem dX0_init_48 : decode cX0_init 48 = .ok (.iload_n 2, 1) := by decide +kernel
theorem dX0_init_49 : decode cX0_init 49 = .ok (.iastore, 1) := by decide +kernel
theorem dX0_init_50 : decode cX0_init 50 = .ok (.aload_n 0, 1) := by decide +kernel
theorem dX0_init_51 : decode cX0_init 51 = .ok (.getfield 9, 3) := by decide +kernel
theorem dX0_init_54 : decode cX0_init 54 = .ok (.bipush 20, 2) := by decide +kernel
theorem dX0_init_56 : decode cX0_init 56 = .ok (.iload_n 1, 1) := by decide +kernel
theorem dX0_init_57 : decode cX0_init 57 = .ok (.iadd, 1) := by decide +kernel
theorem dX0_init_58 : decode cX0_init 58 = .ok (.iload_n 2, 1) := by decide +kernel
theorem dX0_init_59 : decode cX0_init 59 = .ok (.invokestatic 22, 3) := by decide +kernel
theorem dX0_init_62 : decode cX0_init 62 = .ok (.iastore, 1) := by decide +kernel
theorem dX0_init_63 : decode cX0_init 63 = .ok (.iinc 1 1, 3) := by decide +kernel
theorem dX0_init_66 : decode cX0_init 66 = .ok (.goto (-52), 3) := by decide +kernel
theorem dX0_init_69 : decode cX0_init 69 = .ok (.return_, 1) := by decide +kernel
theorem dX0_look_0 : decode cX0_look 0 = .ok (.iload_n 1, 1) := by decide +kernel
theorem dX0_look_1 : decode cX0_look 1 = .ok (.iconst 3, 1) := by decide +kernel
theorem dX0_look_2 : decode cX0_look 2 = .ok (.invokestatic 25, 3) := by decide +kernel
theorem dX0_look_5 : decode cX0_look 5 = .ok (.ifCond .eq 26, 3) := by decide +kernel
theorem dX0_look_8 : decode cX0_look 8 = .ok (.iload_n 2, 1) := by decide +kernel
theorem dX0_look_9 : decode cX0_look 9 = .ok (.bipush 10, 2) := by decide +kernel
theorem dX0_look_11 : decode cX0_look 11 = .ok (.invokestatic 25, 3) := by decide +kernel
theorem dX0_look_14 : decode cX0_look 14 = .ok (.ifCond .eq 17, 3) := by decide +kernel
theorem dX0_look_17 : decode cX0_look 17 = .ok (.aload_n 0, 1) := by decide +kernel
theorem dX0_look_18 : decode cX0_look 18 = .ok (.getfield 9, 3) := by decide +kernel
theorem dX0_look_21 : decode cX0_look 21 = .ok (.iload_n 1, 1) := by decide +kernel
theorem dX0_look_22 : decode cX0_look 22 = .ok (.bipush 10, 2) := by decide +kernel
theorem dX0_look_24 : decode cX0_look 24 = .ok (.imul, 1) := by decide +kernel
theorem dX0_look_25 : decode cX0_look 25 = .ok (.iload_n 2, 1) := by decide +kernel
theorem dX0_look_26 : decode cX0_look 26 = .ok (.iadd, 1) := by decide +kernel
theorem dX0_look_27 : decode cX0_look 27 = .ok (.iaload, 1) := by decide +kernel
theorem dX0_look_28 : decode cX0_look 28 = .ok (.goto 4, 3) := by decide +kernel
theorem dX0_look_31 : decode cX0_look 31 = .ok (.iconst 0, 1) := by decide +kernel
theorem dX0_look_32 : decode cX0_look 32 = .ok (.ireturn, 1) := by decide +kernel
theorem dX0_leftRight_0 : decode cX0_leftRight 0 = .ok (.iload_n 0, 1) := by decide +kernel
theorem dX0_leftRight_1 : decode cX0_leftRight 1 = .ok (.iconst 1, 1) := by decide +kernel
theorem dX0_leftRight_2 : decode cX0_leftRight 2 = .ok (.iconst 5, 1) := by decide +kernel
theorem dX0_leftRight_3 : decode cX0_leftRight 3 = .ok (.invokestatic 29, 3) := by decide +kernel
theorem dX0_leftRight_6 : decode cX0_leftRight 6 = .ok (.iconst 2, 1) := by decide +kernel
theorem dX0_leftRight_7 : decode cX0_leftRight 7 = .ok (.iconst 4, 1) := by decide +kernel
theorem dX0_leftRight_8 : decode cX0_leftRight 8 = .ok (.invokestatic 29, 3) := by decide +kernel
theorem dX0_leftRight_11 : decode cX0_leftRight 11 = .ok (.ireturn, 1) := by decide +kernel
theorem dX0_topBottom_0 : decode cX0_topBottom 0 = .ok (.iload_n 0, 1) := by decide +kernel
theorem dX0_topBottom_1 : decode cX0_topBottom 1 = .ok (.iconst 0, 1) := by decide +kernel
theorem dX0_topBottom_2 : decode cX0_topBottom 2 = .ok (.iconst 3, 1) := by decide +kernel
theorem dX0_topBottom_3 : decode cX0_topBottom 3 = .ok (.invokestatic 29, 3) := by decide +kernel
theorem dX0_topBottom_6 : decode cX0_topBottom 6 = .ok (.iconst 1, 1) := by decide +kernel
theorem dX0_topBottom_7 : decode cX0_topBottom 7 = .ok (.iconst 2, 1) := by decide +kernel
theorem dX0_topBottom_8 : decode cX0_topBottom 8 = .ok (.invokestatic 29, 3) := by decide +kernel
theorem dX0_topBottom_11 : decode cX0_topBottom 11 = .ok (.iconst 4, 1) := by decide +kernel
theorem dX0_topBottom_12 : decode cX0_topBottom 12 = .ok (.iconst 5, 1) := by decide +kernel
theorem dX0_topBottom_13 : decode cX0_topBottom 13 = .ok (.invokestatic 29, 3) := by decide +kernel
theorem dX0_topBottom_16 : decode cX0_topBottom 16 = .ok (.ireturn, 1) := by decide +kernel
theorem dX0_exchanged_0 : decode cX0_exchanged 0 = .ok (.iload_n 0, 1) := by decide +kernel
theorem dX0_exchanged_1 : decode cX0_exchanged 1 = .ok (.iload_n 1, 1) := by decide +kernel
theorem dX0_exchanged_2 : decode cX0_exchanged 2 = .ok (.ishr, 1) := by decide +kernel
theorem dX0_exchanged_3 : decode cX0_exchanged 3 = .ok (.iload_n 0, 1) := by decide +kernel
theorem dX0_exchanged_4 : decode cX0_exchanged 4 = .ok (.iload_n 2, 1) := by decide +kernel
theorem dX0_exchanged_5 : decode cX0_exchanged 5 = .ok (.ishr, 1) := by decide +kernel
theorem dX0_exchanged_6 : decode cX0_exchanged 6 = .ok (.ixor, 1) := by decide +kernel
theorem dX0_exchanged_7 : decode cX0_exchanged 7 = .ok (.iconst 1, 1) := by decide +kernel
theorem dX0_exchanged_8 : decode cX0_exchanged 8 = .ok (.iand, 1) := by decide +kernel
theorem dX0_exchanged_9 : decode cX0_exchanged 9 = .ok (.istore_n 3, 1) := by decide +kernel
theorem dX0_exchanged_10 : decode cX0_exchanged 10 = .ok (.iload_n 0, 1) := by decide +kernel
theorem dX0_exchanged_11 : decode cX0_exchanged 11 = .ok (.iload_n 3, 1) := by decide +kernel
theorem dX0_exchanged_12 : decode cX0_exchanged 12 = .ok (.iload_n 1, 1) := by decide +kernel
theorem dX0_exchanged_13 : decode cX0_exchanged 13 = .ok (.ishl, 1) := by decide +kernel
theorem dX0_exchanged_14 : decode cX0_exchanged 14 = .ok (.iload_n 3, 1) := by decide +kernel
theorem dX0_exchanged_15 : decode cX0_exchanged 15 = .ok (.iload_n 2, 1) := by decide +kernel
theorem dX0_exchanged_16 : decode cX0_exchanged 16 = .ok (.ishl, 1) := by decide +kernel
theorem dX0_exchanged_17 : decode cX0_exchanged 17 = .ok (.ior, 1) := by decide +kernel
theorem dX0_exchanged_18 : decode cX0_exchanged 18 = .ok (.ixor, 1) := by decide +kernel
theorem dX0_exchanged_19 : decode cX0_exchanged 19 = .ok (.ireturn, 1) := by decide +kernel
theorem dX1_init_0 : decode cX1_init 0 = .ok (.aload_n 0, 1) := by decide +kernel
theorem dX1_init_1 : decode cX1_init 1 = .ok (.invokespecial 3, 3) := by decide +kernel
theorem dX1_init_4 : decode cX1_init 4 = .ok (.aload_n 0, 1) := by decide +kernel
theorem dX1_init_5 : decode cX1_init 5 = .ok (.bipush 6, 2) := by decide +kernel
theorem dX1_init_7 : decode cX1_init 7 = .ok (.newarray .int, 2) := by decide +kernel
theorem dX1_init_9 : decode cX1_init 9 = .ok (.putfield 9, 3) := by decide +kernel
theorem dX1_init_12 : decode cX1_init 12 = .ok (.aload_n 0, 1) := by decide +kernel
theorem dX1_init_13 : decode cX1_init 13 = .ok (.bipush 36, 2) := by decide +kernel
theorem dX1_init_15 : decode cX1_init 15 = .ok (.newarray .int, 2) := by decide +kernel
theorem dX1_init_17 : decode cX1_init 17 = .ok (.putfield 15, 3) := by decide +kernel
theorem dX1_init_20 : decode cX1_init 20 = .ok (.aload_n 0, 1) := by decide +kernel
theorem dX1_init_21 : decode cX1_init 21 = .ok (.bipush 6, 2) := by decide +kernel
theorem dX1_init_23 : decode cX1_init 23 = .ok (.newarray .int, 2) := by decide +kernel
theorem dX1_init_25 : decode cX1_init 25 = .ok (.putfield 18, 3) := by decide +kernel
theorem dX1_init_28 : decode cX1_init 28 = .ok (.aload_n 0, 1) := by decide +kernel
theorem dX1_init_29 : decode cX1_init 29 = .ok (.bipush 6, 2) := by decide +kernel
theorem dX1_init_31 : decode cX1_init 31 = .ok (.newarray .int, 2) := by decide +kernel
theorem dX1_init_33 : decode cX1_init 33 = .ok (.putfield 21, 3) := by decide +kernel
theorem dX1_init_36 : decode cX1_init 36 = .ok (.return_, 1) := by decide +kernel
theorem dX1_fill_0 : decode cX1_fill 0 = .ok (.aload_n 0, 1) := by decide +kernel
theorem dX1_fill_1 : decode cX1_fill 1 = .ok (.iload 4, 2) := by decide +kernel
theorem dX1_fill_3 : decode cX1_fill 3 = .ok (.bipush 6, 2) := by decide +kernel
theorem dX1_fill_5 : decode cX1_fill 5 = .ok (.invokestatic 24, 3) := by decide +kernel
theorem dX1_fill_8 : decode cX1_fill 8 = .ok (.putfield 30, 3) := by decide +kernel
theorem dX1_fill_11 : decode cX1_fill 11 = .ok (.iconst 0, 1) := by decide +kernel
theorem dX1_fill_12 : decode cX1_fill 12 = .ok (.istore 5, 2) := by decide +kernel
theorem dX1_fill_14 : decode cX1_fill 14 = .ok (.iload 5, 2) := by decide +kernel
theorem dX1_fill_16 : decode cX1_fill 16 = .ok (.aload_n 0, 1) := by decide +kernel
theorem dX1_fill_17 : decode cX1_fill 17 = .ok (.getfield 30, 3) := by decide +kernel
theorem dX1_fill_20 : decode cX1_fill 20 = .ok (.if_icmp .ge 40, 3) := by decide +kernel
theorem dX1_fill_23 : decode cX1_fill 23 = .ok (.aload_n 0, 1) := by decide +kernel
theorem dX1_fill_24 : decode cX1_fill 24 = .ok (.getfield 9, 3) := by decide +kernel
theorem dX1_fill_27 : decode cX1_fill 27 = .ok (.iload 5, 2) := by decide +kernel
theorem dX1_fill_29 : decode cX1_fill 29 = .ok (.aload_n 2, 1) := by decide +kernel
theorem dX1_fill_30 : decode cX1_fill 30 = .ok (.iload_n 3, 1) := by decide +kernel
theorem dX1_fill_31 : decode cX1_fill 31 = .ok (.iload 5, 2) := by decide +kernel
theorem dX1_fill_33 : decode cX1_fill 33 = .ok (.iadd, 1) := by decide +kernel
theorem dX1_fill_34 : decode cX1_fill 34 = .ok (.invokevirtual 34, 3) := by decide +kernel
theorem dX1_fill_37 : decode cX1_fill 37 = .ok (.iastore, 1) := by decide +kernel
theorem dX1_fill_38 : decode cX1_fill 38 = .ok (.aload_n 1, 1) := by decide +kernel
theorem dX1_fill_39 : decode cX1_fill 39 = .ok (.aload_n 0, 1) := by decide +kernel
theorem dX1_fill_40 : decode cX1_fill 40 = .ok (.getfield 9, 3) := by decide +kernel
theorem dX1_fill_43 : decode cX1_fill 43 = .ok (.iload 5, 2) := by decide +kernel
theorem dX1_fill_45 : decode cX1_fill 45 = .ok (.iaload, 1) := by decide +kernel
theorem dX1_fill_46 : decode cX1_fill 46 = .ok (.invokevirtual 40, 3) := by decide +kernel
theorem dX1_fill_49 : decode cX1_fill 49 = .ok (.ifCond .ne 5, 3) := by decide +kernel
theorem dX1_fill_52 : decode cX1_fill 52 = .ok (.iconst 0, 1) := by decide +kernel
theorem dX1_fill_53 : decode cX1_fill 53 = .ok (.ireturn, 1) := by decide +kernel
theorem dX1_fill_54 : decode cX1_fill 54 = .ok (.iinc 5 1, 3) := by decide +kernel
theorem dX1_fill_57 : decode cX1_fill 57 = .ok (.goto (-43), 3) := by decide +kernel
theorem dX1_fill_60 : decode cX1_fill 60 = .ok (.iconst 0, 1) := by decide +kernel
theorem dX1_fill_61 : decode cX1_fill 61 = .ok (.istore 5, 2) := by decide +kernel
theorem dX1_fill_63 : decode cX1_fill 63 = .ok (.iload 5, 2) := by decide +kernel
theorem dX1_fill_65 : decode cX1_fill 65 = .ok (.aload_n 0, 1) := by decide +kernel
theorem dX1_fill_66 : decode cX1_fill 66 = .ok (.getfield 30, 3) := by decide +kernel
theorem dX1_fill_69 : decode cX1_fill 69 = .ok (.if_icmp .ge 58, 3) := by decide +kernel
theorem dX1_fill_72 : decode cX1_fill 72 = .ok (.iconst 0, 1) := by decide +kernel
theorem dX1_fill_73 : decode cX1_fill 73 = .ok (.istore 6, 2) := by decide +kernel
theorem dX1_fill_75 : decode cX1_fill 75 = .ok (.iload 6, 2) := by decide +kernel
theorem dX1_fill_77 : decode cX1_fill 77 = .ok (.aload_n 0, 1) := by decide +kernel
theorem dX1_fill_78 : decode cX1_fill 78 = .ok (.getfield 30, 3) := by decide +kernel
theorem dX1_fill_81 : decode cX1_fill 81 = .ok (.if_icmp .ge 40, 3) := by decide +kernel
theorem dX1_fill_84 : decode cX1_fill 84 = .ok (.aload_n 0, 1) := by decide +kernel
theorem dX1_fill_85 : decode cX1_fill 85 = .ok (.getfield 15, 3) := by decide +kernel
theorem dX1_fill_88 : decode cX1_fill 88 = .ok (.iload 5, 2) := by decide +kernel
theorem dX1_fill_90 : decode cX1_fill 90 = .ok (.bipush 6, 2) := by decide +kernel
theorem dX1_fill_92 : decode cX1_fill 92 = .ok (.imul, 1) := by decide +kernel
theorem dX1_fill_93 : decode cX1_fill 93 = .ok (.iload 6, 2) := by decide +kernel
theorem dX1_fill_95 : decode cX1_fill 95 = .ok (.iadd, 1) := by decide +kernel
theorem dX1_fill_96 : decode cX1_fill 96 = .ok (.aload_n 1, 1) := by decide +kernel
theorem dX1_fill_97 : decode cX1_fill 97 = .ok (.aload_n 0, 1) := by decide +kernel
theorem dX1_fill_98 : decode cX1_fill 98 = .ok (.getfield 9, 3) := by decide +kernel
theorem dX1_fill_101 : decode cX1_fill 101 = .ok (.iload 5, 2) := by decide +kernel
theorem dX1_fill_103 : decode cX1_fill 103 = .ok (.iaload, 1) := by decide +kernel
theorem dX1_fill_104 : decode cX1_fill 104 = .ok (.aload_n 0, 1) := by decide +kernel
theorem dX1_fill_105 : decode cX1_fill 105 = .ok (.getfield 9, 3) := by decide +kernel
theorem dX1_fill_108 : decode cX1_fill 108 = .ok (.iload 6, 2) := by decide +kernel
theorem dX1_fill_110 : decode cX1_fill 110 = .ok (.iaload, 1) := by decide +kernel
theorem dX1_fill_111 : decode cX1_fill 111 = .ok (.invokevirtual 46, 3) := by decide +kernel
theorem dX1_fill_114 : decode cX1_fill 114 = .ok (.iastore, 1) := by decide +kernel
theorem dX1_fill_115 : decode cX1_fill 115 = .ok (.iinc 6 1, 3) := by decide +kernel
theorem dX1_fill_118 : decode cX1_fill 118 = .ok (.goto (-43), 3) := by decide +kernel
theorem dX1_fill_121 : decode cX1_fill 121 = .ok (.iinc 5 1, 3) := by decide +kernel
theorem dX1_fill_124 : decode cX1_fill 124 = .ok (.goto (-61), 3) := by decide +kernel
theorem dX1_fill_127 : decode cX1_fill 127 = .ok (.iconst 1, 1) := by decide +kernel
theorem dX1_fill_128 : decode cX1_fill 128 = .ok (.ireturn, 1) := by decide +kernel
theorem dX1_search_0 : decode cX1_search 0 = .ok (.aload_n 0, 1) := by decide +kernel
theorem dX1_search_1 : decode cX1_search 1 = .ok (.sipush 169, 3) := by decide +kernel
theorem dX1_search_4 : decode cX1_search 4 = .ok (.putfield 49, 3) := by decide +kernel
theorem dX1_search_7 : decode cX1_search 7 = .ok (.aload_n 0, 1) := by decide +kernel
theorem dX1_search_8 : decode cX1_search 8 = .ok (.iconst 0, 1) := by decide +kernel
theorem dX1_search_9 : decode cX1_search 9 = .ok (.iconst 0, 1) := by decide +kernel
theorem dX1_search_10 : decode cX1_search 10 = .ok (.iconst 0, 1) := by decide +kernel
theorem dX1_search_11 : decode cX1_search 11 = .ok (.invokestatic 52, 3) := by decide +kernel
theorem dX1_search_14 : decode cX1_search 14 = .ok (.return_, 1) := by decide +kernel
theorem dX1_extend_0 : decode cX1_extend 0 = .ok (.iload_n 3, 1) := by decide +kernel
theorem dX1_extend_1 : decode cX1_extend 1 = .ok (.aload_n 0, 1) := by decide +kernel
theorem dX1_extend_2 : decode cX1_extend 2 = .ok (.getfield 49, 3) := by decide +kernel
theorem dX1_extend_5 : decode cX1_extend 5 = .ok (.if_icmp .lt 4, 3) := by decide +kernel
theorem dX1_extend_8 : decode cX1_extend 8 = .ok (.return_, 1) := by decide +kernel
theorem dX1_extend_9 : decode cX1_extend 9 = .ok (.iload_n 1, 1) := by decide +kernel
theorem dX1_extend_10 : decode cX1_extend 10 = .ok (.aload_n 0, 1) := by decide +kernel
theorem dX1_extend_11 : decode cX1_extend 11 = .ok (.getfield 30, 3) := by decide +kernel
theorem dX1_extend_14 : decode cX1_extend 14 = .ok (.if_icmp .lt 26, 3) := by decide +kernel
theorem dX1_extend_17 : decode cX1_extend 17 = .ok (.aload_n 0, 1) := by decide +kernel
theorem dX1_extend_18 : decode cX1_extend 18 = .ok (.iload_n 3, 1) := by decide +kernel
theorem dX1_extend_19 : decode cX1_extend 19 = .ok (.putfield 49, 3) := by decide +kernel
theorem dX1_extend_22 : decode cX1_extend 22 = .ok (.aload_n 0, 1) := by decide +kernel
theorem dX1_extend_23 : decode cX1_extend 23 = .ok (.getfield 18, 3) := by decide +kernel
theorem dX1_extend_26 : decode cX1_extend 26 = .ok (.iconst 0, 1) := by decide +kernel
theorem dX1_extend_27 : decode cX1_extend 27 = .ok (.aload_n 0, 1) := by decide +kernel
theorem dX1_extend_28 : decode cX1_extend 28 = .ok (.getfield 21, 3) := by decide +kernel
theorem dX1_extend_31 : decode cX1_extend 31 = .ok (.iconst 0, 1) := by decide +kernel
theorem dX1_extend_32 : decode cX1_extend 32 = .ok (.aload_n 0, 1) := by decide +kernel
theorem dX1_extend_33 : decode cX1_extend 33 = .ok (.getfield 30, 3) := by decide +kernel
theorem dX1_extend_36 : decode cX1_extend 36 = .ok (.invokestatic 56, 3) := by decide +kernel
theorem dX1_extend_39 : decode cX1_extend 39 = .ok (.return_, 1) := by decide +kernel
theorem dX1_extend_40 : decode cX1_extend 40 = .ok (.iconst 0, 1) := by decide +kernel
theorem dX1_extend_41 : decode cX1_extend 41 = .ok (.istore 4, 2) := by decide +kernel
theorem dX1_extend_43 : decode cX1_extend 43 = .ok (.iload 4, 2) := by decide +kernel
theorem dX1_extend_45 : decode cX1_extend 45 = .ok (.aload_n 0, 1) := by decide +kernel
theorem dX1_extend_46 : decode cX1_extend 46 = .ok (.getfield 30, 3) := by decide +kernel
theorem dX1_extend_49 : decode cX1_extend 49 = .ok (.if_icmp .ge 72, 3) := by decide +kernel
theorem dX1_extend_52 : decode cX1_extend 52 = .ok (.iload_n 2, 1) := by decide +kernel
theorem dX1_extend_53 : decode cX1_extend 53 = .ok (.iload 4, 2) := by decide +kernel
theorem dX1_extend_55 : decode cX1_extend 55 = .ok (.ishr, 1) := by decide +kernel
theorem dX1_extend_56 : decode cX1_extend 56 = .ok (.iconst 1, 1) := by decide +kernel
theorem dX1_extend_57 : decode cX1_extend 57 = .ok (.iand, 1) := by decide +kernel
theorem dX1_extend_58 : decode cX1_extend 58 = .ok (.ifCond .ne 57, 3) := by decide +kernel
theorem dX1_extend_61 : decode cX1_extend 61 = .ok (.aload_n 0, 1) := by decide +kernel
theorem dX1_extend_62 : decode cX1_extend 62 = .ok (.getfield 18, 3) := by decide +kernel
theorem dX1_extend_65 : decode cX1_extend 65 = .ok (.iload_n 1, 1) := by decide +kernel
theorem dX1_extend_66 : decode cX1_extend 66 = .ok (.iload 4, 2) := by decide +kernel
theorem dX1_extend_68 : decode cX1_extend 68 = .ok (.iastore, 1) := by decide +kernel
theorem dX1_extend_69 : decode cX1_extend 69 = .ok (.iload_n 1, 1) := by decide +kernel
theorem dX1_extend_70 : decode cX1_extend 70 = .ok (.ifCond .ne 7, 3) := by decide +kernel
theorem dX1_extend_73 : decode cX1_extend 73 = .ok (.iconst 0, 1) := by decide +kernel
theorem dX1_extend_74 : decode cX1_extend 74 = .ok (.goto 22, 3) := by decide +kernel
theorem dX1_extend_77 : decode cX1_extend 77 = .ok (.aload_n 0, 1) := by decide +kernel
theorem dX1_extend_78 : decode cX1_extend 78 = .ok (.getfield 15, 3) := by decide +kernel
theorem dX1_extend_81 : decode cX1_extend 81 = .ok (.aload_n 0, 1) := by decide +kernel
theorem dX1_extend_82 : decode cX1_extend 82 = .ok (.getfield 18, 3) := by decide +kernel
theorem dX1_extend_85 : decode cX1_extend 85 = .ok (.iload_n 1, 1) := by decide +kernel
theorem dX1_extend_86 : decode cX1_extend 86 = .ok (.iconst 1, 1) := by decide +kernel
theorem dX1_extend_87 : decode cX1_extend 87 = .ok (.isub, 1) := by decide +kernel
theorem dX1_extend_88 : decode cX1_extend 88 = .ok (.iaload, 1) := by decide +kernel
theorem dX1_extend_89 : decode cX1_extend 89 = .ok (.bipush 6, 2) := by decide +kernel
theorem dX1_extend_91 : decode cX1_extend 91 = .ok (.imul, 1) := by decide +kernel
theorem dX1_extend_92 : decode cX1_extend 92 = .ok (.iload 4, 2) := by decide +kernel
theorem dX1_extend_94 : decode cX1_extend 94 = .ok (.iadd, 1) := by decide +kernel
theorem dX1_extend_95 : decode cX1_extend 95 = .ok (.iaload, 1) := by decide +kernel
theorem dX1_extend_96 : decode cX1_extend 96 = .ok (.istore 5, 2) := by decide +kernel
theorem dX1_extend_98 : decode cX1_extend 98 = .ok (.aload_n 0, 1) := by decide +kernel
theorem dX1_extend_99 : decode cX1_extend 99 = .ok (.iload_n 1, 1) := by decide +kernel
theorem dX1_extend_100 : decode cX1_extend 100 = .ok (.iconst 1, 1) := by decide +kernel
theorem dX1_extend_101 : decode cX1_extend 101 = .ok (.iadd, 1) := by decide +kernel
theorem dX1_extend_102 : decode cX1_extend 102 = .ok (.iload_n 2, 1) := by decide +kernel
theorem dX1_extend_103 : decode cX1_extend 103 = .ok (.iconst 1, 1) := by decide +kernel
theorem dX1_extend_104 : decode cX1_extend 104 = .ok (.iload 4, 2) := by decide +kernel
theorem dX1_extend_106 : decode cX1_extend 106 = .ok (.ishl, 1) := by decide +kernel
theorem dX1_extend_107 : decode cX1_extend 107 = .ok (.ior, 1) := by decide +kernel
theorem dX1_extend_108 : decode cX1_extend 108 = .ok (.iload_n 3, 1) := by decide +kernel
theorem dX1_extend_109 : decode cX1_extend 109 = .ok (.iload 5, 2) := by decide +kernel
theorem dX1_extend_111 : decode cX1_extend 111 = .ok (.iadd, 1) := by decide +kernel
theorem dX1_extend_112 : decode cX1_extend 112 = .ok (.invokestatic 52, 3) := by decide +kernel
theorem dX1_extend_115 : decode cX1_extend 115 = .ok (.iinc 4 1, 3) := by decide +kernel
theorem dX1_extend_118 : decode cX1_extend 118 = .ok (.goto (-75), 3) := by decide +kernel
theorem dX1_extend_121 : decode cX1_extend 121 = .ok (.return_, 1) := by decide +kernel
theorem dX1_fewest_0 : decode cX1_fewest 0 = .ok (.aload_n 0, 1) := by decide +kernel
theorem dX1_fewest_1 : decode cX1_fewest 1 = .ok (.getfield 49, 3) := by decide +kernel
theorem dX1_fewest_4 : decode cX1_fewest 4 = .ok (.ireturn, 1) := by decide +kernel
theorem dX1_placeOf_0 : decode cX1_placeOf 0 = .ok (.iload_n 1, 1) := by decide +kernel
theorem dX1_placeOf_1 : decode cX1_placeOf 1 = .ok (.aload_n 0, 1) := by decide +kernel
theorem dX1_placeOf_2 : decode cX1_placeOf 2 = .ok (.getfield 30, 3) := by decide +kernel
theorem dX1_placeOf_5 : decode cX1_placeOf 5 = .ok (.invokestatic 62, 3) := by decide +kernel
theorem dX1_placeOf_8 : decode cX1_placeOf 8 = .ok (.ifCond .eq 12, 3) := by decide +kernel
theorem dX1_placeOf_11 : decode cX1_placeOf 11 = .ok (.aload_n 0, 1) := by decide +kernel
theorem dX1_placeOf_12 : decode cX1_placeOf 12 = .ok (.getfield 21, 3) := by decide +kernel
theorem dX1_placeOf_15 : decode cX1_placeOf 15 = .ok (.iload_n 1, 1) := by decide +kernel
theorem dX1_placeOf_16 : decode cX1_placeOf 16 = .ok (.iaload, 1) := by decide +kernel
theorem dX1_placeOf_17 : decode cX1_placeOf 17 = .ok (.goto 5, 3) := by decide +kernel
theorem dX1_placeOf_20 : decode cX1_placeOf 20 = .ok (.bipush (-9), 2) := by decide +kernel
theorem dX1_placeOf_22 : decode cX1_placeOf 22 = .ok (.ireturn, 1) := by decide +kernel
theorem dX2_init_0 : decode cX2_init 0 = .ok (.aload_n 0, 1) := by decide +kernel
theorem dX2_init_1 : decode cX2_init 1 = .ok (.invokespecial 3, 3) := by decide +kernel
theorem dX2_init_4 : decode cX2_init 4 = .ok (.aload_n 0, 1) := by decide +kernel
theorem dX2_init_5 : decode cX2_init 5 = .ok (.iconst 4, 1) := by decide +kernel
theorem dX2_init_6 : decode cX2_init 6 = .ok (.anewarray 9, 3) := by decide +kernel
theorem dX2_init_9 : decode cX2_init 9 = .ok (.putfield 11, 3) := by decide +kernel
theorem dX2_init_12 : decode cX2_init 12 = .ok (.new 17, 3) := by decide +kernel
theorem dX2_init_15 : decode cX2_init 15 = .ok (.dup, 1) := by decide +kernel
theorem dX2_init_16 : decode cX2_init 16 = .ok (.invokespecial 19, 3) := by decide +kernel
theorem dX2_init_19 : decode cX2_init 19 = .ok (.astore_n 1, 1) := by decide +kernel
theorem dX2_init_20 : decode cX2_init 20 = .ok (.iconst 0, 1) := by decide +kernel
theorem dX2_init_21 : decode cX2_init 21 = .ok (.istore_n 2, 1) := by decide +kernel
theorem dX2_init_22 : decode cX2_init 22 = .ok (.iload_n 2, 1) := by decide +kernel
theorem dX2_init_23 : decode cX2_init 23 = .ok (.iconst 4, 1) := by decide +kernel
theorem dX2_init_24 : decode cX2_init 24 = .ok (.if_icmp .ge 23, 3) := by decide +kernel
theorem dX2_init_27 : decode cX2_init 27 = .ok (.aload_n 0, 1) := by decide +kernel
theorem dX2_init_28 : decode cX2_init 28 = .ok (.getfield 11, 3) := by decide +kernel
theorem dX2_init_31 : decode cX2_init 31 = .ok (.iload_n 2, 1) := by decide +kernel
theorem dX2_init_32 : decode cX2_init 32 = .ok (.new 9, 3) := by decide +kernel
theorem dX2_init_35 : decode cX2_init 35 = .ok (.dup, 1) := by decide +kernel
theorem dX2_init_36 : decode cX2_init 36 = .ok (.aload_n 1, 1) := by decide +kernel
theorem dX2_init_37 : decode cX2_init 37 = .ok (.invokespecial 20, 3) := by decide +kernel
theorem dX2_init_40 : decode cX2_init 40 = .ok (.aastore, 1) := by decide +kernel
theorem dX2_init_41 : decode cX2_init 41 = .ok (.iinc 2 1, 3) := by decide +kernel
theorem dX2_init_44 : decode cX2_init 44 = .ok (.goto (-22), 3) := by decide +kernel
theorem dX2_init_47 : decode cX2_init 47 = .ok (.return_, 1) := by decide +kernel
theorem dX2_renew_0 : decode cX2_renew 0 = .ok (.aload_n 0, 1) := by decide +kernel
theorem dX2_renew_1 : decode cX2_renew 1 = .ok (.iconst 0, 1) := by decide +kernel
theorem dX2_renew_2 : decode cX2_renew 2 = .ok (.iload_n 2, 1) := by decide +kernel
theorem dX2_renew_3 : decode cX2_renew 3 = .ok (.iconst 4, 1) := by decide +kernel
theorem dX2_renew_4 : decode cX2_renew 4 = .ok (.invokestatic 23, 3) := by decide +kernel
theorem dX2_renew_7 : decode cX2_renew 7 = .ok (.invokestatic 29, 3) := by decide +kernel
theorem dX2_renew_10 : decode cX2_renew 10 = .ok (.putfield 32, 3) := by decide +kernel
theorem dX2_renew_13 : decode cX2_renew 13 = .ok (.aload_n 0, 1) := by decide +kernel
theorem dX2_renew_14 : decode cX2_renew 14 = .ok (.iload_n 1, 1) := by decide +kernel
theorem dX2_renew_15 : decode cX2_renew 15 = .ok (.putfield 36, 3) := by decide +kernel
theorem dX2_renew_18 : decode cX2_renew 18 = .ok (.aload_n 0, 1) := by decide +kernel
theorem dX2_renew_19 : decode cX2_renew 19 = .ok (.iconst 0, 1) := by decide +kernel
theorem dX2_renew_20 : decode cX2_renew 20 = .ok (.putfield 39, 3) := by decide +kernel
theorem dX2_renew_23 : decode cX2_renew 23 = .ok (.iconst 1, 1) := by decide +kernel
theorem dX2_renew_24 : decode cX2_renew 24 = .ok (.istore_n 3, 1) := by decide +kernel
theorem dX2_renew_25 : decode cX2_renew 25 = .ok (.iconst 0, 1) := by decide +kernel
theorem dX2_renew_26 : decode cX2_renew 26 = .ok (.istore 4, 2) := by decide +kernel
theorem dX2_renew_28 : decode cX2_renew 28 = .ok (.iload 4, 2) := by decide +kernel
theorem dX2_renew_30 : decode cX2_renew 30 = .ok (.aload_n 0, 1) := by decide +kernel
theorem dX2_renew_31 : decode cX2_renew 31 = .ok (.getfield 32, 3) := by decide +kernel
theorem dX2_renew_34 : decode cX2_renew 34 = .ok (.if_icmp .ge 14, 3) := by decide +kernel
theorem dX2_renew_37 : decode cX2_renew 37 = .ok (.iload_n 3, 1) := by decide +kernel
theorem dX2_renew_38 : decode cX2_renew 38 = .ok (.bipush 10, 2) := by decide +kernel
theorem dX2_renew_40 : decode cX2_renew 40 = .ok (.imul, 1) := by decide +kernel
theorem dX2_renew_41 : decode cX2_renew 41 = .ok (.istore_n 3, 1) := by decide +kernel
theorem dX2_renew_42 : decode cX2_renew 42 = .ok (.iinc 4 1, 3) := by decide +kernel
theorem dX2_renew_45 : decode cX2_renew 45 = .ok (.goto (-17), 3) := by decide +kernel
theorem dX2_renew_48 : decode cX2_renew 48 = .ok (.aload_n 0, 1) := by decide +kernel
theorem dX2_renew_49 : decode cX2_renew 49 = .ok (.iload_n 3, 1) := by decide +kernel
theorem dX2_renew_50 : decode cX2_renew 50 = .ok (.iconst 1, 1) := by decide +kernel
theorem dX2_renew_51 : decode cX2_renew 51 = .ok (.isub, 1) := by decide +kernel
theorem dX2_renew_52 : decode cX2_renew 52 = .ok (.putfield 42, 3) := by decide +kernel
theorem dX2_renew_55 : decode cX2_renew 55 = .ok (.return_, 1) := by decide +kernel
theorem dX2_isNone_0 : decode cX2_isNone 0 = .ok (.aload_n 0, 1) := by decide +kernel
theorem dX2_isNone_1 : decode cX2_isNone 1 = .ok (.getfield 32, 3) := by decide +kernel
theorem dX2_isNone_4 : decode cX2_isNone 4 = .ok (.ifCond .ne 7, 3) := by decide +kernel
theorem dX2_isNone_7 : decode cX2_isNone 7 = .ok (.iconst 1, 1) := by decide +kernel
theorem dX2_isNone_8 : decode cX2_isNone 8 = .ok (.goto 4, 3) := by decide +kernel
theorem dX2_isNone_11 : decode cX2_isNone 11 = .ok (.iconst 0, 1) := by decide +kernel
theorem dX2_isNone_12 : decode cX2_isNone 12 = .ok (.ireturn, 1) := by decide +kernel
theorem dX2_isNumber_0 : decode cX2_isNumber 0 = .ok (.iconst 0, 1) := by decide +kernel
theorem dX2_isNumber_1 : decode cX2_isNumber 1 = .ok (.iload_n 1, 1) := by decide +kernel
theorem dX2_isNumber_2 : decode cX2_isNumber 2 = .ok (.if_icmp .gt 15, 3) := by decide +kernel
theorem dX2_isNumber_5 : decode cX2_isNumber 5 = .ok (.iload_n 1, 1) := by decide +kernel
theorem dX2_isNumber_6 : decode cX2_isNumber 6 = .ok (.aload_n 0, 1) := by decide +kernel
theorem dX2_isNumber_7 : decode cX2_isNumber 7 = .ok (.getfield 42, 3) := by decide +kernel
theorem dX2_isNumber_10 : decode cX2_isNumber 10 = .ok (.if_icmp .gt 7, 3) := by decide +kernel
theorem dX2_isNumber_13 : decode cX2_isNumber 13 = .ok (.iconst 1, 1) := by decide +kernel
theorem dX2_isNumber_14 : decode cX2_isNumber 14 = .ok (.goto 4, 3) := by decide +kernel
theorem dX2_isNumber_17 : decode cX2_isNumber 17 = .ok (.iconst 0, 1) := by decide +kernel
theorem dX2_isNumber_18 : decode cX2_isNumber 18 = .ok (.ireturn, 1) := by decide +kernel
theorem dX2_digitOf_0 : decode cX2_digitOf 0 = .ok (.iload_n 1, 1) := by decide +kernel
theorem dX2_digitOf_1 : decode cX2_digitOf 1 = .ok (.istore_n 3, 1) := by decide +kernel
theorem dX2_digitOf_2 : decode cX2_digitOf 2 = .ok (.aload_n 0, 1) := by decide +kernel
theorem dX2_digitOf_3 : decode cX2_digitOf 3 = .ok (.getfield 32, 3) := by decide +kernel
theorem dX2_digitOf_6 : decode cX2_digitOf 6 = .ok (.iconst 1, 1) := by decide +kernel
theorem dX2_digitOf_7 : decode cX2_digitOf 7 = .ok (.isub, 1) := by decide +kernel
theorem dX2_digitOf_8 : decode cX2_digitOf 8 = .ok (.istore 4, 2) := by decide +kernel
theorem dX2_digitOf_10 : decode cX2_digitOf 10 = .ok (.iload 4, 2) := by decide +kernel
theorem dX2_digitOf_12 : decode cX2_digitOf 12 = .ok (.iload_n 2, 1) := by decide +kernel
theorem dX2_digitOf_13 : decode cX2_digitOf 13 = .ok (.if_icmp .le 14, 3) := by decide +kernel
theorem dX2_digitOf_16 : decode cX2_digitOf 16 = .ok (.iload_n 3, 1) := by decide +kernel
theorem dX2_digitOf_17 : decode cX2_digitOf 17 = .ok (.bipush 10, 2) := by decide +kernel
theorem dX2_digitOf_19 : decode cX2_digitOf 19 = .ok (.idiv, 1) := by decide +kernel
theorem dX2_digitOf_20 : decode cX2_digitOf 20 = .ok (.istore_n 3, 1) := by decide +kernel
theorem dX2_digitOf_21 : decode cX2_digitOf 21 = .ok (.iinc 4 (-1), 3) := by decide +kernel
theorem dX2_digitOf_24 : decode cX2_digitOf 24 = .ok (.goto (-14), 3) := by decide +kernel
theorem dX2_digitOf_27 : decode cX2_digitOf 27 = .ok (.iload_n 3, 1) := by decide +kernel
theorem dX2_digitOf_28 : decode cX2_digitOf 28 = .ok (.bipush 10, 2) := by decide +kernel
theorem dX2_digitOf_30 : decode cX2_digitOf 30 = .ok (.irem, 1) := by decide +kernel
theorem dX2_digitOf_31 : decode cX2_digitOf 31 = .ok (.ireturn, 1) := by decide +kernel
theorem dX2_deadBars_0 : decode cX2_deadBars 0 = .ok (.iconst 0, 1) := by decide +kernel
theorem dX2_deadBars_1 : decode cX2_deadBars 1 = .ok (.istore_n 1, 1) := by decide +kernel
theorem dX2_deadBars_2 : decode cX2_deadBars 2 = .ok (.iconst 0, 1) := by decide +kernel
theorem dX2_deadBars_3 : decode cX2_deadBars 3 = .ok (.istore_n 2, 1) := by decide +kernel
theorem dX2_deadBars_4 : decode cX2_deadBars 4 = .ok (.iload_n 2, 1) := by decide +kernel
theorem dX2_deadBars_5 : decode cX2_deadBars 5 = .ok (.aload_n 0, 1) := by decide +kernel
theorem dX2_deadBars_6 : decode cX2_deadBars 6 = .ok (.getfield 32, 3) := by decide +kernel
theorem dX2_deadBars_9 : decode cX2_deadBars 9 = .ok (.if_icmp .ge 24, 3) := by decide +kernel
theorem dX2_deadBars_12 : decode cX2_deadBars 12 = .ok (.iload_n 1, 1) := by decide +kernel
theorem dX2_deadBars_13 : decode cX2_deadBars 13 = .ok (.aload_n 0, 1) := by decide +kernel
theorem dX2_deadBars_14 : decode cX2_deadBars 14 = .ok (.getfield 11, 3) := by decide +kernel
theorem dX2_deadBars_17 : decode cX2_deadBars 17 = .ok (.iload_n 2, 1) := by decide +kernel
theorem dX2_deadBars_18 : decode cX2_deadBars 18 = .ok (.aaload, 1) := by decide +kernel
theorem dX2_deadBars_19 : decode cX2_deadBars 19 = .ok (.getfield 45, 3) := by decide +kernel
theorem dX2_deadBars_22 : decode cX2_deadBars 22 = .ok (.invokestatic 48, 3) := by decide +kernel
theorem dX2_deadBars_25 : decode cX2_deadBars 25 = .ok (.iadd, 1) := by decide +kernel
theorem dX2_deadBars_26 : decode cX2_deadBars 26 = .ok (.istore_n 1, 1) := by decide +kernel
theorem dX2_deadBars_27 : decode cX2_deadBars 27 = .ok (.iinc 2 1, 3) := by decide +kernel
theorem dX2_deadBars_30 : decode cX2_deadBars 30 = .ok (.goto (-26), 3) := by decide +kernel
theorem dX2_deadBars_33 : decode cX2_deadBars 33 = .ok (.iload_n 1, 1) := by decide +kernel
theorem dX2_deadBars_34 : decode cX2_deadBars 34 = .ok (.ireturn, 1) := by decide +kernel
theorem dX2_litBars_0 : decode cX2_litBars 0 = .ok (.iconst 0, 1) := by decide +kernel
theorem dX2_litBars_1 : decode cX2_litBars 1 = .ok (.istore_n 2, 1) := by decide +kernel
theorem dX2_litBars_2 : decode cX2_litBars 2 = .ok (.iconst 0, 1) := by decide +kernel
theorem dX2_litBars_3 : decode cX2_litBars 3 = .ok (.istore_n 3, 1) := by decide +kernel
theorem dX2_litBars_4 : decode cX2_litBars 4 = .ok (.iload_n 3, 1) := by decide +kernel
theorem dX2_litBars_5 : decode cX2_litBars 5 = .ok (.aload_n 0, 1) := by decide +kernel
theorem dX2_litBars_6 : decode cX2_litBars 6 = .ok (.getfield 32, 3) := by decide +kernel
theorem dX2_litBars_9 : decode cX2_litBars 9 = .ok (.if_icmp .ge 30, 3) := by decide +kernel
theorem dX2_litBars_12 : decode cX2_litBars 12 = .ok (.iload_n 2, 1) := by decide +kernel
theorem dX2_litBars_13 : decode cX2_litBars 13 = .ok (.aload_n 0, 1) := by decide +kernel
theorem dX2_litBars_14 : decode cX2_litBars 14 = .ok (.getfield 11, 3) := by decide +kernel
theorem dX2_litBars_17 : decode cX2_litBars 17 = .ok (.iload_n 3, 1) := by decide +kernel
theorem dX2_litBars_18 : decode cX2_litBars 18 = .ok (.aaload, 1) := by decide +kernel
theorem dX2_litBars_19 : decode cX2_litBars 19 = .ok (.aload_n 0, 1) := by decide +kernel
theorem dX2_litBars_20 : decode cX2_litBars 20 = .ok (.iload_n 1, 1) := by decide +kernel
theorem dX2_litBars_21 : decode cX2_litBars 21 = .ok (.iload_n 3, 1) := by decide +kernel
theorem dX2_litBars_22 : decode cX2_litBars 22 = .ok (.invokevirtual 54, 3) := by decide +kernel
theorem dX2_litBars_25 : decode cX2_litBars 25 = .ok (.invokevirtual 57, 3) := by decide +kernel
theorem dX2_litBars_28 : decode cX2_litBars 28 = .ok (.invokestatic 48, 3) := by decide +kernel
theorem dX2_litBars_31 : decode cX2_litBars 31 = .ok (.iadd, 1) := by decide +kernel
theorem dX2_litBars_32 : decode cX2_litBars 32 = .ok (.istore_n 2, 1) := by decide +kernel
theorem dX2_litBars_33 : decode cX2_litBars 33 = .ok (.iinc 3 1, 3) := by decide +kernel
theorem dX2_litBars_36 : decode cX2_litBars 36 = .ok (.goto (-32), 3) := by decide +kernel
theorem dX2_litBars_39 : decode cX2_litBars 39 = .ok (.iload_n 2, 1) := by decide +kernel
theorem dX2_litBars_40 : decode cX2_litBars 40 = .ok (.ireturn, 1) := by decide +kernel
theorem dX2_flipsBetween_0 : decode cX2_flipsBetween 0 = .ok (.iconst 0, 1) := by decide +kernel
theorem dX2_flipsBetween_1 : decode cX2_flipsBetween 1 = .ok (.istore_n 3, 1) := by decide +kernel
theorem dX2_flipsBetween_2 : decode cX2_flipsBetween 2 = .ok (.iconst 0, 1) := by decide +kernel
theorem dX2_flipsBetween_3 : decode cX2_flipsBetween 3 = .ok (.istore 4, 2) := by decide +kernel
theorem dX2_flipsBetween_5 : decode cX2_flipsBetween 5 = .ok (.iload 4, 2) := by decide +kernel
theorem dX2_flipsBetween_7 : decode cX2_flipsBetween 7 = .ok (.aload_n 0, 1) := by decide +kernel
theorem dX2_flipsBetween_8 : decode cX2_flipsBetween 8 = .ok (.getfield 32, 3) := by decide +kernel
theorem dX2_flipsBetween_11 : decode cX2_flipsBetween 11 = .ok (.if_icmp .ge 50, 3) := by decide +kernel
theorem dX2_flipsBetween_14 : decode cX2_flipsBetween 14 = .ok (.iload_n 3, 1) := by decide +kernel
theorem dX2_flipsBetween_15 : decode cX2_flipsBetween 15 = .ok (.aload_n 0, 1) := by decide +kernel
theorem dX2_flipsBetween_16 : decode cX2_flipsBetween 16 = .ok (.getfield 11, 3) := by decide +kernel
theorem dX2_flipsBetween_19 : decode cX2_flipsBetween 19 = .ok (.iload 4, 2) := by decide +kernel
theorem dX2_flipsBetween_21 : decode cX2_flipsBetween 21 = .ok (.aaload, 1) := by decide +kernel
theorem dX2_flipsBetween_22 : decode cX2_flipsBetween 22 = .ok (.aload_n 0, 1) := by decide +kernel
theorem dX2_flipsBetween_23 : decode cX2_flipsBetween 23 = .ok (.iload_n 1, 1) := by decide +kernel
theorem dX2_flipsBetween_24 : decode cX2_flipsBetween 24 = .ok (.iload 4, 2) := by decide +kernel
theorem dX2_flipsBetween_26 : decode cX2_flipsBetween 26 = .ok (.invokevirtual 54, 3) := by decide +kernel
theorem dX2_flipsBetween_29 : decode cX2_flipsBetween 29 = .ok (.invokevirtual 57, 3) := by decide +kernel
theorem dX2_flipsBetween_32 : decode cX2_flipsBetween 32 = .ok (.aload_n 0, 1) := by decide +kernel
theorem dX2_flipsBetween_33 : decode cX2_flipsBetween 33 = .ok (.getfield 11, 3) := by decide +kernel
theorem dX2_flipsBetween_36 : decode cX2_flipsBetween 36 = .ok (.iload 4, 2) := by decide +kernel
theorem dX2_flipsBetween_38 : decode cX2_flipsBetween 38 = .ok (.aaload, 1) := by decide +kernel
theorem dX2_flipsBetween_39 : decode cX2_flipsBetween 39 = .ok (.aload_n 0, 1) := by decide +kernel
theorem dX2_flipsBetween_40 : decode cX2_flipsBetween 40 = .ok (.iload_n 2, 1) := by decide +kernel
theorem dX2_flipsBetween_41 : decode cX2_flipsBetween 41 = .ok (.iload 4, 2) := by decide +kernel
theorem dX2_flipsBetween_43 : decode cX2_flipsBetween 43 = .ok (.invokevirtual 54, 3) := by decide +kernel
theorem dX2_flipsBetween_46 : decode cX2_flipsBetween 46 = .ok (.invokevirtual 57, 3) := by decide +kernel
theorem dX2_flipsBetween_49 : decode cX2_flipsBetween 49 = .ok (.ixor, 1) := by decide +kernel
theorem dX2_flipsBetween_50 : decode cX2_flipsBetween 50 = .ok (.invokestatic 48, 3) := by decide +kernel
theorem dX2_flipsBetween_53 : decode cX2_flipsBetween 53 = .ok (.iadd, 1) := by decide +kernel
theorem dX2_flipsBetween_54 : decode cX2_flipsBetween 54 = .ok (.istore_n 3, 1) := by decide +kernel
theorem dX2_flipsBetween_55 : decode cX2_flipsBetween 55 = .ok (.iinc 4 1, 3) := by decide +kernel
theorem dX2_flipsBetween_58 : decode cX2_flipsBetween 58 = .ok (.goto (-53), 3) := by decide +kernel
theorem dX2_flipsBetween_61 : decode cX2_flipsBetween 61 = .ok (.iload_n 3, 1) := by decide +kernel
theorem dX2_flipsBetween_62 : decode cX2_flipsBetween 62 = .ok (.ireturn, 1) := by decide +kernel
theorem dX2_nextDigit_0 : decode cX2_nextDigit 0 = .ok (.iload_n 0, 1) := by decide +kernel
theorem dX2_nextDigit_1 : decode cX2_nextDigit 1 = .ok (.bipush 9, 2) := by decide +kernel
theorem dX2_nextDigit_3 : decode cX2_nextDigit 3 = .ok (.if_icmp .lt 7, 3) := by decide +kernel
theorem dX2_nextDigit_6 : decode cX2_nextDigit 6 = .ok (.iconst 0, 1) := by decide +kernel
theorem dX2_nextDigit_7 : decode cX2_nextDigit 7 = .ok (.goto 6, 3) := by decide +kernel
theorem dX2_nextDigit_10 : decode cX2_nextDigit 10 = .ok (.iload_n 0, 1) := by decide +kernel
theorem dX2_nextDigit_11 : decode cX2_nextDigit 11 = .ok (.iconst 1, 1) := by decide +kernel
theorem dX2_nextDigit_12 : decode cX2_nextDigit 12 = .ok (.iadd, 1) := by decide +kernel
theorem dX2_nextDigit_13 : decode cX2_nextDigit 13 = .ok (.ireturn, 1) := by decide +kernel
theorem dX2_flipsOfStep_0 : decode cX2_flipsOfStep 0 = .ok (.iconst 0, 1) := by decide +kernel
theorem dX2_flipsOfStep_1 : decode cX2_flipsOfStep 1 = .ok (.istore_n 2, 1) := by decide +kernel
theorem dX2_flipsOfStep_2 : decode cX2_flipsOfStep 2 = .ok (.iload_n 1, 1) := by decide +kernel
theorem dX2_flipsOfStep_3 : decode cX2_flipsOfStep 3 = .ok (.istore_n 3, 1) := by decide +kernel
theorem dX2_flipsOfStep_4 : decode cX2_flipsOfStep 4 = .ok (.aload_n 0, 1) := by decide +kernel
theorem dX2_flipsOfStep_5 : decode cX2_flipsOfStep 5 = .ok (.getfield 32, 3) := by decide +kernel
theorem dX2_flipsOfStep_8 : decode cX2_flipsOfStep 8 = .ok (.iconst 1, 1) := by decide +kernel
theorem dX2_flipsOfStep_9 : decode cX2_flipsOfStep 9 = .ok (.isub, 1) := by decide +kernel
theorem dX2_flipsOfStep_10 : decode cX2_flipsOfStep 10 = .ok (.istore 4, 2) := by decide +kernel
theorem dX2_flipsOfStep_12 : decode cX2_flipsOfStep 12 = .ok (.iload 4, 2) := by decide +kernel
theorem dX2_flipsOfStep_14 : decode cX2_flipsOfStep 14 = .ok (.ifCond .lt 64, 3) := by decide +kernel
theorem dX2_flipsOfStep_17 : decode cX2_flipsOfStep 17 = .ok (.iload_n 3, 1) := by decide +kernel
theorem dX2_flipsOfStep_18 : decode cX2_flipsOfStep 18 = .ok (.bipush 10, 2) := by decide +kernel
theorem dX2_flipsOfStep_20 : decode cX2_flipsOfStep 20 = .ok (.irem, 1) := by decide +kernel
theorem dX2_flipsOfStep_21 : decode cX2_flipsOfStep 21 = .ok (.istore 5, 2) := by decide +kernel
theorem dX2_flipsOfStep_23 : decode cX2_flipsOfStep 23 = .ok (.iload_n 2, 1) := by decide +kernel
theorem dX2_flipsOfStep_24 : decode cX2_flipsOfStep 24 = .ok (.aload_n 0, 1) := by decide +kernel
theorem dX2_flipsOfStep_25 : decode cX2_flipsOfStep 25 = .ok (.getfield 11, 3) := by decide +kernel
theorem dX2_flipsOfStep_28 : decode cX2_flipsOfStep 28 = .ok (.iload 4, 2) := by decide +kernel
theorem dX2_flipsOfStep_30 : decode cX2_flipsOfStep 30 = .ok (.aaload, 1) := by decide +kernel
theorem dX2_flipsOfStep_31 : decode cX2_flipsOfStep 31 = .ok (.iload 5, 2) := by decide +kernel
theorem dX2_flipsOfStep_33 : decode cX2_flipsOfStep 33 = .ok (.invokevirtual 57, 3) := by decide +kernel
theorem dX2_flipsOfStep_36 : decode cX2_flipsOfStep 36 = .ok (.aload_n 0, 1) := by decide +kernel
theorem dX2_flipsOfStep_37 : decode cX2_flipsOfStep 37 = .ok (.getfield 11, 3) := by decide +kernel
theorem dX2_flipsOfStep_40 : decode cX2_flipsOfStep 40 = .ok (.iload 4, 2) := by decide +kernel
theorem dX2_flipsOfStep_42 : decode cX2_flipsOfStep 42 = .ok (.aaload, 1) := by decide +kernel
theorem dX2_flipsOfStep_43 : decode cX2_flipsOfStep 43 = .ok (.iload 5, 2) := by decide +kernel
theorem dX2_flipsOfStep_45 : decode cX2_flipsOfStep 45 = .ok (.invokestatic 60, 3) := by decide +kernel
theorem dX2_flipsOfStep_48 : decode cX2_flipsOfStep 48 = .ok (.invokevirtual 57, 3) := by decide +kernel
theorem dX2_flipsOfStep_51 : decode cX2_flipsOfStep 51 = .ok (.ixor, 1) := by decide +kernel
theorem dX2_flipsOfStep_52 : decode cX2_flipsOfStep 52 = .ok (.invokestatic 48, 3) := by decide +kernel
theorem dX2_flipsOfStep_55 : decode cX2_flipsOfStep 55 = .ok (.iadd, 1) := by decide +kernel
theorem dX2_flipsOfStep_56 : decode cX2_flipsOfStep 56 = .ok (.istore_n 2, 1) := by decide +kernel
theorem dX2_flipsOfStep_57 : decode cX2_flipsOfStep 57 = .ok (.iload 5, 2) := by decide +kernel
theorem dX2_flipsOfStep_59 : decode cX2_flipsOfStep 59 = .ok (.bipush 9, 2) := by decide +kernel
theorem dX2_flipsOfStep_61 : decode cX2_flipsOfStep 61 = .ok (.if_icmp .eq 6, 3) := by decide +kernel
theorem dX2_flipsOfStep_64 : decode cX2_flipsOfStep 64 = .ok (.goto 14, 3) := by decide +kernel
theorem dX2_flipsOfStep_67 : decode cX2_flipsOfStep 67 = .ok (.iload_n 3, 1) := by decide +kernel
theorem dX2_flipsOfStep_68 : decode cX2_flipsOfStep 68 = .ok (.bipush 10, 2) := by decide +kernel
theorem dX2_flipsOfStep_70 : decode cX2_flipsOfStep 70 = .ok (.idiv, 1) := by decide +kernel
theorem dX2_flipsOfStep_71 : decode cX2_flipsOfStep 71 = .ok (.istore_n 3, 1) := by decide +kernel
theorem dX2_flipsOfStep_72 : decode cX2_flipsOfStep 72 = .ok (.iinc 4 (-1), 3) := by decide +kernel
theorem dX2_flipsOfStep_75 : decode cX2_flipsOfStep 75 = .ok (.goto (-63), 3) := by decide +kernel
theorem dX2_flipsOfStep_78 : decode cX2_flipsOfStep 78 = .ok (.iload_n 2, 1) := by decide +kernel
theorem dX2_flipsOfStep_79 : decode cX2_flipsOfStep 79 = .ok (.ireturn, 1) := by decide +kernel
theorem dX2_makeStep_0 : decode cX2_makeStep 0 = .ok (.iconst 0, 1) := by decide +kernel
theorem dX2_makeStep_1 : decode cX2_makeStep 1 = .ok (.istore_n 1, 1) := by decide +kernel
theorem dX2_makeStep_2 : decode cX2_makeStep 2 = .ok (.aload_n 0, 1) := by decide +kernel
theorem dX2_makeStep_3 : decode cX2_makeStep 3 = .ok (.getfield 39, 3) := by decide +kernel
theorem dX2_makeStep_6 : decode cX2_makeStep 6 = .ok (.istore_n 2, 1) := by decide +kernel
theorem dX2_makeStep_7 : decode cX2_makeStep 7 = .ok (.aload_n 0, 1) := by decide +kernel
theorem dX2_makeStep_8 : decode cX2_makeStep 8 = .ok (.getfield 32, 3) := by decide +kernel
theorem dX2_makeStep_11 : decode cX2_makeStep 11 = .ok (.iconst 1, 1) := by decide +kernel
theorem dX2_makeStep_12 : decode cX2_makeStep 12 = .ok (.isub, 1) := by decide +kernel
theorem dX2_makeStep_13 : decode cX2_makeStep 13 = .ok (.istore_n 3, 1) := by decide +kernel
theorem dX2_makeStep_14 : decode cX2_makeStep 14 = .ok (.iload_n 3, 1) := by decide +kernel
theorem dX2_makeStep_15 : decode cX2_makeStep 15 = .ok (.ifCond .lt 53, 3) := by decide +kernel
theorem dX2_makeStep_18 : decode cX2_makeStep 18 = .ok (.iload_n 2, 1) := by decide +kernel
theorem dX2_makeStep_19 : decode cX2_makeStep 19 = .ok (.bipush 10, 2) := by decide +kernel
theorem dX2_makeStep_21 : decode cX2_makeStep 21 = .ok (.irem, 1) := by decide +kernel
theorem dX2_makeStep_22 : decode cX2_makeStep 22 = .ok (.istore 4, 2) := by decide +kernel
theorem dX2_makeStep_24 : decode cX2_makeStep 24 = .ok (.iload_n 1, 1) := by decide +kernel
theorem dX2_makeStep_25 : decode cX2_makeStep 25 = .ok (.aload_n 0, 1) := by decide +kernel
theorem dX2_makeStep_26 : decode cX2_makeStep 26 = .ok (.getfield 11, 3) := by decide +kernel
theorem dX2_makeStep_29 : decode cX2_makeStep 29 = .ok (.iload_n 3, 1) := by decide +kernel
theorem dX2_makeStep_30 : decode cX2_makeStep 30 = .ok (.aaload, 1) := by decide +kernel
theorem dX2_makeStep_31 : decode cX2_makeStep 31 = .ok (.iload 4, 2) := by decide +kernel
theorem dX2_makeStep_33 : decode cX2_makeStep 33 = .ok (.iload 4, 2) := by decide +kernel
theorem dX2_makeStep_35 : decode cX2_makeStep 35 = .ok (.invokestatic 60, 3) := by decide +kernel
theorem dX2_makeStep_38 : decode cX2_makeStep 38 = .ok (.aload_n 0, 1) := by decide +kernel
theorem dX2_makeStep_39 : decode cX2_makeStep 39 = .ok (.getfield 36, 3) := by decide +kernel
theorem dX2_makeStep_42 : decode cX2_makeStep 42 = .ok (.invokevirtual 63, 3) := by decide +kernel
theorem dX2_makeStep_45 : decode cX2_makeStep 45 = .ok (.iadd, 1) := by decide +kernel
theorem dX2_makeStep_46 : decode cX2_makeStep 46 = .ok (.istore_n 1, 1) := by decide +kernel
theorem dX2_makeStep_47 : decode cX2_makeStep 47 = .ok (.iload 4, 2) := by decide +kernel
theorem dX2_makeStep_49 : decode cX2_makeStep 49 = .ok (.bipush 9, 2) := by decide +kernel
theorem dX2_makeStep_51 : decode cX2_makeStep 51 = .ok (.if_icmp .eq 6, 3) := by decide +kernel
theorem dX2_makeStep_54 : decode cX2_makeStep 54 = .ok (.goto 14, 3) := by decide +kernel
theorem dX2_makeStep_57 : decode cX2_makeStep 57 = .ok (.iload_n 2, 1) := by decide +kernel
theorem dX2_makeStep_58 : decode cX2_makeStep 58 = .ok (.bipush 10, 2) := by decide +kernel
theorem dX2_makeStep_60 : decode cX2_makeStep 60 = .ok (.idiv, 1) := by decide +kernel
theorem dX2_makeStep_61 : decode cX2_makeStep 61 = .ok (.istore_n 2, 1) := by decide +kernel
theorem dX2_makeStep_62 : decode cX2_makeStep 62 = .ok (.iinc 3 (-1), 3) := by decide +kernel
theorem dX2_makeStep_65 : decode cX2_makeStep 65 = .ok (.goto (-51), 3) := by decide +kernel
theorem dX2_makeStep_68 : decode cX2_makeStep 68 = .ok (.aload_n 0, 1) := by decide +kernel
theorem dX2_makeStep_69 : decode cX2_makeStep 69 = .ok (.aload_n 0, 1) := by decide +kernel
theorem dX2_makeStep_70 : decode cX2_makeStep 70 = .ok (.aload_n 0, 1) := by decide +kernel
theorem dX2_makeStep_71 : decode cX2_makeStep 71 = .ok (.getfield 39, 3) := by decide +kernel
theorem dX2_makeStep_74 : decode cX2_makeStep 74 = .ok (.invokevirtual 67, 3) := by decide +kernel
theorem dX2_makeStep_77 : decode cX2_makeStep 77 = .ok (.putfield 39, 3) := by decide +kernel
theorem dX2_makeStep_80 : decode cX2_makeStep 80 = .ok (.iload_n 1, 1) := by decide +kernel
theorem dX2_makeStep_81 : decode cX2_makeStep 81 = .ok (.ireturn, 1) := by decide +kernel
theorem dX2_numberAfter_0 : decode cX2_numberAfter 0 = .ok (.iload_n 1, 1) := by decide +kernel
theorem dX2_numberAfter_1 : decode cX2_numberAfter 1 = .ok (.aload_n 0, 1) := by decide +kernel
theorem dX2_numberAfter_2 : decode cX2_numberAfter 2 = .ok (.getfield 42, 3) := by decide +kernel
theorem dX2_numberAfter_5 : decode cX2_numberAfter 5 = .ok (.if_icmp .lt 7, 3) := by decide +kernel
theorem dX2_numberAfter_8 : decode cX2_numberAfter 8 = .ok (.iconst 0, 1) := by decide +kernel
theorem dX2_numberAfter_9 : decode cX2_numberAfter 9 = .ok (.goto 6, 3) := by decide +kernel
theorem dX2_numberAfter_12 : decode cX2_numberAfter 12 = .ok (.iload_n 1, 1) := by decide +kernel
theorem dX2_numberAfter_13 : decode cX2_numberAfter 13 = .ok (.iconst 1, 1) := by decide +kernel
theorem dX2_numberAfter_14 : decode cX2_numberAfter 14 = .ok (.iadd, 1) := by decide +kernel
theorem dX2_numberAfter_15 : decode cX2_numberAfter 15 = .ok (.ireturn, 1) := by decide +kernel
theorem dX2_stepsToDeath_0 : decode cX2_stepsToDeath 0 = .ok (.aload_n 0, 1) := by decide +kernel
theorem dX2_stepsToDeath_1 : decode cX2_stepsToDeath 1 = .ok (.getfield 11, 3) := by decide +kernel
theorem dX2_stepsToDeath_4 : decode cX2_stepsToDeath 4 = .ok (.iload_n 1, 1) := by decide +kernel
theorem dX2_stepsToDeath_5 : decode cX2_stepsToDeath 5 = .ok (.aaload, 1) := by decide +kernel
theorem dX2_stepsToDeath_6 : decode cX2_stepsToDeath 6 = .ok (.astore 4, 2) := by decide +kernel
theorem dX2_stepsToDeath_8 : decode cX2_stepsToDeath 8 = .ok (.aload 4, 2) := by decide +kernel
theorem dX2_stepsToDeath_10 : decode cX2_stepsToDeath 10 = .ok (.getfield 45, 3) := by decide +kernel
theorem dX2_stepsToDeath_13 : decode cX2_stepsToDeath 13 = .ok (.aload 4, 2) := by decide +kernel
theorem dX2_stepsToDeath_15 : decode cX2_stepsToDeath 15 = .ok (.getfield 70, 3) := by decide +kernel
theorem dX2_stepsToDeath_18 : decode cX2_stepsToDeath 18 = .ok (.ior, 1) := by decide +kernel
theorem dX2_stepsToDeath_19 : decode cX2_stepsToDeath 19 = .ok (.iload_n 2, 1) := by decide +kernel
theorem dX2_stepsToDeath_20 : decode cX2_stepsToDeath 20 = .ok (.ishr, 1) := by decide +kernel
theorem dX2_stepsToDeath_21 : decode cX2_stepsToDeath 21 = .ok (.iconst 1, 1) := by decide +kernel
theorem dX2_stepsToDeath_22 : decode cX2_stepsToDeath 22 = .ok (.iand, 1) := by decide +kernel
theorem dX2_stepsToDeath_23 : decode cX2_stepsToDeath 23 = .ok (.ifCond .eq 6, 3) := by decide +kernel
theorem dX2_stepsToDeath_26 : decode cX2_stepsToDeath 26 = .ok (.bipush (-9), 2) := by decide +kernel
theorem dX2_stepsToDeath_28 : decode cX2_stepsToDeath 28 = .ok (.ireturn, 1) := by decide +kernel
theorem dX2_stepsToDeath_29 : decode cX2_stepsToDeath 29 = .ok (.aload 4, 2) := by decide +kernel
theorem dX2_stepsToDeath_31 : decode cX2_stepsToDeath 31 = .ok (.getfield 73, 3) := by decide +kernel
theorem dX2_stepsToDeath_34 : decode cX2_stepsToDeath 34 = .ok (.iload_n 2, 1) := by decide +kernel
theorem dX2_stepsToDeath_35 : decode cX2_stepsToDeath 35 = .ok (.iaload, 1) := by decide +kernel
theorem dX2_stepsToDeath_36 : decode cX2_stepsToDeath 36 = .ok (.istore 5, 2) := by decide +kernel
theorem dX2_stepsToDeath_38 : decode cX2_stepsToDeath 38 = .ok (.aload_n 0, 1) := by decide +kernel
theorem dX2_stepsToDeath_39 : decode cX2_stepsToDeath 39 = .ok (.getfield 39, 3) := by decide +kernel
theorem dX2_stepsToDeath_42 : decode cX2_stepsToDeath 42 = .ok (.istore 6, 2) := by decide +kernel
theorem dX2_stepsToDeath_44 : decode cX2_stepsToDeath 44 = .ok (.aload_n 0, 1) := by decide +kernel
theorem dX2_stepsToDeath_45 : decode cX2_stepsToDeath 45 = .ok (.iload 6, 2) := by decide +kernel
theorem dX2_stepsToDeath_47 : decode cX2_stepsToDeath 47 = .ok (.iload_n 1, 1) := by decide +kernel
theorem dX2_stepsToDeath_48 : decode cX2_stepsToDeath 48 = .ok (.invokevirtual 54, 3) := by decide +kernel
theorem dX2_stepsToDeath_51 : decode cX2_stepsToDeath 51 = .ok (.istore 7, 2) := by decide +kernel
theorem dX2_stepsToDeath_53 : decode cX2_stepsToDeath 53 = .ok (.iconst 1, 1) := by decide +kernel
theorem dX2_stepsToDeath_54 : decode cX2_stepsToDeath 54 = .ok (.istore 8, 2) := by decide +kernel
theorem dX2_stepsToDeath_56 : decode cX2_stepsToDeath 56 = .ok (.iload 8, 2) := by decide +kernel
theorem dX2_stepsToDeath_58 : decode cX2_stepsToDeath 58 = .ok (.iload_n 3, 1) := by decide +kernel
theorem dX2_stepsToDeath_59 : decode cX2_stepsToDeath 59 = .ok (.if_icmp .gt 73, 3) := by decide +kernel
theorem dX2_stepsToDeath_62 : decode cX2_stepsToDeath 62 = .ok (.aload_n 0, 1) := by decide +kernel
theorem dX2_stepsToDeath_63 : decode cX2_stepsToDeath 63 = .ok (.iload 6, 2) := by decide +kernel
theorem dX2_stepsToDeath_65 : decode cX2_stepsToDeath 65 = .ok (.invokevirtual 67, 3) := by decide +kernel
theorem dX2_stepsToDeath_68 : decode cX2_stepsToDeath 68 = .ok (.istore 6, 2) := by decide +kernel
theorem dX2_stepsToDeath_70 : decode cX2_stepsToDeath 70 = .ok (.aload_n 0, 1) := by decide +kernel
theorem dX2_stepsToDeath_71 : decode cX2_stepsToDeath 71 = .ok (.iload 6, 2) := by decide +kernel
theorem dX2_stepsToDeath_73 : decode cX2_stepsToDeath 73 = .ok (.iload_n 1, 1) := by decide +kernel
theorem dX2_stepsToDeath_74 : decode cX2_stepsToDeath 74 = .ok (.invokevirtual 54, 3) := by decide +kernel
theorem dX2_stepsToDeath_77 : decode cX2_stepsToDeath 77 = .ok (.istore 9, 2) := by decide +kernel
theorem dX2_stepsToDeath_79 : decode cX2_stepsToDeath 79 = .ok (.iload 9, 2) := by decide +kernel
theorem dX2_stepsToDeath_81 : decode cX2_stepsToDeath 81 = .ok (.iload 7, 2) := by decide +kernel
theorem dX2_stepsToDeath_83 : decode cX2_stepsToDeath 83 = .ok (.if_icmp .eq 31, 3) := by decide +kernel
theorem dX2_stepsToDeath_86 : decode cX2_stepsToDeath 86 = .ok (.iload 5, 2) := by decide +kernel
theorem dX2_stepsToDeath_88 : decode cX2_stepsToDeath 88 = .ok (.aload 4, 2) := by decide +kernel
theorem dX2_stepsToDeath_90 : decode cX2_stepsToDeath 90 = .ok (.iload 7, 2) := by decide +kernel
theorem dX2_stepsToDeath_92 : decode cX2_stepsToDeath 92 = .ok (.invokevirtual 57, 3) := by decide +kernel
theorem dX2_stepsToDeath_95 : decode cX2_stepsToDeath 95 = .ok (.aload 4, 2) := by decide +kernel
theorem dX2_stepsToDeath_97 : decode cX2_stepsToDeath 97 = .ok (.iload 9, 2) := by decide +kernel
theorem dX2_stepsToDeath_99 : decode cX2_stepsToDeath 99 = .ok (.invokevirtual 57, 3) := by decide +kernel
theorem dX2_stepsToDeath_102 : decode cX2_stepsToDeath 102 = .ok (.ixor, 1) := by decide +kernel
theorem dX2_stepsToDeath_103 : decode cX2_stepsToDeath 103 = .ok (.iload_n 2, 1) := by decide +kernel
theorem dX2_stepsToDeath_104 : decode cX2_stepsToDeath 104 = .ok (.ishr, 1) := by decide +kernel
theorem dX2_stepsToDeath_105 : decode cX2_stepsToDeath 105 = .ok (.iconst 1, 1) := by decide +kernel
theorem dX2_stepsToDeath_106 : decode cX2_stepsToDeath 106 = .ok (.iand, 1) := by decide +kernel
theorem dX2_stepsToDeath_107 : decode cX2_stepsToDeath 107 = .ok (.iadd, 1) := by decide +kernel
theorem dX2_stepsToDeath_108 : decode cX2_stepsToDeath 108 = .ok (.istore 5, 2) := by decide +kernel
theorem dX2_stepsToDeath_110 : decode cX2_stepsToDeath 110 = .ok (.iload 9, 2) := by decide +kernel
theorem dX2_stepsToDeath_112 : decode cX2_stepsToDeath 112 = .ok (.istore 7, 2) := by decide +kernel
theorem dX2_stepsToDeath_114 : decode cX2_stepsToDeath 114 = .ok (.iload 5, 2) := by decide +kernel
theorem dX2_stepsToDeath_116 : decode cX2_stepsToDeath 116 = .ok (.aload_n 0, 1) := by decide +kernel
theorem dX2_stepsToDeath_117 : decode cX2_stepsToDeath 117 = .ok (.getfield 36, 3) := by decide +kernel
theorem dX2_stepsToDeath_120 : decode cX2_stepsToDeath 120 = .ok (.if_icmp .lt 6, 3) := by decide +kernel
theorem dX2_stepsToDeath_123 : decode cX2_stepsToDeath 123 = .ok (.iload 8, 2) := by decide +kernel
theorem dX2_stepsToDeath_125 : decode cX2_stepsToDeath 125 = .ok (.ireturn, 1) := by decide +kernel
theorem dX2_stepsToDeath_126 : decode cX2_stepsToDeath 126 = .ok (.iinc 8 1, 3) := by decide +kernel
theorem dX2_stepsToDeath_129 : decode cX2_stepsToDeath 129 = .ok (.goto (-73), 3) := by decide +kernel
theorem dX2_stepsToDeath_132 : decode cX2_stepsToDeath 132 = .ok (.bipush (-9), 2) := by decide +kernel
theorem dX2_stepsToDeath_134 : decode cX2_stepsToDeath 134 = .ok (.ireturn, 1) := by decide +kernel
