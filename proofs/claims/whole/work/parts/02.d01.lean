theorem dX2_countAlike_0 : decode cX2_countAlike 0 = .ok (.iconst 1, 1) := by decide +kernel
theorem dX2_countAlike_1 : decode cX2_countAlike 1 = .ok (.istore_n 2, 1) := by decide +kernel
theorem dX2_countAlike_2 : decode cX2_countAlike 2 = .ok (.iconst 0, 1) := by decide +kernel
theorem dX2_countAlike_3 : decode cX2_countAlike 3 = .ok (.istore_n 3, 1) := by decide +kernel
theorem dX2_countAlike_4 : decode cX2_countAlike 4 = .ok (.iload_n 3, 1) := by decide +kernel
theorem dX2_countAlike_5 : decode cX2_countAlike 5 = .ok (.aload_n 0, 1) := by decide +kernel
theorem dX2_countAlike_6 : decode cX2_countAlike 6 = .ok (.getfield 32, 3) := by decide +kernel
theorem dX2_countAlike_9 : decode cX2_countAlike 9 = .ok (.if_icmp .ge 26, 3) := by decide +kernel
theorem dX2_countAlike_12 : decode cX2_countAlike 12 = .ok (.iload_n 2, 1) := by decide +kernel
theorem dX2_countAlike_13 : decode cX2_countAlike 13 = .ok (.aload_n 0, 1) := by decide +kernel
theorem dX2_countAlike_14 : decode cX2_countAlike 14 = .ok (.iload_n 3, 1) := by decide +kernel
theorem dX2_countAlike_15 : decode cX2_countAlike 15 = .ok (.aload_n 0, 1) := by decide +kernel
theorem dX2_countAlike_16 : decode cX2_countAlike 16 = .ok (.iload_n 1, 1) := by decide +kernel
theorem dX2_countAlike_17 : decode cX2_countAlike 17 = .ok (.iload_n 3, 1) := by decide +kernel
theorem dX2_countAlike_18 : decode cX2_countAlike 18 = .ok (.invokevirtual 54, 3) := by decide +kernel
theorem dX2_countAlike_21 : decode cX2_countAlike 21 = .ok (.invokevirtual 77, 3) := by decide +kernel
theorem dX2_countAlike_24 : decode cX2_countAlike 24 = .ok (.invokestatic 48, 3) := by decide +kernel
theorem dX2_countAlike_27 : decode cX2_countAlike 27 = .ok (.imul, 1) := by decide +kernel
theorem dX2_countAlike_28 : decode cX2_countAlike 28 = .ok (.istore_n 2, 1) := by decide +kernel
theorem dX2_countAlike_29 : decode cX2_countAlike 29 = .ok (.iinc 3 1, 3) := by decide +kernel
theorem dX2_countAlike_32 : decode cX2_countAlike 32 = .ok (.goto (-28), 3) := by decide +kernel
theorem dX2_countAlike_35 : decode cX2_countAlike 35 = .ok (.iload_n 2, 1) := by decide +kernel
theorem dX2_countAlike_36 : decode cX2_countAlike 36 = .ok (.ireturn, 1) := by decide +kernel
theorem dX2_digitsAlike_0 : decode cX2_digitsAlike 0 = .ok (.aload_n 0, 1) := by decide +kernel
theorem dX2_digitsAlike_1 : decode cX2_digitsAlike 1 = .ok (.getfield 11, 3) := by decide +kernel
theorem dX2_digitsAlike_4 : decode cX2_digitsAlike 4 = .ok (.iload_n 1, 1) := by decide +kernel
theorem dX2_digitsAlike_5 : decode cX2_digitsAlike 5 = .ok (.aaload, 1) := by decide +kernel
theorem dX2_digitsAlike_6 : decode cX2_digitsAlike 6 = .ok (.aload_n 0, 1) := by decide +kernel
theorem dX2_digitsAlike_7 : decode cX2_digitsAlike 7 = .ok (.getfield 11, 3) := by decide +kernel
theorem dX2_digitsAlike_10 : decode cX2_digitsAlike 10 = .ok (.iload_n 1, 1) := by decide +kernel
theorem dX2_digitsAlike_11 : decode cX2_digitsAlike 11 = .ok (.aaload, 1) := by decide +kernel
theorem dX2_digitsAlike_12 : decode cX2_digitsAlike 12 = .ok (.iload_n 2, 1) := by decide +kernel
theorem dX2_digitsAlike_13 : decode cX2_digitsAlike 13 = .ok (.invokevirtual 57, 3) := by decide +kernel
theorem dX2_digitsAlike_16 : decode cX2_digitsAlike 16 = .ok (.invokevirtual 80, 3) := by decide +kernel
theorem dX2_digitsAlike_19 : decode cX2_digitsAlike 19 = .ok (.ireturn, 1) := by decide +kernel
theorem dX2_numberAlike_0 : decode cX2_numberAlike 0 = .ok (.iconst 0, 1) := by decide +kernel
theorem dX2_numberAlike_1 : decode cX2_numberAlike 1 = .ok (.istore_n 3, 1) := by decide +kernel
theorem dX2_numberAlike_2 : decode cX2_numberAlike 2 = .ok (.iconst 1, 1) := by decide +kernel
theorem dX2_numberAlike_3 : decode cX2_numberAlike 3 = .ok (.istore 4, 2) := by decide +kernel
theorem dX2_numberAlike_5 : decode cX2_numberAlike 5 = .ok (.iload_n 2, 1) := by decide +kernel
theorem dX2_numberAlike_6 : decode cX2_numberAlike 6 = .ok (.istore 5, 2) := by decide +kernel
theorem dX2_numberAlike_8 : decode cX2_numberAlike 8 = .ok (.aload_n 0, 1) := by decide +kernel
theorem dX2_numberAlike_9 : decode cX2_numberAlike 9 = .ok (.getfield 32, 3) := by decide +kernel
theorem dX2_numberAlike_12 : decode cX2_numberAlike 12 = .ok (.iconst 1, 1) := by decide +kernel
theorem dX2_numberAlike_13 : decode cX2_numberAlike 13 = .ok (.isub, 1) := by decide +kernel
theorem dX2_numberAlike_14 : decode cX2_numberAlike 14 = .ok (.istore 6, 2) := by decide +kernel
theorem dX2_numberAlike_16 : decode cX2_numberAlike 16 = .ok (.iload 6, 2) := by decide +kernel
theorem dX2_numberAlike_18 : decode cX2_numberAlike 18 = .ok (.ifCond .lt 70, 3) := by decide +kernel
theorem dX2_numberAlike_21 : decode cX2_numberAlike 21 = .ok (.aload_n 0, 1) := by decide +kernel
theorem dX2_numberAlike_22 : decode cX2_numberAlike 22 = .ok (.iload 6, 2) := by decide +kernel
theorem dX2_numberAlike_24 : decode cX2_numberAlike 24 = .ok (.aload_n 0, 1) := by decide +kernel
theorem dX2_numberAlike_25 : decode cX2_numberAlike 25 = .ok (.iload_n 1, 1) := by decide +kernel
theorem dX2_numberAlike_26 : decode cX2_numberAlike 26 = .ok (.iload 6, 2) := by decide +kernel
theorem dX2_numberAlike_28 : decode cX2_numberAlike 28 = .ok (.invokevirtual 54, 3) := by decide +kernel
theorem dX2_numberAlike_31 : decode cX2_numberAlike 31 = .ok (.invokevirtual 77, 3) := by decide +kernel
theorem dX2_numberAlike_34 : decode cX2_numberAlike 34 = .ok (.istore 7, 2) := by decide +kernel
theorem dX2_numberAlike_36 : decode cX2_numberAlike 36 = .ok (.iload 7, 2) := by decide +kernel
theorem dX2_numberAlike_38 : decode cX2_numberAlike 38 = .ok (.invokestatic 48, 3) := by decide +kernel
theorem dX2_numberAlike_41 : decode cX2_numberAlike 41 = .ok (.istore 8, 2) := by decide +kernel
theorem dX2_numberAlike_43 : decode cX2_numberAlike 43 = .ok (.iload 8, 2) := by decide +kernel
theorem dX2_numberAlike_45 : decode cX2_numberAlike 45 = .ok (.iconst 1, 1) := by decide +kernel
theorem dX2_numberAlike_46 : decode cX2_numberAlike 46 = .ok (.if_icmp .ge 6, 3) := by decide +kernel
theorem dX2_numberAlike_49 : decode cX2_numberAlike 49 = .ok (.bipush (-9), 2) := by decide +kernel
theorem dX2_numberAlike_51 : decode cX2_numberAlike 51 = .ok (.ireturn, 1) := by decide +kernel
theorem dX2_numberAlike_52 : decode cX2_numberAlike 52 = .ok (.iload_n 3, 1) := by decide +kernel
theorem dX2_numberAlike_53 : decode cX2_numberAlike 53 = .ok (.iload 4, 2) := by decide +kernel
theorem dX2_numberAlike_55 : decode cX2_numberAlike 55 = .ok (.iload 7, 2) := by decide +kernel
theorem dX2_numberAlike_57 : decode cX2_numberAlike 57 = .ok (.iload 5, 2) := by decide +kernel
theorem dX2_numberAlike_59 : decode cX2_numberAlike 59 = .ok (.iload 8, 2) := by decide +kernel
theorem dX2_numberAlike_61 : decode cX2_numberAlike 61 = .ok (.irem, 1) := by decide +kernel
theorem dX2_numberAlike_62 : decode cX2_numberAlike 62 = .ok (.invokestatic 83, 3) := by decide +kernel
theorem dX2_numberAlike_65 : decode cX2_numberAlike 65 = .ok (.imul, 1) := by decide +kernel
theorem dX2_numberAlike_66 : decode cX2_numberAlike 66 = .ok (.iadd, 1) := by decide +kernel
theorem dX2_numberAlike_67 : decode cX2_numberAlike 67 = .ok (.istore_n 3, 1) := by decide +kernel
theorem dX2_numberAlike_68 : decode cX2_numberAlike 68 = .ok (.iload 5, 2) := by decide +kernel
theorem dX2_numberAlike_70 : decode cX2_numberAlike 70 = .ok (.iload 8, 2) := by decide +kernel
theorem dX2_numberAlike_72 : decode cX2_numberAlike 72 = .ok (.idiv, 1) := by decide +kernel
theorem dX2_numberAlike_73 : decode cX2_numberAlike 73 = .ok (.istore 5, 2) := by decide +kernel
theorem dX2_numberAlike_75 : decode cX2_numberAlike 75 = .ok (.iload 4, 2) := by decide +kernel
theorem dX2_numberAlike_77 : decode cX2_numberAlike 77 = .ok (.bipush 10, 2) := by decide +kernel
theorem dX2_numberAlike_79 : decode cX2_numberAlike 79 = .ok (.imul, 1) := by decide +kernel
theorem dX2_numberAlike_80 : decode cX2_numberAlike 80 = .ok (.istore 4, 2) := by decide +kernel
theorem dX2_numberAlike_82 : decode cX2_numberAlike 82 = .ok (.iinc 6 (-1), 3) := by decide +kernel
theorem dX2_numberAlike_85 : decode cX2_numberAlike 85 = .ok (.goto (-69), 3) := by decide +kernel
theorem dX2_numberAlike_88 : decode cX2_numberAlike 88 = .ok (.iload 5, 2) := by decide +kernel
theorem dX2_numberAlike_90 : decode cX2_numberAlike 90 = .ok (.ifCond .ne 7, 3) := by decide +kernel
theorem dX2_numberAlike_93 : decode cX2_numberAlike 93 = .ok (.iload_n 3, 1) := by decide +kernel
theorem dX2_numberAlike_94 : decode cX2_numberAlike 94 = .ok (.goto 5, 3) := by decide +kernel
theorem dX2_numberAlike_97 : decode cX2_numberAlike 97 = .ok (.bipush (-9), 2) := by decide +kernel
theorem dX2_numberAlike_99 : decode cX2_numberAlike 99 = .ok (.ireturn, 1) := by decide +kernel
theorem dX2_memberOf_0 : decode cX2_memberOf 0 = .ok (.iload_n 1, 1) := by decide +kernel
theorem dX2_memberOf_1 : decode cX2_memberOf 1 = .ok (.istore_n 2, 1) := by decide +kernel
theorem dX2_memberOf_2 : decode cX2_memberOf 2 = .ok (.iconst 0, 1) := by decide +kernel
theorem dX2_memberOf_3 : decode cX2_memberOf 3 = .ok (.istore_n 3, 1) := by decide +kernel
theorem dX2_memberOf_4 : decode cX2_memberOf 4 = .ok (.iload_n 3, 1) := by decide +kernel
theorem dX2_memberOf_5 : decode cX2_memberOf 5 = .ok (.bipush 10, 2) := by decide +kernel
theorem dX2_memberOf_7 : decode cX2_memberOf 7 = .ok (.if_icmp .ge 26, 3) := by decide +kernel
theorem dX2_memberOf_10 : decode cX2_memberOf 10 = .ok (.iload_n 0, 1) := by decide +kernel
theorem dX2_memberOf_11 : decode cX2_memberOf 11 = .ok (.iload_n 3, 1) := by decide +kernel
theorem dX2_memberOf_12 : decode cX2_memberOf 12 = .ok (.ishr, 1) := by decide +kernel
theorem dX2_memberOf_13 : decode cX2_memberOf 13 = .ok (.iconst 1, 1) := by decide +kernel
theorem dX2_memberOf_14 : decode cX2_memberOf 14 = .ok (.iand, 1) := by decide +kernel
theorem dX2_memberOf_15 : decode cX2_memberOf 15 = .ok (.ifCond .eq 12, 3) := by decide +kernel
theorem dX2_memberOf_18 : decode cX2_memberOf 18 = .ok (.iload_n 2, 1) := by decide +kernel
theorem dX2_memberOf_19 : decode cX2_memberOf 19 = .ok (.ifCond .ne 5, 3) := by decide +kernel
theorem dX2_memberOf_22 : decode cX2_memberOf 22 = .ok (.iload_n 3, 1) := by decide +kernel
theorem dX2_memberOf_23 : decode cX2_memberOf 23 = .ok (.ireturn, 1) := by decide +kernel
theorem dX2_memberOf_24 : decode cX2_memberOf 24 = .ok (.iinc 2 (-1), 3) := by decide +kernel
theorem dX2_memberOf_27 : decode cX2_memberOf 27 = .ok (.iinc 3 1, 3) := by decide +kernel
theorem dX2_memberOf_30 : decode cX2_memberOf 30 = .ok (.goto (-26), 3) := by decide +kernel
theorem dX2_memberOf_33 : decode cX2_memberOf 33 = .ok (.iconst 0, 1) := by decide +kernel
theorem dX2_memberOf_34 : decode cX2_memberOf 34 = .ok (.ireturn, 1) := by decide +kernel
theorem dX2_nearestTo_0 : decode cX2_nearestTo 0 = .ok (.aload_n 0, 1) := by decide +kernel
theorem dX2_nearestTo_1 : decode cX2_nearestTo 1 = .ok (.iload_n 1, 1) := by decide +kernel
theorem dX2_nearestTo_2 : decode cX2_nearestTo 2 = .ok (.invokevirtual 86, 3) := by decide +kernel
theorem dX2_nearestTo_5 : decode cX2_nearestTo 5 = .ok (.iconst 1, 1) := by decide +kernel
theorem dX2_nearestTo_6 : decode cX2_nearestTo 6 = .ok (.if_icmp .ne 9, 3) := by decide +kernel
theorem dX2_nearestTo_9 : decode cX2_nearestTo 9 = .ok (.aload_n 0, 1) := by decide +kernel
theorem dX2_nearestTo_10 : decode cX2_nearestTo 10 = .ok (.iload_n 1, 1) := by decide +kernel
theorem dX2_nearestTo_11 : decode cX2_nearestTo 11 = .ok (.invokevirtual 89, 3) := by decide +kernel
theorem dX2_nearestTo_14 : decode cX2_nearestTo 14 = .ok (.ireturn, 1) := by decide +kernel
theorem dX2_nearestTo_15 : decode cX2_nearestTo 15 = .ok (.aload_n 0, 1) := by decide +kernel
theorem dX2_nearestTo_16 : decode cX2_nearestTo 16 = .ok (.iload_n 1, 1) := by decide +kernel
theorem dX2_nearestTo_17 : decode cX2_nearestTo 17 = .ok (.iconst 0, 1) := by decide +kernel
theorem dX2_nearestTo_18 : decode cX2_nearestTo 18 = .ok (.invokevirtual 92, 3) := by decide +kernel
theorem dX2_nearestTo_21 : decode cX2_nearestTo 21 = .ok (.istore_n 2, 1) := by decide +kernel
theorem dX2_nearestTo_22 : decode cX2_nearestTo 22 = .ok (.iload_n 2, 1) := by decide +kernel
theorem dX2_nearestTo_23 : decode cX2_nearestTo 23 = .ok (.iload_n 1, 1) := by decide +kernel
theorem dX2_nearestTo_24 : decode cX2_nearestTo 24 = .ok (.if_icmp .eq 7, 3) := by decide +kernel
theorem dX2_nearestTo_27 : decode cX2_nearestTo 27 = .ok (.iload_n 2, 1) := by decide +kernel
theorem dX2_nearestTo_28 : decode cX2_nearestTo 28 = .ok (.goto 9, 3) := by decide +kernel
theorem dX2_nearestTo_31 : decode cX2_nearestTo 31 = .ok (.aload_n 0, 1) := by decide +kernel
theorem dX2_nearestTo_32 : decode cX2_nearestTo 32 = .ok (.iload_n 1, 1) := by decide +kernel
theorem dX2_nearestTo_33 : decode cX2_nearestTo 33 = .ok (.iconst 1, 1) := by decide +kernel
theorem dX2_nearestTo_34 : decode cX2_nearestTo 34 = .ok (.invokevirtual 92, 3) := by decide +kernel
theorem dX2_nearestTo_37 : decode cX2_nearestTo 37 = .ok (.ireturn, 1) := by decide +kernel
theorem dX2_nearestUnlike_0 : decode cX2_nearestUnlike 0 = .ok (.bipush (-9), 2) := by decide +kernel
theorem dX2_nearestUnlike_2 : decode cX2_nearestUnlike 2 = .ok (.istore_n 2, 1) := by decide +kernel
theorem dX2_nearestUnlike_3 : decode cX2_nearestUnlike 3 = .ok (.bipush 29, 2) := by decide +kernel
theorem dX2_nearestUnlike_5 : decode cX2_nearestUnlike 5 = .ok (.istore_n 3, 1) := by decide +kernel
theorem dX2_nearestUnlike_6 : decode cX2_nearestUnlike 6 = .ok (.iconst 1, 1) := by decide +kernel
theorem dX2_nearestUnlike_7 : decode cX2_nearestUnlike 7 = .ok (.istore 4, 2) := by decide +kernel
theorem dX2_nearestUnlike_9 : decode cX2_nearestUnlike 9 = .ok (.aload_n 0, 1) := by decide +kernel
theorem dX2_nearestUnlike_10 : decode cX2_nearestUnlike 10 = .ok (.getfield 32, 3) := by decide +kernel
theorem dX2_nearestUnlike_13 : decode cX2_nearestUnlike 13 = .ok (.iconst 1, 1) := by decide +kernel
theorem dX2_nearestUnlike_14 : decode cX2_nearestUnlike 14 = .ok (.isub, 1) := by decide +kernel
theorem dX2_nearestUnlike_15 : decode cX2_nearestUnlike 15 = .ok (.istore 5, 2) := by decide +kernel
theorem dX2_nearestUnlike_17 : decode cX2_nearestUnlike 17 = .ok (.iload 5, 2) := by decide +kernel
theorem dX2_nearestUnlike_19 : decode cX2_nearestUnlike 19 = .ok (.ifCond .lt 114, 3) := by decide +kernel
theorem dX2_nearestUnlike_22 : decode cX2_nearestUnlike 22 = .ok (.aload_n 0, 1) := by decide +kernel
theorem dX2_nearestUnlike_23 : decode cX2_nearestUnlike 23 = .ok (.iload_n 1, 1) := by decide +kernel
theorem dX2_nearestUnlike_24 : decode cX2_nearestUnlike 24 = .ok (.iload 5, 2) := by decide +kernel
theorem dX2_nearestUnlike_26 : decode cX2_nearestUnlike 26 = .ok (.invokevirtual 54, 3) := by decide +kernel
theorem dX2_nearestUnlike_29 : decode cX2_nearestUnlike 29 = .ok (.istore 6, 2) := by decide +kernel
theorem dX2_nearestUnlike_31 : decode cX2_nearestUnlike 31 = .ok (.iconst 0, 1) := by decide +kernel
theorem dX2_nearestUnlike_32 : decode cX2_nearestUnlike 32 = .ok (.istore 7, 2) := by decide +kernel
theorem dX2_nearestUnlike_34 : decode cX2_nearestUnlike 34 = .ok (.iload 7, 2) := by decide +kernel
theorem dX2_nearestUnlike_36 : decode cX2_nearestUnlike 36 = .ok (.bipush 10, 2) := by decide +kernel
theorem dX2_nearestUnlike_38 : decode cX2_nearestUnlike 38 = .ok (.if_icmp .ge 82, 3) := by decide +kernel
theorem dX2_nearestUnlike_41 : decode cX2_nearestUnlike 41 = .ok (.iload_n 1, 1) := by decide +kernel
theorem dX2_nearestUnlike_42 : decode cX2_nearestUnlike 42 = .ok (.iload 4, 2) := by decide +kernel
theorem dX2_nearestUnlike_44 : decode cX2_nearestUnlike 44 = .ok (.iload 7, 2) := by decide +kernel
theorem dX2_nearestUnlike_46 : decode cX2_nearestUnlike 46 = .ok (.iload 6, 2) := by decide +kernel
theorem dX2_nearestUnlike_48 : decode cX2_nearestUnlike 48 = .ok (.isub, 1) := by decide +kernel
theorem dX2_nearestUnlike_49 : decode cX2_nearestUnlike 49 = .ok (.imul, 1) := by decide +kernel
theorem dX2_nearestUnlike_50 : decode cX2_nearestUnlike 50 = .ok (.iadd, 1) := by decide +kernel
theorem dX2_nearestUnlike_51 : decode cX2_nearestUnlike 51 = .ok (.istore 8, 2) := by decide +kernel
theorem dX2_nearestUnlike_53 : decode cX2_nearestUnlike 53 = .ok (.aload_n 0, 1) := by decide +kernel
theorem dX2_nearestUnlike_54 : decode cX2_nearestUnlike 54 = .ok (.getfield 11, 3) := by decide +kernel
theorem dX2_nearestUnlike_57 : decode cX2_nearestUnlike 57 = .ok (.iload 5, 2) := by decide +kernel
theorem dX2_nearestUnlike_59 : decode cX2_nearestUnlike 59 = .ok (.aaload, 1) := by decide +kernel
theorem dX2_nearestUnlike_60 : decode cX2_nearestUnlike 60 = .ok (.iload 6, 2) := by decide +kernel
theorem dX2_nearestUnlike_62 : decode cX2_nearestUnlike 62 = .ok (.invokevirtual 57, 3) := by decide +kernel
theorem dX2_nearestUnlike_65 : decode cX2_nearestUnlike 65 = .ok (.aload_n 0, 1) := by decide +kernel
theorem dX2_nearestUnlike_66 : decode cX2_nearestUnlike 66 = .ok (.getfield 11, 3) := by decide +kernel
theorem dX2_nearestUnlike_69 : decode cX2_nearestUnlike 69 = .ok (.iload 5, 2) := by decide +kernel
theorem dX2_nearestUnlike_71 : decode cX2_nearestUnlike 71 = .ok (.aaload, 1) := by decide +kernel
theorem dX2_nearestUnlike_72 : decode cX2_nearestUnlike 72 = .ok (.iload 7, 2) := by decide +kernel
theorem dX2_nearestUnlike_74 : decode cX2_nearestUnlike 74 = .ok (.invokevirtual 57, 3) := by decide +kernel
theorem dX2_nearestUnlike_77 : decode cX2_nearestUnlike 77 = .ok (.ixor, 1) := by decide +kernel
theorem dX2_nearestUnlike_78 : decode cX2_nearestUnlike 78 = .ok (.invokestatic 48, 3) := by decide +kernel
theorem dX2_nearestUnlike_81 : decode cX2_nearestUnlike 81 = .ok (.istore 9, 2) := by decide +kernel
theorem dX2_nearestUnlike_83 : decode cX2_nearestUnlike 83 = .ok (.iload 7, 2) := by decide +kernel
theorem dX2_nearestUnlike_85 : decode cX2_nearestUnlike 85 = .ok (.iload 6, 2) := by decide +kernel
theorem dX2_nearestUnlike_87 : decode cX2_nearestUnlike 87 = .ok (.if_icmp .eq 27, 3) := by decide +kernel
theorem dX2_nearestUnlike_90 : decode cX2_nearestUnlike 90 = .ok (.iload 9, 2) := by decide +kernel
theorem dX2_nearestUnlike_92 : decode cX2_nearestUnlike 92 = .ok (.iload_n 3, 1) := by decide +kernel
theorem dX2_nearestUnlike_93 : decode cX2_nearestUnlike 93 = .ok (.if_icmp .lt 15, 3) := by decide +kernel
theorem dX2_nearestUnlike_96 : decode cX2_nearestUnlike 96 = .ok (.iload 9, 2) := by decide +kernel
theorem dX2_nearestUnlike_98 : decode cX2_nearestUnlike 98 = .ok (.iload_n 3, 1) := by decide +kernel
theorem dX2_nearestUnlike_99 : decode cX2_nearestUnlike 99 = .ok (.if_icmp .ne 15, 3) := by decide +kernel
theorem dX2_nearestUnlike_102 : decode cX2_nearestUnlike 102 = .ok (.iload 8, 2) := by decide +kernel
theorem dX2_nearestUnlike_104 : decode cX2_nearestUnlike 104 = .ok (.iload_n 2, 1) := by decide +kernel
theorem dX2_nearestUnlike_105 : decode cX2_nearestUnlike 105 = .ok (.if_icmp .ge 9, 3) := by decide +kernel
theorem dX2_nearestUnlike_108 : decode cX2_nearestUnlike 108 = .ok (.iload 8, 2) := by decide +kernel
theorem dX2_nearestUnlike_110 : decode cX2_nearestUnlike 110 = .ok (.istore_n 2, 1) := by decide +kernel
theorem dX2_nearestUnlike_111 : decode cX2_nearestUnlike 111 = .ok (.iload 9, 2) := by decide +kernel
theorem dX2_nearestUnlike_113 : decode cX2_nearestUnlike 113 = .ok (.istore_n 3, 1) := by decide +kernel
theorem dX2_nearestUnlike_114 : decode cX2_nearestUnlike 114 = .ok (.iinc 7 1, 3) := by decide +kernel
theorem dX2_nearestUnlike_117 : decode cX2_nearestUnlike 117 = .ok (.goto (-83), 3) := by decide +kernel
theorem dX2_nearestUnlike_120 : decode cX2_nearestUnlike 120 = .ok (.iload 4, 2) := by decide +kernel
theorem dX2_nearestUnlike_122 : decode cX2_nearestUnlike 122 = .ok (.bipush 10, 2) := by decide +kernel
theorem dX2_nearestUnlike_124 : decode cX2_nearestUnlike 124 = .ok (.imul, 1) := by decide +kernel
theorem dX2_nearestUnlike_125 : decode cX2_nearestUnlike 125 = .ok (.istore 4, 2) := by decide +kernel
theorem dX2_nearestUnlike_127 : decode cX2_nearestUnlike 127 = .ok (.iinc 5 (-1), 3) := by decide +kernel
theorem dX2_nearestUnlike_130 : decode cX2_nearestUnlike 130 = .ok (.goto (-113), 3) := by decide +kernel
theorem dX2_nearestUnlike_133 : decode cX2_nearestUnlike 133 = .ok (.iload_n 2, 1) := by decide +kernel
theorem dX2_nearestUnlike_134 : decode cX2_nearestUnlike 134 = .ok (.ireturn, 1) := by decide +kernel
theorem dX2_unlikePictures_0 : decode cX2_unlikePictures 0 = .ok (.iconst 1, 1) := by decide +kernel
theorem dX2_unlikePictures_1 : decode cX2_unlikePictures 1 = .ok (.istore_n 1, 1) := by decide +kernel
theorem dX2_unlikePictures_2 : decode cX2_unlikePictures 2 = .ok (.iconst 0, 1) := by decide +kernel
theorem dX2_unlikePictures_3 : decode cX2_unlikePictures 3 = .ok (.istore_n 2, 1) := by decide +kernel
theorem dX2_unlikePictures_4 : decode cX2_unlikePictures 4 = .ok (.iload_n 2, 1) := by decide +kernel
theorem dX2_unlikePictures_5 : decode cX2_unlikePictures 5 = .ok (.aload_n 0, 1) := by decide +kernel
theorem dX2_unlikePictures_6 : decode cX2_unlikePictures 6 = .ok (.getfield 32, 3) := by decide +kernel
theorem dX2_unlikePictures_9 : decode cX2_unlikePictures 9 = .ok (.if_icmp .ge 21, 3) := by decide +kernel
theorem dX2_unlikePictures_12 : decode cX2_unlikePictures 12 = .ok (.iload_n 1, 1) := by decide +kernel
theorem dX2_unlikePictures_13 : decode cX2_unlikePictures 13 = .ok (.aload_n 0, 1) := by decide +kernel
theorem dX2_unlikePictures_14 : decode cX2_unlikePictures 14 = .ok (.getfield 11, 3) := by decide +kernel
theorem dX2_unlikePictures_17 : decode cX2_unlikePictures 17 = .ok (.iload_n 2, 1) := by decide +kernel
theorem dX2_unlikePictures_18 : decode cX2_unlikePictures 18 = .ok (.aaload, 1) := by decide +kernel
theorem dX2_unlikePictures_19 : decode cX2_unlikePictures 19 = .ok (.invokevirtual 95, 3) := by decide +kernel
theorem dX2_unlikePictures_22 : decode cX2_unlikePictures 22 = .ok (.imul, 1) := by decide +kernel
theorem dX2_unlikePictures_23 : decode cX2_unlikePictures 23 = .ok (.istore_n 1, 1) := by decide +kernel
theorem dX2_unlikePictures_24 : decode cX2_unlikePictures 24 = .ok (.iinc 2 1, 3) := by decide +kernel
theorem dX2_unlikePictures_27 : decode cX2_unlikePictures 27 = .ok (.goto (-23), 3) := by decide +kernel
theorem dX2_unlikePictures_30 : decode cX2_unlikePictures 30 = .ok (.iload_n 1, 1) := by decide +kernel
theorem dX2_unlikePictures_31 : decode cX2_unlikePictures 31 = .ok (.ireturn, 1) := by decide +kernel
theorem dX2_lonePictures_0 : decode cX2_lonePictures 0 = .ok (.iconst 1, 1) := by decide +kernel
theorem dX2_lonePictures_1 : decode cX2_lonePictures 1 = .ok (.istore_n 1, 1) := by decide +kernel
theorem dX2_lonePictures_2 : decode cX2_lonePictures 2 = .ok (.iconst 0, 1) := by decide +kernel
theorem dX2_lonePictures_3 : decode cX2_lonePictures 3 = .ok (.istore_n 2, 1) := by decide +kernel
theorem dX2_lonePictures_4 : decode cX2_lonePictures 4 = .ok (.iload_n 2, 1) := by decide +kernel
theorem dX2_lonePictures_5 : decode cX2_lonePictures 5 = .ok (.aload_n 0, 1) := by decide +kernel
theorem dX2_lonePictures_6 : decode cX2_lonePictures 6 = .ok (.getfield 32, 3) := by decide +kernel
theorem dX2_lonePictures_9 : decode cX2_lonePictures 9 = .ok (.if_icmp .ge 21, 3) := by decide +kernel
theorem dX2_lonePictures_12 : decode cX2_lonePictures 12 = .ok (.iload_n 1, 1) := by decide +kernel
theorem dX2_lonePictures_13 : decode cX2_lonePictures 13 = .ok (.aload_n 0, 1) := by decide +kernel
theorem dX2_lonePictures_14 : decode cX2_lonePictures 14 = .ok (.getfield 11, 3) := by decide +kernel
theorem dX2_lonePictures_17 : decode cX2_lonePictures 17 = .ok (.iload_n 2, 1) := by decide +kernel
theorem dX2_lonePictures_18 : decode cX2_lonePictures 18 = .ok (.aaload, 1) := by decide +kernel
theorem dX2_lonePictures_19 : decode cX2_lonePictures 19 = .ok (.invokevirtual 99, 3) := by decide +kernel
theorem dX2_lonePictures_22 : decode cX2_lonePictures 22 = .ok (.imul, 1) := by decide +kernel
theorem dX2_lonePictures_23 : decode cX2_lonePictures 23 = .ok (.istore_n 1, 1) := by decide +kernel
theorem dX2_lonePictures_24 : decode cX2_lonePictures 24 = .ok (.iinc 2 1, 3) := by decide +kernel
theorem dX2_lonePictures_27 : decode cX2_lonePictures 27 = .ok (.goto (-23), 3) := by decide +kernel
theorem dX2_lonePictures_30 : decode cX2_lonePictures 30 = .ok (.iload_n 1, 1) := by decide +kernel
theorem dX2_lonePictures_31 : decode cX2_lonePictures 31 = .ok (.ireturn, 1) := by decide +kernel
theorem dX3_init_0 : decode cX3_init 0 = .ok (.aload_n 0, 1) := by decide +kernel
theorem dX3_init_1 : decode cX3_init 1 = .ok (.invokespecial 3, 3) := by decide +kernel
theorem dX3_init_4 : decode cX3_init 4 = .ok (.aload_n 0, 1) := by decide +kernel
theorem dX3_init_5 : decode cX3_init 5 = .ok (.bipush 10, 2) := by decide +kernel
theorem dX3_init_7 : decode cX3_init 7 = .ok (.newarray .int, 2) := by decide +kernel
theorem dX3_init_9 : decode cX3_init 9 = .ok (.putfield 9, 3) := by decide +kernel
theorem dX3_init_12 : decode cX3_init 12 = .ok (.aload_n 0, 1) := by decide +kernel
theorem dX3_init_13 : decode cX3_init 13 = .ok (.bipush 7, 2) := by decide +kernel
theorem dX3_init_15 : decode cX3_init 15 = .ok (.newarray .int, 2) := by decide +kernel
theorem dX3_init_17 : decode cX3_init 17 = .ok (.putfield 15, 3) := by decide +kernel
theorem dX3_init_20 : decode cX3_init 20 = .ok (.aload_n 0, 1) := by decide +kernel
theorem dX3_init_21 : decode cX3_init 21 = .ok (.aload_n 1, 1) := by decide +kernel
theorem dX3_init_22 : decode cX3_init 22 = .ok (.putfield 18, 3) := by decide +kernel
theorem dX3_init_25 : decode cX3_init 25 = .ok (.return_, 1) := by decide +kernel
theorem dX3_renew_0 : decode cX3_renew 0 = .ok (.aload_n 0, 1) := by decide +kernel
theorem dX3_renew_1 : decode cX3_renew 1 = .ok (.iload_n 1, 1) := by decide +kernel
theorem dX3_renew_2 : decode cX3_renew 2 = .ok (.putfield 22, 3) := by decide +kernel
theorem dX3_renew_5 : decode cX3_renew 5 = .ok (.aload_n 0, 1) := by decide +kernel
theorem dX3_renew_6 : decode cX3_renew 6 = .ok (.iload_n 2, 1) := by decide +kernel
theorem dX3_renew_7 : decode cX3_renew 7 = .ok (.putfield 26, 3) := by decide +kernel
theorem dX3_renew_10 : decode cX3_renew 10 = .ok (.aload_n 0, 1) := by decide +kernel
theorem dX3_renew_11 : decode cX3_renew 11 = .ok (.iload_n 3, 1) := by decide +kernel
theorem dX3_renew_12 : decode cX3_renew 12 = .ok (.putfield 29, 3) := by decide +kernel
theorem dX3_renew_15 : decode cX3_renew 15 = .ok (.iconst 0, 1) := by decide +kernel
theorem dX3_renew_16 : decode cX3_renew 16 = .ok (.istore 4, 2) := by decide +kernel
theorem dX3_renew_18 : decode cX3_renew 18 = .ok (.iload 4, 2) := by decide +kernel
theorem dX3_renew_20 : decode cX3_renew 20 = .ok (.bipush 7, 2) := by decide +kernel
theorem dX3_renew_22 : decode cX3_renew 22 = .ok (.if_icmp .ge 17, 3) := by decide +kernel
theorem dX3_renew_25 : decode cX3_renew 25 = .ok (.aload_n 0, 1) := by decide +kernel
theorem dX3_renew_26 : decode cX3_renew 26 = .ok (.getfield 15, 3) := by decide +kernel
theorem dX3_renew_29 : decode cX3_renew 29 = .ok (.iload 4, 2) := by decide +kernel
theorem dX3_renew_31 : decode cX3_renew 31 = .ok (.iconst 0, 1) := by decide +kernel
theorem dX3_renew_32 : decode cX3_renew 32 = .ok (.iastore, 1) := by decide +kernel
theorem dX3_renew_33 : decode cX3_renew 33 = .ok (.iinc 4 1, 3) := by decide +kernel
theorem dX3_renew_36 : decode cX3_renew 36 = .ok (.goto (-18), 3) := by decide +kernel
theorem dX3_renew_39 : decode cX3_renew 39 = .ok (.aload_n 0, 1) := by decide +kernel
theorem dX3_renew_40 : decode cX3_renew 40 = .ok (.invokevirtual 32, 3) := by decide +kernel
theorem dX3_renew_43 : decode cX3_renew 43 = .ok (.return_, 1) := by decide +kernel
theorem dX3_light_0 : decode cX3_light 0 = .ok (.iconst 0, 1) := by decide +kernel
theorem dX3_light_1 : decode cX3_light 1 = .ok (.istore_n 1, 1) := by decide +kernel
theorem dX3_light_2 : decode cX3_light 2 = .ok (.iload_n 1, 1) := by decide +kernel
theorem dX3_light_3 : decode cX3_light 3 = .ok (.bipush 10, 2) := by decide +kernel
theorem dX3_light_5 : decode cX3_light 5 = .ok (.if_icmp .ge 28, 3) := by decide +kernel
theorem dX3_light_8 : decode cX3_light 8 = .ok (.aload_n 0, 1) := by decide +kernel
theorem dX3_light_9 : decode cX3_light 9 = .ok (.getfield 9, 3) := by decide +kernel
theorem dX3_light_12 : decode cX3_light 12 = .ok (.iload_n 1, 1) := by decide +kernel
theorem dX3_light_13 : decode cX3_light 13 = .ok (.aload_n 0, 1) := by decide +kernel
theorem dX3_light_14 : decode cX3_light 14 = .ok (.aload_n 0, 1) := by decide +kernel
theorem dX3_light_15 : decode cX3_light 15 = .ok (.getfield 22, 3) := by decide +kernel
theorem dX3_light_18 : decode cX3_light 18 = .ok (.aload_n 0, 1) := by decide +kernel
theorem dX3_light_19 : decode cX3_light 19 = .ok (.getfield 26, 3) := by decide +kernel
theorem dX3_light_22 : decode cX3_light 22 = .ok (.iload_n 1, 1) := by decide +kernel
theorem dX3_light_23 : decode cX3_light 23 = .ok (.invokevirtual 35, 3) := by decide +kernel
theorem dX3_light_26 : decode cX3_light 26 = .ok (.iastore, 1) := by decide +kernel
theorem dX3_light_27 : decode cX3_light 27 = .ok (.iinc 1 1, 3) := by decide +kernel
theorem dX3_light_30 : decode cX3_light 30 = .ok (.goto (-28), 3) := by decide +kernel
theorem dX3_light_33 : decode cX3_light 33 = .ok (.return_, 1) := by decide +kernel
theorem dX3_lit_0 : decode cX3_lit 0 = .ok (.iload_n 1, 1) := by decide +kernel
theorem dX3_lit_1 : decode cX3_lit 1 = .ok (.bipush 10, 2) := by decide +kernel
theorem dX3_lit_3 : decode cX3_lit 3 = .ok (.invokestatic 39, 3) := by decide +kernel
theorem dX3_lit_6 : decode cX3_lit 6 = .ok (.ifCond .eq 12, 3) := by decide +kernel
theorem dX3_lit_9 : decode cX3_lit 9 = .ok (.aload_n 0, 1) := by decide +kernel
theorem dX3_lit_10 : decode cX3_lit 10 = .ok (.getfield 9, 3) := by decide +kernel
theorem dX3_lit_13 : decode cX3_lit 13 = .ok (.iload_n 1, 1) := by decide +kernel
theorem dX3_lit_14 : decode cX3_lit 14 = .ok (.iaload, 1) := by decide +kernel
theorem dX3_lit_15 : decode cX3_lit 15 = .ok (.goto 4, 3) := by decide +kernel
theorem dX3_lit_18 : decode cX3_lit 18 = .ok (.iconst 0, 1) := by decide +kernel
theorem dX3_lit_19 : decode cX3_lit 19 = .ok (.ireturn, 1) := by decide +kernel
theorem dX3_litIf_0 : decode cX3_litIf 0 = .ok (.aload_n 0, 1) := by decide +kernel
theorem dX3_litIf_1 : decode cX3_litIf 1 = .ok (.getfield 18, 3) := by decide +kernel
theorem dX3_litIf_4 : decode cX3_litIf 4 = .ok (.iload_n 1, 1) := by decide +kernel
theorem dX3_litIf_5 : decode cX3_litIf 5 = .ok (.iload_n 3, 1) := by decide +kernel
theorem dX3_litIf_6 : decode cX3_litIf 6 = .ok (.invokevirtual 43, 3) := by decide +kernel
theorem dX3_litIf_9 : decode cX3_litIf 9 = .ok (.iload_n 2, 1) := by decide +kernel
theorem dX3_litIf_10 : decode cX3_litIf 10 = .ok (.iconst (-1), 1) := by decide +kernel
theorem dX3_litIf_11 : decode cX3_litIf 11 = .ok (.ixor, 1) := by decide +kernel
theorem dX3_litIf_12 : decode cX3_litIf 12 = .ok (.iand, 1) := by decide +kernel
theorem dX3_litIf_13 : decode cX3_litIf 13 = .ok (.aload_n 0, 1) := by decide +kernel
theorem dX3_litIf_14 : decode cX3_litIf 14 = .ok (.getfield 29, 3) := by decide +kernel
theorem dX3_litIf_17 : decode cX3_litIf 17 = .ok (.ior, 1) := by decide +kernel
theorem dX3_litIf_18 : decode cX3_litIf 18 = .ok (.ireturn, 1) := by decide +kernel
theorem dX3_digitsOf_0 : decode cX3_digitsOf 0 = .ok (.iconst 0, 1) := by decide +kernel
theorem dX3_digitsOf_1 : decode cX3_digitsOf 1 = .ok (.istore_n 2, 1) := by decide +kernel
theorem dX3_digitsOf_2 : decode cX3_digitsOf 2 = .ok (.iconst 0, 1) := by decide +kernel
theorem dX3_digitsOf_3 : decode cX3_digitsOf 3 = .ok (.istore_n 3, 1) := by decide +kernel
theorem dX3_digitsOf_4 : decode cX3_digitsOf 4 = .ok (.iload_n 3, 1) := by decide +kernel
theorem dX3_digitsOf_5 : decode cX3_digitsOf 5 = .ok (.bipush 10, 2) := by decide +kernel
theorem dX3_digitsOf_7 : decode cX3_digitsOf 7 = .ok (.if_icmp .ge 25, 3) := by decide +kernel
theorem dX3_digitsOf_10 : decode cX3_digitsOf 10 = .ok (.aload_n 0, 1) := by decide +kernel
theorem dX3_digitsOf_11 : decode cX3_digitsOf 11 = .ok (.getfield 9, 3) := by decide +kernel
theorem dX3_digitsOf_14 : decode cX3_digitsOf 14 = .ok (.iload_n 3, 1) := by decide +kernel
theorem dX3_digitsOf_15 : decode cX3_digitsOf 15 = .ok (.iaload, 1) := by decide +kernel
theorem dX3_digitsOf_16 : decode cX3_digitsOf 16 = .ok (.iload_n 1, 1) := by decide +kernel
theorem dX3_digitsOf_17 : decode cX3_digitsOf 17 = .ok (.if_icmp .ne 9, 3) := by decide +kernel
theorem dX3_digitsOf_20 : decode cX3_digitsOf 20 = .ok (.iload_n 2, 1) := by decide +kernel
theorem dX3_digitsOf_21 : decode cX3_digitsOf 21 = .ok (.iconst 1, 1) := by decide +kernel
theorem dX3_digitsOf_22 : decode cX3_digitsOf 22 = .ok (.iload_n 3, 1) := by decide +kernel
theorem dX3_digitsOf_23 : decode cX3_digitsOf 23 = .ok (.ishl, 1) := by decide +kernel
theorem dX3_digitsOf_24 : decode cX3_digitsOf 24 = .ok (.ior, 1) := by decide +kernel
theorem dX3_digitsOf_25 : decode cX3_digitsOf 25 = .ok (.istore_n 2, 1) := by decide +kernel
theorem dX3_digitsOf_26 : decode cX3_digitsOf 26 = .ok (.iinc 3 1, 3) := by decide +kernel
theorem dX3_digitsOf_29 : decode cX3_digitsOf 29 = .ok (.goto (-25), 3) := by decide +kernel
theorem dX3_digitsOf_32 : decode cX3_digitsOf 32 = .ok (.iload_n 2, 1) := by decide +kernel
theorem dX3_digitsOf_33 : decode cX3_digitsOf 33 = .ok (.ireturn, 1) := by decide +kernel
theorem dX3_unlikeSets_0 : decode cX3_unlikeSets 0 = .ok (.iconst 0, 1) := by decide +kernel
theorem dX3_unlikeSets_1 : decode cX3_unlikeSets 1 = .ok (.istore_n 1, 1) := by decide +kernel
theorem dX3_unlikeSets_2 : decode cX3_unlikeSets 2 = .ok (.iconst 0, 1) := by decide +kernel
theorem dX3_unlikeSets_3 : decode cX3_unlikeSets 3 = .ok (.istore_n 2, 1) := by decide +kernel
theorem dX3_unlikeSets_4 : decode cX3_unlikeSets 4 = .ok (.iload_n 2, 1) := by decide +kernel
theorem dX3_unlikeSets_5 : decode cX3_unlikeSets 5 = .ok (.bipush 10, 2) := by decide +kernel
theorem dX3_unlikeSets_7 : decode cX3_unlikeSets 7 = .ok (.if_icmp .ge 38, 3) := by decide +kernel
theorem dX3_unlikeSets_10 : decode cX3_unlikeSets 10 = .ok (.iconst 1, 1) := by decide +kernel
theorem dX3_unlikeSets_11 : decode cX3_unlikeSets 11 = .ok (.iload_n 2, 1) := by decide +kernel
theorem dX3_unlikeSets_12 : decode cX3_unlikeSets 12 = .ok (.ishl, 1) := by decide +kernel
theorem dX3_unlikeSets_13 : decode cX3_unlikeSets 13 = .ok (.iconst 1, 1) := by decide +kernel
theorem dX3_unlikeSets_14 : decode cX3_unlikeSets 14 = .ok (.isub, 1) := by decide +kernel
theorem dX3_unlikeSets_15 : decode cX3_unlikeSets 15 = .ok (.istore_n 3, 1) := by decide +kernel
theorem dX3_unlikeSets_16 : decode cX3_unlikeSets 16 = .ok (.iload_n 1, 1) := by decide +kernel
theorem dX3_unlikeSets_17 : decode cX3_unlikeSets 17 = .ok (.aload_n 0, 1) := by decide +kernel
theorem dX3_unlikeSets_18 : decode cX3_unlikeSets 18 = .ok (.aload_n 0, 1) := by decide +kernel
theorem dX3_unlikeSets_19 : decode cX3_unlikeSets 19 = .ok (.getfield 9, 3) := by decide +kernel
theorem dX3_unlikeSets_22 : decode cX3_unlikeSets 22 = .ok (.iload_n 2, 1) := by decide +kernel
theorem dX3_unlikeSets_23 : decode cX3_unlikeSets 23 = .ok (.iaload, 1) := by decide +kernel
theorem dX3_unlikeSets_24 : decode cX3_unlikeSets 24 = .ok (.invokevirtual 49, 3) := by decide +kernel
theorem dX3_unlikeSets_27 : decode cX3_unlikeSets 27 = .ok (.iload_n 3, 1) := by decide +kernel
theorem dX3_unlikeSets_28 : decode cX3_unlikeSets 28 = .ok (.iand, 1) := by decide +kernel
theorem dX3_unlikeSets_29 : decode cX3_unlikeSets 29 = .ok (.ifCond .ne 7, 3) := by decide +kernel
theorem dX3_unlikeSets_32 : decode cX3_unlikeSets 32 = .ok (.iconst 1, 1) := by decide +kernel
theorem dX3_unlikeSets_33 : decode cX3_unlikeSets 33 = .ok (.goto 4, 3) := by decide +kernel
theorem dX3_unlikeSets_36 : decode cX3_unlikeSets 36 = .ok (.iconst 0, 1) := by decide +kernel
theorem dX3_unlikeSets_37 : decode cX3_unlikeSets 37 = .ok (.iadd, 1) := by decide +kernel
theorem dX3_unlikeSets_38 : decode cX3_unlikeSets 38 = .ok (.istore_n 1, 1) := by decide +kernel
theorem dX3_unlikeSets_39 : decode cX3_unlikeSets 39 = .ok (.iinc 2 1, 3) := by decide +kernel
theorem dX3_unlikeSets_42 : decode cX3_unlikeSets 42 = .ok (.goto (-38), 3) := by decide +kernel
theorem dX3_unlikeSets_45 : decode cX3_unlikeSets 45 = .ok (.iload_n 1, 1) := by decide +kernel
theorem dX3_unlikeSets_46 : decode cX3_unlikeSets 46 = .ok (.ireturn, 1) := by decide +kernel
theorem dX3_loneDigits_0 : decode cX3_loneDigits 0 = .ok (.iconst 0, 1) := by decide +kernel
theorem dX3_loneDigits_1 : decode cX3_loneDigits 1 = .ok (.istore_n 1, 1) := by decide +kernel
theorem dX3_loneDigits_2 : decode cX3_loneDigits 2 = .ok (.iconst 0, 1) := by decide +kernel
theorem dX3_loneDigits_3 : decode cX3_loneDigits 3 = .ok (.istore_n 2, 1) := by decide +kernel
theorem dX3_loneDigits_4 : decode cX3_loneDigits 4 = .ok (.iload_n 2, 1) := by decide +kernel
theorem dX3_loneDigits_5 : decode cX3_loneDigits 5 = .ok (.bipush 10, 2) := by decide +kernel
theorem dX3_loneDigits_7 : decode cX3_loneDigits 7 = .ok (.if_icmp .ge 33, 3) := by decide +kernel
theorem dX3_loneDigits_10 : decode cX3_loneDigits 10 = .ok (.iload_n 1, 1) := by decide +kernel
theorem dX3_loneDigits_11 : decode cX3_loneDigits 11 = .ok (.aload_n 0, 1) := by decide +kernel
theorem dX3_loneDigits_12 : decode cX3_loneDigits 12 = .ok (.aload_n 0, 1) := by decide +kernel
theorem dX3_loneDigits_13 : decode cX3_loneDigits 13 = .ok (.getfield 9, 3) := by decide +kernel
theorem dX3_loneDigits_16 : decode cX3_loneDigits 16 = .ok (.iload_n 2, 1) := by decide +kernel
theorem dX3_loneDigits_17 : decode cX3_loneDigits 17 = .ok (.iaload, 1) := by decide +kernel
theorem dX3_loneDigits_18 : decode cX3_loneDigits 18 = .ok (.invokevirtual 49, 3) := by decide +kernel
theorem dX3_loneDigits_21 : decode cX3_loneDigits 21 = .ok (.iconst 1, 1) := by decide +kernel
theorem dX3_loneDigits_22 : decode cX3_loneDigits 22 = .ok (.iload_n 2, 1) := by decide +kernel
theorem dX3_loneDigits_23 : decode cX3_loneDigits 23 = .ok (.ishl, 1) := by decide +kernel
theorem dX3_loneDigits_24 : decode cX3_loneDigits 24 = .ok (.if_icmp .ne 7, 3) := by decide +kernel
theorem dX3_loneDigits_27 : decode cX3_loneDigits 27 = .ok (.iconst 1, 1) := by decide +kernel
theorem dX3_loneDigits_28 : decode cX3_loneDigits 28 = .ok (.goto 4, 3) := by decide +kernel
theorem dX3_loneDigits_31 : decode cX3_loneDigits 31 = .ok (.iconst 0, 1) := by decide +kernel
theorem dX3_loneDigits_32 : decode cX3_loneDigits 32 = .ok (.iadd, 1) := by decide +kernel
theorem dX3_loneDigits_33 : decode cX3_loneDigits 33 = .ok (.istore_n 1, 1) := by decide +kernel
theorem dX3_loneDigits_34 : decode cX3_loneDigits 34 = .ok (.iinc 2 1, 3) := by decide +kernel
theorem dX3_loneDigits_37 : decode cX3_loneDigits 37 = .ok (.goto (-33), 3) := by decide +kernel
theorem dX3_loneDigits_40 : decode cX3_loneDigits 40 = .ok (.iload_n 1, 1) := by decide +kernel
theorem dX3_loneDigits_41 : decode cX3_loneDigits 41 = .ok (.ireturn, 1) := by decide +kernel
theorem dX3_exchangeDead_0 : decode cX3_exchangeDead 0 = .ok (.aload_n 0, 1) := by decide +kernel
theorem dX3_exchangeDead_1 : decode cX3_exchangeDead 1 = .ok (.getfield 26, 3) := by decide +kernel
theorem dX3_exchangeDead_4 : decode cX3_exchangeDead 4 = .ok (.istore_n 2, 1) := by decide +kernel
theorem dX3_exchangeDead_5 : decode cX3_exchangeDead 5 = .ok (.aload_n 0, 1) := by decide +kernel
theorem dX3_exchangeDead_6 : decode cX3_exchangeDead 6 = .ok (.iload_n 1, 1) := by decide +kernel
theorem dX3_exchangeDead_7 : decode cX3_exchangeDead 7 = .ok (.putfield 26, 3) := by decide +kernel
theorem dX3_exchangeDead_10 : decode cX3_exchangeDead 10 = .ok (.iload_n 2, 1) := by decide +kernel
theorem dX3_exchangeDead_11 : decode cX3_exchangeDead 11 = .ok (.iload_n 1, 1) := by decide +kernel
theorem dX3_exchangeDead_12 : decode cX3_exchangeDead 12 = .ok (.iconst (-1), 1) := by decide +kernel
theorem dX3_exchangeDead_13 : decode cX3_exchangeDead 13 = .ok (.ixor, 1) := by decide +kernel
theorem dX3_exchangeDead_14 : decode cX3_exchangeDead 14 = .ok (.iand, 1) := by decide +kernel
theorem dX3_exchangeDead_15 : decode cX3_exchangeDead 15 = .ok (.istore_n 3, 1) := by decide +kernel
theorem dX3_exchangeDead_16 : decode cX3_exchangeDead 16 = .ok (.iconst 0, 1) := by decide +kernel
theorem dX3_exchangeDead_17 : decode cX3_exchangeDead 17 = .ok (.istore 4, 2) := by decide +kernel
theorem dX3_exchangeDead_19 : decode cX3_exchangeDead 19 = .ok (.iload 4, 2) := by decide +kernel
theorem dX3_exchangeDead_21 : decode cX3_exchangeDead 21 = .ok (.bipush 7, 2) := by decide +kernel
theorem dX3_exchangeDead_23 : decode cX3_exchangeDead 23 = .ok (.if_icmp .ge 26, 3) := by decide +kernel
theorem dX3_exchangeDead_26 : decode cX3_exchangeDead 26 = .ok (.iload_n 3, 1) := by decide +kernel
theorem dX3_exchangeDead_27 : decode cX3_exchangeDead 27 = .ok (.iload 4, 2) := by decide +kernel
theorem dX3_exchangeDead_29 : decode cX3_exchangeDead 29 = .ok (.ishr, 1) := by decide +kernel
theorem dX3_exchangeDead_30 : decode cX3_exchangeDead 30 = .ok (.iconst 1, 1) := by decide +kernel
theorem dX3_exchangeDead_31 : decode cX3_exchangeDead 31 = .ok (.iand, 1) := by decide +kernel
theorem dX3_exchangeDead_32 : decode cX3_exchangeDead 32 = .ok (.ifCond .eq 11, 3) := by decide +kernel
theorem dX3_exchangeDead_35 : decode cX3_exchangeDead 35 = .ok (.aload_n 0, 1) := by decide +kernel
theorem dX3_exchangeDead_36 : decode cX3_exchangeDead 36 = .ok (.getfield 15, 3) := by decide +kernel
theorem dX3_exchangeDead_39 : decode cX3_exchangeDead 39 = .ok (.iload 4, 2) := by decide +kernel
theorem dX3_exchangeDead_41 : decode cX3_exchangeDead 41 = .ok (.iconst 0, 1) := by decide +kernel
theorem dX3_exchangeDead_42 : decode cX3_exchangeDead 42 = .ok (.iastore, 1) := by decide +kernel
theorem dX3_exchangeDead_43 : decode cX3_exchangeDead 43 = .ok (.iinc 4 1, 3) := by decide +kernel
theorem dX3_exchangeDead_46 : decode cX3_exchangeDead 46 = .ok (.goto (-27), 3) := by decide +kernel
theorem dX3_exchangeDead_49 : decode cX3_exchangeDead 49 = .ok (.aload_n 0, 1) := by decide +kernel
theorem dX3_exchangeDead_50 : decode cX3_exchangeDead 50 = .ok (.invokevirtual 32, 3) := by decide +kernel
theorem dX3_exchangeDead_53 : decode cX3_exchangeDead 53 = .ok (.iload_n 2, 1) := by decide +kernel
theorem dX3_exchangeDead_54 : decode cX3_exchangeDead 54 = .ok (.ireturn, 1) := by decide +kernel
theorem dX3_exchangeStuck_0 : decode cX3_exchangeStuck 0 = .ok (.aload_n 0, 1) := by decide +kernel
theorem dX3_exchangeStuck_1 : decode cX3_exchangeStuck 1 = .ok (.getfield 29, 3) := by decide +kernel
theorem dX3_exchangeStuck_4 : decode cX3_exchangeStuck 4 = .ok (.istore_n 2, 1) := by decide +kernel
theorem dX3_exchangeStuck_5 : decode cX3_exchangeStuck 5 = .ok (.aload_n 0, 1) := by decide +kernel
theorem dX3_exchangeStuck_6 : decode cX3_exchangeStuck 6 = .ok (.iload_n 1, 1) := by decide +kernel
theorem dX3_exchangeStuck_7 : decode cX3_exchangeStuck 7 = .ok (.putfield 29, 3) := by decide +kernel
theorem dX3_exchangeStuck_10 : decode cX3_exchangeStuck 10 = .ok (.aload_n 0, 1) := by decide +kernel
theorem dX3_exchangeStuck_11 : decode cX3_exchangeStuck 11 = .ok (.invokevirtual 32, 3) := by decide +kernel
theorem dX3_exchangeStuck_14 : decode cX3_exchangeStuck 14 = .ok (.iload_n 2, 1) := by decide +kernel
theorem dX3_exchangeStuck_15 : decode cX3_exchangeStuck 15 = .ok (.ireturn, 1) := by decide +kernel
theorem dX3_wearBetween_0 : decode cX3_wearBetween 0 = .ok (.aload_n 0, 1) := by decide +kernel
theorem dX3_wearBetween_1 : decode cX3_wearBetween 1 = .ok (.iload_n 1, 1) := by decide +kernel
theorem dX3_wearBetween_2 : decode cX3_wearBetween 2 = .ok (.invokevirtual 53, 3) := by decide +kernel
theorem dX3_wearBetween_5 : decode cX3_wearBetween 5 = .ok (.aload_n 0, 1) := by decide +kernel
theorem dX3_wearBetween_6 : decode cX3_wearBetween 6 = .ok (.iload_n 2, 1) := by decide +kernel
theorem dX3_wearBetween_7 : decode cX3_wearBetween 7 = .ok (.invokevirtual 53, 3) := by decide +kernel
theorem dX3_wearBetween_10 : decode cX3_wearBetween 10 = .ok (.ixor, 1) := by decide +kernel
theorem dX3_wearBetween_11 : decode cX3_wearBetween 11 = .ok (.istore 4, 2) := by decide +kernel
theorem dX3_wearBetween_13 : decode cX3_wearBetween 13 = .ok (.iconst 0, 1) := by decide +kernel
theorem dX3_wearBetween_14 : decode cX3_wearBetween 14 = .ok (.istore 5, 2) := by decide +kernel
theorem dX3_wearBetween_16 : decode cX3_wearBetween 16 = .ok (.iconst 0, 1) := by decide +kernel
theorem dX3_wearBetween_17 : decode cX3_wearBetween 17 = .ok (.istore 6, 2) := by decide +kernel
theorem dX3_wearBetween_19 : decode cX3_wearBetween 19 = .ok (.iload 6, 2) := by decide +kernel
theorem dX3_wearBetween_21 : decode cX3_wearBetween 21 = .ok (.bipush 7, 2) := by decide +kernel
theorem dX3_wearBetween_23 : decode cX3_wearBetween 23 = .ok (.if_icmp .ge 57, 3) := by decide +kernel
theorem dX3_wearBetween_26 : decode cX3_wearBetween 26 = .ok (.iload 4, 2) := by decide +kernel
theorem dX3_wearBetween_28 : decode cX3_wearBetween 28 = .ok (.iload 6, 2) := by decide +kernel
theorem dX3_wearBetween_30 : decode cX3_wearBetween 30 = .ok (.ishr, 1) := by decide +kernel
theorem dX3_wearBetween_31 : decode cX3_wearBetween 31 = .ok (.iconst 1, 1) := by decide +kernel
theorem dX3_wearBetween_32 : decode cX3_wearBetween 32 = .ok (.iand, 1) := by decide +kernel
theorem dX3_wearBetween_33 : decode cX3_wearBetween 33 = .ok (.ifCond .eq 41, 3) := by decide +kernel
theorem dX3_wearBetween_36 : decode cX3_wearBetween 36 = .ok (.aload_n 0, 1) := by decide +kernel
theorem dX3_wearBetween_37 : decode cX3_wearBetween 37 = .ok (.getfield 15, 3) := by decide +kernel
theorem dX3_wearBetween_40 : decode cX3_wearBetween 40 = .ok (.iload 6, 2) := by decide +kernel
theorem dX3_wearBetween_42 : decode cX3_wearBetween 42 = .ok (.dup2, 1) := by decide +kernel
theorem dX3_wearBetween_43 : decode cX3_wearBetween 43 = .ok (.iaload, 1) := by decide +kernel
theorem dX3_wearBetween_44 : decode cX3_wearBetween 44 = .ok (.iconst 1, 1) := by decide +kernel
theorem dX3_wearBetween_45 : decode cX3_wearBetween 45 = .ok (.iadd, 1) := by decide +kernel
theorem dX3_wearBetween_46 : decode cX3_wearBetween 46 = .ok (.iastore, 1) := by decide +kernel
theorem dX3_wearBetween_47 : decode cX3_wearBetween 47 = .ok (.aload_n 0, 1) := by decide +kernel
theorem dX3_wearBetween_48 : decode cX3_wearBetween 48 = .ok (.getfield 15, 3) := by decide +kernel
theorem dX3_wearBetween_51 : decode cX3_wearBetween 51 = .ok (.iload 6, 2) := by decide +kernel
theorem dX3_wearBetween_53 : decode cX3_wearBetween 53 = .ok (.iaload, 1) := by decide +kernel
theorem dX3_wearBetween_54 : decode cX3_wearBetween 54 = .ok (.iload_n 3, 1) := by decide +kernel
theorem dX3_wearBetween_55 : decode cX3_wearBetween 55 = .ok (.if_icmp .lt 19, 3) := by decide +kernel
theorem dX3_wearBetween_58 : decode cX3_wearBetween 58 = .ok (.aload_n 0, 1) := by decide +kernel
theorem dX3_wearBetween_59 : decode cX3_wearBetween 59 = .ok (.dup, 1) := by decide +kernel
theorem dX3_wearBetween_60 : decode cX3_wearBetween 60 = .ok (.getfield 26, 3) := by decide +kernel
theorem dX3_wearBetween_63 : decode cX3_wearBetween 63 = .ok (.iconst 1, 1) := by decide +kernel
theorem dX3_wearBetween_64 : decode cX3_wearBetween 64 = .ok (.iload 6, 2) := by decide +kernel
theorem dX3_wearBetween_66 : decode cX3_wearBetween 66 = .ok (.ishl, 1) := by decide +kernel
theorem dX3_wearBetween_67 : decode cX3_wearBetween 67 = .ok (.ior, 1) := by decide +kernel
theorem dX3_wearBetween_68 : decode cX3_wearBetween 68 = .ok (.putfield 26, 3) := by decide +kernel
theorem dX3_wearBetween_71 : decode cX3_wearBetween 71 = .ok (.iinc 5 1, 3) := by decide +kernel
theorem dX3_wearBetween_74 : decode cX3_wearBetween 74 = .ok (.iinc 6 1, 3) := by decide +kernel
theorem dX3_wearBetween_77 : decode cX3_wearBetween 77 = .ok (.goto (-58), 3) := by decide +kernel
theorem dX3_wearBetween_80 : decode cX3_wearBetween 80 = .ok (.iload 5, 2) := by decide +kernel
theorem dX3_wearBetween_82 : decode cX3_wearBetween 82 = .ok (.ifCond .le 7, 3) := by decide +kernel
theorem dX3_wearBetween_85 : decode cX3_wearBetween 85 = .ok (.aload_n 0, 1) := by decide +kernel
theorem dX3_wearBetween_86 : decode cX3_wearBetween 86 = .ok (.invokevirtual 32, 3) := by decide +kernel
theorem dX3_wearBetween_89 : decode cX3_wearBetween 89 = .ok (.iload 5, 2) := by decide +kernel
theorem dX3_wearBetween_91 : decode cX3_wearBetween 91 = .ok (.ireturn, 1) := by decide +kernel
theorem dX3_isClearIf_0 : decode cX3_isClearIf 0 = .ok (.iload_n 1, 1) := by decide +kernel
theorem dX3_isClearIf_1 : decode cX3_isClearIf 1 = .ok (.aload_n 0, 1) := by decide +kernel
theorem dX3_isClearIf_2 : decode cX3_isClearIf 2 = .ok (.getfield 29, 3) := by decide +kernel
theorem dX3_isClearIf_5 : decode cX3_isClearIf 5 = .ok (.ior, 1) := by decide +kernel
theorem dX3_isClearIf_6 : decode cX3_isClearIf 6 = .ok (.iconst (-1), 1) := by decide +kernel
theorem dX3_isClearIf_7 : decode cX3_isClearIf 7 = .ok (.ixor, 1) := by decide +kernel
theorem dX3_isClearIf_8 : decode cX3_isClearIf 8 = .ok (.istore_n 2, 1) := by decide +kernel
theorem dX3_isClearIf_9 : decode cX3_isClearIf 9 = .ok (.iconst 1, 1) := by decide +kernel
theorem dX3_isClearIf_10 : decode cX3_isClearIf 10 = .ok (.istore_n 3, 1) := by decide +kernel
theorem dX3_isClearIf_11 : decode cX3_isClearIf 11 = .ok (.iload_n 3, 1) := by decide +kernel
theorem dX3_isClearIf_12 : decode cX3_isClearIf 12 = .ok (.bipush 10, 2) := by decide +kernel
theorem dX3_isClearIf_14 : decode cX3_isClearIf 14 = .ok (.if_icmp .ge 61, 3) := by decide +kernel
theorem dX3_isClearIf_17 : decode cX3_isClearIf 17 = .ok (.aload_n 0, 1) := by decide +kernel
theorem dX3_isClearIf_18 : decode cX3_isClearIf 18 = .ok (.getfield 18, 3) := by decide +kernel
theorem dX3_isClearIf_21 : decode cX3_isClearIf 21 = .ok (.aload_n 0, 1) := by decide +kernel
theorem dX3_isClearIf_22 : decode cX3_isClearIf 22 = .ok (.getfield 22, 3) := by decide +kernel
theorem dX3_isClearIf_25 : decode cX3_isClearIf 25 = .ok (.iload_n 3, 1) := by decide +kernel
theorem dX3_isClearIf_26 : decode cX3_isClearIf 26 = .ok (.invokevirtual 43, 3) := by decide +kernel
theorem dX3_isClearIf_29 : decode cX3_isClearIf 29 = .ok (.istore 4, 2) := by decide +kernel
theorem dX3_isClearIf_31 : decode cX3_isClearIf 31 = .ok (.iconst 0, 1) := by decide +kernel
theorem dX3_isClearIf_32 : decode cX3_isClearIf 32 = .ok (.istore 5, 2) := by decide +kernel
theorem dX3_isClearIf_34 : decode cX3_isClearIf 34 = .ok (.iload 5, 2) := by decide +kernel
theorem dX3_isClearIf_36 : decode cX3_isClearIf 36 = .ok (.iload_n 3, 1) := by decide +kernel
theorem dX3_isClearIf_37 : decode cX3_isClearIf 37 = .ok (.if_icmp .ge 32, 3) := by decide +kernel
theorem dX3_isClearIf_40 : decode cX3_isClearIf 40 = .ok (.iload 4, 2) := by decide +kernel
theorem dX3_isClearIf_42 : decode cX3_isClearIf 42 = .ok (.aload_n 0, 1) := by decide +kernel
theorem dX3_isClearIf_43 : decode cX3_isClearIf 43 = .ok (.getfield 18, 3) := by decide +kernel
theorem dX3_isClearIf_46 : decode cX3_isClearIf 46 = .ok (.aload_n 0, 1) := by decide +kernel
theorem dX3_isClearIf_47 : decode cX3_isClearIf 47 = .ok (.getfield 22, 3) := by decide +kernel
theorem dX3_isClearIf_50 : decode cX3_isClearIf 50 = .ok (.iload 5, 2) := by decide +kernel
theorem dX3_isClearIf_52 : decode cX3_isClearIf 52 = .ok (.invokevirtual 43, 3) := by decide +kernel
theorem dX3_isClearIf_55 : decode cX3_isClearIf 55 = .ok (.ixor, 1) := by decide +kernel
theorem dX3_isClearIf_56 : decode cX3_isClearIf 56 = .ok (.iload_n 2, 1) := by decide +kernel
theorem dX3_isClearIf_57 : decode cX3_isClearIf 57 = .ok (.iand, 1) := by decide +kernel
theorem dX3_isClearIf_58 : decode cX3_isClearIf 58 = .ok (.ifCond .ne 5, 3) := by decide +kernel
theorem dX3_isClearIf_61 : decode cX3_isClearIf 61 = .ok (.iconst 0, 1) := by decide +kernel
theorem dX3_isClearIf_62 : decode cX3_isClearIf 62 = .ok (.ireturn, 1) := by decide +kernel
theorem dX3_isClearIf_63 : decode cX3_isClearIf 63 = .ok (.iinc 5 1, 3) := by decide +kernel
theorem dX3_isClearIf_66 : decode cX3_isClearIf 66 = .ok (.goto (-32), 3) := by decide +kernel
theorem dX3_isClearIf_69 : decode cX3_isClearIf 69 = .ok (.iinc 3 1, 3) := by decide +kernel
theorem dX3_isClearIf_72 : decode cX3_isClearIf 72 = .ok (.goto (-61), 3) := by decide +kernel
theorem dX3_isClearIf_75 : decode cX3_isClearIf 75 = .ok (.iconst 1, 1) := by decide +kernel
theorem dX3_isClearIf_76 : decode cX3_isClearIf 76 = .ok (.ireturn, 1) := by decide +kernel
theorem dX3_fewestToMend_0 : decode cX3_fewestToMend 0 = .ok (.bipush (-9), 2) := by decide +kernel
theorem dX3_fewestToMend_2 : decode cX3_fewestToMend 2 = .ok (.istore_n 1, 1) := by decide +kernel
theorem dX3_fewestToMend_3 : decode cX3_fewestToMend 3 = .ok (.bipush 8, 2) := by decide +kernel
theorem dX3_fewestToMend_5 : decode cX3_fewestToMend 5 = .ok (.istore_n 2, 1) := by decide +kernel
theorem dX3_fewestToMend_6 : decode cX3_fewestToMend 6 = .ok (.iconst 0, 1) := by decide +kernel
theorem dX3_fewestToMend_7 : decode cX3_fewestToMend 7 = .ok (.istore_n 3, 1) := by decide +kernel
theorem dX3_fewestToMend_8 : decode cX3_fewestToMend 8 = .ok (.iload_n 3, 1) := by decide +kernel
theorem dX3_fewestToMend_9 : decode cX3_fewestToMend 9 = .ok (.sipush 128, 3) := by decide +kernel
theorem dX3_fewestToMend_12 : decode cX3_fewestToMend 12 = .ok (.if_icmp .ge 52, 3) := by decide +kernel
theorem dX3_fewestToMend_15 : decode cX3_fewestToMend 15 = .ok (.iload_n 3, 1) := by decide +kernel
theorem dX3_fewestToMend_16 : decode cX3_fewestToMend 16 = .ok (.invokestatic 56, 3) := by decide +kernel
theorem dX3_fewestToMend_19 : decode cX3_fewestToMend 19 = .ok (.istore 4, 2) := by decide +kernel
theorem dX3_fewestToMend_21 : decode cX3_fewestToMend 21 = .ok (.iload_n 3, 1) := by decide +kernel
theorem dX3_fewestToMend_22 : decode cX3_fewestToMend 22 = .ok (.aload_n 0, 1) := by decide +kernel
theorem dX3_fewestToMend_23 : decode cX3_fewestToMend 23 = .ok (.getfield 26, 3) := by decide +kernel
theorem dX3_fewestToMend_26 : decode cX3_fewestToMend 26 = .ok (.iconst (-1), 1) := by decide +kernel
theorem dX3_fewestToMend_27 : decode cX3_fewestToMend 27 = .ok (.ixor, 1) := by decide +kernel
theorem dX3_fewestToMend_28 : decode cX3_fewestToMend 28 = .ok (.iand, 1) := by decide +kernel
theorem dX3_fewestToMend_29 : decode cX3_fewestToMend 29 = .ok (.ifCond .ne 29, 3) := by decide +kernel
theorem dX3_fewestToMend_32 : decode cX3_fewestToMend 32 = .ok (.iload 4, 2) := by decide +kernel
theorem dX3_fewestToMend_34 : decode cX3_fewestToMend 34 = .ok (.iload_n 2, 1) := by decide +kernel
theorem dX3_fewestToMend_35 : decode cX3_fewestToMend 35 = .ok (.if_icmp .ge 23, 3) := by decide +kernel
theorem dX3_fewestToMend_38 : decode cX3_fewestToMend 38 = .ok (.aload_n 0, 1) := by decide +kernel
theorem dX3_fewestToMend_39 : decode cX3_fewestToMend 39 = .ok (.aload_n 0, 1) := by decide +kernel
theorem dX3_fewestToMend_40 : decode cX3_fewestToMend 40 = .ok (.getfield 26, 3) := by decide +kernel
theorem dX3_fewestToMend_43 : decode cX3_fewestToMend 43 = .ok (.iload_n 3, 1) := by decide +kernel
theorem dX3_fewestToMend_44 : decode cX3_fewestToMend 44 = .ok (.iconst (-1), 1) := by decide +kernel
theorem dX3_fewestToMend_45 : decode cX3_fewestToMend 45 = .ok (.ixor, 1) := by decide +kernel
theorem dX3_fewestToMend_46 : decode cX3_fewestToMend 46 = .ok (.iand, 1) := by decide +kernel
theorem dX3_fewestToMend_47 : decode cX3_fewestToMend 47 = .ok (.invokevirtual 61, 3) := by decide +kernel
theorem dX3_fewestToMend_50 : decode cX3_fewestToMend 50 = .ok (.ifCond .eq 8, 3) := by decide +kernel
theorem dX3_fewestToMend_53 : decode cX3_fewestToMend 53 = .ok (.iload_n 3, 1) := by decide +kernel
theorem dX3_fewestToMend_54 : decode cX3_fewestToMend 54 = .ok (.istore_n 1, 1) := by decide +kernel
theorem dX3_fewestToMend_55 : decode cX3_fewestToMend 55 = .ok (.iload 4, 2) := by decide +kernel
theorem dX3_fewestToMend_57 : decode cX3_fewestToMend 57 = .ok (.istore_n 2, 1) := by decide +kernel
theorem dX3_fewestToMend_58 : decode cX3_fewestToMend 58 = .ok (.iinc 3 1, 3) := by decide +kernel
theorem dX3_fewestToMend_61 : decode cX3_fewestToMend 61 = .ok (.goto (-53), 3) := by decide +kernel
theorem dX3_fewestToMend_64 : decode cX3_fewestToMend 64 = .ok (.iload_n 1, 1) := by decide +kernel
theorem dX3_fewestToMend_65 : decode cX3_fewestToMend 65 = .ok (.ireturn, 1) := by decide +kernel
theorem dX4_init_0 : decode cX4_init 0 = .ok (.aload_n 0, 1) := by decide +kernel
theorem dX4_init_1 : decode cX4_init 1 = .ok (.invokespecial 3, 3) := by decide +kernel
theorem dX4_init_4 : decode cX4_init 4 = .ok (.aload_n 0, 1) := by decide +kernel
theorem dX4_init_5 : decode cX4_init 5 = .ok (.bipush 8, 2) := by decide +kernel
theorem dX4_init_7 : decode cX4_init 7 = .ok (.newarray .int, 2) := by decide +kernel
theorem dX4_init_9 : decode cX4_init 9 = .ok (.putfield 9, 3) := by decide +kernel
theorem dX4_init_12 : decode cX4_init 12 = .ok (.aload_n 0, 1) := by decide +kernel
theorem dX4_init_13 : decode cX4_init 13 = .ok (.bipush 8, 2) := by decide +kernel
theorem dX4_init_15 : decode cX4_init 15 = .ok (.newarray .int, 2) := by decide +kernel
theorem dX4_init_17 : decode cX4_init 17 = .ok (.putfield 15, 3) := by decide +kernel
theorem dX4_init_20 : decode cX4_init 20 = .ok (.aload_n 0, 1) := by decide +kernel
theorem dX4_init_21 : decode cX4_init 21 = .ok (.bipush 8, 2) := by decide +kernel
theorem dX4_init_23 : decode cX4_init 23 = .ok (.newarray .int, 2) := by decide +kernel
theorem dX4_init_25 : decode cX4_init 25 = .ok (.putfield 18, 3) := by decide +kernel
theorem dX4_init_28 : decode cX4_init 28 = .ok (.return_, 1) := by decide +kernel
theorem dX4_add_0 : decode cX4_add 0 = .ok (.aload_n 0, 1) := by decide +kernel
theorem dX4_add_1 : decode cX4_add 1 = .ok (.getfield 21, 3) := by decide +kernel
theorem dX4_add_4 : decode cX4_add 4 = .ok (.bipush 8, 2) := by decide +kernel
theorem dX4_add_6 : decode cX4_add 6 = .ok (.if_icmp .lt 6, 3) := by decide +kernel
theorem dX4_add_9 : decode cX4_add 9 = .ok (.bipush (-4), 2) := by decide +kernel
theorem dX4_add_11 : decode cX4_add 11 = .ok (.ireturn, 1) := by decide +kernel
theorem dX4_add_12 : decode cX4_add 12 = .ok (.aload_n 0, 1) := by decide +kernel
theorem dX4_add_13 : decode cX4_add 13 = .ok (.getfield 9, 3) := by decide +kernel
theorem dX4_add_16 : decode cX4_add 16 = .ok (.aload_n 0, 1) := by decide +kernel
theorem dX4_add_17 : decode cX4_add 17 = .ok (.getfield 21, 3) := by decide +kernel
theorem dX4_add_20 : decode cX4_add 20 = .ok (.iload_n 1, 1) := by decide +kernel
theorem dX4_add_21 : decode cX4_add 21 = .ok (.iastore, 1) := by decide +kernel
theorem dX4_add_22 : decode cX4_add 22 = .ok (.aload_n 0, 1) := by decide +kernel
theorem dX4_add_23 : decode cX4_add 23 = .ok (.getfield 15, 3) := by decide +kernel
theorem dX4_add_26 : decode cX4_add 26 = .ok (.aload_n 0, 1) := by decide +kernel
theorem dX4_add_27 : decode cX4_add 27 = .ok (.getfield 21, 3) := by decide +kernel
theorem dX4_add_30 : decode cX4_add 30 = .ok (.iload_n 2, 1) := by decide +kernel
theorem dX4_add_31 : decode cX4_add 31 = .ok (.iastore, 1) := by decide +kernel
theorem dX4_add_32 : decode cX4_add 32 = .ok (.aload_n 0, 1) := by decide +kernel
theorem dX4_add_33 : decode cX4_add 33 = .ok (.getfield 18, 3) := by decide +kernel
theorem dX4_add_36 : decode cX4_add 36 = .ok (.aload_n 0, 1) := by decide +kernel
theorem dX4_add_37 : decode cX4_add 37 = .ok (.getfield 21, 3) := by decide +kernel
theorem dX4_add_40 : decode cX4_add 40 = .ok (.iload_n 3, 1) := by decide +kernel
theorem dX4_add_41 : decode cX4_add 41 = .ok (.iastore, 1) := by decide +kernel
theorem dX4_add_42 : decode cX4_add 42 = .ok (.aload_n 0, 1) := by decide +kernel
theorem dX4_add_43 : decode cX4_add 43 = .ok (.dup, 1) := by decide +kernel
theorem dX4_add_44 : decode cX4_add 44 = .ok (.getfield 21, 3) := by decide +kernel
theorem dX4_add_47 : decode cX4_add 47 = .ok (.iconst 1, 1) := by decide +kernel
theorem dX4_add_48 : decode cX4_add 48 = .ok (.iadd, 1) := by decide +kernel
theorem dX4_add_49 : decode cX4_add 49 = .ok (.putfield 21, 3) := by decide +kernel
theorem dX4_add_52 : decode cX4_add 52 = .ok (.aload_n 0, 1) := by decide +kernel
theorem dX4_add_53 : decode cX4_add 53 = .ok (.getfield 21, 3) := by decide +kernel
theorem dX4_add_56 : decode cX4_add 56 = .ok (.iconst 1, 1) := by decide +kernel
theorem dX4_add_57 : decode cX4_add 57 = .ok (.isub, 1) := by decide +kernel
theorem dX4_add_58 : decode cX4_add 58 = .ok (.ireturn, 1) := by decide +kernel
theorem dX4_allAreSo_0 : decode cX4_allAreSo 0 = .ok (.iconst 0, 1) := by decide +kernel
theorem dX4_allAreSo_1 : decode cX4_allAreSo 1 = .ok (.istore 5, 2) := by decide +kernel
theorem dX4_allAreSo_3 : decode cX4_allAreSo 3 = .ok (.iload 5, 2) := by decide +kernel
theorem dX4_allAreSo_5 : decode cX4_allAreSo 5 = .ok (.aload_n 0, 1) := by decide +kernel
theorem dX4_allAreSo_6 : decode cX4_allAreSo 6 = .ok (.getfield 21, 3) := by decide +kernel
theorem dX4_allAreSo_9 : decode cX4_allAreSo 9 = .ok (.if_icmp .ge 99, 3) := by decide +kernel
theorem dX4_allAreSo_12 : decode cX4_allAreSo 12 = .ok (.aload_n 0, 1) := by decide +kernel
theorem dX4_allAreSo_13 : decode cX4_allAreSo 13 = .ok (.getfield 9, 3) := by decide +kernel
theorem dX4_allAreSo_16 : decode cX4_allAreSo 16 = .ok (.iload 5, 2) := by decide +kernel
theorem dX4_allAreSo_18 : decode cX4_allAreSo 18 = .ok (.iaload, 1) := by decide +kernel
theorem dX4_allAreSo_19 : decode cX4_allAreSo 19 = .ok (.aload_n 1, 1) := by decide +kernel
theorem dX4_allAreSo_20 : decode cX4_allAreSo 20 = .ok (.getfield 25, 3) := by decide +kernel
theorem dX4_allAreSo_23 : decode cX4_allAreSo 23 = .ok (.invokestatic 28, 3) := by decide +kernel
theorem dX4_allAreSo_26 : decode cX4_allAreSo 26 = .ok (.ifCond .ne 5, 3) := by decide +kernel
theorem dX4_allAreSo_29 : decode cX4_allAreSo 29 = .ok (.iconst 0, 1) := by decide +kernel
theorem dX4_allAreSo_30 : decode cX4_allAreSo 30 = .ok (.ireturn, 1) := by decide +kernel
theorem dX4_allAreSo_31 : decode cX4_allAreSo 31 = .ok (.aload_n 1, 1) := by decide +kernel
theorem dX4_allAreSo_32 : decode cX4_allAreSo 32 = .ok (.getfield 32, 3) := by decide +kernel
theorem dX4_allAreSo_35 : decode cX4_allAreSo 35 = .ok (.aload_n 0, 1) := by decide +kernel
theorem dX4_allAreSo_36 : decode cX4_allAreSo 36 = .ok (.getfield 9, 3) := by decide +kernel
theorem dX4_allAreSo_39 : decode cX4_allAreSo 39 = .ok (.iload 5, 2) := by decide +kernel
theorem dX4_allAreSo_41 : decode cX4_allAreSo 41 = .ok (.iaload, 1) := by decide +kernel
theorem dX4_allAreSo_42 : decode cX4_allAreSo 42 = .ok (.aaload, 1) := by decide +kernel
theorem dX4_allAreSo_43 : decode cX4_allAreSo 43 = .ok (.astore 6, 2) := by decide +kernel
theorem dX4_allAreSo_45 : decode cX4_allAreSo 45 = .ok (.aload_n 0, 1) := by decide +kernel
theorem dX4_allAreSo_46 : decode cX4_allAreSo 46 = .ok (.getfield 9, 3) := by decide +kernel
theorem dX4_allAreSo_49 : decode cX4_allAreSo 49 = .ok (.iload 5, 2) := by decide +kernel
theorem dX4_allAreSo_51 : decode cX4_allAreSo 51 = .ok (.iaload, 1) := by decide +kernel
theorem dX4_allAreSo_52 : decode cX4_allAreSo 52 = .ok (.iload_n 2, 1) := by decide +kernel
theorem dX4_allAreSo_53 : decode cX4_allAreSo 53 = .ok (.if_icmp .ne 21, 3) := by decide +kernel
theorem dX4_allAreSo_56 : decode cX4_allAreSo 56 = .ok (.aload 6, 2) := by decide +kernel
theorem dX4_allAreSo_58 : decode cX4_allAreSo 58 = .ok (.iload_n 3, 1) := by decide +kernel
theorem dX4_allAreSo_59 : decode cX4_allAreSo 59 = .ok (.iload 4, 2) := by decide +kernel
theorem dX4_allAreSo_61 : decode cX4_allAreSo 61 = .ok (.aload_n 0, 1) := by decide +kernel
theorem dX4_allAreSo_62 : decode cX4_allAreSo 62 = .ok (.getfield 15, 3) := by decide +kernel
theorem dX4_allAreSo_65 : decode cX4_allAreSo 65 = .ok (.iload 5, 2) := by decide +kernel
theorem dX4_allAreSo_67 : decode cX4_allAreSo 67 = .ok (.iaload, 1) := by decide +kernel
theorem dX4_allAreSo_68 : decode cX4_allAreSo 68 = .ok (.invokevirtual 35, 3) := by decide +kernel
theorem dX4_allAreSo_71 : decode cX4_allAreSo 71 = .ok (.goto 15, 3) := by decide +kernel
theorem dX4_allAreSo_74 : decode cX4_allAreSo 74 = .ok (.aload 6, 2) := by decide +kernel
theorem dX4_allAreSo_76 : decode cX4_allAreSo 76 = .ok (.aload_n 0, 1) := by decide +kernel
theorem dX4_allAreSo_77 : decode cX4_allAreSo 77 = .ok (.getfield 15, 3) := by decide +kernel
theorem dX4_allAreSo_80 : decode cX4_allAreSo 80 = .ok (.iload 5, 2) := by decide +kernel
theorem dX4_allAreSo_82 : decode cX4_allAreSo 82 = .ok (.iaload, 1) := by decide +kernel
theorem dX4_allAreSo_83 : decode cX4_allAreSo 83 = .ok (.invokevirtual 41, 3) := by decide +kernel
theorem dX4_allAreSo_86 : decode cX4_allAreSo 86 = .ok (.istore 7, 2) := by decide +kernel
theorem dX4_allAreSo_88 : decode cX4_allAreSo 88 = .ok (.iload 7, 2) := by decide +kernel
theorem dX4_allAreSo_90 : decode cX4_allAreSo 90 = .ok (.aload_n 0, 1) := by decide +kernel
theorem dX4_allAreSo_91 : decode cX4_allAreSo 91 = .ok (.getfield 18, 3) := by decide +kernel
theorem dX4_allAreSo_94 : decode cX4_allAreSo 94 = .ok (.iload 5, 2) := by decide +kernel
theorem dX4_allAreSo_96 : decode cX4_allAreSo 96 = .ok (.iaload, 1) := by decide +kernel
theorem dX4_allAreSo_97 : decode cX4_allAreSo 97 = .ok (.if_icmp .eq 5, 3) := by decide +kernel
theorem dX4_allAreSo_100 : decode cX4_allAreSo 100 = .ok (.iconst 0, 1) := by decide +kernel
theorem dX4_allAreSo_101 : decode cX4_allAreSo 101 = .ok (.ireturn, 1) := by decide +kernel
theorem dX4_allAreSo_102 : decode cX4_allAreSo 102 = .ok (.iinc 5 1, 3) := by decide +kernel
theorem dX4_allAreSo_105 : decode cX4_allAreSo 105 = .ok (.goto (-102), 3) := by decide +kernel
theorem dX4_allAreSo_108 : decode cX4_allAreSo 108 = .ok (.iconst 1, 1) := by decide +kernel
theorem dX4_allAreSo_109 : decode cX4_allAreSo 109 = .ok (.ireturn, 1) := by decide +kernel
theorem dX5_init_0 : decode cX5_init 0 = .ok (.aload_n 0, 1) := by decide +kernel
theorem dX5_init_1 : decode cX5_init 1 = .ok (.invokespecial 3, 3) := by decide +kernel
theorem dX5_init_4 : decode cX5_init 4 = .ok (.aload_n 0, 1) := by decide +kernel
