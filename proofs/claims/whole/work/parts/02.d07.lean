theorem dX9_first_6 : decode cX9_first 6 = .ok (.invokestatic 80, 3) := by decide +kernel
theorem dX9_first_9 : decode cX9_first 9 = .ok (.ifCond .ne 6, 3) := by decide +kernel
theorem dX9_first_12 : decode cX9_first 12 = .ok (.bipush (-2), 2) := by decide +kernel
theorem dX9_first_14 : decode cX9_first 14 = .ok (.ireturn, 1) := by decide +kernel
theorem dX9_first_15 : decode cX9_first 15 = .ok (.aload_n 0, 1) := by decide +kernel
theorem dX9_first_16 : decode cX9_first 16 = .ok (.getfield 77, 3) := by decide +kernel
theorem dX9_first_19 : decode cX9_first 19 = .ok (.ifCond .ne 6, 3) := by decide +kernel
theorem dX9_first_22 : decode cX9_first 22 = .ok (.bipush (-3), 2) := by decide +kernel
theorem dX9_first_24 : decode cX9_first 24 = .ok (.ireturn, 1) := by decide +kernel
theorem dX9_first_25 : decode cX9_first 25 = .ok (.aload_n 0, 1) := by decide +kernel
theorem dX9_first_26 : decode cX9_first 26 = .ok (.invokevirtual 211, 3) := by decide +kernel
theorem dX9_first_29 : decode cX9_first 29 = .ok (.bipush (-9), 2) := by decide +kernel
theorem dX9_first_31 : decode cX9_first 31 = .ok (.istore_n 2, 1) := by decide +kernel
theorem dX9_first_32 : decode cX9_first 32 = .ok (.iconst 0, 1) := by decide +kernel
theorem dX9_first_33 : decode cX9_first 33 = .ok (.istore_n 3, 1) := by decide +kernel
theorem dX9_first_34 : decode cX9_first 34 = .ok (.iload_n 2, 1) := by decide +kernel
theorem dX9_first_35 : decode cX9_first 35 = .ok (.ifCond .ge 25, 3) := by decide +kernel
theorem dX9_first_38 : decode cX9_first 38 = .ok (.iload_n 3, 1) := by decide +kernel
theorem dX9_first_39 : decode cX9_first 39 = .ok (.sipush 1000, 3) := by decide +kernel
theorem dX9_first_42 : decode cX9_first 42 = .ok (.if_icmp .ge 18, 3) := by decide +kernel
theorem dX9_first_45 : decode cX9_first 45 = .ok (.aload_n 0, 1) := by decide +kernel
theorem dX9_first_46 : decode cX9_first 46 = .ok (.invokevirtual 208, 3) := by decide +kernel
theorem dX9_first_49 : decode cX9_first 49 = .ok (.iinc 3 1, 3) := by decide +kernel
theorem dX9_first_52 : decode cX9_first 52 = .ok (.aload_n 0, 1) := by decide +kernel
theorem dX9_first_53 : decode cX9_first 53 = .ok (.invokevirtual 220, 3) := by decide +kernel
theorem dX9_first_56 : decode cX9_first 56 = .ok (.istore_n 2, 1) := by decide +kernel
theorem dX9_first_57 : decode cX9_first 57 = .ok (.goto (-23), 3) := by decide +kernel
theorem dX9_first_60 : decode cX9_first 60 = .ok (.aload_n 0, 1) := by decide +kernel
theorem dX9_first_61 : decode cX9_first 61 = .ok (.invokevirtual 214, 3) := by decide +kernel
theorem dX9_first_64 : decode cX9_first 64 = .ok (.iload_n 2, 1) := by decide +kernel
theorem dX9_first_65 : decode cX9_first 65 = .ok (.ifCond .ge 8, 3) := by decide +kernel
theorem dX9_first_68 : decode cX9_first 68 = .ok (.bipush (-9), 2) := by decide +kernel
theorem dX9_first_70 : decode cX9_first 70 = .ok (.goto 27, 3) := by decide +kernel
theorem dX9_first_73 : decode cX9_first 73 = .ok (.iload_n 1, 1) := by decide +kernel
theorem dX9_first_74 : decode cX9_first 74 = .ok (.ifCond .ne 10, 3) := by decide +kernel
theorem dX9_first_77 : decode cX9_first 77 = .ok (.iload_n 2, 1) := by decide +kernel
theorem dX9_first_78 : decode cX9_first 78 = .ok (.bipush 7, 2) := by decide +kernel
theorem dX9_first_80 : decode cX9_first 80 = .ok (.idiv, 1) := by decide +kernel
theorem dX9_first_81 : decode cX9_first 81 = .ok (.goto 16, 3) := by decide +kernel
theorem dX9_first_84 : decode cX9_first 84 = .ok (.iload_n 1, 1) := by decide +kernel
theorem dX9_first_85 : decode cX9_first 85 = .ok (.iconst 1, 1) := by decide +kernel
theorem dX9_first_86 : decode cX9_first 86 = .ok (.if_icmp .ne 10, 3) := by decide +kernel
theorem dX9_first_89 : decode cX9_first 89 = .ok (.iload_n 2, 1) := by decide +kernel
theorem dX9_first_90 : decode cX9_first 90 = .ok (.bipush 7, 2) := by decide +kernel
theorem dX9_first_92 : decode cX9_first 92 = .ok (.irem, 1) := by decide +kernel
theorem dX9_first_93 : decode cX9_first 93 = .ok (.goto 4, 3) := by decide +kernel
theorem dX9_first_96 : decode cX9_first 96 = .ok (.iload_n 3, 1) := by decide +kernel
theorem dX9_first_97 : decode cX9_first 97 = .ok (.ireturn, 1) := by decide +kernel
theorem dX9_begins_0 : decode cX9_begins 0 = .ok (.iload 4, 2) := by decide +kernel
theorem dX9_begins_2 : decode cX9_begins 2 = .ok (.iload_n 2, 1) := by decide +kernel
theorem dX9_begins_3 : decode cX9_begins 3 = .ok (.iconst 1, 1) := by decide +kernel
theorem dX9_begins_4 : decode cX9_begins 4 = .ok (.isub, 1) := by decide +kernel
theorem dX9_begins_5 : decode cX9_begins 5 = .ok (.iload_n 3, 1) := by decide +kernel
theorem dX9_begins_6 : decode cX9_begins 6 = .ok (.imul, 1) := by decide +kernel
theorem dX9_begins_7 : decode cX9_begins 7 = .ok (.iadd, 1) := by decide +kernel
theorem dX9_begins_8 : decode cX9_begins 8 = .ok (.aload_n 0, 1) := by decide +kernel
theorem dX9_begins_9 : decode cX9_begins 9 = .ok (.invokevirtual 181, 3) := by decide +kernel
theorem dX9_begins_12 : decode cX9_begins 12 = .ok (.if_icmp .gt 7, 3) := by decide +kernel
theorem dX9_begins_15 : decode cX9_begins 15 = .ok (.iconst 1, 1) := by decide +kernel
theorem dX9_begins_16 : decode cX9_begins 16 = .ok (.goto 4, 3) := by decide +kernel
theorem dX9_begins_19 : decode cX9_begins 19 = .ok (.iconst 0, 1) := by decide +kernel
theorem dX9_begins_20 : decode cX9_begins 20 = .ok (.istore 5, 2) := by decide +kernel
theorem dX9_begins_22 : decode cX9_begins 22 = .ok (.iconst 0, 1) := by decide +kernel
theorem dX9_begins_23 : decode cX9_begins 23 = .ok (.istore 6, 2) := by decide +kernel
theorem dX9_begins_25 : decode cX9_begins 25 = .ok (.iload 6, 2) := by decide +kernel
theorem dX9_begins_27 : decode cX9_begins 27 = .ok (.iload_n 2, 1) := by decide +kernel
theorem dX9_begins_28 : decode cX9_begins 28 = .ok (.if_icmp .ge 83, 3) := by decide +kernel
theorem dX9_begins_31 : decode cX9_begins 31 = .ok (.iload 5, 2) := by decide +kernel
theorem dX9_begins_33 : decode cX9_begins 33 = .ok (.ifCond .eq 78, 3) := by decide +kernel
theorem dX9_begins_36 : decode cX9_begins 36 = .ok (.iconst 0, 1) := by decide +kernel
theorem dX9_begins_37 : decode cX9_begins 37 = .ok (.istore 7, 2) := by decide +kernel
theorem dX9_begins_39 : decode cX9_begins 39 = .ok (.iload 7, 2) := by decide +kernel
theorem dX9_begins_41 : decode cX9_begins 41 = .ok (.aload_n 0, 1) := by decide +kernel
theorem dX9_begins_42 : decode cX9_begins 42 = .ok (.getfield 77, 3) := by decide +kernel
theorem dX9_begins_45 : decode cX9_begins 45 = .ok (.if_icmp .ge 60, 3) := by decide +kernel
theorem dX9_begins_48 : decode cX9_begins 48 = .ok (.iload 5, 2) := by decide +kernel
theorem dX9_begins_50 : decode cX9_begins 50 = .ok (.ifCond .eq 55, 3) := by decide +kernel
theorem dX9_begins_53 : decode cX9_begins 53 = .ok (.aload_n 0, 1) := by decide +kernel
theorem dX9_begins_54 : decode cX9_begins 54 = .ok (.iload 7, 2) := by decide +kernel
theorem dX9_begins_56 : decode cX9_begins 56 = .ok (.aload_n 0, 1) := by decide +kernel
theorem dX9_begins_57 : decode cX9_begins 57 = .ok (.iload 7, 2) := by decide +kernel
theorem dX9_begins_59 : decode cX9_begins 59 = .ok (.iload 4, 2) := by decide +kernel
theorem dX9_begins_61 : decode cX9_begins 61 = .ok (.iload 6, 2) := by decide +kernel
theorem dX9_begins_63 : decode cX9_begins 63 = .ok (.iload_n 3, 1) := by decide +kernel
theorem dX9_begins_64 : decode cX9_begins 64 = .ok (.imul, 1) := by decide +kernel
theorem dX9_begins_65 : decode cX9_begins 65 = .ok (.iadd, 1) := by decide +kernel
theorem dX9_begins_66 : decode cX9_begins 66 = .ok (.invokevirtual 166, 3) := by decide +kernel
theorem dX9_begins_69 : decode cX9_begins 69 = .ok (.invokevirtual 157, 3) := by decide +kernel
theorem dX9_begins_72 : decode cX9_begins 72 = .ok (.aload_n 0, 1) := by decide +kernel
theorem dX9_begins_73 : decode cX9_begins 73 = .ok (.getfield 61, 3) := by decide +kernel
theorem dX9_begins_76 : decode cX9_begins 76 = .ok (.iload_n 1, 1) := by decide +kernel
theorem dX9_begins_77 : decode cX9_begins 77 = .ok (.aload_n 0, 1) := by decide +kernel
theorem dX9_begins_78 : decode cX9_begins 78 = .ok (.getfield 77, 3) := by decide +kernel
theorem dX9_begins_81 : decode cX9_begins 81 = .ok (.iload 6, 2) := by decide +kernel
theorem dX9_begins_83 : decode cX9_begins 83 = .ok (.imul, 1) := by decide +kernel
theorem dX9_begins_84 : decode cX9_begins 84 = .ok (.iadd, 1) := by decide +kernel
theorem dX9_begins_85 : decode cX9_begins 85 = .ok (.iload 7, 2) := by decide +kernel
theorem dX9_begins_87 : decode cX9_begins 87 = .ok (.iadd, 1) := by decide +kernel
theorem dX9_begins_88 : decode cX9_begins 88 = .ok (.iaload, 1) := by decide +kernel
theorem dX9_begins_89 : decode cX9_begins 89 = .ok (.if_icmp .ne 7, 3) := by decide +kernel
theorem dX9_begins_92 : decode cX9_begins 92 = .ok (.iconst 1, 1) := by decide +kernel
theorem dX9_begins_93 : decode cX9_begins 93 = .ok (.goto 4, 3) := by decide +kernel
theorem dX9_begins_96 : decode cX9_begins 96 = .ok (.iconst 0, 1) := by decide +kernel
theorem dX9_begins_97 : decode cX9_begins 97 = .ok (.istore 5, 2) := by decide +kernel
theorem dX9_begins_99 : decode cX9_begins 99 = .ok (.iinc 7 1, 3) := by decide +kernel
theorem dX9_begins_102 : decode cX9_begins 102 = .ok (.goto (-63), 3) := by decide +kernel
theorem dX9_begins_105 : decode cX9_begins 105 = .ok (.iinc 6 1, 3) := by decide +kernel
theorem dX9_begins_108 : decode cX9_begins 108 = .ok (.goto (-83), 3) := by decide +kernel
theorem dX9_begins_111 : decode cX9_begins 111 = .ok (.iload 5, 2) := by decide +kernel
theorem dX9_begins_113 : decode cX9_begins 113 = .ok (.ireturn, 1) := by decide +kernel
theorem dX9_beginsBy_0 : decode cX9_beginsBy 0 = .ok (.iconst 0, 1) := by decide +kernel
theorem dX9_beginsBy_1 : decode cX9_beginsBy 1 = .ok (.istore 5, 2) := by decide +kernel
theorem dX9_beginsBy_3 : decode cX9_beginsBy 3 = .ok (.bipush (-9), 2) := by decide +kernel
theorem dX9_beginsBy_5 : decode cX9_beginsBy 5 = .ok (.istore 6, 2) := by decide +kernel
theorem dX9_beginsBy_7 : decode cX9_beginsBy 7 = .ok (.bipush (-9), 2) := by decide +kernel
theorem dX9_beginsBy_9 : decode cX9_beginsBy 9 = .ok (.istore 7, 2) := by decide +kernel
theorem dX9_beginsBy_11 : decode cX9_beginsBy 11 = .ok (.iconst 0, 1) := by decide +kernel
theorem dX9_beginsBy_12 : decode cX9_beginsBy 12 = .ok (.istore 8, 2) := by decide +kernel
theorem dX9_beginsBy_14 : decode cX9_beginsBy 14 = .ok (.iload 8, 2) := by decide +kernel
theorem dX9_beginsBy_16 : decode cX9_beginsBy 16 = .ok (.aload_n 0, 1) := by decide +kernel
theorem dX9_beginsBy_17 : decode cX9_beginsBy 17 = .ok (.invokevirtual 181, 3) := by decide +kernel
theorem dX9_beginsBy_20 : decode cX9_beginsBy 20 = .ok (.if_icmp .gt 46, 3) := by decide +kernel
theorem dX9_beginsBy_23 : decode cX9_beginsBy 23 = .ok (.iload_n 2, 1) := by decide +kernel
theorem dX9_beginsBy_24 : decode cX9_beginsBy 24 = .ok (.ifCond .eq 15, 3) := by decide +kernel
theorem dX9_beginsBy_27 : decode cX9_beginsBy 27 = .ok (.aload_n 0, 1) := by decide +kernel
theorem dX9_beginsBy_28 : decode cX9_beginsBy 28 = .ok (.iload_n 1, 1) := by decide +kernel
theorem dX9_beginsBy_29 : decode cX9_beginsBy 29 = .ok (.iload_n 2, 1) := by decide +kernel
theorem dX9_beginsBy_30 : decode cX9_beginsBy 30 = .ok (.iload_n 3, 1) := by decide +kernel
theorem dX9_beginsBy_31 : decode cX9_beginsBy 31 = .ok (.iload 8, 2) := by decide +kernel
theorem dX9_beginsBy_33 : decode cX9_beginsBy 33 = .ok (.invokevirtual 223, 3) := by decide +kernel
theorem dX9_beginsBy_36 : decode cX9_beginsBy 36 = .ok (.ifCond .eq 24, 3) := by decide +kernel
theorem dX9_beginsBy_39 : decode cX9_beginsBy 39 = .ok (.iinc 5 1, 3) := by decide +kernel
theorem dX9_beginsBy_42 : decode cX9_beginsBy 42 = .ok (.iload 6, 2) := by decide +kernel
theorem dX9_beginsBy_44 : decode cX9_beginsBy 44 = .ok (.ifCond .ge 8, 3) := by decide +kernel
theorem dX9_beginsBy_47 : decode cX9_beginsBy 47 = .ok (.iload 8, 2) := by decide +kernel
theorem dX9_beginsBy_49 : decode cX9_beginsBy 49 = .ok (.goto 5, 3) := by decide +kernel
theorem dX9_beginsBy_52 : decode cX9_beginsBy 52 = .ok (.iload 6, 2) := by decide +kernel
theorem dX9_beginsBy_54 : decode cX9_beginsBy 54 = .ok (.istore 6, 2) := by decide +kernel
theorem dX9_beginsBy_56 : decode cX9_beginsBy 56 = .ok (.iload 8, 2) := by decide +kernel
theorem dX9_beginsBy_58 : decode cX9_beginsBy 58 = .ok (.istore 7, 2) := by decide +kernel
theorem dX9_beginsBy_60 : decode cX9_beginsBy 60 = .ok (.iinc 8 1, 3) := by decide +kernel
theorem dX9_beginsBy_63 : decode cX9_beginsBy 63 = .ok (.goto (-49), 3) := by decide +kernel
theorem dX9_beginsBy_66 : decode cX9_beginsBy 66 = .ok (.iload 4, 2) := by decide +kernel
theorem dX9_beginsBy_68 : decode cX9_beginsBy 68 = .ok (.ifCond .ne 8, 3) := by decide +kernel
theorem dX9_beginsBy_71 : decode cX9_beginsBy 71 = .ok (.iload 5, 2) := by decide +kernel
theorem dX9_beginsBy_73 : decode cX9_beginsBy 73 = .ok (.goto 16, 3) := by decide +kernel
theorem dX9_beginsBy_76 : decode cX9_beginsBy 76 = .ok (.iload 4, 2) := by decide +kernel
theorem dX9_beginsBy_78 : decode cX9_beginsBy 78 = .ok (.iconst 1, 1) := by decide +kernel
theorem dX9_beginsBy_79 : decode cX9_beginsBy 79 = .ok (.if_icmp .ne 8, 3) := by decide +kernel
theorem dX9_beginsBy_82 : decode cX9_beginsBy 82 = .ok (.iload 6, 2) := by decide +kernel
theorem dX9_beginsBy_84 : decode cX9_beginsBy 84 = .ok (.goto 5, 3) := by decide +kernel
theorem dX9_beginsBy_87 : decode cX9_beginsBy 87 = .ok (.iload 7, 2) := by decide +kernel
theorem dX9_beginsBy_89 : decode cX9_beginsBy 89 = .ok (.ireturn, 1) := by decide +kernel
theorem dX9_seen_0 : decode cX9_seen 0 = .ok (.iload_n 1, 1) := by decide +kernel
theorem dX9_seen_1 : decode cX9_seen 1 = .ok (.invokestatic 113, 3) := by decide +kernel
theorem dX9_seen_4 : decode cX9_seen 4 = .ok (.ifCond .eq 9, 3) := by decide +kernel
theorem dX9_seen_7 : decode cX9_seen 7 = .ok (.aload_n 0, 1) := by decide +kernel
theorem dX9_seen_8 : decode cX9_seen 8 = .ok (.iconst (-1), 1) := by decide +kernel
theorem dX9_seen_9 : decode cX9_seen 9 = .ok (.invokevirtual 117, 3) := by decide +kernel
theorem dX9_seen_12 : decode cX9_seen 12 = .ok (.ireturn, 1) := by decide +kernel
theorem dX9_seen_13 : decode cX9_seen 13 = .ok (.iload_n 2, 1) := by decide +kernel
theorem dX9_seen_14 : decode cX9_seen 14 = .ok (.i2l, 1) := by decide +kernel
theorem dX9_seen_15 : decode cX9_seen 15 = .ok (.lconst 0, 1) := by decide +kernel
theorem dX9_seen_16 : decode cX9_seen 16 = .ok (.ldc2_w 120, 3) := by decide +kernel
theorem dX9_seen_19 : decode cX9_seen 19 = .ok (.invokestatic 80, 3) := by decide +kernel
theorem dX9_seen_22 : decode cX9_seen 22 = .ok (.ifCond .eq 42, 3) := by decide +kernel
theorem dX9_seen_25 : decode cX9_seen 25 = .ok (.iload 4, 2) := by decide +kernel
theorem dX9_seen_27 : decode cX9_seen 27 = .ok (.i2l, 1) := by decide +kernel
theorem dX9_seen_28 : decode cX9_seen 28 = .ok (.lconst 0, 1) := by decide +kernel
theorem dX9_seen_29 : decode cX9_seen 29 = .ok (.ldc2_w 227, 3) := by decide +kernel
theorem dX9_seen_32 : decode cX9_seen 32 = .ok (.invokestatic 80, 3) := by decide +kernel
theorem dX9_seen_35 : decode cX9_seen 35 = .ok (.ifCond .eq 29, 3) := by decide +kernel
theorem dX9_seen_38 : decode cX9_seen 38 = .ok (.iload 5, 2) := by decide +kernel
theorem dX9_seen_40 : decode cX9_seen 40 = .ok (.i2l, 1) := by decide +kernel
theorem dX9_seen_41 : decode cX9_seen 41 = .ok (.lconst 0, 1) := by decide +kernel
theorem dX9_seen_42 : decode cX9_seen 42 = .ok (.ldc2_w 229, 3) := by decide +kernel
theorem dX9_seen_45 : decode cX9_seen 45 = .ok (.invokestatic 80, 3) := by decide +kernel
theorem dX9_seen_48 : decode cX9_seen 48 = .ok (.ifCond .eq 16, 3) := by decide +kernel
theorem dX9_seen_51 : decode cX9_seen 51 = .ok (.iload 6, 2) := by decide +kernel
theorem dX9_seen_53 : decode cX9_seen 53 = .ok (.i2l, 1) := by decide +kernel
theorem dX9_seen_54 : decode cX9_seen 54 = .ok (.lconst 0, 1) := by decide +kernel
theorem dX9_seen_55 : decode cX9_seen 55 = .ok (.ldc2_w 120, 3) := by decide +kernel
theorem dX9_seen_58 : decode cX9_seen 58 = .ok (.invokestatic 80, 3) := by decide +kernel
theorem dX9_seen_61 : decode cX9_seen 61 = .ok (.ifCond .ne 10, 3) := by decide +kernel
theorem dX9_seen_64 : decode cX9_seen 64 = .ok (.aload_n 0, 1) := by decide +kernel
theorem dX9_seen_65 : decode cX9_seen 65 = .ok (.bipush (-2), 2) := by decide +kernel
theorem dX9_seen_67 : decode cX9_seen 67 = .ok (.invokevirtual 117, 3) := by decide +kernel
theorem dX9_seen_70 : decode cX9_seen 70 = .ok (.ireturn, 1) := by decide +kernel
theorem dX9_seen_71 : decode cX9_seen 71 = .ok (.aload_n 0, 1) := by decide +kernel
theorem dX9_seen_72 : decode cX9_seen 72 = .ok (.getfield 77, 3) := by decide +kernel
theorem dX9_seen_75 : decode cX9_seen 75 = .ok (.ifCond .ne 10, 3) := by decide +kernel
theorem dX9_seen_78 : decode cX9_seen 78 = .ok (.aload_n 0, 1) := by decide +kernel
theorem dX9_seen_79 : decode cX9_seen 79 = .ok (.bipush (-3), 2) := by decide +kernel
theorem dX9_seen_81 : decode cX9_seen 81 = .ok (.invokevirtual 117, 3) := by decide +kernel
theorem dX9_seen_84 : decode cX9_seen 84 = .ok (.ireturn, 1) := by decide +kernel
theorem dX9_seen_85 : decode cX9_seen 85 = .ok (.aload_n 0, 1) := by decide +kernel
theorem dX9_seen_86 : decode cX9_seen 86 = .ok (.iload_n 1, 1) := by decide +kernel
theorem dX9_seen_87 : decode cX9_seen 87 = .ok (.iload_n 2, 1) := by decide +kernel
theorem dX9_seen_88 : decode cX9_seen 88 = .ok (.iload_n 3, 1) := by decide +kernel
theorem dX9_seen_89 : decode cX9_seen 89 = .ok (.iload 4, 2) := by decide +kernel
theorem dX9_seen_91 : decode cX9_seen 91 = .ok (.aload_n 0, 1) := by decide +kernel
theorem dX9_seen_92 : decode cX9_seen 92 = .ok (.getfield 77, 3) := by decide +kernel
theorem dX9_seen_95 : decode cX9_seen 95 = .ok (.imul, 1) := by decide +kernel
theorem dX9_seen_96 : decode cX9_seen 96 = .ok (.i2l, 1) := by decide +kernel
theorem dX9_seen_97 : decode cX9_seen 97 = .ok (.invokevirtual 122, 3) := by decide +kernel
theorem dX9_seen_100 : decode cX9_seen 100 = .ok (.istore 7, 2) := by decide +kernel
theorem dX9_seen_102 : decode cX9_seen 102 = .ok (.iload 7, 2) := by decide +kernel
theorem dX9_seen_104 : decode cX9_seen 104 = .ok (.ifCond .ge 6, 3) := by decide +kernel
theorem dX9_seen_107 : decode cX9_seen 107 = .ok (.iload 7, 2) := by decide +kernel
theorem dX9_seen_109 : decode cX9_seen 109 = .ok (.ireturn, 1) := by decide +kernel
theorem dX9_seen_110 : decode cX9_seen 110 = .ok (.iconst 0, 1) := by decide +kernel
theorem dX9_seen_111 : decode cX9_seen 111 = .ok (.istore 8, 2) := by decide +kernel
theorem dX9_seen_113 : decode cX9_seen 113 = .ok (.iload 8, 2) := by decide +kernel
theorem dX9_seen_115 : decode cX9_seen 115 = .ok (.iload 4, 2) := by decide +kernel
theorem dX9_seen_117 : decode cX9_seen 117 = .ok (.aload_n 0, 1) := by decide +kernel
theorem dX9_seen_118 : decode cX9_seen 118 = .ok (.getfield 77, 3) := by decide +kernel
theorem dX9_seen_121 : decode cX9_seen 121 = .ok (.imul, 1) := by decide +kernel
theorem dX9_seen_122 : decode cX9_seen 122 = .ok (.if_icmp .ge 41, 3) := by decide +kernel
theorem dX9_seen_125 : decode cX9_seen 125 = .ok (.aload_n 0, 1) := by decide +kernel
theorem dX9_seen_126 : decode cX9_seen 126 = .ok (.getfield 61, 3) := by decide +kernel
theorem dX9_seen_129 : decode cX9_seen 129 = .ok (.bipush 60, 2) := by decide +kernel
theorem dX9_seen_131 : decode cX9_seen 131 = .ok (.iload_n 1, 1) := by decide +kernel
theorem dX9_seen_132 : decode cX9_seen 132 = .ok (.imul, 1) := by decide +kernel
theorem dX9_seen_133 : decode cX9_seen 133 = .ok (.iload_n 3, 1) := by decide +kernel
theorem dX9_seen_134 : decode cX9_seen 134 = .ok (.iadd, 1) := by decide +kernel
theorem dX9_seen_135 : decode cX9_seen 135 = .ok (.iload 8, 2) := by decide +kernel
theorem dX9_seen_137 : decode cX9_seen 137 = .ok (.iadd, 1) := by decide +kernel
theorem dX9_seen_138 : decode cX9_seen 138 = .ok (.iaload, 1) := by decide +kernel
theorem dX9_seen_139 : decode cX9_seen 139 = .ok (.i2l, 1) := by decide +kernel
theorem dX9_seen_140 : decode cX9_seen 140 = .ok (.lconst 0, 1) := by decide +kernel
theorem dX9_seen_141 : decode cX9_seen 141 = .ok (.ldc2_w 171, 3) := by decide +kernel
theorem dX9_seen_144 : decode cX9_seen 144 = .ok (.invokestatic 80, 3) := by decide +kernel
theorem dX9_seen_147 : decode cX9_seen 147 = .ok (.ifCond .ne 10, 3) := by decide +kernel
theorem dX9_seen_150 : decode cX9_seen 150 = .ok (.aload_n 0, 1) := by decide +kernel
theorem dX9_seen_151 : decode cX9_seen 151 = .ok (.bipush (-2), 2) := by decide +kernel
theorem dX9_seen_153 : decode cX9_seen 153 = .ok (.invokevirtual 117, 3) := by decide +kernel
theorem dX9_seen_156 : decode cX9_seen 156 = .ok (.ireturn, 1) := by decide +kernel
theorem dX9_seen_157 : decode cX9_seen 157 = .ok (.iinc 8 1, 3) := by decide +kernel
theorem dX9_seen_160 : decode cX9_seen 160 = .ok (.goto (-47), 3) := by decide +kernel
theorem dX9_seen_163 : decode cX9_seen 163 = .ok (.aload_n 0, 1) := by decide +kernel
theorem dX9_seen_164 : decode cX9_seen 164 = .ok (.aload_n 0, 1) := by decide +kernel
theorem dX9_seen_165 : decode cX9_seen 165 = .ok (.bipush 60, 2) := by decide +kernel
theorem dX9_seen_167 : decode cX9_seen 167 = .ok (.iload_n 1, 1) := by decide +kernel
theorem dX9_seen_168 : decode cX9_seen 168 = .ok (.imul, 1) := by decide +kernel
theorem dX9_seen_169 : decode cX9_seen 169 = .ok (.iload_n 3, 1) := by decide +kernel
theorem dX9_seen_170 : decode cX9_seen 170 = .ok (.iadd, 1) := by decide +kernel
theorem dX9_seen_171 : decode cX9_seen 171 = .ok (.iload 4, 2) := by decide +kernel
theorem dX9_seen_173 : decode cX9_seen 173 = .ok (.iload 5, 2) := by decide +kernel
theorem dX9_seen_175 : decode cX9_seen 175 = .ok (.iload 6, 2) := by decide +kernel
theorem dX9_seen_177 : decode cX9_seen 177 = .ok (.invokevirtual 231, 3) := by decide +kernel
theorem dX9_seen_180 : decode cX9_seen 180 = .ok (.invokevirtual 117, 3) := by decide +kernel
theorem dX9_seen_183 : decode cX9_seen 183 = .ok (.ireturn, 1) := by decide +kernel
theorem dX9_repair_0 : decode cX9_repair 0 = .ok (.aload_n 0, 1) := by decide +kernel
theorem dX9_repair_1 : decode cX9_repair 1 = .ok (.iload_n 1, 1) := by decide +kernel
theorem dX9_repair_2 : decode cX9_repair 2 = .ok (.invokevirtual 160, 3) := by decide +kernel
theorem dX9_repair_5 : decode cX9_repair 5 = .ok (.ifCond .eq 5, 3) := by decide +kernel
theorem dX9_repair_8 : decode cX9_repair 8 = .ok (.iconst (-1), 1) := by decide +kernel
theorem dX9_repair_9 : decode cX9_repair 9 = .ok (.ireturn, 1) := by decide +kernel
theorem dX9_repair_10 : decode cX9_repair 10 = .ok (.aload_n 0, 1) := by decide +kernel
theorem dX9_repair_11 : decode cX9_repair 11 = .ok (.getfield 13, 3) := by decide +kernel
theorem dX9_repair_14 : decode cX9_repair 14 = .ok (.iload_n 1, 1) := by decide +kernel
theorem dX9_repair_15 : decode cX9_repair 15 = .ok (.iaload, 1) := by decide +kernel
theorem dX9_repair_16 : decode cX9_repair 16 = .ok (.istore_n 2, 1) := by decide +kernel
theorem dX9_repair_17 : decode cX9_repair 17 = .ok (.bipush (-9), 2) := by decide +kernel
theorem dX9_repair_19 : decode cX9_repair 19 = .ok (.istore_n 3, 1) := by decide +kernel
theorem dX9_repair_20 : decode cX9_repair 20 = .ok (.iconst 0, 1) := by decide +kernel
theorem dX9_repair_21 : decode cX9_repair 21 = .ok (.istore 4, 2) := by decide +kernel
theorem dX9_repair_23 : decode cX9_repair 23 = .ok (.iload 4, 2) := by decide +kernel
theorem dX9_repair_25 : decode cX9_repair 25 = .ok (.bipush 127, 2) := by decide +kernel
theorem dX9_repair_27 : decode cX9_repair 27 = .ok (.if_icmp .gt 75, 3) := by decide +kernel
theorem dX9_repair_30 : decode cX9_repair 30 = .ok (.iload 4, 2) := by decide +kernel
theorem dX9_repair_32 : decode cX9_repair 32 = .ok (.iload_n 2, 1) := by decide +kernel
theorem dX9_repair_33 : decode cX9_repair 33 = .ok (.iconst (-1), 1) := by decide +kernel
theorem dX9_repair_34 : decode cX9_repair 34 = .ok (.ixor, 1) := by decide +kernel
theorem dX9_repair_35 : decode cX9_repair 35 = .ok (.iand, 1) := by decide +kernel
theorem dX9_repair_36 : decode cX9_repair 36 = .ok (.ifCond .ne 23, 3) := by decide +kernel
theorem dX9_repair_39 : decode cX9_repair 39 = .ok (.iload_n 3, 1) := by decide +kernel
theorem dX9_repair_40 : decode cX9_repair 40 = .ok (.ifCond .lt 15, 3) := by decide +kernel
theorem dX9_repair_43 : decode cX9_repair 43 = .ok (.iload 4, 2) := by decide +kernel
theorem dX9_repair_45 : decode cX9_repair 45 = .ok (.invokestatic 188, 3) := by decide +kernel
theorem dX9_repair_48 : decode cX9_repair 48 = .ok (.iload_n 3, 1) := by decide +kernel
theorem dX9_repair_49 : decode cX9_repair 49 = .ok (.invokestatic 188, 3) := by decide +kernel
theorem dX9_repair_52 : decode cX9_repair 52 = .ok (.if_icmp .ge 7, 3) := by decide +kernel
theorem dX9_repair_55 : decode cX9_repair 55 = .ok (.iconst 1, 1) := by decide +kernel
theorem dX9_repair_56 : decode cX9_repair 56 = .ok (.goto 4, 3) := by decide +kernel
theorem dX9_repair_59 : decode cX9_repair 59 = .ok (.iconst 0, 1) := by decide +kernel
theorem dX9_repair_60 : decode cX9_repair 60 = .ok (.istore 5, 2) := by decide +kernel
theorem dX9_repair_62 : decode cX9_repair 62 = .ok (.aload_n 0, 1) := by decide +kernel
theorem dX9_repair_63 : decode cX9_repair 63 = .ok (.getfield 13, 3) := by decide +kernel
theorem dX9_repair_66 : decode cX9_repair 66 = .ok (.iload_n 1, 1) := by decide +kernel
theorem dX9_repair_67 : decode cX9_repair 67 = .ok (.iload_n 2, 1) := by decide +kernel
theorem dX9_repair_68 : decode cX9_repair 68 = .ok (.iload 4, 2) := by decide +kernel
theorem dX9_repair_70 : decode cX9_repair 70 = .ok (.iconst (-1), 1) := by decide +kernel
theorem dX9_repair_71 : decode cX9_repair 71 = .ok (.ixor, 1) := by decide +kernel
theorem dX9_repair_72 : decode cX9_repair 72 = .ok (.iand, 1) := by decide +kernel
theorem dX9_repair_73 : decode cX9_repair 73 = .ok (.iastore, 1) := by decide +kernel
theorem dX9_repair_74 : decode cX9_repair 74 = .ok (.iload 5, 2) := by decide +kernel
theorem dX9_repair_76 : decode cX9_repair 76 = .ok (.ifCond .eq 18, 3) := by decide +kernel
theorem dX9_repair_79 : decode cX9_repair 79 = .ok (.aload_n 0, 1) := by decide +kernel
theorem dX9_repair_80 : decode cX9_repair 80 = .ok (.iload_n 1, 1) := by decide +kernel
theorem dX9_repair_81 : decode cX9_repair 81 = .ok (.invokevirtual 163, 3) := by decide +kernel
theorem dX9_repair_84 : decode cX9_repair 84 = .ok (.bipush 10, 2) := by decide +kernel
theorem dX9_repair_86 : decode cX9_repair 86 = .ok (.if_icmp .ne 8, 3) := by decide +kernel
theorem dX9_repair_89 : decode cX9_repair 89 = .ok (.iload 4, 2) := by decide +kernel
theorem dX9_repair_91 : decode cX9_repair 91 = .ok (.goto 4, 3) := by decide +kernel
theorem dX9_repair_94 : decode cX9_repair 94 = .ok (.iload_n 3, 1) := by decide +kernel
theorem dX9_repair_95 : decode cX9_repair 95 = .ok (.istore_n 3, 1) := by decide +kernel
theorem dX9_repair_96 : decode cX9_repair 96 = .ok (.iinc 4 1, 3) := by decide +kernel
theorem dX9_repair_99 : decode cX9_repair 99 = .ok (.goto (-76), 3) := by decide +kernel
theorem dX9_repair_102 : decode cX9_repair 102 = .ok (.aload_n 0, 1) := by decide +kernel
theorem dX9_repair_103 : decode cX9_repair 103 = .ok (.getfield 13, 3) := by decide +kernel
theorem dX9_repair_106 : decode cX9_repair 106 = .ok (.iload_n 1, 1) := by decide +kernel
theorem dX9_repair_107 : decode cX9_repair 107 = .ok (.iload_n 2, 1) := by decide +kernel
theorem dX9_repair_108 : decode cX9_repair 108 = .ok (.iastore, 1) := by decide +kernel
theorem dX9_repair_109 : decode cX9_repair 109 = .ok (.iload_n 3, 1) := by decide +kernel
theorem dX9_repair_110 : decode cX9_repair 110 = .ok (.ireturn, 1) := by decide +kernel
theorem dX9_orderFlips_0 : decode cX9_orderFlips 0 = .ok (.iconst 0, 1) := by decide +kernel
theorem dX9_orderFlips_1 : decode cX9_orderFlips 1 = .ok (.istore_n 2, 1) := by decide +kernel
theorem dX9_orderFlips_2 : decode cX9_orderFlips 2 = .ok (.iconst 1, 1) := by decide +kernel
theorem dX9_orderFlips_3 : decode cX9_orderFlips 3 = .ok (.istore_n 3, 1) := by decide +kernel
theorem dX9_orderFlips_4 : decode cX9_orderFlips 4 = .ok (.iload_n 3, 1) := by decide +kernel
theorem dX9_orderFlips_5 : decode cX9_orderFlips 5 = .ok (.iload_n 1, 1) := by decide +kernel
theorem dX9_orderFlips_6 : decode cX9_orderFlips 6 = .ok (.if_icmp .ge 35, 3) := by decide +kernel
theorem dX9_orderFlips_9 : decode cX9_orderFlips 9 = .ok (.iload_n 2, 1) := by decide +kernel
theorem dX9_orderFlips_10 : decode cX9_orderFlips 10 = .ok (.aload_n 0, 1) := by decide +kernel
theorem dX9_orderFlips_11 : decode cX9_orderFlips 11 = .ok (.getfield 37, 3) := by decide +kernel
theorem dX9_orderFlips_14 : decode cX9_orderFlips 14 = .ok (.bipush 6, 2) := by decide +kernel
theorem dX9_orderFlips_16 : decode cX9_orderFlips 16 = .ok (.aload_n 0, 1) := by decide +kernel
theorem dX9_orderFlips_17 : decode cX9_orderFlips 17 = .ok (.getfield 40, 3) := by decide +kernel
theorem dX9_orderFlips_20 : decode cX9_orderFlips 20 = .ok (.iload_n 3, 1) := by decide +kernel
theorem dX9_orderFlips_21 : decode cX9_orderFlips 21 = .ok (.iconst 1, 1) := by decide +kernel
theorem dX9_orderFlips_22 : decode cX9_orderFlips 22 = .ok (.isub, 1) := by decide +kernel
theorem dX9_orderFlips_23 : decode cX9_orderFlips 23 = .ok (.iaload, 1) := by decide +kernel
theorem dX9_orderFlips_24 : decode cX9_orderFlips 24 = .ok (.imul, 1) := by decide +kernel
theorem dX9_orderFlips_25 : decode cX9_orderFlips 25 = .ok (.aload_n 0, 1) := by decide +kernel
theorem dX9_orderFlips_26 : decode cX9_orderFlips 26 = .ok (.getfield 40, 3) := by decide +kernel
theorem dX9_orderFlips_29 : decode cX9_orderFlips 29 = .ok (.iload_n 3, 1) := by decide +kernel
theorem dX9_orderFlips_30 : decode cX9_orderFlips 30 = .ok (.iaload, 1) := by decide +kernel
theorem dX9_orderFlips_31 : decode cX9_orderFlips 31 = .ok (.iadd, 1) := by decide +kernel
theorem dX9_orderFlips_32 : decode cX9_orderFlips 32 = .ok (.iaload, 1) := by decide +kernel
theorem dX9_orderFlips_33 : decode cX9_orderFlips 33 = .ok (.iadd, 1) := by decide +kernel
theorem dX9_orderFlips_34 : decode cX9_orderFlips 34 = .ok (.istore_n 2, 1) := by decide +kernel
theorem dX9_orderFlips_35 : decode cX9_orderFlips 35 = .ok (.iinc 3 1, 3) := by decide +kernel
theorem dX9_orderFlips_38 : decode cX9_orderFlips 38 = .ok (.goto (-34), 3) := by decide +kernel
theorem dX9_orderFlips_41 : decode cX9_orderFlips 41 = .ok (.iload_n 2, 1) := by decide +kernel
theorem dX9_orderFlips_42 : decode cX9_orderFlips 42 = .ok (.ireturn, 1) := by decide +kernel
theorem dX9_exchange_0 : decode cX9_exchange 0 = .ok (.aload_n 0, 1) := by decide +kernel
theorem dX9_exchange_1 : decode cX9_exchange 1 = .ok (.getfield 40, 3) := by decide +kernel
theorem dX9_exchange_4 : decode cX9_exchange 4 = .ok (.iload_n 1, 1) := by decide +kernel
theorem dX9_exchange_5 : decode cX9_exchange 5 = .ok (.iaload, 1) := by decide +kernel
theorem dX9_exchange_6 : decode cX9_exchange 6 = .ok (.istore_n 3, 1) := by decide +kernel
theorem dX9_exchange_7 : decode cX9_exchange 7 = .ok (.aload_n 0, 1) := by decide +kernel
theorem dX9_exchange_8 : decode cX9_exchange 8 = .ok (.getfield 40, 3) := by decide +kernel
theorem dX9_exchange_11 : decode cX9_exchange 11 = .ok (.iload_n 1, 1) := by decide +kernel
theorem dX9_exchange_12 : decode cX9_exchange 12 = .ok (.aload_n 0, 1) := by decide +kernel
theorem dX9_exchange_13 : decode cX9_exchange 13 = .ok (.getfield 40, 3) := by decide +kernel
theorem dX9_exchange_16 : decode cX9_exchange 16 = .ok (.iload_n 2, 1) := by decide +kernel
theorem dX9_exchange_17 : decode cX9_exchange 17 = .ok (.iaload, 1) := by decide +kernel
theorem dX9_exchange_18 : decode cX9_exchange 18 = .ok (.iastore, 1) := by decide +kernel
theorem dX9_exchange_19 : decode cX9_exchange 19 = .ok (.aload_n 0, 1) := by decide +kernel
theorem dX9_exchange_20 : decode cX9_exchange 20 = .ok (.getfield 40, 3) := by decide +kernel
theorem dX9_exchange_23 : decode cX9_exchange 23 = .ok (.iload_n 2, 1) := by decide +kernel
theorem dX9_exchange_24 : decode cX9_exchange 24 = .ok (.iload_n 3, 1) := by decide +kernel
theorem dX9_exchange_25 : decode cX9_exchange 25 = .ok (.iastore, 1) := by decide +kernel
theorem dX9_exchange_26 : decode cX9_exchange 26 = .ok (.return_, 1) := by decide +kernel
theorem dX9_nextOrder_0 : decode cX9_nextOrder 0 = .ok (.iload_n 1, 1) := by decide +kernel
theorem dX9_nextOrder_1 : decode cX9_nextOrder 1 = .ok (.iconst 2, 1) := by decide +kernel
theorem dX9_nextOrder_2 : decode cX9_nextOrder 2 = .ok (.isub, 1) := by decide +kernel
theorem dX9_nextOrder_3 : decode cX9_nextOrder 3 = .ok (.istore_n 2, 1) := by decide +kernel
theorem dX9_nextOrder_4 : decode cX9_nextOrder 4 = .ok (.iload_n 2, 1) := by decide +kernel
theorem dX9_nextOrder_5 : decode cX9_nextOrder 5 = .ok (.ifCond .lt 26, 3) := by decide +kernel
theorem dX9_nextOrder_8 : decode cX9_nextOrder 8 = .ok (.aload_n 0, 1) := by decide +kernel
theorem dX9_nextOrder_9 : decode cX9_nextOrder 9 = .ok (.getfield 40, 3) := by decide +kernel
theorem dX9_nextOrder_12 : decode cX9_nextOrder 12 = .ok (.iload_n 2, 1) := by decide +kernel
theorem dX9_nextOrder_13 : decode cX9_nextOrder 13 = .ok (.iaload, 1) := by decide +kernel
theorem dX9_nextOrder_14 : decode cX9_nextOrder 14 = .ok (.aload_n 0, 1) := by decide +kernel
theorem dX9_nextOrder_15 : decode cX9_nextOrder 15 = .ok (.getfield 40, 3) := by decide +kernel
theorem dX9_nextOrder_18 : decode cX9_nextOrder 18 = .ok (.iload_n 2, 1) := by decide +kernel
theorem dX9_nextOrder_19 : decode cX9_nextOrder 19 = .ok (.iconst 1, 1) := by decide +kernel
theorem dX9_nextOrder_20 : decode cX9_nextOrder 20 = .ok (.iadd, 1) := by decide +kernel
theorem dX9_nextOrder_21 : decode cX9_nextOrder 21 = .ok (.iaload, 1) := by decide +kernel
theorem dX9_nextOrder_22 : decode cX9_nextOrder 22 = .ok (.if_icmp .le 9, 3) := by decide +kernel
theorem dX9_nextOrder_25 : decode cX9_nextOrder 25 = .ok (.iinc 2 (-1), 3) := by decide +kernel
theorem dX9_nextOrder_28 : decode cX9_nextOrder 28 = .ok (.goto (-24), 3) := by decide +kernel
theorem dX9_nextOrder_31 : decode cX9_nextOrder 31 = .ok (.iload_n 2, 1) := by decide +kernel
theorem dX9_nextOrder_32 : decode cX9_nextOrder 32 = .ok (.ifCond .ge 5, 3) := by decide +kernel
theorem dX9_nextOrder_35 : decode cX9_nextOrder 35 = .ok (.iconst 0, 1) := by decide +kernel
theorem dX9_nextOrder_36 : decode cX9_nextOrder 36 = .ok (.ireturn, 1) := by decide +kernel
theorem dX9_nextOrder_37 : decode cX9_nextOrder 37 = .ok (.iload_n 1, 1) := by decide +kernel
theorem dX9_nextOrder_38 : decode cX9_nextOrder 38 = .ok (.iconst 1, 1) := by decide +kernel
theorem dX9_nextOrder_39 : decode cX9_nextOrder 39 = .ok (.isub, 1) := by decide +kernel
theorem dX9_nextOrder_40 : decode cX9_nextOrder 40 = .ok (.istore_n 3, 1) := by decide +kernel
theorem dX9_nextOrder_41 : decode cX9_nextOrder 41 = .ok (.aload_n 0, 1) := by decide +kernel
theorem dX9_nextOrder_42 : decode cX9_nextOrder 42 = .ok (.getfield 40, 3) := by decide +kernel
theorem dX9_nextOrder_45 : decode cX9_nextOrder 45 = .ok (.iload_n 3, 1) := by decide +kernel
theorem dX9_nextOrder_46 : decode cX9_nextOrder 46 = .ok (.iaload, 1) := by decide +kernel
theorem dX9_nextOrder_47 : decode cX9_nextOrder 47 = .ok (.aload_n 0, 1) := by decide +kernel
theorem dX9_nextOrder_48 : decode cX9_nextOrder 48 = .ok (.getfield 40, 3) := by decide +kernel
theorem dX9_nextOrder_51 : decode cX9_nextOrder 51 = .ok (.iload_n 2, 1) := by decide +kernel
theorem dX9_nextOrder_52 : decode cX9_nextOrder 52 = .ok (.iaload, 1) := by decide +kernel
theorem dX9_nextOrder_53 : decode cX9_nextOrder 53 = .ok (.if_icmp .ge 9, 3) := by decide +kernel
theorem dX9_nextOrder_56 : decode cX9_nextOrder 56 = .ok (.iinc 3 (-1), 3) := by decide +kernel
theorem dX9_nextOrder_59 : decode cX9_nextOrder 59 = .ok (.goto (-18), 3) := by decide +kernel
theorem dX9_nextOrder_62 : decode cX9_nextOrder 62 = .ok (.aload_n 0, 1) := by decide +kernel
theorem dX9_nextOrder_63 : decode cX9_nextOrder 63 = .ok (.iload_n 2, 1) := by decide +kernel
theorem dX9_nextOrder_64 : decode cX9_nextOrder 64 = .ok (.iload_n 3, 1) := by decide +kernel
theorem dX9_nextOrder_65 : decode cX9_nextOrder 65 = .ok (.invokevirtual 235, 3) := by decide +kernel
theorem dX9_nextOrder_68 : decode cX9_nextOrder 68 = .ok (.iload_n 2, 1) := by decide +kernel
theorem dX9_nextOrder_69 : decode cX9_nextOrder 69 = .ok (.iconst 1, 1) := by decide +kernel
theorem dX9_nextOrder_70 : decode cX9_nextOrder 70 = .ok (.iadd, 1) := by decide +kernel
theorem dX9_nextOrder_71 : decode cX9_nextOrder 71 = .ok (.istore 4, 2) := by decide +kernel
theorem dX9_nextOrder_73 : decode cX9_nextOrder 73 = .ok (.iload_n 1, 1) := by decide +kernel
theorem dX9_nextOrder_74 : decode cX9_nextOrder 74 = .ok (.iconst 1, 1) := by decide +kernel
theorem dX9_nextOrder_75 : decode cX9_nextOrder 75 = .ok (.isub, 1) := by decide +kernel
theorem dX9_nextOrder_76 : decode cX9_nextOrder 76 = .ok (.istore 5, 2) := by decide +kernel
theorem dX9_nextOrder_78 : decode cX9_nextOrder 78 = .ok (.iload 5, 2) := by decide +kernel
theorem dX9_nextOrder_80 : decode cX9_nextOrder 80 = .ok (.iload 4, 2) := by decide +kernel
theorem dX9_nextOrder_82 : decode cX9_nextOrder 82 = .ok (.if_icmp .le 20, 3) := by decide +kernel
theorem dX9_nextOrder_85 : decode cX9_nextOrder 85 = .ok (.aload_n 0, 1) := by decide +kernel
theorem dX9_nextOrder_86 : decode cX9_nextOrder 86 = .ok (.iload 4, 2) := by decide +kernel
theorem dX9_nextOrder_88 : decode cX9_nextOrder 88 = .ok (.iload 5, 2) := by decide +kernel
theorem dX9_nextOrder_90 : decode cX9_nextOrder 90 = .ok (.invokevirtual 235, 3) := by decide +kernel
theorem dX9_nextOrder_93 : decode cX9_nextOrder 93 = .ok (.iinc 4 1, 3) := by decide +kernel
theorem dX9_nextOrder_96 : decode cX9_nextOrder 96 = .ok (.iinc 5 (-1), 3) := by decide +kernel
theorem dX9_nextOrder_99 : decode cX9_nextOrder 99 = .ok (.goto (-21), 3) := by decide +kernel
theorem dX9_nextOrder_102 : decode cX9_nextOrder 102 = .ok (.iconst 1, 1) := by decide +kernel
theorem dX9_nextOrder_103 : decode cX9_nextOrder 103 = .ok (.ireturn, 1) := by decide +kernel
theorem dX9_orderBy_0 : decode cX9_orderBy 0 = .ok (.iconst 0, 1) := by decide +kernel
theorem dX9_orderBy_1 : decode cX9_orderBy 1 = .ok (.istore 4, 2) := by decide +kernel
theorem dX9_orderBy_3 : decode cX9_orderBy 3 = .ok (.iload 4, 2) := by decide +kernel
theorem dX9_orderBy_5 : decode cX9_orderBy 5 = .ok (.iload_n 2, 1) := by decide +kernel
theorem dX9_orderBy_6 : decode cX9_orderBy 6 = .ok (.if_icmp .ge 68, 3) := by decide +kernel
theorem dX9_orderBy_9 : decode cX9_orderBy 9 = .ok (.aload_n 0, 1) := by decide +kernel
theorem dX9_orderBy_10 : decode cX9_orderBy 10 = .ok (.getfield 40, 3) := by decide +kernel
theorem dX9_orderBy_13 : decode cX9_orderBy 13 = .ok (.iload 4, 2) := by decide +kernel
theorem dX9_orderBy_15 : decode cX9_orderBy 15 = .ok (.iload 4, 2) := by decide +kernel
theorem dX9_orderBy_17 : decode cX9_orderBy 17 = .ok (.iastore, 1) := by decide +kernel
theorem dX9_orderBy_18 : decode cX9_orderBy 18 = .ok (.iconst 0, 1) := by decide +kernel
theorem dX9_orderBy_19 : decode cX9_orderBy 19 = .ok (.istore 5, 2) := by decide +kernel
theorem dX9_orderBy_21 : decode cX9_orderBy 21 = .ok (.iload 5, 2) := by decide +kernel
theorem dX9_orderBy_23 : decode cX9_orderBy 23 = .ok (.iload_n 2, 1) := by decide +kernel
theorem dX9_orderBy_24 : decode cX9_orderBy 24 = .ok (.if_icmp .ge 44, 3) := by decide +kernel
theorem dX9_orderBy_27 : decode cX9_orderBy 27 = .ok (.aload_n 0, 1) := by decide +kernel
theorem dX9_orderBy_28 : decode cX9_orderBy 28 = .ok (.getfield 37, 3) := by decide +kernel
theorem dX9_orderBy_31 : decode cX9_orderBy 31 = .ok (.bipush 6, 2) := by decide +kernel
theorem dX9_orderBy_33 : decode cX9_orderBy 33 = .ok (.iload 4, 2) := by decide +kernel
theorem dX9_orderBy_35 : decode cX9_orderBy 35 = .ok (.imul, 1) := by decide +kernel
theorem dX9_orderBy_36 : decode cX9_orderBy 36 = .ok (.iload 5, 2) := by decide +kernel
theorem dX9_orderBy_38 : decode cX9_orderBy 38 = .ok (.iadd, 1) := by decide +kernel
theorem dX9_orderBy_39 : decode cX9_orderBy 39 = .ok (.aload_n 0, 1) := by decide +kernel
theorem dX9_orderBy_40 : decode cX9_orderBy 40 = .ok (.aload_n 0, 1) := by decide +kernel
theorem dX9_orderBy_41 : decode cX9_orderBy 41 = .ok (.getfield 61, 3) := by decide +kernel
theorem dX9_orderBy_44 : decode cX9_orderBy 44 = .ok (.iload_n 1, 1) := by decide +kernel
theorem dX9_orderBy_45 : decode cX9_orderBy 45 = .ok (.iload 4, 2) := by decide +kernel
theorem dX9_orderBy_47 : decode cX9_orderBy 47 = .ok (.iadd, 1) := by decide +kernel
theorem dX9_orderBy_48 : decode cX9_orderBy 48 = .ok (.iaload, 1) := by decide +kernel
theorem dX9_orderBy_49 : decode cX9_orderBy 49 = .ok (.aload_n 0, 1) := by decide +kernel
theorem dX9_orderBy_50 : decode cX9_orderBy 50 = .ok (.getfield 61, 3) := by decide +kernel
theorem dX9_orderBy_53 : decode cX9_orderBy 53 = .ok (.iload_n 1, 1) := by decide +kernel
theorem dX9_orderBy_54 : decode cX9_orderBy 54 = .ok (.iload 5, 2) := by decide +kernel
theorem dX9_orderBy_56 : decode cX9_orderBy 56 = .ok (.iadd, 1) := by decide +kernel
theorem dX9_orderBy_57 : decode cX9_orderBy 57 = .ok (.iaload, 1) := by decide +kernel
theorem dX9_orderBy_58 : decode cX9_orderBy 58 = .ok (.invokevirtual 193, 3) := by decide +kernel
theorem dX9_orderBy_61 : decode cX9_orderBy 61 = .ok (.iastore, 1) := by decide +kernel
theorem dX9_orderBy_62 : decode cX9_orderBy 62 = .ok (.iinc 5 1, 3) := by decide +kernel
theorem dX9_orderBy_65 : decode cX9_orderBy 65 = .ok (.goto (-44), 3) := by decide +kernel
theorem dX9_orderBy_68 : decode cX9_orderBy 68 = .ok (.iinc 4 1, 3) := by decide +kernel
theorem dX9_orderBy_71 : decode cX9_orderBy 71 = .ok (.goto (-68), 3) := by decide +kernel
theorem dX9_orderBy_74 : decode cX9_orderBy 74 = .ok (.bipush (-9), 2) := by decide +kernel
theorem dX9_orderBy_76 : decode cX9_orderBy 76 = .ok (.istore 4, 2) := by decide +kernel
theorem dX9_orderBy_78 : decode cX9_orderBy 78 = .ok (.iconst 1, 1) := by decide +kernel
theorem dX9_orderBy_79 : decode cX9_orderBy 79 = .ok (.istore 5, 2) := by decide +kernel
theorem dX9_orderBy_81 : decode cX9_orderBy 81 = .ok (.iload 5, 2) := by decide +kernel
theorem dX9_orderBy_83 : decode cX9_orderBy 83 = .ok (.ifCond .eq 97, 3) := by decide +kernel
theorem dX9_orderBy_86 : decode cX9_orderBy 86 = .ok (.aload_n 0, 1) := by decide +kernel
theorem dX9_orderBy_87 : decode cX9_orderBy 87 = .ok (.iload_n 2, 1) := by decide +kernel
theorem dX9_orderBy_88 : decode cX9_orderBy 88 = .ok (.invokevirtual 238, 3) := by decide +kernel
theorem dX9_orderBy_91 : decode cX9_orderBy 91 = .ok (.istore 6, 2) := by decide +kernel
theorem dX9_orderBy_93 : decode cX9_orderBy 93 = .ok (.iload 4, 2) := by decide +kernel
theorem dX9_orderBy_95 : decode cX9_orderBy 95 = .ok (.ifCond .lt 10, 3) := by decide +kernel
theorem dX9_orderBy_98 : decode cX9_orderBy 98 = .ok (.iload 6, 2) := by decide +kernel
theorem dX9_orderBy_100 : decode cX9_orderBy 100 = .ok (.iload 4, 2) := by decide +kernel
theorem dX9_orderBy_102 : decode cX9_orderBy 102 = .ok (.if_icmp .ge 7, 3) := by decide +kernel
theorem dX9_orderBy_105 : decode cX9_orderBy 105 = .ok (.iconst 1, 1) := by decide +kernel
theorem dX9_orderBy_106 : decode cX9_orderBy 106 = .ok (.goto 4, 3) := by decide +kernel
theorem dX9_orderBy_109 : decode cX9_orderBy 109 = .ok (.iconst 0, 1) := by decide +kernel
theorem dX9_orderBy_110 : decode cX9_orderBy 110 = .ok (.istore 7, 2) := by decide +kernel
theorem dX9_orderBy_112 : decode cX9_orderBy 112 = .ok (.iconst 0, 1) := by decide +kernel
theorem dX9_orderBy_113 : decode cX9_orderBy 113 = .ok (.istore 8, 2) := by decide +kernel
theorem dX9_orderBy_115 : decode cX9_orderBy 115 = .ok (.iload 8, 2) := by decide +kernel
theorem dX9_orderBy_117 : decode cX9_orderBy 117 = .ok (.iload_n 2, 1) := by decide +kernel
theorem dX9_orderBy_118 : decode cX9_orderBy 118 = .ok (.if_icmp .ge 38, 3) := by decide +kernel
theorem dX9_orderBy_121 : decode cX9_orderBy 121 = .ok (.aload_n 0, 1) := by decide +kernel
theorem dX9_orderBy_122 : decode cX9_orderBy 122 = .ok (.getfield 43, 3) := by decide +kernel
theorem dX9_orderBy_125 : decode cX9_orderBy 125 = .ok (.iload 8, 2) := by decide +kernel
theorem dX9_orderBy_127 : decode cX9_orderBy 127 = .ok (.iload 7, 2) := by decide +kernel
theorem dX9_orderBy_129 : decode cX9_orderBy 129 = .ok (.ifCond .eq 13, 3) := by decide +kernel
theorem dX9_orderBy_132 : decode cX9_orderBy 132 = .ok (.aload_n 0, 1) := by decide +kernel
theorem dX9_orderBy_133 : decode cX9_orderBy 133 = .ok (.getfield 40, 3) := by decide +kernel
theorem dX9_orderBy_136 : decode cX9_orderBy 136 = .ok (.iload 8, 2) := by decide +kernel
theorem dX9_orderBy_138 : decode cX9_orderBy 138 = .ok (.iaload, 1) := by decide +kernel
theorem dX9_orderBy_139 : decode cX9_orderBy 139 = .ok (.goto 10, 3) := by decide +kernel
theorem dX9_orderBy_142 : decode cX9_orderBy 142 = .ok (.aload_n 0, 1) := by decide +kernel
theorem dX9_orderBy_143 : decode cX9_orderBy 143 = .ok (.getfield 43, 3) := by decide +kernel
theorem dX9_orderBy_146 : decode cX9_orderBy 146 = .ok (.iload 8, 2) := by decide +kernel
theorem dX9_orderBy_148 : decode cX9_orderBy 148 = .ok (.iaload, 1) := by decide +kernel
theorem dX9_orderBy_149 : decode cX9_orderBy 149 = .ok (.iastore, 1) := by decide +kernel
theorem dX9_orderBy_150 : decode cX9_orderBy 150 = .ok (.iinc 8 1, 3) := by decide +kernel
theorem dX9_orderBy_153 : decode cX9_orderBy 153 = .ok (.goto (-38), 3) := by decide +kernel
theorem dX9_orderBy_156 : decode cX9_orderBy 156 = .ok (.iload 7, 2) := by decide +kernel
theorem dX9_orderBy_158 : decode cX9_orderBy 158 = .ok (.ifCond .eq 8, 3) := by decide +kernel
theorem dX9_orderBy_161 : decode cX9_orderBy 161 = .ok (.iload 6, 2) := by decide +kernel
theorem dX9_orderBy_163 : decode cX9_orderBy 163 = .ok (.goto 5, 3) := by decide +kernel
theorem dX9_orderBy_166 : decode cX9_orderBy 166 = .ok (.iload 4, 2) := by decide +kernel
theorem dX9_orderBy_168 : decode cX9_orderBy 168 = .ok (.istore 4, 2) := by decide +kernel
theorem dX9_orderBy_170 : decode cX9_orderBy 170 = .ok (.aload_n 0, 1) := by decide +kernel
theorem dX9_orderBy_171 : decode cX9_orderBy 171 = .ok (.iload_n 2, 1) := by decide +kernel
theorem dX9_orderBy_172 : decode cX9_orderBy 172 = .ok (.invokevirtual 241, 3) := by decide +kernel
theorem dX9_orderBy_175 : decode cX9_orderBy 175 = .ok (.istore 5, 2) := by decide +kernel
theorem dX9_orderBy_177 : decode cX9_orderBy 177 = .ok (.goto (-96), 3) := by decide +kernel
theorem dX9_orderBy_180 : decode cX9_orderBy 180 = .ok (.iload_n 3, 1) := by decide +kernel
theorem dX9_orderBy_181 : decode cX9_orderBy 181 = .ok (.ifCond .ne 8, 3) := by decide +kernel
theorem dX9_orderBy_184 : decode cX9_orderBy 184 = .ok (.iload 4, 2) := by decide +kernel
theorem dX9_orderBy_186 : decode cX9_orderBy 186 = .ok (.goto 25, 3) := by decide +kernel
theorem dX9_orderBy_189 : decode cX9_orderBy 189 = .ok (.iload_n 3, 1) := by decide +kernel
theorem dX9_orderBy_190 : decode cX9_orderBy 190 = .ok (.bipush 10, 2) := by decide +kernel
theorem dX9_orderBy_192 : decode cX9_orderBy 192 = .ok (.isub, 1) := by decide +kernel
theorem dX9_orderBy_193 : decode cX9_orderBy 193 = .ok (.iload_n 2, 1) := by decide +kernel
theorem dX9_orderBy_194 : decode cX9_orderBy 194 = .ok (.if_icmp .ge 15, 3) := by decide +kernel
theorem dX9_orderBy_197 : decode cX9_orderBy 197 = .ok (.aload_n 0, 1) := by decide +kernel
theorem dX9_orderBy_198 : decode cX9_orderBy 198 = .ok (.getfield 43, 3) := by decide +kernel
theorem dX9_orderBy_201 : decode cX9_orderBy 201 = .ok (.iload_n 3, 1) := by decide +kernel
theorem dX9_orderBy_202 : decode cX9_orderBy 202 = .ok (.bipush 10, 2) := by decide +kernel
theorem dX9_orderBy_204 : decode cX9_orderBy 204 = .ok (.isub, 1) := by decide +kernel
theorem dX9_orderBy_205 : decode cX9_orderBy 205 = .ok (.iaload, 1) := by decide +kernel
theorem dX9_orderBy_206 : decode cX9_orderBy 206 = .ok (.goto 5, 3) := by decide +kernel
theorem dX9_orderBy_209 : decode cX9_orderBy 209 = .ok (.bipush (-9), 2) := by decide +kernel
theorem dX9_orderBy_211 : decode cX9_orderBy 211 = .ok (.ireturn, 1) := by decide +kernel
theorem dX9_order_0 : decode cX9_order 0 = .ok (.iload_n 1, 1) := by decide +kernel
theorem dX9_order_1 : decode cX9_order 1 = .ok (.invokestatic 113, 3) := by decide +kernel
theorem dX9_order_4 : decode cX9_order 4 = .ok (.ifCond .eq 9, 3) := by decide +kernel
theorem dX9_order_7 : decode cX9_order 7 = .ok (.aload_n 0, 1) := by decide +kernel
theorem dX9_order_8 : decode cX9_order 8 = .ok (.iconst (-1), 1) := by decide +kernel
theorem dX9_order_9 : decode cX9_order 9 = .ok (.invokevirtual 117, 3) := by decide +kernel
theorem dX9_order_12 : decode cX9_order 12 = .ok (.ireturn, 1) := by decide +kernel
theorem dX9_order_13 : decode cX9_order 13 = .ok (.iload_n 2, 1) := by decide +kernel
theorem dX9_order_14 : decode cX9_order 14 = .ok (.i2l, 1) := by decide +kernel
theorem dX9_order_15 : decode cX9_order 15 = .ok (.lconst 0, 1) := by decide +kernel
theorem dX9_order_16 : decode cX9_order 16 = .ok (.ldc2_w 120, 3) := by decide +kernel
theorem dX9_order_19 : decode cX9_order 19 = .ok (.invokestatic 80, 3) := by decide +kernel
theorem dX9_order_22 : decode cX9_order 22 = .ok (.ifCond .eq 36, 3) := by decide +kernel
theorem dX9_order_25 : decode cX9_order 25 = .ok (.iload 4, 2) := by decide +kernel
theorem dX9_order_27 : decode cX9_order 27 = .ok (.i2l, 1) := by decide +kernel
theorem dX9_order_28 : decode cX9_order 28 = .ok (.lconst 0, 1) := by decide +kernel
theorem dX9_order_29 : decode cX9_order 29 = .ok (.ldc2_w 169, 3) := by decide +kernel
theorem dX9_order_32 : decode cX9_order 32 = .ok (.invokestatic 80, 3) := by decide +kernel
theorem dX9_order_35 : decode cX9_order 35 = .ok (.ifCond .eq 23, 3) := by decide +kernel
theorem dX9_order_38 : decode cX9_order 38 = .ok (.iload 5, 2) := by decide +kernel
theorem dX9_order_40 : decode cX9_order 40 = .ok (.ifCond .eq 25, 3) := by decide +kernel
theorem dX9_order_43 : decode cX9_order 43 = .ok (.iload 5, 2) := by decide +kernel
theorem dX9_order_45 : decode cX9_order 45 = .ok (.i2l, 1) := by decide +kernel
theorem dX9_order_46 : decode cX9_order 46 = .ok (.ldc2_w 227, 3) := by decide +kernel
theorem dX9_order_49 : decode cX9_order 49 = .ok (.ldc2_w 244, 3) := by decide +kernel
theorem dX9_order_52 : decode cX9_order 52 = .ok (.invokestatic 80, 3) := by decide +kernel
theorem dX9_order_55 : decode cX9_order 55 = .ok (.ifCond .ne 10, 3) := by decide +kernel
theorem dX9_order_58 : decode cX9_order 58 = .ok (.aload_n 0, 1) := by decide +kernel
theorem dX9_order_59 : decode cX9_order 59 = .ok (.bipush (-2), 2) := by decide +kernel
theorem dX9_order_61 : decode cX9_order 61 = .ok (.invokevirtual 117, 3) := by decide +kernel
theorem dX9_order_64 : decode cX9_order 64 = .ok (.ireturn, 1) := by decide +kernel
theorem dX9_order_65 : decode cX9_order 65 = .ok (.aload_n 0, 1) := by decide +kernel
theorem dX9_order_66 : decode cX9_order 66 = .ok (.getfield 77, 3) := by decide +kernel
theorem dX9_order_69 : decode cX9_order 69 = .ok (.ifCond .ne 10, 3) := by decide +kernel
theorem dX9_order_72 : decode cX9_order 72 = .ok (.aload_n 0, 1) := by decide +kernel
theorem dX9_order_73 : decode cX9_order 73 = .ok (.bipush (-3), 2) := by decide +kernel
theorem dX9_order_75 : decode cX9_order 75 = .ok (.invokevirtual 117, 3) := by decide +kernel
theorem dX9_order_78 : decode cX9_order 78 = .ok (.ireturn, 1) := by decide +kernel
theorem dX9_order_79 : decode cX9_order 79 = .ok (.aload_n 0, 1) := by decide +kernel
theorem dX9_order_80 : decode cX9_order 80 = .ok (.iload_n 1, 1) := by decide +kernel
theorem dX9_order_81 : decode cX9_order 81 = .ok (.iload_n 2, 1) := by decide +kernel
theorem dX9_order_82 : decode cX9_order 82 = .ok (.iload_n 3, 1) := by decide +kernel
theorem dX9_order_83 : decode cX9_order 83 = .ok (.iload 4, 2) := by decide +kernel
theorem dX9_order_85 : decode cX9_order 85 = .ok (.i2l, 1) := by decide +kernel
theorem dX9_order_86 : decode cX9_order 86 = .ok (.invokevirtual 122, 3) := by decide +kernel
theorem dX9_order_89 : decode cX9_order 89 = .ok (.istore 6, 2) := by decide +kernel
theorem dX9_order_91 : decode cX9_order 91 = .ok (.iload 6, 2) := by decide +kernel
theorem dX9_order_93 : decode cX9_order 93 = .ok (.ifCond .ge 6, 3) := by decide +kernel
theorem dX9_order_96 : decode cX9_order 96 = .ok (.iload 6, 2) := by decide +kernel
theorem dX9_order_98 : decode cX9_order 98 = .ok (.ireturn, 1) := by decide +kernel
theorem dX9_order_99 : decode cX9_order 99 = .ok (.iconst 0, 1) := by decide +kernel
theorem dX9_order_100 : decode cX9_order 100 = .ok (.istore 7, 2) := by decide +kernel
theorem dX9_order_102 : decode cX9_order 102 = .ok (.iload 7, 2) := by decide +kernel
theorem dX9_order_104 : decode cX9_order 104 = .ok (.iload 4, 2) := by decide +kernel
theorem dX9_order_106 : decode cX9_order 106 = .ok (.if_icmp .ge 37, 3) := by decide +kernel
theorem dX9_order_109 : decode cX9_order 109 = .ok (.aload_n 0, 1) := by decide +kernel
theorem dX9_order_110 : decode cX9_order 110 = .ok (.aload_n 0, 1) := by decide +kernel
theorem dX9_order_111 : decode cX9_order 111 = .ok (.getfield 61, 3) := by decide +kernel
theorem dX9_order_114 : decode cX9_order 114 = .ok (.bipush 60, 2) := by decide +kernel
theorem dX9_order_116 : decode cX9_order 116 = .ok (.iload_n 1, 1) := by decide +kernel
theorem dX9_order_117 : decode cX9_order 117 = .ok (.imul, 1) := by decide +kernel
theorem dX9_order_118 : decode cX9_order 118 = .ok (.iload_n 3, 1) := by decide +kernel
theorem dX9_order_119 : decode cX9_order 119 = .ok (.iadd, 1) := by decide +kernel
theorem dX9_order_120 : decode cX9_order 120 = .ok (.iload 7, 2) := by decide +kernel
theorem dX9_order_122 : decode cX9_order 122 = .ok (.iadd, 1) := by decide +kernel
theorem dX9_order_123 : decode cX9_order 123 = .ok (.iaload, 1) := by decide +kernel
theorem dX9_order_124 : decode cX9_order 124 = .ok (.invokevirtual 185, 3) := by decide +kernel
theorem dX9_order_127 : decode cX9_order 127 = .ok (.ifCond .eq 10, 3) := by decide +kernel
theorem dX9_order_130 : decode cX9_order 130 = .ok (.aload_n 0, 1) := by decide +kernel
theorem dX9_order_131 : decode cX9_order 131 = .ok (.bipush (-2), 2) := by decide +kernel
theorem dX9_order_133 : decode cX9_order 133 = .ok (.invokevirtual 117, 3) := by decide +kernel
theorem dX9_order_136 : decode cX9_order 136 = .ok (.ireturn, 1) := by decide +kernel
theorem dX9_order_137 : decode cX9_order 137 = .ok (.iinc 7 1, 3) := by decide +kernel
theorem dX9_order_140 : decode cX9_order 140 = .ok (.goto (-38), 3) := by decide +kernel
theorem dX9_order_143 : decode cX9_order 143 = .ok (.aload_n 0, 1) := by decide +kernel
theorem dX9_order_144 : decode cX9_order 144 = .ok (.aload_n 0, 1) := by decide +kernel
theorem dX9_order_145 : decode cX9_order 145 = .ok (.bipush 60, 2) := by decide +kernel
theorem dX9_order_147 : decode cX9_order 147 = .ok (.iload_n 1, 1) := by decide +kernel
theorem dX9_order_148 : decode cX9_order 148 = .ok (.imul, 1) := by decide +kernel
theorem dX9_order_149 : decode cX9_order 149 = .ok (.iload_n 3, 1) := by decide +kernel
theorem dX9_order_150 : decode cX9_order 150 = .ok (.iadd, 1) := by decide +kernel
theorem dX9_order_151 : decode cX9_order 151 = .ok (.iload 4, 2) := by decide +kernel
theorem dX9_order_153 : decode cX9_order 153 = .ok (.iload 5, 2) := by decide +kernel
theorem dX9_order_155 : decode cX9_order 155 = .ok (.invokevirtual 246, 3) := by decide +kernel
theorem dX9_order_158 : decode cX9_order 158 = .ok (.invokevirtual 117, 3) := by decide +kernel
theorem dX9_order_161 : decode cX9_order 161 = .ok (.ireturn, 1) := by decide +kernel
theorem dX9_reading_0 : decode cX9_reading 0 = .ok (.aload_n 0, 1) := by decide +kernel
theorem dX9_reading_1 : decode cX9_reading 1 = .ok (.iload_n 1, 1) := by decide +kernel
theorem dX9_reading_2 : decode cX9_reading 2 = .ok (.invokevirtual 160, 3) := by decide +kernel
theorem dX9_reading_5 : decode cX9_reading 5 = .ok (.ifCond .eq 5, 3) := by decide +kernel
theorem dX9_reading_8 : decode cX9_reading 8 = .ok (.iconst (-1), 1) := by decide +kernel
theorem dX9_reading_9 : decode cX9_reading 9 = .ok (.ireturn, 1) := by decide +kernel
theorem dX9_reading_10 : decode cX9_reading 10 = .ok (.iload_n 2, 1) := by decide +kernel
theorem dX9_reading_11 : decode cX9_reading 11 = .ok (.i2l, 1) := by decide +kernel
theorem dX9_reading_12 : decode cX9_reading 12 = .ok (.lconst 0, 1) := by decide +kernel
theorem dX9_reading_13 : decode cX9_reading 13 = .ok (.ldc2_w 176, 3) := by decide +kernel
theorem dX9_reading_16 : decode cX9_reading 16 = .ok (.invokestatic 80, 3) := by decide +kernel
theorem dX9_reading_19 : decode cX9_reading 19 = .ok (.ifCond .eq 15, 3) := by decide +kernel
theorem dX9_reading_22 : decode cX9_reading 22 = .ok (.iload_n 3, 1) := by decide +kernel
theorem dX9_reading_23 : decode cX9_reading 23 = .ok (.i2l, 1) := by decide +kernel
theorem dX9_reading_24 : decode cX9_reading 24 = .ok (.lconst 0, 1) := by decide +kernel
theorem dX9_reading_25 : decode cX9_reading 25 = .ok (.ldc2_w 171, 3) := by decide +kernel
theorem dX9_reading_28 : decode cX9_reading 28 = .ok (.invokestatic 80, 3) := by decide +kernel
theorem dX9_reading_31 : decode cX9_reading 31 = .ok (.ifCond .ne 6, 3) := by decide +kernel
theorem dX9_reading_34 : decode cX9_reading 34 = .ok (.bipush (-2), 2) := by decide +kernel
theorem dX9_reading_36 : decode cX9_reading 36 = .ok (.ireturn, 1) := by decide +kernel
theorem dX9_reading_37 : decode cX9_reading 37 = .ok (.aload_n 0, 1) := by decide +kernel
theorem dX9_reading_38 : decode cX9_reading 38 = .ok (.getfield 135, 3) := by decide +kernel
theorem dX9_reading_41 : decode cX9_reading 41 = .ok (.bipush 8, 2) := by decide +kernel
theorem dX9_reading_43 : decode cX9_reading 43 = .ok (.if_icmp .ne 6, 3) := by decide +kernel
theorem dX9_reading_46 : decode cX9_reading 46 = .ok (.bipush (-4), 2) := by decide +kernel
theorem dX9_reading_48 : decode cX9_reading 48 = .ok (.ireturn, 1) := by decide +kernel
theorem dX9_reading_49 : decode cX9_reading 49 = .ok (.aload_n 0, 1) := by decide +kernel
theorem dX9_reading_50 : decode cX9_reading 50 = .ok (.getfield 46, 3) := by decide +kernel
theorem dX9_reading_53 : decode cX9_reading 53 = .ok (.aload_n 0, 1) := by decide +kernel
theorem dX9_reading_54 : decode cX9_reading 54 = .ok (.getfield 135, 3) := by decide +kernel
theorem dX9_reading_57 : decode cX9_reading 57 = .ok (.iload_n 1, 1) := by decide +kernel
theorem dX9_reading_58 : decode cX9_reading 58 = .ok (.iastore, 1) := by decide +kernel
theorem dX9_reading_59 : decode cX9_reading 59 = .ok (.aload_n 0, 1) := by decide +kernel
theorem dX9_reading_60 : decode cX9_reading 60 = .ok (.getfield 49, 3) := by decide +kernel
theorem dX9_reading_63 : decode cX9_reading 63 = .ok (.aload_n 0, 1) := by decide +kernel
theorem dX9_reading_64 : decode cX9_reading 64 = .ok (.getfield 135, 3) := by decide +kernel
theorem dX9_reading_67 : decode cX9_reading 67 = .ok (.iload_n 2, 1) := by decide +kernel
theorem dX9_reading_68 : decode cX9_reading 68 = .ok (.iastore, 1) := by decide +kernel
theorem dX9_reading_69 : decode cX9_reading 69 = .ok (.aload_n 0, 1) := by decide +kernel
theorem dX9_reading_70 : decode cX9_reading 70 = .ok (.getfield 52, 3) := by decide +kernel
theorem dX9_reading_73 : decode cX9_reading 73 = .ok (.aload_n 0, 1) := by decide +kernel
theorem dX9_reading_74 : decode cX9_reading 74 = .ok (.getfield 135, 3) := by decide +kernel
theorem dX9_reading_77 : decode cX9_reading 77 = .ok (.iload_n 3, 1) := by decide +kernel
theorem dX9_reading_78 : decode cX9_reading 78 = .ok (.iastore, 1) := by decide +kernel
theorem dX9_reading_79 : decode cX9_reading 79 = .ok (.aload_n 0, 1) := by decide +kernel
theorem dX9_reading_80 : decode cX9_reading 80 = .ok (.dup, 1) := by decide +kernel
theorem dX9_reading_81 : decode cX9_reading 81 = .ok (.getfield 135, 3) := by decide +kernel
theorem dX9_reading_84 : decode cX9_reading 84 = .ok (.iconst 1, 1) := by decide +kernel
theorem dX9_reading_85 : decode cX9_reading 85 = .ok (.iadd, 1) := by decide +kernel
theorem dX9_reading_86 : decode cX9_reading 86 = .ok (.putfield 135, 3) := by decide +kernel
theorem dX9_reading_89 : decode cX9_reading 89 = .ok (.aload_n 0, 1) := by decide +kernel
theorem dX9_reading_90 : decode cX9_reading 90 = .ok (.getfield 135, 3) := by decide +kernel
theorem dX9_reading_93 : decode cX9_reading 93 = .ok (.iconst 1, 1) := by decide +kernel
theorem dX9_reading_94 : decode cX9_reading 94 = .ok (.isub, 1) := by decide +kernel
theorem dX9_reading_95 : decode cX9_reading 95 = .ok (.ireturn, 1) := by decide +kernel
theorem dX9_back_0 : decode cX9_back 0 = .ok (.iload_n 1, 1) := by decide +kernel
theorem dX9_back_1 : decode cX9_back 1 = .ok (.i2l, 1) := by decide +kernel
theorem dX9_back_2 : decode cX9_back 2 = .ok (.lconst 0, 1) := by decide +kernel
theorem dX9_back_3 : decode cX9_back 3 = .ok (.aload_n 0, 1) := by decide +kernel
theorem dX9_back_4 : decode cX9_back 4 = .ok (.getfield 135, 3) := by decide +kernel
theorem dX9_back_7 : decode cX9_back 7 = .ok (.i2l, 1) := by decide +kernel
theorem dX9_back_8 : decode cX9_back 8 = .ok (.invokestatic 80, 3) := by decide +kernel
theorem dX9_back_11 : decode cX9_back 11 = .ok (.ifCond .ne 6, 3) := by decide +kernel
theorem dX9_back_14 : decode cX9_back 14 = .ok (.bipush (-2), 2) := by decide +kernel
theorem dX9_back_16 : decode cX9_back 16 = .ok (.ireturn, 1) := by decide +kernel
theorem dX9_back_17 : decode cX9_back 17 = .ok (.aload_n 0, 1) := by decide +kernel
theorem dX9_back_18 : decode cX9_back 18 = .ok (.dup, 1) := by decide +kernel
theorem dX9_back_19 : decode cX9_back 19 = .ok (.getfield 135, 3) := by decide +kernel
theorem dX9_back_22 : decode cX9_back 22 = .ok (.iload_n 1, 1) := by decide +kernel
theorem dX9_back_23 : decode cX9_back 23 = .ok (.isub, 1) := by decide +kernel
theorem dX9_back_24 : decode cX9_back 24 = .ok (.putfield 135, 3) := by decide +kernel
theorem dX9_back_27 : decode cX9_back 27 = .ok (.aload_n 0, 1) := by decide +kernel
theorem dX9_back_28 : decode cX9_back 28 = .ok (.getfield 135, 3) := by decide +kernel
theorem dX9_back_31 : decode cX9_back 31 = .ok (.ireturn, 1) := by decide +kernel
theorem dX9_areSo_0 : decode cX9_areSo 0 = .ok (.iconst 1, 1) := by decide +kernel
theorem dX9_areSo_1 : decode cX9_areSo 1 = .ok (.istore_n 1, 1) := by decide +kernel
