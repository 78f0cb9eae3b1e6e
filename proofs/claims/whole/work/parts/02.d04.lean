theorem dX8_odds_9 : decode cX8_odds 9 = .ok (.getfield 20, 3) := by decide +kernel
theorem dX8_odds_12 : decode cX8_odds 12 = .ok (.invokevirtual 122, 3) := by decide +kernel
theorem dX8_odds_15 : decode cX8_odds 15 = .ok (.ifCond .eq 7, 3) := by decide +kernel
theorem dX8_odds_18 : decode cX8_odds 18 = .ok (.ldc2_w 195, 3) := by decide +kernel
theorem dX8_odds_21 : decode cX8_odds 21 = .ok (.lreturn, 1) := by decide +kernel
theorem dX8_odds_22 : decode cX8_odds 22 = .ok (.aload_n 0, 1) := by decide +kernel
theorem dX8_odds_23 : decode cX8_odds 23 = .ok (.getfield 20, 3) := by decide +kernel
theorem dX8_odds_26 : decode cX8_odds 26 = .ok (.invokevirtual 197, 3) := by decide +kernel
theorem dX8_odds_29 : decode cX8_odds 29 = .ok (.i2l, 1) := by decide +kernel
theorem dX8_odds_30 : decode cX8_odds 30 = .ok (.lstore_n 2, 1) := by decide +kernel
theorem dX8_odds_31 : decode cX8_odds 31 = .ok (.aload_n 0, 1) := by decide +kernel
theorem dX8_odds_32 : decode cX8_odds 32 = .ok (.getfield 20, 3) := by decide +kernel
theorem dX8_odds_35 : decode cX8_odds 35 = .ok (.getfield 200, 3) := by decide +kernel
theorem dX8_odds_38 : decode cX8_odds 38 = .ok (.iconst 1, 1) := by decide +kernel
theorem dX8_odds_39 : decode cX8_odds 39 = .ok (.iadd, 1) := by decide +kernel
theorem dX8_odds_40 : decode cX8_odds 40 = .ok (.i2l, 1) := by decide +kernel
theorem dX8_odds_41 : decode cX8_odds 41 = .ok (.lstore 4, 2) := by decide +kernel
theorem dX8_odds_43 : decode cX8_odds 43 = .ok (.lload_n 2, 1) := by decide +kernel
theorem dX8_odds_44 : decode cX8_odds 44 = .ok (.lload 4, 2) := by decide +kernel
theorem dX8_odds_46 : decode cX8_odds 46 = .ok (.invokestatic 203, 3) := by decide +kernel
theorem dX8_odds_49 : decode cX8_odds 49 = .ok (.lstore 6, 2) := by decide +kernel
theorem dX8_odds_51 : decode cX8_odds 51 = .ok (.lload 6, 2) := by decide +kernel
theorem dX8_odds_53 : decode cX8_odds 53 = .ok (.lconst 1, 1) := by decide +kernel
theorem dX8_odds_54 : decode cX8_odds 54 = .ok (.lcmp, 1) := by decide +kernel
theorem dX8_odds_55 : decode cX8_odds 55 = .ok (.ifCond .ge 7, 3) := by decide +kernel
theorem dX8_odds_58 : decode cX8_odds 58 = .ok (.ldc2_w 195, 3) := by decide +kernel
theorem dX8_odds_61 : decode cX8_odds 61 = .ok (.lreturn, 1) := by decide +kernel
theorem dX8_odds_62 : decode cX8_odds 62 = .ok (.iload_n 1, 1) := by decide +kernel
theorem dX8_odds_63 : decode cX8_odds 63 = .ok (.ifCond .ne 10, 3) := by decide +kernel
theorem dX8_odds_66 : decode cX8_odds 66 = .ok (.lload_n 2, 1) := by decide +kernel
theorem dX8_odds_67 : decode cX8_odds 67 = .ok (.lload 6, 2) := by decide +kernel
theorem dX8_odds_69 : decode cX8_odds 69 = .ok (.ldiv, 1) := by decide +kernel
theorem dX8_odds_70 : decode cX8_odds 70 = .ok (.goto 8, 3) := by decide +kernel
theorem dX8_odds_73 : decode cX8_odds 73 = .ok (.lload 4, 2) := by decide +kernel
theorem dX8_odds_75 : decode cX8_odds 75 = .ok (.lload 6, 2) := by decide +kernel
theorem dX8_odds_77 : decode cX8_odds 77 = .ok (.ldiv, 1) := by decide +kernel
theorem dX8_odds_78 : decode cX8_odds 78 = .ok (.lreturn, 1) := by decide +kernel
theorem dX8_sheet_0 : decode cX8_sheet 0 = .ok (.aload_n 0, 1) := by decide +kernel
theorem dX8_sheet_1 : decode cX8_sheet 1 = .ok (.iconst 0, 1) := by decide +kernel
theorem dX8_sheet_2 : decode cX8_sheet 2 = .ok (.putfield 46, 3) := by decide +kernel
theorem dX8_sheet_5 : decode cX8_sheet 5 = .ok (.iload_n 1, 1) := by decide +kernel
theorem dX8_sheet_6 : decode cX8_sheet 6 = .ok (.iconst 4, 1) := by decide +kernel
theorem dX8_sheet_7 : decode cX8_sheet 7 = .ok (.invokestatic 50, 3) := by decide +kernel
theorem dX8_sheet_10 : decode cX8_sheet 10 = .ok (.ifCond .ne 5, 3) := by decide +kernel
theorem dX8_sheet_13 : decode cX8_sheet 13 = .ok (.iconst (-1), 1) := by decide +kernel
theorem dX8_sheet_14 : decode cX8_sheet 14 = .ok (.ireturn, 1) := by decide +kernel
theorem dX8_sheet_15 : decode cX8_sheet 15 = .ok (.iload_n 2, 1) := by decide +kernel
theorem dX8_sheet_16 : decode cX8_sheet 16 = .ok (.iconst 3, 1) := by decide +kernel
theorem dX8_sheet_17 : decode cX8_sheet 17 = .ok (.invokestatic 50, 3) := by decide +kernel
theorem dX8_sheet_20 : decode cX8_sheet 20 = .ok (.ifCond .eq 9, 3) := by decide +kernel
theorem dX8_sheet_23 : decode cX8_sheet 23 = .ok (.iload_n 3, 1) := by decide +kernel
theorem dX8_sheet_24 : decode cX8_sheet 24 = .ok (.bipush 60, 2) := by decide +kernel
theorem dX8_sheet_26 : decode cX8_sheet 26 = .ok (.if_icmp .le 6, 3) := by decide +kernel
theorem dX8_sheet_29 : decode cX8_sheet 29 = .ok (.bipush (-2), 2) := by decide +kernel
theorem dX8_sheet_31 : decode cX8_sheet 31 = .ok (.ireturn, 1) := by decide +kernel
theorem dX8_sheet_32 : decode cX8_sheet 32 = .ok (.iload_n 3, 1) := by decide +kernel
theorem dX8_sheet_33 : decode cX8_sheet 33 = .ok (.ifCond .ge 9, 3) := by decide +kernel
theorem dX8_sheet_36 : decode cX8_sheet 36 = .ok (.aload_n 0, 1) := by decide +kernel
theorem dX8_sheet_37 : decode cX8_sheet 37 = .ok (.iconst 4, 1) := by decide +kernel
theorem dX8_sheet_38 : decode cX8_sheet 38 = .ok (.invokevirtual 58, 3) := by decide +kernel
theorem dX8_sheet_41 : decode cX8_sheet 41 = .ok (.ireturn, 1) := by decide +kernel
theorem dX8_sheet_42 : decode cX8_sheet 42 = .ok (.aload_n 0, 1) := by decide +kernel
theorem dX8_sheet_43 : decode cX8_sheet 43 = .ok (.getfield 13, 3) := by decide +kernel
theorem dX8_sheet_46 : decode cX8_sheet 46 = .ok (.iload_n 1, 1) := by decide +kernel
theorem dX8_sheet_47 : decode cX8_sheet 47 = .ok (.aaload, 1) := by decide +kernel
theorem dX8_sheet_48 : decode cX8_sheet 48 = .ok (.iload_n 2, 1) := by decide +kernel
theorem dX8_sheet_49 : decode cX8_sheet 49 = .ok (.iload_n 3, 1) := by decide +kernel
theorem dX8_sheet_50 : decode cX8_sheet 50 = .ok (.invokevirtual 207, 3) := by decide +kernel
theorem dX8_sheet_53 : decode cX8_sheet 53 = .ok (.iconst 1, 1) := by decide +kernel
theorem dX8_sheet_54 : decode cX8_sheet 54 = .ok (.ireturn, 1) := by decide +kernel
theorem dX8_lose_0 : decode cX8_lose 0 = .ok (.iload_n 1, 1) := by decide +kernel
theorem dX8_lose_1 : decode cX8_lose 1 = .ok (.iconst 4, 1) := by decide +kernel
theorem dX8_lose_2 : decode cX8_lose 2 = .ok (.invokestatic 50, 3) := by decide +kernel
theorem dX8_lose_5 : decode cX8_lose 5 = .ok (.ifCond .ne 5, 3) := by decide +kernel
theorem dX8_lose_8 : decode cX8_lose 8 = .ok (.iconst (-1), 1) := by decide +kernel
theorem dX8_lose_9 : decode cX8_lose 9 = .ok (.ireturn, 1) := by decide +kernel
theorem dX8_lose_10 : decode cX8_lose 10 = .ok (.aload_n 0, 1) := by decide +kernel
theorem dX8_lose_11 : decode cX8_lose 11 = .ok (.getfield 13, 3) := by decide +kernel
theorem dX8_lose_14 : decode cX8_lose 14 = .ok (.iload_n 1, 1) := by decide +kernel
theorem dX8_lose_15 : decode cX8_lose 15 = .ok (.aaload, 1) := by decide +kernel
theorem dX8_lose_16 : decode cX8_lose 16 = .ok (.invokevirtual 211, 3) := by decide +kernel
theorem dX8_lose_19 : decode cX8_lose 19 = .ok (.ifCond .eq 7, 3) := by decide +kernel
theorem dX8_lose_22 : decode cX8_lose 22 = .ok (.iconst 1, 1) := by decide +kernel
theorem dX8_lose_23 : decode cX8_lose 23 = .ok (.goto 4, 3) := by decide +kernel
theorem dX8_lose_26 : decode cX8_lose 26 = .ok (.iconst 0, 1) := by decide +kernel
theorem dX8_lose_27 : decode cX8_lose 27 = .ok (.ireturn, 1) := by decide +kernel
theorem dX8_put_0 : decode cX8_put 0 = .ok (.aload_n 0, 1) := by decide +kernel
theorem dX8_put_1 : decode cX8_put 1 = .ok (.iconst 0, 1) := by decide +kernel
theorem dX8_put_2 : decode cX8_put 2 = .ok (.putfield 46, 3) := by decide +kernel
theorem dX8_put_5 : decode cX8_put 5 = .ok (.iload_n 1, 1) := by decide +kernel
theorem dX8_put_6 : decode cX8_put 6 = .ok (.iconst 4, 1) := by decide +kernel
theorem dX8_put_7 : decode cX8_put 7 = .ok (.invokestatic 50, 3) := by decide +kernel
theorem dX8_put_10 : decode cX8_put 10 = .ok (.ifCond .ne 5, 3) := by decide +kernel
theorem dX8_put_13 : decode cX8_put 13 = .ok (.iconst (-1), 1) := by decide +kernel
theorem dX8_put_14 : decode cX8_put 14 = .ok (.ireturn, 1) := by decide +kernel
theorem dX8_put_15 : decode cX8_put 15 = .ok (.aload_n 0, 1) := by decide +kernel
theorem dX8_put_16 : decode cX8_put 16 = .ok (.getfield 13, 3) := by decide +kernel
theorem dX8_put_19 : decode cX8_put 19 = .ok (.iload_n 1, 1) := by decide +kernel
theorem dX8_put_20 : decode cX8_put 20 = .ok (.aaload, 1) := by decide +kernel
theorem dX8_put_21 : decode cX8_put 21 = .ok (.astore 4, 2) := by decide +kernel
theorem dX8_put_23 : decode cX8_put 23 = .ok (.aload 4, 2) := by decide +kernel
theorem dX8_put_25 : decode cX8_put 25 = .ok (.invokevirtual 214, 3) := by decide +kernel
theorem dX8_put_28 : decode cX8_put 28 = .ok (.ifCond .eq 9, 3) := by decide +kernel
theorem dX8_put_31 : decode cX8_put 31 = .ok (.aload_n 0, 1) := by decide +kernel
theorem dX8_put_32 : decode cX8_put 32 = .ok (.iconst 1, 1) := by decide +kernel
theorem dX8_put_33 : decode cX8_put 33 = .ok (.invokevirtual 58, 3) := by decide +kernel
theorem dX8_put_36 : decode cX8_put 36 = .ok (.ireturn, 1) := by decide +kernel
theorem dX8_put_37 : decode cX8_put 37 = .ok (.aload 4, 2) := by decide +kernel
theorem dX8_put_39 : decode cX8_put 39 = .ok (.iload_n 2, 1) := by decide +kernel
theorem dX8_put_40 : decode cX8_put 40 = .ok (.iconst 1, 1) := by decide +kernel
theorem dX8_put_41 : decode cX8_put 41 = .ok (.invokevirtual 217, 3) := by decide +kernel
theorem dX8_put_44 : decode cX8_put 44 = .ok (.ifCond .ne 9, 3) := by decide +kernel
theorem dX8_put_47 : decode cX8_put 47 = .ok (.aload_n 0, 1) := by decide +kernel
theorem dX8_put_48 : decode cX8_put 48 = .ok (.iconst 3, 1) := by decide +kernel
theorem dX8_put_49 : decode cX8_put 49 = .ok (.invokevirtual 58, 3) := by decide +kernel
theorem dX8_put_52 : decode cX8_put 52 = .ok (.ireturn, 1) := by decide +kernel
theorem dX8_put_53 : decode cX8_put 53 = .ok (.aload 4, 2) := by decide +kernel
theorem dX8_put_55 : decode cX8_put 55 = .ok (.iload_n 2, 1) := by decide +kernel
theorem dX8_put_56 : decode cX8_put 56 = .ok (.iload_n 3, 1) := by decide +kernel
theorem dX8_put_57 : decode cX8_put 57 = .ok (.invokevirtual 220, 3) := by decide +kernel
theorem dX8_put_60 : decode cX8_put 60 = .ok (.iconst 1, 1) := by decide +kernel
theorem dX8_put_61 : decode cX8_put 61 = .ok (.ireturn, 1) := by decide +kernel
theorem dX8_cell_0 : decode cX8_cell 0 = .ok (.aload_n 0, 1) := by decide +kernel
theorem dX8_cell_1 : decode cX8_cell 1 = .ok (.iconst 0, 1) := by decide +kernel
theorem dX8_cell_2 : decode cX8_cell 2 = .ok (.putfield 46, 3) := by decide +kernel
theorem dX8_cell_5 : decode cX8_cell 5 = .ok (.iload_n 1, 1) := by decide +kernel
theorem dX8_cell_6 : decode cX8_cell 6 = .ok (.iconst 4, 1) := by decide +kernel
theorem dX8_cell_7 : decode cX8_cell 7 = .ok (.invokestatic 50, 3) := by decide +kernel
theorem dX8_cell_10 : decode cX8_cell 10 = .ok (.ifCond .eq 11, 3) := by decide +kernel
theorem dX8_cell_13 : decode cX8_cell 13 = .ok (.iload_n 3, 1) := by decide +kernel
theorem dX8_cell_14 : decode cX8_cell 14 = .ok (.iconst 3, 1) := by decide +kernel
theorem dX8_cell_15 : decode cX8_cell 15 = .ok (.invokestatic 50, 3) := by decide +kernel
theorem dX8_cell_18 : decode cX8_cell 18 = .ok (.ifCond .ne 7, 3) := by decide +kernel
theorem dX8_cell_21 : decode cX8_cell 21 = .ok (.ldc2_w 195, 3) := by decide +kernel
theorem dX8_cell_24 : decode cX8_cell 24 = .ok (.lreturn, 1) := by decide +kernel
theorem dX8_cell_25 : decode cX8_cell 25 = .ok (.aload_n 0, 1) := by decide +kernel
theorem dX8_cell_26 : decode cX8_cell 26 = .ok (.aload_n 0, 1) := by decide +kernel
theorem dX8_cell_27 : decode cX8_cell 27 = .ok (.getfield 13, 3) := by decide +kernel
theorem dX8_cell_30 : decode cX8_cell 30 = .ok (.iload_n 1, 1) := by decide +kernel
theorem dX8_cell_31 : decode cX8_cell 31 = .ok (.aaload, 1) := by decide +kernel
theorem dX8_cell_32 : decode cX8_cell 32 = .ok (.iload_n 3, 1) := by decide +kernel
theorem dX8_cell_33 : decode cX8_cell 33 = .ok (.iload_n 2, 1) := by decide +kernel
theorem dX8_cell_34 : decode cX8_cell 34 = .ok (.iconst 1, 1) := by decide +kernel
theorem dX8_cell_35 : decode cX8_cell 35 = .ok (.invokevirtual 54, 3) := by decide +kernel
theorem dX8_cell_38 : decode cX8_cell 38 = .ok (.putfield 46, 3) := by decide +kernel
theorem dX8_cell_41 : decode cX8_cell 41 = .ok (.aload_n 0, 1) := by decide +kernel
theorem dX8_cell_42 : decode cX8_cell 42 = .ok (.getfield 46, 3) := by decide +kernel
theorem dX8_cell_45 : decode cX8_cell 45 = .ok (.ifCond .ne 17, 3) := by decide +kernel
theorem dX8_cell_48 : decode cX8_cell 48 = .ok (.aload_n 0, 1) := by decide +kernel
theorem dX8_cell_49 : decode cX8_cell 49 = .ok (.getfield 13, 3) := by decide +kernel
theorem dX8_cell_52 : decode cX8_cell 52 = .ok (.iload_n 1, 1) := by decide +kernel
theorem dX8_cell_53 : decode cX8_cell 53 = .ok (.aaload, 1) := by decide +kernel
theorem dX8_cell_54 : decode cX8_cell 54 = .ok (.iload_n 2, 1) := by decide +kernel
theorem dX8_cell_55 : decode cX8_cell 55 = .ok (.invokevirtual 223, 3) := by decide +kernel
theorem dX8_cell_58 : decode cX8_cell 58 = .ok (.i2l, 1) := by decide +kernel
theorem dX8_cell_59 : decode cX8_cell 59 = .ok (.goto 6, 3) := by decide +kernel
theorem dX8_cell_62 : decode cX8_cell 62 = .ok (.ldc2_w 195, 3) := by decide +kernel
theorem dX8_cell_65 : decode cX8_cell 65 = .ok (.lreturn, 1) := by decide +kernel
theorem dX8_copy_0 : decode cX8_copy 0 = .ok (.aload_n 0, 1) := by decide +kernel
theorem dX8_copy_1 : decode cX8_copy 1 = .ok (.iconst 0, 1) := by decide +kernel
theorem dX8_copy_2 : decode cX8_copy 2 = .ok (.putfield 46, 3) := by decide +kernel
theorem dX8_copy_5 : decode cX8_copy 5 = .ok (.iload_n 1, 1) := by decide +kernel
theorem dX8_copy_6 : decode cX8_copy 6 = .ok (.iconst 4, 1) := by decide +kernel
theorem dX8_copy_7 : decode cX8_copy 7 = .ok (.invokestatic 50, 3) := by decide +kernel
theorem dX8_copy_10 : decode cX8_copy 10 = .ok (.ifCond .eq 11, 3) := by decide +kernel
theorem dX8_copy_13 : decode cX8_copy 13 = .ok (.iload_n 3, 1) := by decide +kernel
theorem dX8_copy_14 : decode cX8_copy 14 = .ok (.iconst 4, 1) := by decide +kernel
theorem dX8_copy_15 : decode cX8_copy 15 = .ok (.invokestatic 50, 3) := by decide +kernel
theorem dX8_copy_18 : decode cX8_copy 18 = .ok (.ifCond .ne 5, 3) := by decide +kernel
theorem dX8_copy_21 : decode cX8_copy 21 = .ok (.iconst (-1), 1) := by decide +kernel
theorem dX8_copy_22 : decode cX8_copy 22 = .ok (.ireturn, 1) := by decide +kernel
theorem dX8_copy_23 : decode cX8_copy 23 = .ok (.aload_n 0, 1) := by decide +kernel
theorem dX8_copy_24 : decode cX8_copy 24 = .ok (.getfield 13, 3) := by decide +kernel
theorem dX8_copy_27 : decode cX8_copy 27 = .ok (.iload_n 1, 1) := by decide +kernel
theorem dX8_copy_28 : decode cX8_copy 28 = .ok (.aaload, 1) := by decide +kernel
theorem dX8_copy_29 : decode cX8_copy 29 = .ok (.astore 6, 2) := by decide +kernel
theorem dX8_copy_31 : decode cX8_copy 31 = .ok (.aload_n 0, 1) := by decide +kernel
theorem dX8_copy_32 : decode cX8_copy 32 = .ok (.getfield 13, 3) := by decide +kernel
theorem dX8_copy_35 : decode cX8_copy 35 = .ok (.iload_n 3, 1) := by decide +kernel
theorem dX8_copy_36 : decode cX8_copy 36 = .ok (.aaload, 1) := by decide +kernel
theorem dX8_copy_37 : decode cX8_copy 37 = .ok (.astore 7, 2) := by decide +kernel
theorem dX8_copy_39 : decode cX8_copy 39 = .ok (.aload 6, 2) := by decide +kernel
theorem dX8_copy_41 : decode cX8_copy 41 = .ok (.invokevirtual 214, 3) := by decide +kernel
theorem dX8_copy_44 : decode cX8_copy 44 = .ok (.ifCond .ne 11, 3) := by decide +kernel
theorem dX8_copy_47 : decode cX8_copy 47 = .ok (.aload 7, 2) := by decide +kernel
theorem dX8_copy_49 : decode cX8_copy 49 = .ok (.invokevirtual 214, 3) := by decide +kernel
theorem dX8_copy_52 : decode cX8_copy 52 = .ok (.ifCond .eq 9, 3) := by decide +kernel
theorem dX8_copy_55 : decode cX8_copy 55 = .ok (.aload_n 0, 1) := by decide +kernel
theorem dX8_copy_56 : decode cX8_copy 56 = .ok (.iconst 1, 1) := by decide +kernel
theorem dX8_copy_57 : decode cX8_copy 57 = .ok (.invokevirtual 58, 3) := by decide +kernel
theorem dX8_copy_60 : decode cX8_copy 60 = .ok (.ireturn, 1) := by decide +kernel
theorem dX8_copy_61 : decode cX8_copy 61 = .ok (.aload 6, 2) := by decide +kernel
theorem dX8_copy_63 : decode cX8_copy 63 = .ok (.getfield 226, 3) := by decide +kernel
theorem dX8_copy_66 : decode cX8_copy 66 = .ok (.aload 7, 2) := by decide +kernel
theorem dX8_copy_68 : decode cX8_copy 68 = .ok (.getfield 226, 3) := by decide +kernel
theorem dX8_copy_71 : decode cX8_copy 71 = .ok (.if_icmp .eq 9, 3) := by decide +kernel
theorem dX8_copy_74 : decode cX8_copy 74 = .ok (.aload_n 0, 1) := by decide +kernel
theorem dX8_copy_75 : decode cX8_copy 75 = .ok (.iconst 2, 1) := by decide +kernel
theorem dX8_copy_76 : decode cX8_copy 76 = .ok (.invokevirtual 58, 3) := by decide +kernel
theorem dX8_copy_79 : decode cX8_copy 79 = .ok (.ireturn, 1) := by decide +kernel
theorem dX8_copy_80 : decode cX8_copy 80 = .ok (.aload 6, 2) := by decide +kernel
theorem dX8_copy_82 : decode cX8_copy 82 = .ok (.iload_n 2, 1) := by decide +kernel
theorem dX8_copy_83 : decode cX8_copy 83 = .ok (.iload 5, 2) := by decide +kernel
theorem dX8_copy_85 : decode cX8_copy 85 = .ok (.invokevirtual 217, 3) := by decide +kernel
theorem dX8_copy_88 : decode cX8_copy 88 = .ok (.ifCond .eq 15, 3) := by decide +kernel
theorem dX8_copy_91 : decode cX8_copy 91 = .ok (.aload 7, 2) := by decide +kernel
theorem dX8_copy_93 : decode cX8_copy 93 = .ok (.iload 4, 2) := by decide +kernel
theorem dX8_copy_95 : decode cX8_copy 95 = .ok (.iload 5, 2) := by decide +kernel
theorem dX8_copy_97 : decode cX8_copy 97 = .ok (.invokevirtual 217, 3) := by decide +kernel
theorem dX8_copy_100 : decode cX8_copy 100 = .ok (.ifCond .ne 9, 3) := by decide +kernel
theorem dX8_copy_103 : decode cX8_copy 103 = .ok (.aload_n 0, 1) := by decide +kernel
theorem dX8_copy_104 : decode cX8_copy 104 = .ok (.iconst 3, 1) := by decide +kernel
theorem dX8_copy_105 : decode cX8_copy 105 = .ok (.invokevirtual 58, 3) := by decide +kernel
theorem dX8_copy_108 : decode cX8_copy 108 = .ok (.ireturn, 1) := by decide +kernel
theorem dX8_copy_109 : decode cX8_copy 109 = .ok (.aload 7, 2) := by decide +kernel
theorem dX8_copy_111 : decode cX8_copy 111 = .ok (.aload 6, 2) := by decide +kernel
theorem dX8_copy_113 : decode cX8_copy 113 = .ok (.iload_n 2, 1) := by decide +kernel
theorem dX8_copy_114 : decode cX8_copy 114 = .ok (.iload 4, 2) := by decide +kernel
theorem dX8_copy_116 : decode cX8_copy 116 = .ok (.iload 5, 2) := by decide +kernel
theorem dX8_copy_118 : decode cX8_copy 118 = .ok (.invokevirtual 229, 3) := by decide +kernel
theorem dX8_copy_121 : decode cX8_copy 121 = .ok (.iload 5, 2) := by decide +kernel
theorem dX8_copy_123 : decode cX8_copy 123 = .ok (.ireturn, 1) := by decide +kernel
theorem dX8_tell_0 : decode cX8_tell 0 = .ok (.aload_n 0, 1) := by decide +kernel
theorem dX8_tell_1 : decode cX8_tell 1 = .ok (.iload_n 1, 1) := by decide +kernel
theorem dX8_tell_2 : decode cX8_tell 2 = .ok (.invokevirtual 76, 3) := by decide +kernel
theorem dX8_tell_5 : decode cX8_tell 5 = .ok (.ifCond .ne 5, 3) := by decide +kernel
theorem dX8_tell_8 : decode cX8_tell 8 = .ok (.iconst (-1), 1) := by decide +kernel
theorem dX8_tell_9 : decode cX8_tell 9 = .ok (.ireturn, 1) := by decide +kernel
theorem dX8_tell_10 : decode cX8_tell 10 = .ok (.aload_n 0, 1) := by decide +kernel
theorem dX8_tell_11 : decode cX8_tell 11 = .ok (.getfield 20, 3) := by decide +kernel
theorem dX8_tell_14 : decode cX8_tell 14 = .ok (.getfield 80, 3) := by decide +kernel
theorem dX8_tell_17 : decode cX8_tell 17 = .ok (.iload_n 1, 1) := by decide +kernel
theorem dX8_tell_18 : decode cX8_tell 18 = .ok (.aaload, 1) := by decide +kernel
theorem dX8_tell_19 : decode cX8_tell 19 = .ok (.astore_n 2, 1) := by decide +kernel
theorem dX8_tell_20 : decode cX8_tell 20 = .ok (.aload_n 2, 1) := by decide +kernel
theorem dX8_tell_21 : decode cX8_tell 21 = .ok (.getfield 84, 3) := by decide +kernel
theorem dX8_tell_24 : decode cX8_tell 24 = .ok (.lookupswitch 40 #[(1, 34), (2, 28)], 28) := by decide +kernel
theorem dX8_tell_52 : decode cX8_tell 52 = .ok (.aload_n 0, 1) := by decide +kernel
theorem dX8_tell_53 : decode cX8_tell 53 = .ok (.aload_n 2, 1) := by decide +kernel
theorem dX8_tell_54 : decode cX8_tell 54 = .ok (.invokevirtual 233, 3) := by decide +kernel
theorem dX8_tell_57 : decode cX8_tell 57 = .ok (.ireturn, 1) := by decide +kernel
theorem dX8_tell_58 : decode cX8_tell 58 = .ok (.aload_n 0, 1) := by decide +kernel
theorem dX8_tell_59 : decode cX8_tell 59 = .ok (.aload_n 2, 1) := by decide +kernel
theorem dX8_tell_60 : decode cX8_tell 60 = .ok (.invokevirtual 237, 3) := by decide +kernel
theorem dX8_tell_63 : decode cX8_tell 63 = .ok (.ireturn, 1) := by decide +kernel
theorem dX8_tell_64 : decode cX8_tell 64 = .ok (.aload_n 0, 1) := by decide +kernel
theorem dX8_tell_65 : decode cX8_tell 65 = .ok (.aload_n 2, 1) := by decide +kernel
theorem dX8_tell_66 : decode cX8_tell 66 = .ok (.invokevirtual 240, 3) := by decide +kernel
theorem dX8_tell_69 : decode cX8_tell 69 = .ok (.ireturn, 1) := by decide +kernel
theorem dX8_hum_0 : decode cX8_hum 0 = .ok (.aload_n 0, 1) := by decide +kernel
theorem dX8_hum_1 : decode cX8_hum 1 = .ok (.iload_n 1, 1) := by decide +kernel
theorem dX8_hum_2 : decode cX8_hum 2 = .ok (.invokevirtual 76, 3) := by decide +kernel
theorem dX8_hum_5 : decode cX8_hum 5 = .ok (.ifCond .ne 5, 3) := by decide +kernel
theorem dX8_hum_8 : decode cX8_hum 8 = .ok (.iconst (-1), 1) := by decide +kernel
theorem dX8_hum_9 : decode cX8_hum 9 = .ok (.ireturn, 1) := by decide +kernel
theorem dX8_hum_10 : decode cX8_hum 10 = .ok (.aload_n 0, 1) := by decide +kernel
theorem dX8_hum_11 : decode cX8_hum 11 = .ok (.getfield 20, 3) := by decide +kernel
theorem dX8_hum_14 : decode cX8_hum 14 = .ok (.getfield 80, 3) := by decide +kernel
theorem dX8_hum_17 : decode cX8_hum 17 = .ok (.iload_n 1, 1) := by decide +kernel
theorem dX8_hum_18 : decode cX8_hum 18 = .ok (.aaload, 1) := by decide +kernel
theorem dX8_hum_19 : decode cX8_hum 19 = .ok (.getfield 84, 3) := by decide +kernel
theorem dX8_hum_22 : decode cX8_hum 22 = .ok (.iconst 2, 1) := by decide +kernel
theorem dX8_hum_23 : decode cX8_hum 23 = .ok (.if_icmp .ne 11, 3) := by decide +kernel
theorem dX8_hum_26 : decode cX8_hum 26 = .ok (.aload_n 0, 1) := by decide +kernel
theorem dX8_hum_27 : decode cX8_hum 27 = .ok (.iconst 5, 1) := by decide +kernel
theorem dX8_hum_28 : decode cX8_hum 28 = .ok (.invokevirtual 243, 3) := by decide +kernel
theorem dX8_hum_31 : decode cX8_hum 31 = .ok (.bipush 60, 2) := by decide +kernel
theorem dX8_hum_33 : decode cX8_hum 33 = .ok (.ireturn, 1) := by decide +kernel
theorem dX8_hum_34 : decode cX8_hum 34 = .ok (.aload_n 0, 1) := by decide +kernel
theorem dX8_hum_35 : decode cX8_hum 35 = .ok (.iconst 4, 1) := by decide +kernel
theorem dX8_hum_36 : decode cX8_hum 36 = .ok (.invokevirtual 243, 3) := by decide +kernel
theorem dX8_hum_39 : decode cX8_hum 39 = .ok (.iload_n 1, 1) := by decide +kernel
theorem dX8_hum_40 : decode cX8_hum 40 = .ok (.ireturn, 1) := by decide +kernel
theorem dX8_as_0 : decode cX8_as 0 = .ok (.aload_n 0, 1) := by decide +kernel
theorem dX8_as_1 : decode cX8_as 1 = .ok (.iconst 0, 1) := by decide +kernel
theorem dX8_as_2 : decode cX8_as 2 = .ok (.putfield 46, 3) := by decide +kernel
theorem dX8_as_5 : decode cX8_as 5 = .ok (.aload_n 0, 1) := by decide +kernel
theorem dX8_as_6 : decode cX8_as 6 = .ok (.iload_n 1, 1) := by decide +kernel
theorem dX8_as_7 : decode cX8_as 7 = .ok (.invokevirtual 76, 3) := by decide +kernel
theorem dX8_as_10 : decode cX8_as 10 = .ok (.ifCond .ne 5, 3) := by decide +kernel
theorem dX8_as_13 : decode cX8_as 13 = .ok (.iconst (-1), 1) := by decide +kernel
theorem dX8_as_14 : decode cX8_as 14 = .ok (.ireturn, 1) := by decide +kernel
theorem dX8_as_15 : decode cX8_as 15 = .ok (.iload_n 2, 1) := by decide +kernel
theorem dX8_as_16 : decode cX8_as 16 = .ok (.iconst 3, 1) := by decide +kernel
theorem dX8_as_17 : decode cX8_as 17 = .ok (.invokestatic 50, 3) := by decide +kernel
theorem dX8_as_20 : decode cX8_as 20 = .ok (.ifCond .ne 6, 3) := by decide +kernel
theorem dX8_as_23 : decode cX8_as 23 = .ok (.bipush (-2), 2) := by decide +kernel
theorem dX8_as_25 : decode cX8_as 25 = .ok (.ireturn, 1) := by decide +kernel
theorem dX8_as_26 : decode cX8_as 26 = .ok (.aload_n 0, 1) := by decide +kernel
theorem dX8_as_27 : decode cX8_as 27 = .ok (.getfield 20, 3) := by decide +kernel
theorem dX8_as_30 : decode cX8_as 30 = .ok (.getfield 80, 3) := by decide +kernel
theorem dX8_as_33 : decode cX8_as 33 = .ok (.iload_n 1, 1) := by decide +kernel
theorem dX8_as_34 : decode cX8_as 34 = .ok (.aaload, 1) := by decide +kernel
theorem dX8_as_35 : decode cX8_as 35 = .ok (.getfield 84, 3) := by decide +kernel
theorem dX8_as_38 : decode cX8_as 38 = .ok (.iload_n 2, 1) := by decide +kernel
theorem dX8_as_39 : decode cX8_as 39 = .ok (.if_icmp .lt 7, 3) := by decide +kernel
theorem dX8_as_42 : decode cX8_as 42 = .ok (.iconst 1, 1) := by decide +kernel
theorem dX8_as_43 : decode cX8_as 43 = .ok (.goto 8, 3) := by decide +kernel
theorem dX8_as_46 : decode cX8_as 46 = .ok (.aload_n 0, 1) := by decide +kernel
theorem dX8_as_47 : decode cX8_as 47 = .ok (.iconst 2, 1) := by decide +kernel
theorem dX8_as_48 : decode cX8_as 48 = .ok (.invokevirtual 58, 3) := by decide +kernel
theorem dX8_as_51 : decode cX8_as 51 = .ok (.ireturn, 1) := by decide +kernel
theorem dX8_trace_0 : decode cX8_trace 0 = .ok (.aload_n 0, 1) := by decide +kernel
theorem dX8_trace_1 : decode cX8_trace 1 = .ok (.getfield 247, 3) := by decide +kernel
theorem dX8_trace_4 : decode cX8_trace 4 = .ok (.ireturn, 1) := by decide +kernel
theorem dX8_fault_0 : decode cX8_fault 0 = .ok (.aload_n 0, 1) := by decide +kernel
theorem dX8_fault_1 : decode cX8_fault 1 = .ok (.getfield 46, 3) := by decide +kernel
theorem dX8_fault_4 : decode cX8_fault 4 = .ok (.ireturn, 1) := by decide +kernel
theorem dX8_many_0 : decode cX8_many 0 = .ok (.iload_n 1, 1) := by decide +kernel
theorem dX8_many_1 : decode cX8_many 1 = .ok (.tableswitch 75 0 4 #[35, 43, 51, 59, 67], 35) := by decide +kernel
theorem dX8_many_36 : decode cX8_many 36 = .ok (.aload_n 0, 1) := by decide +kernel
theorem dX8_many_37 : decode cX8_many 37 = .ok (.getfield 20, 3) := by decide +kernel
theorem dX8_many_40 : decode cX8_many 40 = .ok (.getfield 75, 3) := by decide +kernel
theorem dX8_many_43 : decode cX8_many 43 = .ok (.ireturn, 1) := by decide +kernel
theorem dX8_many_44 : decode cX8_many 44 = .ok (.aload_n 0, 1) := by decide +kernel
theorem dX8_many_45 : decode cX8_many 45 = .ok (.getfield 20, 3) := by decide +kernel
theorem dX8_many_48 : decode cX8_many 48 = .ok (.getfield 250, 3) := by decide +kernel
theorem dX8_many_51 : decode cX8_many 51 = .ok (.ireturn, 1) := by decide +kernel
theorem dX8_many_52 : decode cX8_many 52 = .ok (.aload_n 0, 1) := by decide +kernel
theorem dX8_many_53 : decode cX8_many 53 = .ok (.getfield 20, 3) := by decide +kernel
theorem dX8_many_56 : decode cX8_many 56 = .ok (.getfield 99, 3) := by decide +kernel
theorem dX8_many_59 : decode cX8_many 59 = .ok (.ireturn, 1) := by decide +kernel
theorem dX8_many_60 : decode cX8_many 60 = .ok (.aload_n 0, 1) := by decide +kernel
theorem dX8_many_61 : decode cX8_many 61 = .ok (.getfield 20, 3) := by decide +kernel
theorem dX8_many_64 : decode cX8_many 64 = .ok (.invokevirtual 253, 3) := by decide +kernel
theorem dX8_many_67 : decode cX8_many 67 = .ok (.ireturn, 1) := by decide +kernel
theorem dX8_many_68 : decode cX8_many 68 = .ok (.aload_n 0, 1) := by decide +kernel
theorem dX8_many_69 : decode cX8_many 69 = .ok (.getfield 27, 3) := by decide +kernel
theorem dX8_many_72 : decode cX8_many 72 = .ok (.getfield 72, 3) := by decide +kernel
theorem dX8_many_75 : decode cX8_many 75 = .ok (.ireturn, 1) := by decide +kernel
theorem dX8_many_76 : decode cX8_many 76 = .ok (.bipush (-2), 2) := by decide +kernel
theorem dX8_many_78 : decode cX8_many 78 = .ok (.ireturn, 1) := by decide +kernel
theorem dX8_isWithin_0 : decode cX8_isWithin 0 = .ok (.iconst 0, 1) := by decide +kernel
theorem dX8_isWithin_1 : decode cX8_isWithin 1 = .ok (.iload_n 0, 1) := by decide +kernel
theorem dX8_isWithin_2 : decode cX8_isWithin 2 = .ok (.if_icmp .gt 12, 3) := by decide +kernel
theorem dX8_isWithin_5 : decode cX8_isWithin 5 = .ok (.iload_n 0, 1) := by decide +kernel
theorem dX8_isWithin_6 : decode cX8_isWithin 6 = .ok (.iload_n 1, 1) := by decide +kernel
theorem dX8_isWithin_7 : decode cX8_isWithin 7 = .ok (.if_icmp .ge 7, 3) := by decide +kernel
theorem dX8_isWithin_10 : decode cX8_isWithin 10 = .ok (.iconst 1, 1) := by decide +kernel
theorem dX8_isWithin_11 : decode cX8_isWithin 11 = .ok (.goto 4, 3) := by decide +kernel
theorem dX8_isWithin_14 : decode cX8_isWithin 14 = .ok (.iconst 0, 1) := by decide +kernel
theorem dX8_isWithin_15 : decode cX8_isWithin 15 = .ok (.ireturn, 1) := by decide +kernel
theorem dX8_isPlace_0 : decode cX8_isPlace 0 = .ok (.iload_n 1, 1) := by decide +kernel
theorem dX8_isPlace_1 : decode cX8_isPlace 1 = .ok (.aload_n 0, 1) := by decide +kernel
theorem dX8_isPlace_2 : decode cX8_isPlace 2 = .ok (.getfield 20, 3) := by decide +kernel
theorem dX8_isPlace_5 : decode cX8_isPlace 5 = .ok (.getfield 75, 3) := by decide +kernel
theorem dX8_isPlace_8 : decode cX8_isPlace 8 = .ok (.invokestatic 50, 3) := by decide +kernel
theorem dX8_isPlace_11 : decode cX8_isPlace 11 = .ok (.ireturn, 1) := by decide +kernel
theorem dX8_isOrderQuestion_0 : decode cX8_isOrderQuestion 0 = .ok (.iload_n 0, 1) := by decide +kernel
theorem dX8_isOrderQuestion_1 : decode cX8_isOrderQuestion 1 = .ok (.ifCond .eq 15, 3) := by decide +kernel
theorem dX8_isOrderQuestion_4 : decode cX8_isOrderQuestion 4 = .ok (.bipush 10, 2) := by decide +kernel
theorem dX8_isOrderQuestion_6 : decode cX8_isOrderQuestion 6 = .ok (.iload_n 0, 1) := by decide +kernel
theorem dX8_isOrderQuestion_7 : decode cX8_isOrderQuestion 7 = .ok (.if_icmp .gt 13, 3) := by decide +kernel
theorem dX8_isOrderQuestion_10 : decode cX8_isOrderQuestion 10 = .ok (.iload_n 0, 1) := by decide +kernel
theorem dX8_isOrderQuestion_11 : decode cX8_isOrderQuestion 11 = .ok (.bipush 16, 2) := by decide +kernel
theorem dX8_isOrderQuestion_13 : decode cX8_isOrderQuestion 13 = .ok (.if_icmp .ge 7, 3) := by decide +kernel
theorem dX8_isOrderQuestion_16 : decode cX8_isOrderQuestion 16 = .ok (.iconst 1, 1) := by decide +kernel
theorem dX8_isOrderQuestion_17 : decode cX8_isOrderQuestion 17 = .ok (.goto 4, 3) := by decide +kernel
theorem dX8_isOrderQuestion_20 : decode cX8_isOrderQuestion 20 = .ok (.iconst 0, 1) := by decide +kernel
theorem dX8_isOrderQuestion_21 : decode cX8_isOrderQuestion 21 = .ok (.ireturn, 1) := by decide +kernel
theorem dX8_faulted_0 : decode cX8_faulted 0 = .ok (.aload_n 0, 1) := by decide +kernel
theorem dX8_faulted_1 : decode cX8_faulted 1 = .ok (.iload_n 1, 1) := by decide +kernel
theorem dX8_faulted_2 : decode cX8_faulted 2 = .ok (.putfield 46, 3) := by decide +kernel
theorem dX8_faulted_5 : decode cX8_faulted 5 = .ok (.bipush (-10), 2) := by decide +kernel
theorem dX8_faulted_7 : decode cX8_faulted 7 = .ok (.iload_n 1, 1) := by decide +kernel
theorem dX8_faulted_8 : decode cX8_faulted 8 = .ok (.isub, 1) := by decide +kernel
theorem dX8_faulted_9 : decode cX8_faulted 9 = .ok (.ireturn, 1) := by decide +kernel
theorem dX8_pick_0 : decode cX8_pick 0 = .ok (.iload_n 0, 1) := by decide +kernel
theorem dX8_pick_1 : decode cX8_pick 1 = .ok (.ifCond .ne 7, 3) := by decide +kernel
theorem dX8_pick_4 : decode cX8_pick 4 = .ok (.iload_n 1, 1) := by decide +kernel
theorem dX8_pick_5 : decode cX8_pick 5 = .ok (.goto 13, 3) := by decide +kernel
theorem dX8_pick_8 : decode cX8_pick 8 = .ok (.iload_n 0, 1) := by decide +kernel
theorem dX8_pick_9 : decode cX8_pick 9 = .ok (.iconst 1, 1) := by decide +kernel
theorem dX8_pick_10 : decode cX8_pick 10 = .ok (.if_icmp .ne 7, 3) := by decide +kernel
theorem dX8_pick_13 : decode cX8_pick 13 = .ok (.iload_n 2, 1) := by decide +kernel
theorem dX8_pick_14 : decode cX8_pick 14 = .ok (.goto 4, 3) := by decide +kernel
theorem dX8_pick_17 : decode cX8_pick 17 = .ok (.iload_n 3, 1) := by decide +kernel
theorem dX8_pick_18 : decode cX8_pick 18 = .ok (.ireturn, 1) := by decide +kernel
theorem dX8_commonDivisor_0 : decode cX8_commonDivisor 0 = .ok (.lload_n 0, 1) := by decide +kernel
theorem dX8_commonDivisor_1 : decode cX8_commonDivisor 1 = .ok (.lstore 4, 2) := by decide +kernel
theorem dX8_commonDivisor_3 : decode cX8_commonDivisor 3 = .ok (.lload_n 2, 1) := by decide +kernel
theorem dX8_commonDivisor_4 : decode cX8_commonDivisor 4 = .ok (.lstore 6, 2) := by decide +kernel
theorem dX8_commonDivisor_6 : decode cX8_commonDivisor 6 = .ok (.iconst 0, 1) := by decide +kernel
theorem dX8_commonDivisor_7 : decode cX8_commonDivisor 7 = .ok (.istore 8, 2) := by decide +kernel
theorem dX8_commonDivisor_9 : decode cX8_commonDivisor 9 = .ok (.iload 8, 2) := by decide +kernel
theorem dX8_commonDivisor_11 : decode cX8_commonDivisor 11 = .ok (.bipush 64, 2) := by decide +kernel
theorem dX8_commonDivisor_13 : decode cX8_commonDivisor 13 = .ok (.if_icmp .ge 31, 3) := by decide +kernel
theorem dX8_commonDivisor_16 : decode cX8_commonDivisor 16 = .ok (.lload 6, 2) := by decide +kernel
theorem dX8_commonDivisor_18 : decode cX8_commonDivisor 18 = .ok (.lconst 0, 1) := by decide +kernel
theorem dX8_commonDivisor_19 : decode cX8_commonDivisor 19 = .ok (.lcmp, 1) := by decide +kernel
theorem dX8_commonDivisor_20 : decode cX8_commonDivisor 20 = .ok (.ifCond .eq 24, 3) := by decide +kernel
theorem dX8_commonDivisor_23 : decode cX8_commonDivisor 23 = .ok (.lload 4, 2) := by decide +kernel
theorem dX8_commonDivisor_25 : decode cX8_commonDivisor 25 = .ok (.lload 6, 2) := by decide +kernel
theorem dX8_commonDivisor_27 : decode cX8_commonDivisor 27 = .ok (.lrem, 1) := by decide +kernel
theorem dX8_commonDivisor_28 : decode cX8_commonDivisor 28 = .ok (.lstore 9, 2) := by decide +kernel
theorem dX8_commonDivisor_30 : decode cX8_commonDivisor 30 = .ok (.lload 6, 2) := by decide +kernel
theorem dX8_commonDivisor_32 : decode cX8_commonDivisor 32 = .ok (.lstore 4, 2) := by decide +kernel
theorem dX8_commonDivisor_34 : decode cX8_commonDivisor 34 = .ok (.lload 9, 2) := by decide +kernel
theorem dX8_commonDivisor_36 : decode cX8_commonDivisor 36 = .ok (.lstore 6, 2) := by decide +kernel
theorem dX8_commonDivisor_38 : decode cX8_commonDivisor 38 = .ok (.iinc 8 1, 3) := by decide +kernel
theorem dX8_commonDivisor_41 : decode cX8_commonDivisor 41 = .ok (.goto (-32), 3) := by decide +kernel
theorem dX8_commonDivisor_44 : decode cX8_commonDivisor 44 = .ok (.lload 4, 2) := by decide +kernel
theorem dX8_commonDivisor_46 : decode cX8_commonDivisor 46 = .ok (.lreturn, 1) := by decide +kernel
theorem dX8_leave_0 : decode cX8_leave 0 = .ok (.aload_n 0, 1) := by decide +kernel
theorem dX8_leave_1 : decode cX8_leave 1 = .ok (.bipush 31, 2) := by decide +kernel
theorem dX8_leave_3 : decode cX8_leave 3 = .ok (.aload_n 0, 1) := by decide +kernel
theorem dX8_leave_4 : decode cX8_leave 4 = .ok (.getfield 247, 3) := by decide +kernel
theorem dX8_leave_7 : decode cX8_leave 7 = .ok (.imul, 1) := by decide +kernel
theorem dX8_leave_8 : decode cX8_leave 8 = .ok (.iload_n 1, 1) := by decide +kernel
theorem dX8_leave_9 : decode cX8_leave 9 = .ok (.iadd, 1) := by decide +kernel
theorem dX8_leave_10 : decode cX8_leave 10 = .ok (.putfield 247, 3) := by decide +kernel
theorem dX8_leave_13 : decode cX8_leave 13 = .ok (.return_, 1) := by decide +kernel
theorem dX8_fairBody_0 : decode cX8_fairBody 0 = .ok (.aload_n 0, 1) := by decide +kernel
theorem dX8_fairBody_1 : decode cX8_fairBody 1 = .ok (.iconst 1, 1) := by decide +kernel
theorem dX8_fairBody_2 : decode cX8_fairBody 2 = .ok (.invokevirtual 243, 3) := by decide +kernel
theorem dX8_fairBody_5 : decode cX8_fairBody 5 = .ok (.aload_n 1, 1) := by decide +kernel
theorem dX8_fairBody_6 : decode cX8_fairBody 6 = .ok (.getfield 89, 3) := by decide +kernel
theorem dX8_fairBody_9 : decode cX8_fairBody 9 = .ok (.ireturn, 1) := by decide +kernel
theorem dX8_mirroredBody_0 : decode cX8_mirroredBody 0 = .ok (.aload_n 0, 1) := by decide +kernel
theorem dX8_mirroredBody_1 : decode cX8_mirroredBody 1 = .ok (.iconst 2, 1) := by decide +kernel
theorem dX8_mirroredBody_2 : decode cX8_mirroredBody 2 = .ok (.invokevirtual 243, 3) := by decide +kernel
theorem dX8_mirroredBody_5 : decode cX8_mirroredBody 5 = .ok (.aload_n 0, 1) := by decide +kernel
theorem dX8_mirroredBody_6 : decode cX8_mirroredBody 6 = .ok (.aload_n 1, 1) := by decide +kernel
theorem dX8_mirroredBody_7 : decode cX8_mirroredBody 7 = .ok (.invokevirtual 240, 3) := by decide +kernel
theorem dX8_mirroredBody_10 : decode cX8_mirroredBody 10 = .ok (.bipush 100, 2) := by decide +kernel
theorem dX8_mirroredBody_12 : decode cX8_mirroredBody 12 = .ok (.iadd, 1) := by decide +kernel
theorem dX8_mirroredBody_13 : decode cX8_mirroredBody 13 = .ok (.ireturn, 1) := by decide +kernel
theorem dX8_turnedBody_0 : decode cX8_turnedBody 0 = .ok (.aload_n 0, 1) := by decide +kernel
theorem dX8_turnedBody_1 : decode cX8_turnedBody 1 = .ok (.iconst 3, 1) := by decide +kernel
theorem dX8_turnedBody_2 : decode cX8_turnedBody 2 = .ok (.invokevirtual 243, 3) := by decide +kernel
theorem dX8_turnedBody_5 : decode cX8_turnedBody 5 = .ok (.aload_n 0, 1) := by decide +kernel
theorem dX8_turnedBody_6 : decode cX8_turnedBody 6 = .ok (.aload_n 1, 1) := by decide +kernel
theorem dX8_turnedBody_7 : decode cX8_turnedBody 7 = .ok (.invokevirtual 237, 3) := by decide +kernel
theorem dX8_turnedBody_10 : decode cX8_turnedBody 10 = .ok (.istore_n 2, 1) := by decide +kernel
theorem dX8_turnedBody_11 : decode cX8_turnedBody 11 = .ok (.iload_n 2, 1) := by decide +kernel
theorem dX8_turnedBody_12 : decode cX8_turnedBody 12 = .ok (.aload_n 0, 1) := by decide +kernel
theorem dX8_turnedBody_13 : decode cX8_turnedBody 13 = .ok (.aload_n 1, 1) := by decide +kernel
theorem dX8_turnedBody_14 : decode cX8_turnedBody 14 = .ok (.invokevirtual 240, 3) := by decide +kernel
theorem dX8_turnedBody_17 : decode cX8_turnedBody 17 = .ok (.iadd, 1) := by decide +kernel
theorem dX8_turnedBody_18 : decode cX8_turnedBody 18 = .ok (.ireturn, 1) := by decide +kernel
theorem dX9_init_0 : decode cX9_init 0 = .ok (.aload_n 0, 1) := by decide +kernel
theorem dX9_init_1 : decode cX9_init 1 = .ok (.invokespecial 1, 3) := by decide +kernel
theorem dX9_init_4 : decode cX9_init 4 = .ok (.aload_n 0, 1) := by decide +kernel
theorem dX9_init_5 : decode cX9_init 5 = .ok (.iconst 4, 1) := by decide +kernel
theorem dX9_init_6 : decode cX9_init 6 = .ok (.newarray .int, 2) := by decide +kernel
theorem dX9_init_8 : decode cX9_init 8 = .ok (.putfield 7, 3) := by decide +kernel
theorem dX9_init_11 : decode cX9_init 11 = .ok (.aload_n 0, 1) := by decide +kernel
theorem dX9_init_12 : decode cX9_init 12 = .ok (.iconst 4, 1) := by decide +kernel
theorem dX9_init_13 : decode cX9_init 13 = .ok (.newarray .int, 2) := by decide +kernel
theorem dX9_init_15 : decode cX9_init 15 = .ok (.putfield 13, 3) := by decide +kernel
theorem dX9_init_18 : decode cX9_init 18 = .ok (.aload_n 0, 1) := by decide +kernel
theorem dX9_init_19 : decode cX9_init 19 = .ok (.iconst 4, 1) := by decide +kernel
theorem dX9_init_20 : decode cX9_init 20 = .ok (.newarray .int, 2) := by decide +kernel
theorem dX9_init_22 : decode cX9_init 22 = .ok (.putfield 16, 3) := by decide +kernel
theorem dX9_init_25 : decode cX9_init 25 = .ok (.aload_n 0, 1) := by decide +kernel
theorem dX9_init_26 : decode cX9_init 26 = .ok (.bipush 28, 2) := by decide +kernel
theorem dX9_init_28 : decode cX9_init 28 = .ok (.newarray .int, 2) := by decide +kernel
theorem dX9_init_30 : decode cX9_init 30 = .ok (.putfield 19, 3) := by decide +kernel
theorem dX9_init_33 : decode cX9_init 33 = .ok (.aload_n 0, 1) := by decide +kernel
theorem dX9_init_34 : decode cX9_init 34 = .ok (.iconst 4, 1) := by decide +kernel
theorem dX9_init_35 : decode cX9_init 35 = .ok (.newarray .int, 2) := by decide +kernel
theorem dX9_init_37 : decode cX9_init 37 = .ok (.putfield 22, 3) := by decide +kernel
theorem dX9_init_40 : decode cX9_init 40 = .ok (.aload_n 0, 1) := by decide +kernel
theorem dX9_init_41 : decode cX9_init 41 = .ok (.iconst 4, 1) := by decide +kernel
theorem dX9_init_42 : decode cX9_init 42 = .ok (.newarray .int, 2) := by decide +kernel
theorem dX9_init_44 : decode cX9_init 44 = .ok (.putfield 25, 3) := by decide +kernel
theorem dX9_init_47 : decode cX9_init 47 = .ok (.aload_n 0, 1) := by decide +kernel
theorem dX9_init_48 : decode cX9_init 48 = .ok (.iconst 4, 1) := by decide +kernel
theorem dX9_init_49 : decode cX9_init 49 = .ok (.newarray .int, 2) := by decide +kernel
theorem dX9_init_51 : decode cX9_init 51 = .ok (.putfield 28, 3) := by decide +kernel
theorem dX9_init_54 : decode cX9_init 54 = .ok (.aload_n 0, 1) := by decide +kernel
theorem dX9_init_55 : decode cX9_init 55 = .ok (.iconst 4, 1) := by decide +kernel
theorem dX9_init_56 : decode cX9_init 56 = .ok (.newarray .int, 2) := by decide +kernel
theorem dX9_init_58 : decode cX9_init 58 = .ok (.putfield 31, 3) := by decide +kernel
theorem dX9_init_61 : decode cX9_init 61 = .ok (.aload_n 0, 1) := by decide +kernel
theorem dX9_init_62 : decode cX9_init 62 = .ok (.bipush 28, 2) := by decide +kernel
theorem dX9_init_64 : decode cX9_init 64 = .ok (.newarray .int, 2) := by decide +kernel
theorem dX9_init_66 : decode cX9_init 66 = .ok (.putfield 34, 3) := by decide +kernel
theorem dX9_init_69 : decode cX9_init 69 = .ok (.aload_n 0, 1) := by decide +kernel
theorem dX9_init_70 : decode cX9_init 70 = .ok (.bipush 36, 2) := by decide +kernel
theorem dX9_init_72 : decode cX9_init 72 = .ok (.newarray .int, 2) := by decide +kernel
theorem dX9_init_74 : decode cX9_init 74 = .ok (.putfield 37, 3) := by decide +kernel
theorem dX9_init_77 : decode cX9_init 77 = .ok (.aload_n 0, 1) := by decide +kernel
theorem dX9_init_78 : decode cX9_init 78 = .ok (.bipush 6, 2) := by decide +kernel
theorem dX9_init_80 : decode cX9_init 80 = .ok (.newarray .int, 2) := by decide +kernel
theorem dX9_init_82 : decode cX9_init 82 = .ok (.putfield 40, 3) := by decide +kernel
theorem dX9_init_85 : decode cX9_init 85 = .ok (.aload_n 0, 1) := by decide +kernel
theorem dX9_init_86 : decode cX9_init 86 = .ok (.bipush 6, 2) := by decide +kernel
theorem dX9_init_88 : decode cX9_init 88 = .ok (.newarray .int, 2) := by decide +kernel
theorem dX9_init_90 : decode cX9_init 90 = .ok (.putfield 43, 3) := by decide +kernel
theorem dX9_init_93 : decode cX9_init 93 = .ok (.aload_n 0, 1) := by decide +kernel
theorem dX9_init_94 : decode cX9_init 94 = .ok (.bipush 8, 2) := by decide +kernel
theorem dX9_init_96 : decode cX9_init 96 = .ok (.newarray .int, 2) := by decide +kernel
theorem dX9_init_98 : decode cX9_init 98 = .ok (.putfield 46, 3) := by decide +kernel
theorem dX9_init_101 : decode cX9_init 101 = .ok (.aload_n 0, 1) := by decide +kernel
theorem dX9_init_102 : decode cX9_init 102 = .ok (.bipush 8, 2) := by decide +kernel
theorem dX9_init_104 : decode cX9_init 104 = .ok (.newarray .int, 2) := by decide +kernel
theorem dX9_init_106 : decode cX9_init 106 = .ok (.putfield 49, 3) := by decide +kernel
theorem dX9_init_109 : decode cX9_init 109 = .ok (.aload_n 0, 1) := by decide +kernel
theorem dX9_init_110 : decode cX9_init 110 = .ok (.bipush 8, 2) := by decide +kernel
theorem dX9_init_112 : decode cX9_init 112 = .ok (.newarray .int, 2) := by decide +kernel
theorem dX9_init_114 : decode cX9_init 114 = .ok (.putfield 52, 3) := by decide +kernel
theorem dX9_init_117 : decode cX9_init 117 = .ok (.aload_n 0, 1) := by decide +kernel
theorem dX9_init_118 : decode cX9_init 118 = .ok (.iconst 4, 1) := by decide +kernel
theorem dX9_init_119 : decode cX9_init 119 = .ok (.newarray .int, 2) := by decide +kernel
theorem dX9_init_121 : decode cX9_init 121 = .ok (.putfield 55, 3) := by decide +kernel
theorem dX9_init_124 : decode cX9_init 124 = .ok (.aload_n 0, 1) := by decide +kernel
theorem dX9_init_125 : decode cX9_init 125 = .ok (.iconst 4, 1) := by decide +kernel
theorem dX9_init_126 : decode cX9_init 126 = .ok (.newarray .int, 2) := by decide +kernel
theorem dX9_init_128 : decode cX9_init 128 = .ok (.putfield 58, 3) := by decide +kernel
theorem dX9_init_131 : decode cX9_init 131 = .ok (.aload_n 0, 1) := by decide +kernel
theorem dX9_init_132 : decode cX9_init 132 = .ok (.sipush 240, 3) := by decide +kernel
theorem dX9_init_135 : decode cX9_init 135 = .ok (.newarray .int, 2) := by decide +kernel
theorem dX9_init_137 : decode cX9_init 137 = .ok (.putfield 61, 3) := by decide +kernel
theorem dX9_init_140 : decode cX9_init 140 = .ok (.aload_n 0, 1) := by decide +kernel
theorem dX9_init_141 : decode cX9_init 141 = .ok (.bipush 60, 2) := by decide +kernel
theorem dX9_init_143 : decode cX9_init 143 = .ok (.newarray .int, 2) := by decide +kernel
theorem dX9_init_145 : decode cX9_init 145 = .ok (.putfield 64, 3) := by decide +kernel
theorem dX9_init_148 : decode cX9_init 148 = .ok (.iconst 0, 1) := by decide +kernel
theorem dX9_init_149 : decode cX9_init 149 = .ok (.istore_n 1, 1) := by decide +kernel
theorem dX9_init_150 : decode cX9_init 150 = .ok (.iload_n 1, 1) := by decide +kernel
theorem dX9_init_151 : decode cX9_init 151 = .ok (.iconst 4, 1) := by decide +kernel
theorem dX9_init_152 : decode cX9_init 152 = .ok (.if_icmp .ge 16, 3) := by decide +kernel
theorem dX9_init_155 : decode cX9_init 155 = .ok (.aload_n 0, 1) := by decide +kernel
theorem dX9_init_156 : decode cX9_init 156 = .ok (.getfield 55, 3) := by decide +kernel
theorem dX9_init_159 : decode cX9_init 159 = .ok (.iload_n 1, 1) := by decide +kernel
theorem dX9_init_160 : decode cX9_init 160 = .ok (.iconst (-1), 1) := by decide +kernel
theorem dX9_init_161 : decode cX9_init 161 = .ok (.iastore, 1) := by decide +kernel
theorem dX9_init_162 : decode cX9_init 162 = .ok (.iinc 1 1, 3) := by decide +kernel
theorem dX9_init_165 : decode cX9_init 165 = .ok (.goto (-15), 3) := by decide +kernel
theorem dX9_init_168 : decode cX9_init 168 = .ok (.return_, 1) := by decide +kernel
theorem dX9_in_0 : decode cX9_in 0 = .ok (.lload_n 0, 1) := by decide +kernel
theorem dX9_in_1 : decode cX9_in 1 = .ok (.lload_n 2, 1) := by decide +kernel
theorem dX9_in_2 : decode cX9_in 2 = .ok (.lcmp, 1) := by decide +kernel
theorem dX9_in_3 : decode cX9_in 3 = .ok (.ifCond .lt 14, 3) := by decide +kernel
theorem dX9_in_6 : decode cX9_in 6 = .ok (.lload_n 0, 1) := by decide +kernel
theorem dX9_in_7 : decode cX9_in 7 = .ok (.lload 4, 2) := by decide +kernel
theorem dX9_in_9 : decode cX9_in 9 = .ok (.lcmp, 1) := by decide +kernel
theorem dX9_in_10 : decode cX9_in 10 = .ok (.ifCond .gt 7, 3) := by decide +kernel
theorem dX9_in_13 : decode cX9_in 13 = .ok (.iconst 1, 1) := by decide +kernel
theorem dX9_in_14 : decode cX9_in 14 = .ok (.goto 4, 3) := by decide +kernel
theorem dX9_in_17 : decode cX9_in 17 = .ok (.iconst 0, 1) := by decide +kernel
theorem dX9_in_18 : decode cX9_in 18 = .ok (.ireturn, 1) := by decide +kernel
theorem dX9_lost_0 : decode cX9_lost 0 = .ok (.ldc2_w 67, 3) := by decide +kernel
theorem dX9_lost_3 : decode cX9_lost 3 = .ok (.lreturn, 1) := by decide +kernel
theorem dX9_isIn_0 : decode cX9_isIn 0 = .ok (.iload_n 0, 1) := by decide +kernel
theorem dX9_isIn_1 : decode cX9_isIn 1 = .ok (.iload_n 1, 1) := by decide +kernel
theorem dX9_isIn_2 : decode cX9_isIn 2 = .ok (.ishr, 1) := by decide +kernel
theorem dX9_isIn_3 : decode cX9_isIn 3 = .ok (.iconst 1, 1) := by decide +kernel
theorem dX9_isIn_4 : decode cX9_isIn 4 = .ok (.iand, 1) := by decide +kernel
theorem dX9_isIn_5 : decode cX9_isIn 5 = .ok (.iconst 1, 1) := by decide +kernel
theorem dX9_isIn_6 : decode cX9_isIn 6 = .ok (.if_icmp .ne 7, 3) := by decide +kernel
theorem dX9_isIn_9 : decode cX9_isIn 9 = .ok (.iconst 1, 1) := by decide +kernel
theorem dX9_isIn_10 : decode cX9_isIn 10 = .ok (.goto 4, 3) := by decide +kernel
theorem dX9_isIn_13 : decode cX9_isIn 13 = .ok (.iconst 0, 1) := by decide +kernel
theorem dX9_isIn_14 : decode cX9_isIn 14 = .ok (.ireturn, 1) := by decide +kernel
theorem dX9_bits_0 : decode cX9_bits 0 = .ok (.iconst 0, 1) := by decide +kernel
theorem dX9_bits_1 : decode cX9_bits 1 = .ok (.istore_n 1, 1) := by decide +kernel
theorem dX9_bits_2 : decode cX9_bits 2 = .ok (.iload_n 0, 1) := by decide +kernel
theorem dX9_bits_3 : decode cX9_bits 3 = .ok (.istore_n 2, 1) := by decide +kernel
theorem dX9_bits_4 : decode cX9_bits 4 = .ok (.iload_n 2, 1) := by decide +kernel
theorem dX9_bits_5 : decode cX9_bits 5 = .ok (.ifCond .le 16, 3) := by decide +kernel
theorem dX9_bits_8 : decode cX9_bits 8 = .ok (.iload_n 1, 1) := by decide +kernel
theorem dX9_bits_9 : decode cX9_bits 9 = .ok (.iload_n 2, 1) := by decide +kernel
theorem dX9_bits_10 : decode cX9_bits 10 = .ok (.iconst 1, 1) := by decide +kernel
theorem dX9_bits_11 : decode cX9_bits 11 = .ok (.iand, 1) := by decide +kernel
theorem dX9_bits_12 : decode cX9_bits 12 = .ok (.iadd, 1) := by decide +kernel
theorem dX9_bits_13 : decode cX9_bits 13 = .ok (.istore_n 1, 1) := by decide +kernel
theorem dX9_bits_14 : decode cX9_bits 14 = .ok (.iload_n 2, 1) := by decide +kernel
theorem dX9_bits_15 : decode cX9_bits 15 = .ok (.iconst 1, 1) := by decide +kernel
theorem dX9_bits_16 : decode cX9_bits 16 = .ok (.ishr, 1) := by decide +kernel
theorem dX9_bits_17 : decode cX9_bits 17 = .ok (.istore_n 2, 1) := by decide +kernel
theorem dX9_bits_18 : decode cX9_bits 18 = .ok (.goto (-14), 3) := by decide +kernel
theorem dX9_bits_21 : decode cX9_bits 21 = .ok (.iload_n 1, 1) := by decide +kernel
theorem dX9_bits_22 : decode cX9_bits 22 = .ok (.ireturn, 1) := by decide +kernel
theorem dX9_share_0 : decode cX9_share 0 = .ok (.lload_n 0, 1) := by decide +kernel
theorem dX9_share_1 : decode cX9_share 1 = .ok (.lstore 5, 2) := by decide +kernel
theorem dX9_share_3 : decode cX9_share 3 = .ok (.lload_n 2, 1) := by decide +kernel
theorem dX9_share_4 : decode cX9_share 4 = .ok (.lstore 7, 2) := by decide +kernel
theorem dX9_share_6 : decode cX9_share 6 = .ok (.lload 7, 2) := by decide +kernel
theorem dX9_share_8 : decode cX9_share 8 = .ok (.lconst 0, 1) := by decide +kernel
theorem dX9_share_9 : decode cX9_share 9 = .ok (.lcmp, 1) := by decide +kernel
theorem dX9_share_10 : decode cX9_share 10 = .ok (.ifCond .eq 21, 3) := by decide +kernel
theorem dX9_share_13 : decode cX9_share 13 = .ok (.lload 5, 2) := by decide +kernel
theorem dX9_share_15 : decode cX9_share 15 = .ok (.lload 7, 2) := by decide +kernel
theorem dX9_share_17 : decode cX9_share 17 = .ok (.lrem, 1) := by decide +kernel
theorem dX9_share_18 : decode cX9_share 18 = .ok (.lstore 9, 2) := by decide +kernel
theorem dX9_share_20 : decode cX9_share 20 = .ok (.lload 7, 2) := by decide +kernel
theorem dX9_share_22 : decode cX9_share 22 = .ok (.lstore 5, 2) := by decide +kernel
theorem dX9_share_24 : decode cX9_share 24 = .ok (.lload 9, 2) := by decide +kernel
theorem dX9_share_26 : decode cX9_share 26 = .ok (.lstore 7, 2) := by decide +kernel
theorem dX9_share_28 : decode cX9_share 28 = .ok (.goto (-22), 3) := by decide +kernel
theorem dX9_share_31 : decode cX9_share 31 = .ok (.iload 4, 2) := by decide +kernel
theorem dX9_share_33 : decode cX9_share 33 = .ok (.ifCond .ne 7, 3) := by decide +kernel
theorem dX9_share_36 : decode cX9_share 36 = .ok (.lload_n 0, 1) := by decide +kernel
theorem dX9_share_37 : decode cX9_share 37 = .ok (.goto 4, 3) := by decide +kernel
theorem dX9_share_40 : decode cX9_share 40 = .ok (.lload_n 2, 1) := by decide +kernel
theorem dX9_share_41 : decode cX9_share 41 = .ok (.lload 5, 2) := by decide +kernel
theorem dX9_share_43 : decode cX9_share 43 = .ok (.ldiv, 1) := by decide +kernel
theorem dX9_share_44 : decode cX9_share 44 = .ok (.lreturn, 1) := by decide +kernel
theorem dX9_refused_0 : decode cX9_refused 0 = .ok (.aload_n 0, 1) := by decide +kernel
theorem dX9_refused_1 : decode cX9_refused 1 = .ok (.iconst 0, 1) := by decide +kernel
theorem dX9_refused_2 : decode cX9_refused 2 = .ok (.putfield 69, 3) := by decide +kernel
theorem dX9_refused_5 : decode cX9_refused 5 = .ok (.iload_n 1, 1) := by decide +kernel
theorem dX9_refused_6 : decode cX9_refused 6 = .ok (.ireturn, 1) := by decide +kernel
theorem dX9_failed_0 : decode cX9_failed 0 = .ok (.aload_n 0, 1) := by decide +kernel
theorem dX9_failed_1 : decode cX9_failed 1 = .ok (.iload_n 1, 1) := by decide +kernel
theorem dX9_failed_2 : decode cX9_failed 2 = .ok (.putfield 69, 3) := by decide +kernel
theorem dX9_failed_5 : decode cX9_failed 5 = .ok (.bipush (-10), 2) := by decide +kernel
theorem dX9_failed_7 : decode cX9_failed 7 = .ok (.iload_n 1, 1) := by decide +kernel
theorem dX9_failed_8 : decode cX9_failed 8 = .ok (.isub, 1) := by decide +kernel
theorem dX9_failed_9 : decode cX9_failed 9 = .ok (.ireturn, 1) := by decide +kernel
theorem dX9_failedLong_0 : decode cX9_failedLong 0 = .ok (.aload_n 0, 1) := by decide +kernel
theorem dX9_failedLong_1 : decode cX9_failedLong 1 = .ok (.iload_n 1, 1) := by decide +kernel
theorem dX9_failedLong_2 : decode cX9_failedLong 2 = .ok (.putfield 69, 3) := by decide +kernel
theorem dX9_failedLong_5 : decode cX9_failedLong 5 = .ok (.invokestatic 73, 3) := by decide +kernel
theorem dX9_failedLong_8 : decode cX9_failedLong 8 = .ok (.lreturn, 1) := by decide +kernel
theorem dX9_noPlace_0 : decode cX9_noPlace 0 = .ok (.iload_n 1, 1) := by decide +kernel
theorem dX9_noPlace_1 : decode cX9_noPlace 1 = .ok (.i2l, 1) := by decide +kernel
theorem dX9_noPlace_2 : decode cX9_noPlace 2 = .ok (.lconst 0, 1) := by decide +kernel
theorem dX9_noPlace_3 : decode cX9_noPlace 3 = .ok (.aload_n 0, 1) := by decide +kernel
theorem dX9_noPlace_4 : decode cX9_noPlace 4 = .ok (.getfield 77, 3) := by decide +kernel
theorem dX9_noPlace_7 : decode cX9_noPlace 7 = .ok (.i2l, 1) := by decide +kernel
theorem dX9_noPlace_8 : decode cX9_noPlace 8 = .ok (.lconst 1, 1) := by decide +kernel
theorem dX9_noPlace_9 : decode cX9_noPlace 9 = .ok (.lsub, 1) := by decide +kernel
theorem dX9_noPlace_10 : decode cX9_noPlace 10 = .ok (.invokestatic 80, 3) := by decide +kernel
theorem dX9_noPlace_13 : decode cX9_noPlace 13 = .ok (.ifCond .ne 7, 3) := by decide +kernel
theorem dX9_noPlace_16 : decode cX9_noPlace 16 = .ok (.iconst 1, 1) := by decide +kernel
theorem dX9_noPlace_17 : decode cX9_noPlace 17 = .ok (.goto 4, 3) := by decide +kernel
theorem dX9_noPlace_20 : decode cX9_noPlace 20 = .ok (.iconst 0, 1) := by decide +kernel
theorem dX9_noPlace_21 : decode cX9_noPlace 21 = .ok (.ireturn, 1) := by decide +kernel
theorem dX9_codeAt_0 : decode cX9_codeAt 0 = .ok (.aload_n 0, 1) := by decide +kernel
theorem dX9_codeAt_1 : decode cX9_codeAt 1 = .ok (.getfield 84, 3) := by decide +kernel
theorem dX9_codeAt_4 : decode cX9_codeAt 4 = .ok (.iload_n 2, 1) := by decide +kernel
theorem dX9_codeAt_5 : decode cX9_codeAt 5 = .ok (.if_icmp .ge 17, 3) := by decide +kernel
theorem dX9_codeAt_8 : decode cX9_codeAt 8 = .ok (.aload_n 0, 1) := by decide +kernel
theorem dX9_codeAt_9 : decode cX9_codeAt 9 = .ok (.getfield 61, 3) := by decide +kernel
theorem dX9_codeAt_12 : decode cX9_codeAt 12 = .ok (.iload_n 1, 1) := by decide +kernel
theorem dX9_codeAt_13 : decode cX9_codeAt 13 = .ok (.aload_n 0, 1) := by decide +kernel
theorem dX9_codeAt_14 : decode cX9_codeAt 14 = .ok (.getfield 84, 3) := by decide +kernel
theorem dX9_codeAt_17 : decode cX9_codeAt 17 = .ok (.iadd, 1) := by decide +kernel
theorem dX9_codeAt_18 : decode cX9_codeAt 18 = .ok (.iaload, 1) := by decide +kernel
theorem dX9_codeAt_19 : decode cX9_codeAt 19 = .ok (.goto 5, 3) := by decide +kernel
theorem dX9_codeAt_22 : decode cX9_codeAt 22 = .ok (.bipush (-9), 2) := by decide +kernel
theorem dX9_codeAt_24 : decode cX9_codeAt 24 = .ok (.ireturn, 1) := by decide +kernel
theorem dX9_figure_0 : decode cX9_figure 0 = .ok (.iload_n 3, 1) := by decide +kernel
theorem dX9_figure_1 : decode cX9_figure 1 = .ok (.ifCond .ge 8, 3) := by decide +kernel
theorem dX9_figure_4 : decode cX9_figure 4 = .ok (.bipush (-9), 2) := by decide +kernel
theorem dX9_figure_6 : decode cX9_figure 6 = .ok (.goto 12, 3) := by decide +kernel
theorem dX9_figure_9 : decode cX9_figure 9 = .ok (.aload_n 0, 1) := by decide +kernel
theorem dX9_figure_10 : decode cX9_figure 10 = .ok (.iload_n 1, 1) := by decide +kernel
theorem dX9_figure_11 : decode cX9_figure 11 = .ok (.iload_n 2, 1) := by decide +kernel
theorem dX9_figure_12 : decode cX9_figure 12 = .ok (.invokevirtual 87, 3) := by decide +kernel
theorem dX9_figure_15 : decode cX9_figure 15 = .ok (.bipush 48, 2) := by decide +kernel
theorem dX9_figure_17 : decode cX9_figure 17 = .ok (.isub, 1) := by decide +kernel
theorem dX9_figure_18 : decode cX9_figure 18 = .ok (.istore 6, 2) := by decide +kernel
theorem dX9_figure_20 : decode cX9_figure 20 = .ok (.iload 6, 2) := by decide +kernel
theorem dX9_figure_22 : decode cX9_figure 22 = .ok (.i2l, 1) := by decide +kernel
theorem dX9_figure_23 : decode cX9_figure 23 = .ok (.iload 4, 2) := by decide +kernel
theorem dX9_figure_25 : decode cX9_figure 25 = .ok (.i2l, 1) := by decide +kernel
theorem dX9_figure_26 : decode cX9_figure 26 = .ok (.iload 5, 2) := by decide +kernel
theorem dX9_figure_28 : decode cX9_figure 28 = .ok (.i2l, 1) := by decide +kernel
theorem dX9_figure_29 : decode cX9_figure 29 = .ok (.invokestatic 80, 3) := by decide +kernel
theorem dX9_figure_32 : decode cX9_figure 32 = .ok (.istore 7, 2) := by decide +kernel
theorem dX9_figure_34 : decode cX9_figure 34 = .ok (.aload_n 0, 1) := by decide +kernel
theorem dX9_figure_35 : decode cX9_figure 35 = .ok (.dup, 1) := by decide +kernel
theorem dX9_figure_36 : decode cX9_figure 36 = .ok (.getfield 84, 3) := by decide +kernel
theorem dX9_figure_39 : decode cX9_figure 39 = .ok (.iload 7, 2) := by decide +kernel
theorem dX9_figure_41 : decode cX9_figure 41 = .ok (.ifCond .eq 7, 3) := by decide +kernel
theorem dX9_figure_44 : decode cX9_figure 44 = .ok (.iconst 1, 1) := by decide +kernel
theorem dX9_figure_45 : decode cX9_figure 45 = .ok (.goto 4, 3) := by decide +kernel
theorem dX9_figure_48 : decode cX9_figure 48 = .ok (.iconst 0, 1) := by decide +kernel
theorem dX9_figure_49 : decode cX9_figure 49 = .ok (.iadd, 1) := by decide +kernel
theorem dX9_figure_50 : decode cX9_figure 50 = .ok (.putfield 84, 3) := by decide +kernel
theorem dX9_figure_53 : decode cX9_figure 53 = .ok (.iload 7, 2) := by decide +kernel
theorem dX9_figure_55 : decode cX9_figure 55 = .ok (.ifCond .eq 8, 3) := by decide +kernel
theorem dX9_figure_58 : decode cX9_figure 58 = .ok (.iload 6, 2) := by decide +kernel
theorem dX9_figure_60 : decode cX9_figure 60 = .ok (.goto 5, 3) := by decide +kernel
theorem dX9_figure_63 : decode cX9_figure 63 = .ok (.bipush (-9), 2) := by decide +kernel
theorem dX9_figure_65 : decode cX9_figure 65 = .ok (.ireturn, 1) := by decide +kernel
theorem dX9_barsRead_0 : decode cX9_barsRead 0 = .ok (.aload_n 0, 1) := by decide +kernel
theorem dX9_barsRead_1 : decode cX9_barsRead 1 = .ok (.iload_n 1, 1) := by decide +kernel
theorem dX9_barsRead_2 : decode cX9_barsRead 2 = .ok (.iload_n 2, 1) := by decide +kernel
theorem dX9_barsRead_3 : decode cX9_barsRead 3 = .ok (.iconst 0, 1) := by decide +kernel
theorem dX9_barsRead_4 : decode cX9_barsRead 4 = .ok (.iconst 0, 1) := by decide +kernel
theorem dX9_barsRead_5 : decode cX9_barsRead 5 = .ok (.iconst 1, 1) := by decide +kernel
theorem dX9_barsRead_6 : decode cX9_barsRead 6 = .ok (.invokevirtual 91, 3) := by decide +kernel
theorem dX9_barsRead_9 : decode cX9_barsRead 9 = .ok (.istore_n 3, 1) := by decide +kernel
theorem dX9_barsRead_10 : decode cX9_barsRead 10 = .ok (.aload_n 0, 1) := by decide +kernel
theorem dX9_barsRead_11 : decode cX9_barsRead 11 = .ok (.iload_n 1, 1) := by decide +kernel
theorem dX9_barsRead_12 : decode cX9_barsRead 12 = .ok (.iload_n 2, 1) := by decide +kernel
theorem dX9_barsRead_13 : decode cX9_barsRead 13 = .ok (.iload_n 3, 1) := by decide +kernel
theorem dX9_barsRead_14 : decode cX9_barsRead 14 = .ok (.iconst 0, 1) := by decide +kernel
theorem dX9_barsRead_15 : decode cX9_barsRead 15 = .ok (.iload_n 3, 1) := by decide +kernel
theorem dX9_barsRead_16 : decode cX9_barsRead 16 = .ok (.iconst 1, 1) := by decide +kernel
theorem dX9_barsRead_17 : decode cX9_barsRead 17 = .ok (.if_icmp .ne 7, 3) := by decide +kernel
theorem dX9_barsRead_20 : decode cX9_barsRead 20 = .ok (.iconst 2, 1) := by decide +kernel
theorem dX9_barsRead_21 : decode cX9_barsRead 21 = .ok (.goto 5, 3) := by decide +kernel
theorem dX9_barsRead_24 : decode cX9_barsRead 24 = .ok (.bipush 9, 2) := by decide +kernel
theorem dX9_barsRead_26 : decode cX9_barsRead 26 = .ok (.invokevirtual 91, 3) := by decide +kernel
