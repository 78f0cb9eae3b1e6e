theorem dX5_init_5 : decode cX5_init 5 = .ok (.bipush 60, 2) := by decide +kernel
theorem dX5_init_7 : decode cX5_init 7 = .ok (.newarray .int, 2) := by decide +kernel
theorem dX5_init_9 : decode cX5_init 9 = .ok (.putfield 9, 3) := by decide +kernel
theorem dX5_init_12 : decode cX5_init 12 = .ok (.aload_n 0, 1) := by decide +kernel
theorem dX5_init_13 : decode cX5_init 13 = .ok (.iconst (-1), 1) := by decide +kernel
theorem dX5_init_14 : decode cX5_init 14 = .ok (.putfield 15, 3) := by decide +kernel
theorem dX5_init_17 : decode cX5_init 17 = .ok (.return_, 1) := by decide +kernel
theorem dX5_isNothing_0 : decode cX5_isNothing 0 = .ok (.aload_n 0, 1) := by decide +kernel
theorem dX5_isNothing_1 : decode cX5_isNothing 1 = .ok (.getfield 15, 3) := by decide +kernel
theorem dX5_isNothing_4 : decode cX5_isNothing 4 = .ok (.iconst (-1), 1) := by decide +kernel
theorem dX5_isNothing_5 : decode cX5_isNothing 5 = .ok (.if_icmp .ne 7, 3) := by decide +kernel
theorem dX5_isNothing_8 : decode cX5_isNothing 8 = .ok (.iconst 1, 1) := by decide +kernel
theorem dX5_isNothing_9 : decode cX5_isNothing 9 = .ok (.goto 4, 3) := by decide +kernel
theorem dX5_isNothing_12 : decode cX5_isNothing 12 = .ok (.iconst 0, 1) := by decide +kernel
theorem dX5_isNothing_13 : decode cX5_isNothing 13 = .ok (.ireturn, 1) := by decide +kernel
theorem dX5_renew_0 : decode cX5_renew 0 = .ok (.aload_n 0, 1) := by decide +kernel
theorem dX5_renew_1 : decode cX5_renew 1 = .ok (.iload_n 1, 1) := by decide +kernel
theorem dX5_renew_2 : decode cX5_renew 2 = .ok (.putfield 19, 3) := by decide +kernel
theorem dX5_renew_5 : decode cX5_renew 5 = .ok (.aload_n 0, 1) := by decide +kernel
theorem dX5_renew_6 : decode cX5_renew 6 = .ok (.iload_n 2, 1) := by decide +kernel
theorem dX5_renew_7 : decode cX5_renew 7 = .ok (.putfield 15, 3) := by decide +kernel
theorem dX5_renew_10 : decode cX5_renew 10 = .ok (.iconst 0, 1) := by decide +kernel
theorem dX5_renew_11 : decode cX5_renew 11 = .ok (.istore_n 3, 1) := by decide +kernel
theorem dX5_renew_12 : decode cX5_renew 12 = .ok (.iload_n 3, 1) := by decide +kernel
theorem dX5_renew_13 : decode cX5_renew 13 = .ok (.bipush 60, 2) := by decide +kernel
theorem dX5_renew_15 : decode cX5_renew 15 = .ok (.if_icmp .ge 16, 3) := by decide +kernel
theorem dX5_renew_18 : decode cX5_renew 18 = .ok (.aload_n 0, 1) := by decide +kernel
theorem dX5_renew_19 : decode cX5_renew 19 = .ok (.getfield 9, 3) := by decide +kernel
theorem dX5_renew_22 : decode cX5_renew 22 = .ok (.iload_n 3, 1) := by decide +kernel
theorem dX5_renew_23 : decode cX5_renew 23 = .ok (.iconst 0, 1) := by decide +kernel
theorem dX5_renew_24 : decode cX5_renew 24 = .ok (.iastore, 1) := by decide +kernel
theorem dX5_renew_25 : decode cX5_renew 25 = .ok (.iinc 3 1, 3) := by decide +kernel
theorem dX5_renew_28 : decode cX5_renew 28 = .ok (.goto (-16), 3) := by decide +kernel
theorem dX5_renew_31 : decode cX5_renew 31 = .ok (.return_, 1) := by decide +kernel
theorem dX5_dropRow_0 : decode cX5_dropRow 0 = .ok (.aload_n 0, 1) := by decide +kernel
theorem dX5_dropRow_1 : decode cX5_dropRow 1 = .ok (.invokevirtual 22, 3) := by decide +kernel
theorem dX5_dropRow_4 : decode cX5_dropRow 4 = .ok (.ifCond .ne 7, 3) := by decide +kernel
theorem dX5_dropRow_7 : decode cX5_dropRow 7 = .ok (.iconst 1, 1) := by decide +kernel
theorem dX5_dropRow_8 : decode cX5_dropRow 8 = .ok (.goto 4, 3) := by decide +kernel
theorem dX5_dropRow_11 : decode cX5_dropRow 11 = .ok (.iconst 0, 1) := by decide +kernel
theorem dX5_dropRow_12 : decode cX5_dropRow 12 = .ok (.istore_n 1, 1) := by decide +kernel
theorem dX5_dropRow_13 : decode cX5_dropRow 13 = .ok (.aload_n 0, 1) := by decide +kernel
theorem dX5_dropRow_14 : decode cX5_dropRow 14 = .ok (.iconst (-1), 1) := by decide +kernel
theorem dX5_dropRow_15 : decode cX5_dropRow 15 = .ok (.putfield 15, 3) := by decide +kernel
theorem dX5_dropRow_18 : decode cX5_dropRow 18 = .ok (.iload_n 1, 1) := by decide +kernel
theorem dX5_dropRow_19 : decode cX5_dropRow 19 = .ok (.ireturn, 1) := by decide +kernel
theorem dX5_hasCells_0 : decode cX5_hasCells 0 = .ok (.iconst 0, 1) := by decide +kernel
theorem dX5_hasCells_1 : decode cX5_hasCells 1 = .ok (.iload_n 1, 1) := by decide +kernel
theorem dX5_hasCells_2 : decode cX5_hasCells 2 = .ok (.if_icmp .gt 30, 3) := by decide +kernel
theorem dX5_hasCells_5 : decode cX5_hasCells 5 = .ok (.iconst 0, 1) := by decide +kernel
theorem dX5_hasCells_6 : decode cX5_hasCells 6 = .ok (.iload_n 2, 1) := by decide +kernel
theorem dX5_hasCells_7 : decode cX5_hasCells 7 = .ok (.if_icmp .gt 25, 3) := by decide +kernel
theorem dX5_hasCells_10 : decode cX5_hasCells 10 = .ok (.iload_n 1, 1) := by decide +kernel
theorem dX5_hasCells_11 : decode cX5_hasCells 11 = .ok (.aload_n 0, 1) := by decide +kernel
theorem dX5_hasCells_12 : decode cX5_hasCells 12 = .ok (.getfield 15, 3) := by decide +kernel
theorem dX5_hasCells_15 : decode cX5_hasCells 15 = .ok (.if_icmp .gt 17, 3) := by decide +kernel
theorem dX5_hasCells_18 : decode cX5_hasCells 18 = .ok (.iload_n 2, 1) := by decide +kernel
theorem dX5_hasCells_19 : decode cX5_hasCells 19 = .ok (.aload_n 0, 1) := by decide +kernel
theorem dX5_hasCells_20 : decode cX5_hasCells 20 = .ok (.getfield 15, 3) := by decide +kernel
theorem dX5_hasCells_23 : decode cX5_hasCells 23 = .ok (.iload_n 1, 1) := by decide +kernel
theorem dX5_hasCells_24 : decode cX5_hasCells 24 = .ok (.isub, 1) := by decide +kernel
theorem dX5_hasCells_25 : decode cX5_hasCells 25 = .ok (.if_icmp .gt 7, 3) := by decide +kernel
theorem dX5_hasCells_28 : decode cX5_hasCells 28 = .ok (.iconst 1, 1) := by decide +kernel
theorem dX5_hasCells_29 : decode cX5_hasCells 29 = .ok (.goto 4, 3) := by decide +kernel
theorem dX5_hasCells_32 : decode cX5_hasCells 32 = .ok (.iconst 0, 1) := by decide +kernel
theorem dX5_hasCells_33 : decode cX5_hasCells 33 = .ok (.ireturn, 1) := by decide +kernel
theorem dX5_faultOfCells_0 : decode cX5_faultOfCells 0 = .ok (.aload_n 0, 1) := by decide +kernel
theorem dX5_faultOfCells_1 : decode cX5_faultOfCells 1 = .ok (.invokevirtual 22, 3) := by decide +kernel
theorem dX5_faultOfCells_4 : decode cX5_faultOfCells 4 = .ok (.ifCond .eq 5, 3) := by decide +kernel
theorem dX5_faultOfCells_7 : decode cX5_faultOfCells 7 = .ok (.iconst 1, 1) := by decide +kernel
theorem dX5_faultOfCells_8 : decode cX5_faultOfCells 8 = .ok (.ireturn, 1) := by decide +kernel
theorem dX5_faultOfCells_9 : decode cX5_faultOfCells 9 = .ok (.aload_n 0, 1) := by decide +kernel
theorem dX5_faultOfCells_10 : decode cX5_faultOfCells 10 = .ok (.getfield 19, 3) := by decide +kernel
theorem dX5_faultOfCells_13 : decode cX5_faultOfCells 13 = .ok (.iload_n 1, 1) := by decide +kernel
theorem dX5_faultOfCells_14 : decode cX5_faultOfCells 14 = .ok (.if_icmp .eq 5, 3) := by decide +kernel
theorem dX5_faultOfCells_17 : decode cX5_faultOfCells 17 = .ok (.iconst 2, 1) := by decide +kernel
theorem dX5_faultOfCells_18 : decode cX5_faultOfCells 18 = .ok (.ireturn, 1) := by decide +kernel
theorem dX5_faultOfCells_19 : decode cX5_faultOfCells 19 = .ok (.iload_n 3, 1) := by decide +kernel
theorem dX5_faultOfCells_20 : decode cX5_faultOfCells 20 = .ok (.ifCond .ge 5, 3) := by decide +kernel
theorem dX5_faultOfCells_23 : decode cX5_faultOfCells 23 = .ok (.iconst 4, 1) := by decide +kernel
theorem dX5_faultOfCells_24 : decode cX5_faultOfCells 24 = .ok (.ireturn, 1) := by decide +kernel
theorem dX5_faultOfCells_25 : decode cX5_faultOfCells 25 = .ok (.aload_n 0, 1) := by decide +kernel
theorem dX5_faultOfCells_26 : decode cX5_faultOfCells 26 = .ok (.iload_n 2, 1) := by decide +kernel
theorem dX5_faultOfCells_27 : decode cX5_faultOfCells 27 = .ok (.iload_n 3, 1) := by decide +kernel
theorem dX5_faultOfCells_28 : decode cX5_faultOfCells 28 = .ok (.invokevirtual 26, 3) := by decide +kernel
theorem dX5_faultOfCells_31 : decode cX5_faultOfCells 31 = .ok (.ifCond .eq 7, 3) := by decide +kernel
theorem dX5_faultOfCells_34 : decode cX5_faultOfCells 34 = .ok (.iconst 0, 1) := by decide +kernel
theorem dX5_faultOfCells_35 : decode cX5_faultOfCells 35 = .ok (.goto 4, 3) := by decide +kernel
theorem dX5_faultOfCells_38 : decode cX5_faultOfCells 38 = .ok (.iconst 3, 1) := by decide +kernel
theorem dX5_faultOfCells_39 : decode cX5_faultOfCells 39 = .ok (.ireturn, 1) := by decide +kernel
theorem dX5_read_0 : decode cX5_read 0 = .ok (.iload_n 1, 1) := by decide +kernel
theorem dX5_read_1 : decode cX5_read 1 = .ok (.aload_n 0, 1) := by decide +kernel
theorem dX5_read_2 : decode cX5_read 2 = .ok (.getfield 15, 3) := by decide +kernel
theorem dX5_read_5 : decode cX5_read 5 = .ok (.invokestatic 30, 3) := by decide +kernel
theorem dX5_read_8 : decode cX5_read 8 = .ok (.ifCond .eq 12, 3) := by decide +kernel
theorem dX5_read_11 : decode cX5_read 11 = .ok (.aload_n 0, 1) := by decide +kernel
theorem dX5_read_12 : decode cX5_read 12 = .ok (.getfield 9, 3) := by decide +kernel
theorem dX5_read_15 : decode cX5_read 15 = .ok (.iload_n 1, 1) := by decide +kernel
theorem dX5_read_16 : decode cX5_read 16 = .ok (.iaload, 1) := by decide +kernel
theorem dX5_read_17 : decode cX5_read 17 = .ok (.goto 4, 3) := by decide +kernel
theorem dX5_read_20 : decode cX5_read 20 = .ok (.iconst 0, 1) := by decide +kernel
theorem dX5_read_21 : decode cX5_read 21 = .ok (.ireturn, 1) := by decide +kernel
theorem dX5_write_0 : decode cX5_write 0 = .ok (.iload_n 1, 1) := by decide +kernel
theorem dX5_write_1 : decode cX5_write 1 = .ok (.aload_n 0, 1) := by decide +kernel
theorem dX5_write_2 : decode cX5_write 2 = .ok (.getfield 15, 3) := by decide +kernel
theorem dX5_write_5 : decode cX5_write 5 = .ok (.invokestatic 30, 3) := by decide +kernel
theorem dX5_write_8 : decode cX5_write 8 = .ok (.ifCond .eq 35, 3) := by decide +kernel
theorem dX5_write_11 : decode cX5_write 11 = .ok (.aload_n 0, 1) := by decide +kernel
theorem dX5_write_12 : decode cX5_write 12 = .ok (.getfield 9, 3) := by decide +kernel
theorem dX5_write_15 : decode cX5_write 15 = .ok (.iload_n 1, 1) := by decide +kernel
theorem dX5_write_16 : decode cX5_write 16 = .ok (.aload_n 0, 1) := by decide +kernel
theorem dX5_write_17 : decode cX5_write 17 = .ok (.getfield 19, 3) := by decide +kernel
theorem dX5_write_20 : decode cX5_write 20 = .ok (.ifCond .ne 8, 3) := by decide +kernel
theorem dX5_write_23 : decode cX5_write 23 = .ok (.iload_n 2, 1) := by decide +kernel
theorem dX5_write_24 : decode cX5_write 24 = .ok (.i2b, 1) := by decide +kernel
theorem dX5_write_25 : decode cX5_write 25 = .ok (.goto 17, 3) := by decide +kernel
theorem dX5_write_28 : decode cX5_write 28 = .ok (.aload_n 0, 1) := by decide +kernel
theorem dX5_write_29 : decode cX5_write 29 = .ok (.getfield 19, 3) := by decide +kernel
theorem dX5_write_32 : decode cX5_write 32 = .ok (.iconst 1, 1) := by decide +kernel
theorem dX5_write_33 : decode cX5_write 33 = .ok (.if_icmp .ne 8, 3) := by decide +kernel
theorem dX5_write_36 : decode cX5_write 36 = .ok (.iload_n 2, 1) := by decide +kernel
theorem dX5_write_37 : decode cX5_write 37 = .ok (.i2s, 1) := by decide +kernel
theorem dX5_write_38 : decode cX5_write 38 = .ok (.goto 4, 3) := by decide +kernel
theorem dX5_write_41 : decode cX5_write 41 = .ok (.iload_n 2, 1) := by decide +kernel
theorem dX5_write_42 : decode cX5_write 42 = .ok (.iastore, 1) := by decide +kernel
theorem dX5_write_43 : decode cX5_write 43 = .ok (.return_, 1) := by decide +kernel
theorem dX5_takeCells_0 : decode cX5_takeCells 0 = .ok (.aload_n 1, 1) := by decide +kernel
theorem dX5_takeCells_1 : decode cX5_takeCells 1 = .ok (.iload_n 2, 1) := by decide +kernel
theorem dX5_takeCells_2 : decode cX5_takeCells 2 = .ok (.iload 4, 2) := by decide +kernel
theorem dX5_takeCells_4 : decode cX5_takeCells 4 = .ok (.invokevirtual 26, 3) := by decide +kernel
theorem dX5_takeCells_7 : decode cX5_takeCells 7 = .ok (.ifCond .eq 28, 3) := by decide +kernel
theorem dX5_takeCells_10 : decode cX5_takeCells 10 = .ok (.aload_n 0, 1) := by decide +kernel
theorem dX5_takeCells_11 : decode cX5_takeCells 11 = .ok (.iload_n 3, 1) := by decide +kernel
theorem dX5_takeCells_12 : decode cX5_takeCells 12 = .ok (.iload 4, 2) := by decide +kernel
theorem dX5_takeCells_14 : decode cX5_takeCells 14 = .ok (.invokevirtual 26, 3) := by decide +kernel
theorem dX5_takeCells_17 : decode cX5_takeCells 17 = .ok (.ifCond .eq 18, 3) := by decide +kernel
theorem dX5_takeCells_20 : decode cX5_takeCells 20 = .ok (.aload_n 1, 1) := by decide +kernel
theorem dX5_takeCells_21 : decode cX5_takeCells 21 = .ok (.getfield 9, 3) := by decide +kernel
theorem dX5_takeCells_24 : decode cX5_takeCells 24 = .ok (.iload_n 2, 1) := by decide +kernel
theorem dX5_takeCells_25 : decode cX5_takeCells 25 = .ok (.aload_n 0, 1) := by decide +kernel
theorem dX5_takeCells_26 : decode cX5_takeCells 26 = .ok (.getfield 9, 3) := by decide +kernel
theorem dX5_takeCells_29 : decode cX5_takeCells 29 = .ok (.iload_n 3, 1) := by decide +kernel
theorem dX5_takeCells_30 : decode cX5_takeCells 30 = .ok (.iload 4, 2) := by decide +kernel
theorem dX5_takeCells_32 : decode cX5_takeCells 32 = .ok (.invokestatic 33, 3) := by decide +kernel
theorem dX5_takeCells_35 : decode cX5_takeCells 35 = .ok (.return_, 1) := by decide +kernel
theorem dX6_init_0 : decode cX6_init 0 = .ok (.aload_n 0, 1) := by decide +kernel
theorem dX6_init_1 : decode cX6_init 1 = .ok (.invokespecial 3, 3) := by decide +kernel
theorem dX6_init_4 : decode cX6_init 4 = .ok (.aload_n 0, 1) := by decide +kernel
theorem dX6_init_5 : decode cX6_init 5 = .ok (.bipush 40, 2) := by decide +kernel
theorem dX6_init_7 : decode cX6_init 7 = .ok (.newarray .int, 2) := by decide +kernel
theorem dX6_init_9 : decode cX6_init 9 = .ok (.putfield 9, 3) := by decide +kernel
theorem dX6_init_12 : decode cX6_init 12 = .ok (.return_, 1) := by decide +kernel
theorem dX6_fill_0 : decode cX6_fill 0 = .ok (.aload_n 0, 1) := by decide +kernel
theorem dX6_fill_1 : decode cX6_fill 1 = .ok (.iload 4, 2) := by decide +kernel
theorem dX6_fill_3 : decode cX6_fill 3 = .ok (.putfield 15, 3) := by decide +kernel
theorem dX6_fill_6 : decode cX6_fill 6 = .ok (.iconst 0, 1) := by decide +kernel
theorem dX6_fill_7 : decode cX6_fill 7 = .ok (.istore 5, 2) := by decide +kernel
theorem dX6_fill_9 : decode cX6_fill 9 = .ok (.iconst 0, 1) := by decide +kernel
theorem dX6_fill_10 : decode cX6_fill 10 = .ok (.istore 6, 2) := by decide +kernel
theorem dX6_fill_12 : decode cX6_fill 12 = .ok (.iload 6, 2) := by decide +kernel
theorem dX6_fill_14 : decode cX6_fill 14 = .ok (.iload 4, 2) := by decide +kernel
theorem dX6_fill_16 : decode cX6_fill 16 = .ok (.aload_n 1, 1) := by decide +kernel
theorem dX6_fill_17 : decode cX6_fill 17 = .ok (.getfield 19, 3) := by decide +kernel
theorem dX6_fill_20 : decode cX6_fill 20 = .ok (.imul, 1) := by decide +kernel
theorem dX6_fill_21 : decode cX6_fill 21 = .ok (.if_icmp .ge 82, 3) := by decide +kernel
theorem dX6_fill_24 : decode cX6_fill 24 = .ok (.iload 6, 2) := by decide +kernel
theorem dX6_fill_26 : decode cX6_fill 26 = .ok (.aload_n 0, 1) := by decide +kernel
theorem dX6_fill_27 : decode cX6_fill 27 = .ok (.getfield 9, 3) := by decide +kernel
theorem dX6_fill_30 : decode cX6_fill 30 = .ok (.arraylength, 1) := by decide +kernel
theorem dX6_fill_31 : decode cX6_fill 31 = .ok (.if_icmp .ge 72, 3) := by decide +kernel
theorem dX6_fill_34 : decode cX6_fill 34 = .ok (.aload_n 2, 1) := by decide +kernel
theorem dX6_fill_35 : decode cX6_fill 35 = .ok (.iload_n 3, 1) := by decide +kernel
theorem dX6_fill_36 : decode cX6_fill 36 = .ok (.iload 6, 2) := by decide +kernel
theorem dX6_fill_38 : decode cX6_fill 38 = .ok (.iadd, 1) := by decide +kernel
theorem dX6_fill_39 : decode cX6_fill 39 = .ok (.invokevirtual 24, 3) := by decide +kernel
theorem dX6_fill_42 : decode cX6_fill 42 = .ok (.istore 7, 2) := by decide +kernel
theorem dX6_fill_44 : decode cX6_fill 44 = .ok (.iload 7, 2) := by decide +kernel
theorem dX6_fill_46 : decode cX6_fill 46 = .ok (.sipush 128, 3) := by decide +kernel
theorem dX6_fill_49 : decode cX6_fill 49 = .ok (.invokestatic 30, 3) := by decide +kernel
theorem dX6_fill_52 : decode cX6_fill 52 = .ok (.ifCond .ne 5, 3) := by decide +kernel
theorem dX6_fill_55 : decode cX6_fill 55 = .ok (.iconst 0, 1) := by decide +kernel
theorem dX6_fill_56 : decode cX6_fill 56 = .ok (.ireturn, 1) := by decide +kernel
theorem dX6_fill_57 : decode cX6_fill 57 = .ok (.aload_n 0, 1) := by decide +kernel
theorem dX6_fill_58 : decode cX6_fill 58 = .ok (.getfield 9, 3) := by decide +kernel
theorem dX6_fill_61 : decode cX6_fill 61 = .ok (.iload 6, 2) := by decide +kernel
theorem dX6_fill_63 : decode cX6_fill 63 = .ok (.aload_n 1, 1) := by decide +kernel
theorem dX6_fill_64 : decode cX6_fill 64 = .ok (.getfield 34, 3) := by decide +kernel
theorem dX6_fill_67 : decode cX6_fill 67 = .ok (.iload 5, 2) := by decide +kernel
theorem dX6_fill_69 : decode cX6_fill 69 = .ok (.aaload, 1) := by decide +kernel
theorem dX6_fill_70 : decode cX6_fill 70 = .ok (.iload 7, 2) := by decide +kernel
theorem dX6_fill_72 : decode cX6_fill 72 = .ok (.invokevirtual 38, 3) := by decide +kernel
theorem dX6_fill_75 : decode cX6_fill 75 = .ok (.iastore, 1) := by decide +kernel
theorem dX6_fill_76 : decode cX6_fill 76 = .ok (.iload 5, 2) := by decide +kernel
theorem dX6_fill_78 : decode cX6_fill 78 = .ok (.iconst 1, 1) := by decide +kernel
theorem dX6_fill_79 : decode cX6_fill 79 = .ok (.iadd, 1) := by decide +kernel
theorem dX6_fill_80 : decode cX6_fill 80 = .ok (.aload_n 1, 1) := by decide +kernel
theorem dX6_fill_81 : decode cX6_fill 81 = .ok (.getfield 19, 3) := by decide +kernel
theorem dX6_fill_84 : decode cX6_fill 84 = .ok (.if_icmp .ge 10, 3) := by decide +kernel
theorem dX6_fill_87 : decode cX6_fill 87 = .ok (.iload 5, 2) := by decide +kernel
theorem dX6_fill_89 : decode cX6_fill 89 = .ok (.iconst 1, 1) := by decide +kernel
theorem dX6_fill_90 : decode cX6_fill 90 = .ok (.iadd, 1) := by decide +kernel
theorem dX6_fill_91 : decode cX6_fill 91 = .ok (.goto 4, 3) := by decide +kernel
theorem dX6_fill_94 : decode cX6_fill 94 = .ok (.iconst 0, 1) := by decide +kernel
theorem dX6_fill_95 : decode cX6_fill 95 = .ok (.istore 5, 2) := by decide +kernel
theorem dX6_fill_97 : decode cX6_fill 97 = .ok (.iinc 6 1, 3) := by decide +kernel
theorem dX6_fill_100 : decode cX6_fill 100 = .ok (.goto (-88), 3) := by decide +kernel
theorem dX6_fill_103 : decode cX6_fill 103 = .ok (.iconst 1, 1) := by decide +kernel
theorem dX6_fill_104 : decode cX6_fill 104 = .ok (.ireturn, 1) := by decide +kernel
theorem dX6_begins_0 : decode cX6_begins 0 = .ok (.iconst 0, 1) := by decide +kernel
theorem dX6_begins_1 : decode cX6_begins 1 = .ok (.istore 4, 2) := by decide +kernel
theorem dX6_begins_3 : decode cX6_begins 3 = .ok (.bipush (-9), 2) := by decide +kernel
theorem dX6_begins_5 : decode cX6_begins 5 = .ok (.istore 5, 2) := by decide +kernel
theorem dX6_begins_7 : decode cX6_begins 7 = .ok (.bipush (-9), 2) := by decide +kernel
theorem dX6_begins_9 : decode cX6_begins 9 = .ok (.istore 6, 2) := by decide +kernel
theorem dX6_begins_11 : decode cX6_begins 11 = .ok (.iconst 0, 1) := by decide +kernel
theorem dX6_begins_12 : decode cX6_begins 12 = .ok (.istore 7, 2) := by decide +kernel
theorem dX6_begins_14 : decode cX6_begins 14 = .ok (.iload 7, 2) := by decide +kernel
theorem dX6_begins_16 : decode cX6_begins 16 = .ok (.aload_n 1, 1) := by decide +kernel
theorem dX6_begins_17 : decode cX6_begins 17 = .ok (.getfield 43, 3) := by decide +kernel
theorem dX6_begins_20 : decode cX6_begins 20 = .ok (.if_icmp .gt 41, 3) := by decide +kernel
theorem dX6_begins_23 : decode cX6_begins 23 = .ok (.aload_n 0, 1) := by decide +kernel
theorem dX6_begins_24 : decode cX6_begins 24 = .ok (.aload_n 1, 1) := by decide +kernel
theorem dX6_begins_25 : decode cX6_begins 25 = .ok (.iload 7, 2) := by decide +kernel
theorem dX6_begins_27 : decode cX6_begins 27 = .ok (.iload_n 2, 1) := by decide +kernel
theorem dX6_begins_28 : decode cX6_begins 28 = .ok (.invokevirtual 46, 3) := by decide +kernel
theorem dX6_begins_31 : decode cX6_begins 31 = .ok (.ifCond .eq 24, 3) := by decide +kernel
theorem dX6_begins_34 : decode cX6_begins 34 = .ok (.iload 4, 2) := by decide +kernel
theorem dX6_begins_36 : decode cX6_begins 36 = .ok (.ifCond .ne 8, 3) := by decide +kernel
theorem dX6_begins_39 : decode cX6_begins 39 = .ok (.iload 7, 2) := by decide +kernel
theorem dX6_begins_41 : decode cX6_begins 41 = .ok (.goto 5, 3) := by decide +kernel
theorem dX6_begins_44 : decode cX6_begins 44 = .ok (.iload 5, 2) := by decide +kernel
theorem dX6_begins_46 : decode cX6_begins 46 = .ok (.istore 5, 2) := by decide +kernel
theorem dX6_begins_48 : decode cX6_begins 48 = .ok (.iload 7, 2) := by decide +kernel
theorem dX6_begins_50 : decode cX6_begins 50 = .ok (.istore 6, 2) := by decide +kernel
theorem dX6_begins_52 : decode cX6_begins 52 = .ok (.iinc 4 1, 3) := by decide +kernel
theorem dX6_begins_55 : decode cX6_begins 55 = .ok (.iinc 7 1, 3) := by decide +kernel
theorem dX6_begins_58 : decode cX6_begins 58 = .ok (.goto (-44), 3) := by decide +kernel
theorem dX6_begins_61 : decode cX6_begins 61 = .ok (.iload_n 3, 1) := by decide +kernel
theorem dX6_begins_62 : decode cX6_begins 62 = .ok (.iload 4, 2) := by decide +kernel
theorem dX6_begins_64 : decode cX6_begins 64 = .ok (.iload 5, 2) := by decide +kernel
theorem dX6_begins_66 : decode cX6_begins 66 = .ok (.iload 6, 2) := by decide +kernel
theorem dX6_begins_68 : decode cX6_begins 68 = .ok (.invokestatic 50, 3) := by decide +kernel
theorem dX6_begins_71 : decode cX6_begins 71 = .ok (.ireturn, 1) := by decide +kernel
theorem dX6_isBegin_0 : decode cX6_isBegin 0 = .ok (.iload_n 2, 1) := by decide +kernel
theorem dX6_isBegin_1 : decode cX6_isBegin 1 = .ok (.istore 4, 2) := by decide +kernel
theorem dX6_isBegin_3 : decode cX6_isBegin 3 = .ok (.iconst 0, 1) := by decide +kernel
theorem dX6_isBegin_4 : decode cX6_isBegin 4 = .ok (.istore 5, 2) := by decide +kernel
theorem dX6_isBegin_6 : decode cX6_isBegin 6 = .ok (.iload 5, 2) := by decide +kernel
theorem dX6_isBegin_8 : decode cX6_isBegin 8 = .ok (.aload_n 0, 1) := by decide +kernel
theorem dX6_isBegin_9 : decode cX6_isBegin 9 = .ok (.getfield 15, 3) := by decide +kernel
theorem dX6_isBegin_12 : decode cX6_isBegin 12 = .ok (.if_icmp .ge 41, 3) := by decide +kernel
theorem dX6_isBegin_15 : decode cX6_isBegin 15 = .ok (.iload 4, 2) := by decide +kernel
theorem dX6_isBegin_17 : decode cX6_isBegin 17 = .ok (.aload_n 1, 1) := by decide +kernel
theorem dX6_isBegin_18 : decode cX6_isBegin 18 = .ok (.getfield 43, 3) := by decide +kernel
theorem dX6_isBegin_21 : decode cX6_isBegin 21 = .ok (.if_icmp .gt 18, 3) := by decide +kernel
theorem dX6_isBegin_24 : decode cX6_isBegin 24 = .ok (.aload_n 0, 1) := by decide +kernel
theorem dX6_isBegin_25 : decode cX6_isBegin 25 = .ok (.aload_n 1, 1) := by decide +kernel
theorem dX6_isBegin_26 : decode cX6_isBegin 26 = .ok (.getfield 19, 3) := by decide +kernel
theorem dX6_isBegin_29 : decode cX6_isBegin 29 = .ok (.iload 5, 2) := by decide +kernel
theorem dX6_isBegin_31 : decode cX6_isBegin 31 = .ok (.iload 4, 2) := by decide +kernel
theorem dX6_isBegin_33 : decode cX6_isBegin 33 = .ok (.invokevirtual 54, 3) := by decide +kernel
theorem dX6_isBegin_36 : decode cX6_isBegin 36 = .ok (.ifCond .ne 5, 3) := by decide +kernel
theorem dX6_isBegin_39 : decode cX6_isBegin 39 = .ok (.iconst 0, 1) := by decide +kernel
theorem dX6_isBegin_40 : decode cX6_isBegin 40 = .ok (.ireturn, 1) := by decide +kernel
theorem dX6_isBegin_41 : decode cX6_isBegin 41 = .ok (.iload 4, 2) := by decide +kernel
theorem dX6_isBegin_43 : decode cX6_isBegin 43 = .ok (.iload_n 3, 1) := by decide +kernel
theorem dX6_isBegin_44 : decode cX6_isBegin 44 = .ok (.iadd, 1) := by decide +kernel
theorem dX6_isBegin_45 : decode cX6_isBegin 45 = .ok (.istore 4, 2) := by decide +kernel
theorem dX6_isBegin_47 : decode cX6_isBegin 47 = .ok (.iinc 5 1, 3) := by decide +kernel
theorem dX6_isBegin_50 : decode cX6_isBegin 50 = .ok (.goto (-44), 3) := by decide +kernel
theorem dX6_isBegin_53 : decode cX6_isBegin 53 = .ok (.iconst 1, 1) := by decide +kernel
theorem dX6_isBegin_54 : decode cX6_isBegin 54 = .ok (.ireturn, 1) := by decide +kernel
theorem dX6_isRow_0 : decode cX6_isRow 0 = .ok (.iload_n 3, 1) := by decide +kernel
theorem dX6_isRow_1 : decode cX6_isRow 1 = .ok (.istore 4, 2) := by decide +kernel
theorem dX6_isRow_3 : decode cX6_isRow 3 = .ok (.iload_n 1, 1) := by decide +kernel
theorem dX6_isRow_4 : decode cX6_isRow 4 = .ok (.iconst 1, 1) := by decide +kernel
theorem dX6_isRow_5 : decode cX6_isRow 5 = .ok (.isub, 1) := by decide +kernel
theorem dX6_isRow_6 : decode cX6_isRow 6 = .ok (.istore 5, 2) := by decide +kernel
theorem dX6_isRow_8 : decode cX6_isRow 8 = .ok (.iload 5, 2) := by decide +kernel
theorem dX6_isRow_10 : decode cX6_isRow 10 = .ok (.ifCond .lt 57, 3) := by decide +kernel
theorem dX6_isRow_13 : decode cX6_isRow 13 = .ok (.iload_n 2, 1) := by decide +kernel
theorem dX6_isRow_14 : decode cX6_isRow 14 = .ok (.iload_n 1, 1) := by decide +kernel
theorem dX6_isRow_15 : decode cX6_isRow 15 = .ok (.imul, 1) := by decide +kernel
theorem dX6_isRow_16 : decode cX6_isRow 16 = .ok (.iload 5, 2) := by decide +kernel
theorem dX6_isRow_18 : decode cX6_isRow 18 = .ok (.iadd, 1) := by decide +kernel
theorem dX6_isRow_19 : decode cX6_isRow 19 = .ok (.istore 6, 2) := by decide +kernel
theorem dX6_isRow_21 : decode cX6_isRow 21 = .ok (.iload 6, 2) := by decide +kernel
theorem dX6_isRow_23 : decode cX6_isRow 23 = .ok (.aload_n 0, 1) := by decide +kernel
theorem dX6_isRow_24 : decode cX6_isRow 24 = .ok (.getfield 9, 3) := by decide +kernel
theorem dX6_isRow_27 : decode cX6_isRow 27 = .ok (.arraylength, 1) := by decide +kernel
theorem dX6_isRow_28 : decode cX6_isRow 28 = .ok (.invokestatic 30, 3) := by decide +kernel
theorem dX6_isRow_31 : decode cX6_isRow 31 = .ok (.ifCond .eq 21, 3) := by decide +kernel
theorem dX6_isRow_34 : decode cX6_isRow 34 = .ok (.aload_n 0, 1) := by decide +kernel
theorem dX6_isRow_35 : decode cX6_isRow 35 = .ok (.getfield 9, 3) := by decide +kernel
theorem dX6_isRow_38 : decode cX6_isRow 38 = .ok (.iload 6, 2) := by decide +kernel
theorem dX6_isRow_40 : decode cX6_isRow 40 = .ok (.iaload, 1) := by decide +kernel
theorem dX6_isRow_41 : decode cX6_isRow 41 = .ok (.iload 4, 2) := by decide +kernel
theorem dX6_isRow_43 : decode cX6_isRow 43 = .ok (.bipush 10, 2) := by decide +kernel
theorem dX6_isRow_45 : decode cX6_isRow 45 = .ok (.irem, 1) := by decide +kernel
theorem dX6_isRow_46 : decode cX6_isRow 46 = .ok (.ishr, 1) := by decide +kernel
theorem dX6_isRow_47 : decode cX6_isRow 47 = .ok (.iconst 1, 1) := by decide +kernel
theorem dX6_isRow_48 : decode cX6_isRow 48 = .ok (.iand, 1) := by decide +kernel
theorem dX6_isRow_49 : decode cX6_isRow 49 = .ok (.ifCond .ne 5, 3) := by decide +kernel
theorem dX6_isRow_52 : decode cX6_isRow 52 = .ok (.iconst 0, 1) := by decide +kernel
theorem dX6_isRow_53 : decode cX6_isRow 53 = .ok (.ireturn, 1) := by decide +kernel
theorem dX6_isRow_54 : decode cX6_isRow 54 = .ok (.iload 4, 2) := by decide +kernel
theorem dX6_isRow_56 : decode cX6_isRow 56 = .ok (.bipush 10, 2) := by decide +kernel
theorem dX6_isRow_58 : decode cX6_isRow 58 = .ok (.idiv, 1) := by decide +kernel
theorem dX6_isRow_59 : decode cX6_isRow 59 = .ok (.istore 4, 2) := by decide +kernel
theorem dX6_isRow_61 : decode cX6_isRow 61 = .ok (.iinc 5 (-1), 3) := by decide +kernel
theorem dX6_isRow_64 : decode cX6_isRow 64 = .ok (.goto (-56), 3) := by decide +kernel
theorem dX6_isRow_67 : decode cX6_isRow 67 = .ok (.iconst 1, 1) := by decide +kernel
theorem dX6_isRow_68 : decode cX6_isRow 68 = .ok (.ireturn, 1) := by decide +kernel
theorem dX7_firstFault_0 : decode cX7_firstFault 0 = .ok (.iconst 0, 1) := by decide +kernel
theorem dX7_firstFault_1 : decode cX7_firstFault 1 = .ok (.istore_n 3, 1) := by decide +kernel
theorem dX7_firstFault_2 : decode cX7_firstFault 2 = .ok (.iload_n 3, 1) := by decide +kernel
theorem dX7_firstFault_3 : decode cX7_firstFault 3 = .ok (.iload_n 2, 1) := by decide +kernel
theorem dX7_firstFault_4 : decode cX7_firstFault 4 = .ok (.if_icmp .ge 20, 3) := by decide +kernel
theorem dX7_firstFault_7 : decode cX7_firstFault 7 = .ok (.aload_n 0, 1) := by decide +kernel
theorem dX7_firstFault_8 : decode cX7_firstFault 8 = .ok (.iload_n 1, 1) := by decide +kernel
theorem dX7_firstFault_9 : decode cX7_firstFault 9 = .ok (.iload_n 3, 1) := by decide +kernel
theorem dX7_firstFault_10 : decode cX7_firstFault 10 = .ok (.invokestatic 11, 3) := by decide +kernel
theorem dX7_firstFault_13 : decode cX7_firstFault 13 = .ok (.ifCond .ne 5, 3) := by decide +kernel
theorem dX7_firstFault_16 : decode cX7_firstFault 16 = .ok (.iload_n 3, 1) := by decide +kernel
theorem dX7_firstFault_17 : decode cX7_firstFault 17 = .ok (.ireturn, 1) := by decide +kernel
theorem dX7_firstFault_18 : decode cX7_firstFault 18 = .ok (.iinc 3 1, 3) := by decide +kernel
theorem dX7_firstFault_21 : decode cX7_firstFault 21 = .ok (.goto (-19), 3) := by decide +kernel
theorem dX7_firstFault_24 : decode cX7_firstFault 24 = .ok (.iload_n 2, 1) := by decide +kernel
theorem dX7_firstFault_25 : decode cX7_firstFault 25 = .ok (.bipush 11, 2) := by decide +kernel
theorem dX7_firstFault_27 : decode cX7_firstFault 27 = .ok (.if_icmp .lt 16, 3) := by decide +kernel
theorem dX7_firstFault_30 : decode cX7_firstFault 30 = .ok (.iload_n 2, 1) := by decide +kernel
theorem dX7_firstFault_31 : decode cX7_firstFault 31 = .ok (.iconst 3, 1) := by decide +kernel
theorem dX7_firstFault_32 : decode cX7_firstFault 32 = .ok (.isub, 1) := by decide +kernel
theorem dX7_firstFault_33 : decode cX7_firstFault 33 = .ok (.bipush 8, 2) := by decide +kernel
theorem dX7_firstFault_35 : decode cX7_firstFault 35 = .ok (.irem, 1) := by decide +kernel
theorem dX7_firstFault_36 : decode cX7_firstFault 36 = .ok (.ifCond .ne 7, 3) := by decide +kernel
theorem dX7_firstFault_39 : decode cX7_firstFault 39 = .ok (.iconst 1, 1) := by decide +kernel
theorem dX7_firstFault_40 : decode cX7_firstFault 40 = .ok (.goto 4, 3) := by decide +kernel
theorem dX7_firstFault_43 : decode cX7_firstFault 43 = .ok (.iconst 0, 1) := by decide +kernel
theorem dX7_firstFault_44 : decode cX7_firstFault 44 = .ok (.istore_n 3, 1) := by decide +kernel
theorem dX7_firstFault_45 : decode cX7_firstFault 45 = .ok (.iload_n 3, 1) := by decide +kernel
theorem dX7_firstFault_46 : decode cX7_firstFault 46 = .ok (.ifCond .eq 7, 3) := by decide +kernel
theorem dX7_firstFault_49 : decode cX7_firstFault 49 = .ok (.iconst (-1), 1) := by decide +kernel
theorem dX7_firstFault_50 : decode cX7_firstFault 50 = .ok (.goto 4, 3) := by decide +kernel
theorem dX7_firstFault_53 : decode cX7_firstFault 53 = .ok (.iload_n 2, 1) := by decide +kernel
theorem dX7_firstFault_54 : decode cX7_firstFault 54 = .ok (.ireturn, 1) := by decide +kernel
theorem dX7_goesOn_0 : decode cX7_goesOn 0 = .ok (.aload_n 0, 1) := by decide +kernel
theorem dX7_goesOn_1 : decode cX7_goesOn 1 = .ok (.iload_n 1, 1) := by decide +kernel
theorem dX7_goesOn_2 : decode cX7_goesOn 2 = .ok (.iload_n 2, 1) := by decide +kernel
theorem dX7_goesOn_3 : decode cX7_goesOn 3 = .ok (.iadd, 1) := by decide +kernel
theorem dX7_goesOn_4 : decode cX7_goesOn 4 = .ok (.invokevirtual 15, 3) := by decide +kernel
theorem dX7_goesOn_7 : decode cX7_goesOn 7 = .ok (.istore_n 3, 1) := by decide +kernel
theorem dX7_goesOn_8 : decode cX7_goesOn 8 = .ok (.iload_n 2, 1) := by decide +kernel
theorem dX7_goesOn_9 : decode cX7_goesOn 9 = .ok (.bipush 35, 2) := by decide +kernel
theorem dX7_goesOn_11 : decode cX7_goesOn 11 = .ok (.if_icmp .lt 5, 3) := by decide +kernel
theorem dX7_goesOn_14 : decode cX7_goesOn 14 = .ok (.iconst 0, 1) := by decide +kernel
theorem dX7_goesOn_15 : decode cX7_goesOn 15 = .ok (.ireturn, 1) := by decide +kernel
theorem dX7_goesOn_16 : decode cX7_goesOn 16 = .ok (.iload_n 2, 1) := by decide +kernel
theorem dX7_goesOn_17 : decode cX7_goesOn 17 = .ok (.ifCond .ne 15, 3) := by decide +kernel
theorem dX7_goesOn_20 : decode cX7_goesOn 20 = .ok (.iload_n 3, 1) := by decide +kernel
theorem dX7_goesOn_21 : decode cX7_goesOn 21 = .ok (.bipush 112, 2) := by decide +kernel
theorem dX7_goesOn_23 : decode cX7_goesOn 23 = .ok (.if_icmp .ne 7, 3) := by decide +kernel
theorem dX7_goesOn_26 : decode cX7_goesOn 26 = .ok (.iconst 1, 1) := by decide +kernel
theorem dX7_goesOn_27 : decode cX7_goesOn 27 = .ok (.goto 4, 3) := by decide +kernel
theorem dX7_goesOn_30 : decode cX7_goesOn 30 = .ok (.iconst 0, 1) := by decide +kernel
theorem dX7_goesOn_31 : decode cX7_goesOn 31 = .ok (.ireturn, 1) := by decide +kernel
theorem dX7_goesOn_32 : decode cX7_goesOn 32 = .ok (.iload_n 2, 1) := by decide +kernel
theorem dX7_goesOn_33 : decode cX7_goesOn 33 = .ok (.iconst 3, 1) := by decide +kernel
theorem dX7_goesOn_34 : decode cX7_goesOn 34 = .ok (.if_icmp .ge 32, 3) := by decide +kernel
theorem dX7_goesOn_37 : decode cX7_goesOn 37 = .ok (.iload_n 3, 1) := by decide +kernel
theorem dX7_goesOn_38 : decode cX7_goesOn 38 = .ok (.invokestatic 21, 3) := by decide +kernel
theorem dX7_goesOn_41 : decode cX7_goesOn 41 = .ok (.ifCond .eq 23, 3) := by decide +kernel
theorem dX7_goesOn_44 : decode cX7_goesOn 44 = .ok (.iload_n 2, 1) := by decide +kernel
theorem dX7_goesOn_45 : decode cX7_goesOn 45 = .ok (.iconst 1, 1) := by decide +kernel
theorem dX7_goesOn_46 : decode cX7_goesOn 46 = .ok (.if_icmp .eq 14, 3) := by decide +kernel
theorem dX7_goesOn_49 : decode cX7_goesOn 49 = .ok (.aload_n 0, 1) := by decide +kernel
theorem dX7_goesOn_50 : decode cX7_goesOn 50 = .ok (.iload_n 1, 1) := by decide +kernel
theorem dX7_goesOn_51 : decode cX7_goesOn 51 = .ok (.iconst 1, 1) := by decide +kernel
theorem dX7_goesOn_52 : decode cX7_goesOn 52 = .ok (.iadd, 1) := by decide +kernel
theorem dX7_goesOn_53 : decode cX7_goesOn 53 = .ok (.iconst 2, 1) := by decide +kernel
theorem dX7_goesOn_54 : decode cX7_goesOn 54 = .ok (.invokestatic 25, 3) := by decide +kernel
theorem dX7_goesOn_57 : decode cX7_goesOn 57 = .ok (.ifCond .le 7, 3) := by decide +kernel
theorem dX7_goesOn_60 : decode cX7_goesOn 60 = .ok (.iconst 1, 1) := by decide +kernel
theorem dX7_goesOn_61 : decode cX7_goesOn 61 = .ok (.goto 4, 3) := by decide +kernel
theorem dX7_goesOn_64 : decode cX7_goesOn 64 = .ok (.iconst 0, 1) := by decide +kernel
theorem dX7_goesOn_65 : decode cX7_goesOn 65 = .ok (.ireturn, 1) := by decide +kernel
theorem dX7_goesOn_66 : decode cX7_goesOn 66 = .ok (.iload_n 2, 1) := by decide +kernel
theorem dX7_goesOn_67 : decode cX7_goesOn 67 = .ok (.iconst 3, 1) := by decide +kernel
theorem dX7_goesOn_68 : decode cX7_goesOn 68 = .ok (.isub, 1) := by decide +kernel
theorem dX7_goesOn_69 : decode cX7_goesOn 69 = .ok (.bipush 8, 2) := by decide +kernel
theorem dX7_goesOn_71 : decode cX7_goesOn 71 = .ok (.irem, 1) := by decide +kernel
theorem dX7_goesOn_72 : decode cX7_goesOn 72 = .ok (.istore 4, 2) := by decide +kernel
theorem dX7_goesOn_74 : decode cX7_goesOn 74 = .ok (.iload 4, 2) := by decide +kernel
theorem dX7_goesOn_76 : decode cX7_goesOn 76 = .ok (.ifCond .ne 15, 3) := by decide +kernel
theorem dX7_goesOn_79 : decode cX7_goesOn 79 = .ok (.iload_n 3, 1) := by decide +kernel
theorem dX7_goesOn_80 : decode cX7_goesOn 80 = .ok (.bipush 59, 2) := by decide +kernel
theorem dX7_goesOn_82 : decode cX7_goesOn 82 = .ok (.if_icmp .ne 7, 3) := by decide +kernel
theorem dX7_goesOn_85 : decode cX7_goesOn 85 = .ok (.iconst 1, 1) := by decide +kernel
theorem dX7_goesOn_86 : decode cX7_goesOn 86 = .ok (.goto 4, 3) := by decide +kernel
theorem dX7_goesOn_89 : decode cX7_goesOn 89 = .ok (.iconst 0, 1) := by decide +kernel
theorem dX7_goesOn_90 : decode cX7_goesOn 90 = .ok (.ireturn, 1) := by decide +kernel
theorem dX7_goesOn_91 : decode cX7_goesOn 91 = .ok (.iload 4, 2) := by decide +kernel
theorem dX7_goesOn_93 : decode cX7_goesOn 93 = .ok (.iconst 1, 1) := by decide +kernel
theorem dX7_goesOn_94 : decode cX7_goesOn 94 = .ok (.if_icmp .ne 17, 3) := by decide +kernel
theorem dX7_goesOn_97 : decode cX7_goesOn 97 = .ok (.iload_n 3, 1) := by decide +kernel
theorem dX7_goesOn_98 : decode cX7_goesOn 98 = .ok (.invokestatic 29, 3) := by decide +kernel
theorem dX7_goesOn_101 : decode cX7_goesOn 101 = .ok (.iconst (-1), 1) := by decide +kernel
theorem dX7_goesOn_102 : decode cX7_goesOn 102 = .ok (.if_icmp .eq 7, 3) := by decide +kernel
theorem dX7_goesOn_105 : decode cX7_goesOn 105 = .ok (.iconst 1, 1) := by decide +kernel
theorem dX7_goesOn_106 : decode cX7_goesOn 106 = .ok (.goto 4, 3) := by decide +kernel
theorem dX7_goesOn_109 : decode cX7_goesOn 109 = .ok (.iconst 0, 1) := by decide +kernel
theorem dX7_goesOn_110 : decode cX7_goesOn 110 = .ok (.ireturn, 1) := by decide +kernel
theorem dX7_goesOn_111 : decode cX7_goesOn 111 = .ok (.iload 4, 2) := by decide +kernel
theorem dX7_goesOn_113 : decode cX7_goesOn 113 = .ok (.iconst 5, 1) := by decide +kernel
theorem dX7_goesOn_114 : decode cX7_goesOn 114 = .ok (.if_icmp .ge 10, 3) := by decide +kernel
theorem dX7_goesOn_117 : decode cX7_goesOn 117 = .ok (.iload 4, 2) := by decide +kernel
theorem dX7_goesOn_119 : decode cX7_goesOn 119 = .ok (.iconst 2, 1) := by decide +kernel
theorem dX7_goesOn_120 : decode cX7_goesOn 120 = .ok (.isub, 1) := by decide +kernel
theorem dX7_goesOn_121 : decode cX7_goesOn 121 = .ok (.goto 7, 3) := by decide +kernel
theorem dX7_goesOn_124 : decode cX7_goesOn 124 = .ok (.iload 4, 2) := by decide +kernel
theorem dX7_goesOn_126 : decode cX7_goesOn 126 = .ok (.iconst 5, 1) := by decide +kernel
theorem dX7_goesOn_127 : decode cX7_goesOn 127 = .ok (.isub, 1) := by decide +kernel
theorem dX7_goesOn_128 : decode cX7_goesOn 128 = .ok (.istore 5, 2) := by decide +kernel
theorem dX7_goesOn_130 : decode cX7_goesOn 130 = .ok (.iload_n 3, 1) := by decide +kernel
theorem dX7_goesOn_131 : decode cX7_goesOn 131 = .ok (.invokestatic 21, 3) := by decide +kernel
theorem dX7_goesOn_134 : decode cX7_goesOn 134 = .ok (.ifCond .eq 42, 3) := by decide +kernel
theorem dX7_goesOn_137 : decode cX7_goesOn 137 = .ok (.iload 5, 2) := by decide +kernel
theorem dX7_goesOn_139 : decode cX7_goesOn 139 = .ok (.getstatic 32, 3) := by decide +kernel
theorem dX7_goesOn_142 : decode cX7_goesOn 142 = .ok (.arraylength, 1) := by decide +kernel
theorem dX7_goesOn_143 : decode cX7_goesOn 143 = .ok (.invokestatic 36, 3) := by decide +kernel
theorem dX7_goesOn_146 : decode cX7_goesOn 146 = .ok (.ifCond .eq 30, 3) := by decide +kernel
theorem dX7_goesOn_149 : decode cX7_goesOn 149 = .ok (.aload_n 0, 1) := by decide +kernel
theorem dX7_goesOn_150 : decode cX7_goesOn 150 = .ok (.iload_n 1, 1) := by decide +kernel
theorem dX7_goesOn_151 : decode cX7_goesOn 151 = .ok (.iload_n 2, 1) := by decide +kernel
theorem dX7_goesOn_152 : decode cX7_goesOn 152 = .ok (.iadd, 1) := by decide +kernel
theorem dX7_goesOn_153 : decode cX7_goesOn 153 = .ok (.iload 5, 2) := by decide +kernel
theorem dX7_goesOn_155 : decode cX7_goesOn 155 = .ok (.isub, 1) := by decide +kernel
theorem dX7_goesOn_156 : decode cX7_goesOn 156 = .ok (.iload 5, 2) := by decide +kernel
theorem dX7_goesOn_158 : decode cX7_goesOn 158 = .ok (.iconst 1, 1) := by decide +kernel
theorem dX7_goesOn_159 : decode cX7_goesOn 159 = .ok (.iadd, 1) := by decide +kernel
theorem dX7_goesOn_160 : decode cX7_goesOn 160 = .ok (.invokestatic 25, 3) := by decide +kernel
theorem dX7_goesOn_163 : decode cX7_goesOn 163 = .ok (.getstatic 32, 3) := by decide +kernel
theorem dX7_goesOn_166 : decode cX7_goesOn 166 = .ok (.iload 5, 2) := by decide +kernel
theorem dX7_goesOn_168 : decode cX7_goesOn 168 = .ok (.iaload, 1) := by decide +kernel
theorem dX7_goesOn_169 : decode cX7_goesOn 169 = .ok (.if_icmp .gt 7, 3) := by decide +kernel
theorem dX7_goesOn_172 : decode cX7_goesOn 172 = .ok (.iconst 1, 1) := by decide +kernel
theorem dX7_goesOn_173 : decode cX7_goesOn 173 = .ok (.goto 4, 3) := by decide +kernel
theorem dX7_goesOn_176 : decode cX7_goesOn 176 = .ok (.iconst 0, 1) := by decide +kernel
theorem dX7_goesOn_177 : decode cX7_goesOn 177 = .ok (.ireturn, 1) := by decide +kernel
theorem dX7_isDigit_0 : decode cX7_isDigit 0 = .ok (.bipush 48, 2) := by decide +kernel
theorem dX7_isDigit_2 : decode cX7_isDigit 2 = .ok (.iload_n 0, 1) := by decide +kernel
theorem dX7_isDigit_3 : decode cX7_isDigit 3 = .ok (.if_icmp .gt 13, 3) := by decide +kernel
theorem dX7_isDigit_6 : decode cX7_isDigit 6 = .ok (.iload_n 0, 1) := by decide +kernel
theorem dX7_isDigit_7 : decode cX7_isDigit 7 = .ok (.bipush 57, 2) := by decide +kernel
theorem dX7_isDigit_9 : decode cX7_isDigit 9 = .ok (.if_icmp .gt 7, 3) := by decide +kernel
theorem dX7_isDigit_12 : decode cX7_isDigit 12 = .ok (.iconst 1, 1) := by decide +kernel
theorem dX7_isDigit_13 : decode cX7_isDigit 13 = .ok (.goto 4, 3) := by decide +kernel
theorem dX7_isDigit_16 : decode cX7_isDigit 16 = .ok (.iconst 0, 1) := by decide +kernel
theorem dX7_isDigit_17 : decode cX7_isDigit 17 = .ok (.ireturn, 1) := by decide +kernel
theorem dX7_number_0 : decode cX7_number 0 = .ok (.iconst 0, 1) := by decide +kernel
theorem dX7_number_1 : decode cX7_number 1 = .ok (.istore_n 3, 1) := by decide +kernel
theorem dX7_number_2 : decode cX7_number 2 = .ok (.iload_n 1, 1) := by decide +kernel
theorem dX7_number_3 : decode cX7_number 3 = .ok (.istore 4, 2) := by decide +kernel
theorem dX7_number_5 : decode cX7_number 5 = .ok (.iload 4, 2) := by decide +kernel
theorem dX7_number_7 : decode cX7_number 7 = .ok (.iload_n 1, 1) := by decide +kernel
theorem dX7_number_8 : decode cX7_number 8 = .ok (.iload_n 2, 1) := by decide +kernel
theorem dX7_number_9 : decode cX7_number 9 = .ok (.iadd, 1) := by decide +kernel
theorem dX7_number_10 : decode cX7_number 10 = .ok (.if_icmp .ge 24, 3) := by decide +kernel
theorem dX7_number_13 : decode cX7_number 13 = .ok (.bipush 10, 2) := by decide +kernel
theorem dX7_number_15 : decode cX7_number 15 = .ok (.iload_n 3, 1) := by decide +kernel
theorem dX7_number_16 : decode cX7_number 16 = .ok (.imul, 1) := by decide +kernel
theorem dX7_number_17 : decode cX7_number 17 = .ok (.aload_n 0, 1) := by decide +kernel
theorem dX7_number_18 : decode cX7_number 18 = .ok (.iload 4, 2) := by decide +kernel
theorem dX7_number_20 : decode cX7_number 20 = .ok (.invokevirtual 15, 3) := by decide +kernel
theorem dX7_number_23 : decode cX7_number 23 = .ok (.iadd, 1) := by decide +kernel
theorem dX7_number_24 : decode cX7_number 24 = .ok (.bipush 48, 2) := by decide +kernel
theorem dX7_number_26 : decode cX7_number 26 = .ok (.isub, 1) := by decide +kernel
theorem dX7_number_27 : decode cX7_number 27 = .ok (.istore_n 3, 1) := by decide +kernel
theorem dX7_number_28 : decode cX7_number 28 = .ok (.iinc 4 1, 3) := by decide +kernel
theorem dX7_number_31 : decode cX7_number 31 = .ok (.goto (-26), 3) := by decide +kernel
theorem dX7_number_34 : decode cX7_number 34 = .ok (.iload_n 3, 1) := by decide +kernel
theorem dX7_number_35 : decode cX7_number 35 = .ok (.ireturn, 1) := by decide +kernel
theorem dX7_kindOf_0 : decode cX7_kindOf 0 = .ok (.iload_n 0, 1) := by decide +kernel
theorem dX7_kindOf_1 : decode cX7_kindOf 1 = .ok (.lookupswitch 41 #[(102, 35), (109, 37), (116, 39)], 35) := by decide +kernel
theorem dX7_kindOf_36 : decode cX7_kindOf 36 = .ok (.iconst 0, 1) := by decide +kernel
theorem dX7_kindOf_37 : decode cX7_kindOf 37 = .ok (.ireturn, 1) := by decide +kernel
theorem dX7_kindOf_38 : decode cX7_kindOf 38 = .ok (.iconst 1, 1) := by decide +kernel
theorem dX7_kindOf_39 : decode cX7_kindOf 39 = .ok (.ireturn, 1) := by decide +kernel
theorem dX7_kindOf_40 : decode cX7_kindOf 40 = .ok (.iconst 2, 1) := by decide +kernel
theorem dX7_kindOf_41 : decode cX7_kindOf 41 = .ok (.ireturn, 1) := by decide +kernel
theorem dX7_kindOf_42 : decode cX7_kindOf 42 = .ok (.iconst (-1), 1) := by decide +kernel
theorem dX7_kindOf_43 : decode cX7_kindOf 43 = .ok (.ireturn, 1) := by decide +kernel
theorem dX7_fill_0 : decode cX7_fill 0 = .ok (.aload_n 0, 1) := by decide +kernel
theorem dX7_fill_1 : decode cX7_fill 1 = .ok (.aload_n 1, 1) := by decide +kernel
theorem dX7_fill_2 : decode cX7_fill 2 = .ok (.iload_n 2, 1) := by decide +kernel
theorem dX7_fill_3 : decode cX7_fill 3 = .ok (.iconst 1, 1) := by decide +kernel
theorem dX7_fill_4 : decode cX7_fill 4 = .ok (.iadd, 1) := by decide +kernel
theorem dX7_fill_5 : decode cX7_fill 5 = .ok (.iconst 2, 1) := by decide +kernel
theorem dX7_fill_6 : decode cX7_fill 6 = .ok (.invokestatic 25, 3) := by decide +kernel
theorem dX7_fill_9 : decode cX7_fill 9 = .ok (.iload_n 3, 1) := by decide +kernel
theorem dX7_fill_10 : decode cX7_fill 10 = .ok (.iconst 3, 1) := by decide +kernel
theorem dX7_fill_11 : decode cX7_fill 11 = .ok (.isub, 1) := by decide +kernel
theorem dX7_fill_12 : decode cX7_fill 12 = .ok (.bipush 8, 2) := by decide +kernel
theorem dX7_fill_14 : decode cX7_fill 14 = .ok (.idiv, 1) := by decide +kernel
theorem dX7_fill_15 : decode cX7_fill 15 = .ok (.invokevirtual 40, 3) := by decide +kernel
theorem dX7_fill_18 : decode cX7_fill 18 = .ok (.iconst 0, 1) := by decide +kernel
theorem dX7_fill_19 : decode cX7_fill 19 = .ok (.istore 4, 2) := by decide +kernel
theorem dX7_fill_21 : decode cX7_fill 21 = .ok (.iload 4, 2) := by decide +kernel
theorem dX7_fill_23 : decode cX7_fill 23 = .ok (.aload_n 0, 1) := by decide +kernel
theorem dX7_fill_24 : decode cX7_fill 24 = .ok (.getfield 46, 3) := by decide +kernel
theorem dX7_fill_27 : decode cX7_fill 27 = .ok (.if_icmp .ge 59, 3) := by decide +kernel
theorem dX7_fill_30 : decode cX7_fill 30 = .ok (.iload_n 2, 1) := by decide +kernel
theorem dX7_fill_31 : decode cX7_fill 31 = .ok (.iconst 3, 1) := by decide +kernel
theorem dX7_fill_32 : decode cX7_fill 32 = .ok (.iadd, 1) := by decide +kernel
theorem dX7_fill_33 : decode cX7_fill 33 = .ok (.iload 4, 2) := by decide +kernel
theorem dX7_fill_35 : decode cX7_fill 35 = .ok (.bipush 8, 2) := by decide +kernel
theorem dX7_fill_37 : decode cX7_fill 37 = .ok (.imul, 1) := by decide +kernel
theorem dX7_fill_38 : decode cX7_fill 38 = .ok (.iadd, 1) := by decide +kernel
theorem dX7_fill_39 : decode cX7_fill 39 = .ok (.istore 5, 2) := by decide +kernel
theorem dX7_fill_41 : decode cX7_fill 41 = .ok (.aload_n 0, 1) := by decide +kernel
theorem dX7_fill_42 : decode cX7_fill 42 = .ok (.getfield 50, 3) := by decide +kernel
theorem dX7_fill_45 : decode cX7_fill 45 = .ok (.iload 4, 2) := by decide +kernel
theorem dX7_fill_47 : decode cX7_fill 47 = .ok (.aaload, 1) := by decide +kernel
theorem dX7_fill_48 : decode cX7_fill 48 = .ok (.aload_n 1, 1) := by decide +kernel
theorem dX7_fill_49 : decode cX7_fill 49 = .ok (.iload 5, 2) := by decide +kernel
theorem dX7_fill_51 : decode cX7_fill 51 = .ok (.iconst 1, 1) := by decide +kernel
theorem dX7_fill_52 : decode cX7_fill 52 = .ok (.iadd, 1) := by decide +kernel
theorem dX7_fill_53 : decode cX7_fill 53 = .ok (.invokevirtual 15, 3) := by decide +kernel
theorem dX7_fill_56 : decode cX7_fill 56 = .ok (.invokestatic 29, 3) := by decide +kernel
theorem dX7_fill_59 : decode cX7_fill 59 = .ok (.aload_n 1, 1) := by decide +kernel
theorem dX7_fill_60 : decode cX7_fill 60 = .ok (.iload 5, 2) := by decide +kernel
theorem dX7_fill_62 : decode cX7_fill 62 = .ok (.iconst 2, 1) := by decide +kernel
theorem dX7_fill_63 : decode cX7_fill 63 = .ok (.iadd, 1) := by decide +kernel
theorem dX7_fill_64 : decode cX7_fill 64 = .ok (.iconst 3, 1) := by decide +kernel
theorem dX7_fill_65 : decode cX7_fill 65 = .ok (.invokestatic 25, 3) := by decide +kernel
theorem dX7_fill_68 : decode cX7_fill 68 = .ok (.aload_n 1, 1) := by decide +kernel
theorem dX7_fill_69 : decode cX7_fill 69 = .ok (.iload 5, 2) := by decide +kernel
theorem dX7_fill_71 : decode cX7_fill 71 = .ok (.iconst 5, 1) := by decide +kernel
theorem dX7_fill_72 : decode cX7_fill 72 = .ok (.iadd, 1) := by decide +kernel
theorem dX7_fill_73 : decode cX7_fill 73 = .ok (.iconst 3, 1) := by decide +kernel
theorem dX7_fill_74 : decode cX7_fill 74 = .ok (.invokestatic 25, 3) := by decide +kernel
theorem dX7_fill_77 : decode cX7_fill 77 = .ok (.invokevirtual 54, 3) := by decide +kernel
theorem dX7_fill_80 : decode cX7_fill 80 = .ok (.iinc 4 1, 3) := by decide +kernel
theorem dX7_fill_83 : decode cX7_fill 83 = .ok (.goto (-62), 3) := by decide +kernel
theorem dX7_fill_86 : decode cX7_fill 86 = .ok (.return_, 1) := by decide +kernel
theorem dX8_init_0 : decode cX8_init 0 = .ok (.aload_n 0, 1) := by decide +kernel
theorem dX8_init_1 : decode cX8_init 1 = .ok (.invokespecial 3, 3) := by decide +kernel
theorem dX8_init_4 : decode cX8_init 4 = .ok (.aload_n 0, 1) := by decide +kernel
theorem dX8_init_5 : decode cX8_init 5 = .ok (.iconst 4, 1) := by decide +kernel
theorem dX8_init_6 : decode cX8_init 6 = .ok (.anewarray 11, 3) := by decide +kernel
theorem dX8_init_9 : decode cX8_init 9 = .ok (.putfield 13, 3) := by decide +kernel
theorem dX8_init_12 : decode cX8_init 12 = .ok (.aload_n 0, 1) := by decide +kernel
theorem dX8_init_13 : decode cX8_init 13 = .ok (.new 17, 3) := by decide +kernel
theorem dX8_init_16 : decode cX8_init 16 = .ok (.dup, 1) := by decide +kernel
theorem dX8_init_17 : decode cX8_init 17 = .ok (.invokespecial 19, 3) := by decide +kernel
theorem dX8_init_20 : decode cX8_init 20 = .ok (.putfield 20, 3) := by decide +kernel
theorem dX8_init_23 : decode cX8_init 23 = .ok (.aload_n 0, 1) := by decide +kernel
theorem dX8_init_24 : decode cX8_init 24 = .ok (.new 24, 3) := by decide +kernel
theorem dX8_init_27 : decode cX8_init 27 = .ok (.dup, 1) := by decide +kernel
theorem dX8_init_28 : decode cX8_init 28 = .ok (.invokespecial 26, 3) := by decide +kernel
theorem dX8_init_31 : decode cX8_init 31 = .ok (.putfield 27, 3) := by decide +kernel
theorem dX8_init_34 : decode cX8_init 34 = .ok (.aload_n 0, 1) := by decide +kernel
theorem dX8_init_35 : decode cX8_init 35 = .ok (.new 31, 3) := by decide +kernel
theorem dX8_init_38 : decode cX8_init 38 = .ok (.dup, 1) := by decide +kernel
theorem dX8_init_39 : decode cX8_init 39 = .ok (.invokespecial 33, 3) := by decide +kernel
theorem dX8_init_42 : decode cX8_init 42 = .ok (.putfield 34, 3) := by decide +kernel
theorem dX8_init_45 : decode cX8_init 45 = .ok (.aload_n 0, 1) := by decide +kernel
theorem dX8_init_46 : decode cX8_init 46 = .ok (.new 38, 3) := by decide +kernel
theorem dX8_init_49 : decode cX8_init 49 = .ok (.dup, 1) := by decide +kernel
theorem dX8_init_50 : decode cX8_init 50 = .ok (.invokespecial 40, 3) := by decide +kernel
theorem dX8_init_53 : decode cX8_init 53 = .ok (.putfield 41, 3) := by decide +kernel
theorem dX8_init_56 : decode cX8_init 56 = .ok (.iconst 0, 1) := by decide +kernel
theorem dX8_init_57 : decode cX8_init 57 = .ok (.istore_n 1, 1) := by decide +kernel
theorem dX8_init_58 : decode cX8_init 58 = .ok (.iload_n 1, 1) := by decide +kernel
theorem dX8_init_59 : decode cX8_init 59 = .ok (.iconst 4, 1) := by decide +kernel
theorem dX8_init_60 : decode cX8_init 60 = .ok (.if_icmp .ge 22, 3) := by decide +kernel
theorem dX8_init_63 : decode cX8_init 63 = .ok (.aload_n 0, 1) := by decide +kernel
theorem dX8_init_64 : decode cX8_init 64 = .ok (.getfield 13, 3) := by decide +kernel
theorem dX8_init_67 : decode cX8_init 67 = .ok (.iload_n 1, 1) := by decide +kernel
theorem dX8_init_68 : decode cX8_init 68 = .ok (.new 11, 3) := by decide +kernel
theorem dX8_init_71 : decode cX8_init 71 = .ok (.dup, 1) := by decide +kernel
theorem dX8_init_72 : decode cX8_init 72 = .ok (.invokespecial 45, 3) := by decide +kernel
theorem dX8_init_75 : decode cX8_init 75 = .ok (.aastore, 1) := by decide +kernel
theorem dX8_init_76 : decode cX8_init 76 = .ok (.iinc 1 1, 3) := by decide +kernel
theorem dX8_init_79 : decode cX8_init 79 = .ok (.goto (-21), 3) := by decide +kernel
theorem dX8_init_82 : decode cX8_init 82 = .ok (.return_, 1) := by decide +kernel
theorem dX8_panel_0 : decode cX8_panel 0 = .ok (.aload_n 0, 1) := by decide +kernel
theorem dX8_panel_1 : decode cX8_panel 1 = .ok (.iconst 0, 1) := by decide +kernel
theorem dX8_panel_2 : decode cX8_panel 2 = .ok (.putfield 46, 3) := by decide +kernel
theorem dX8_panel_5 : decode cX8_panel 5 = .ok (.iload_n 1, 1) := by decide +kernel
theorem dX8_panel_6 : decode cX8_panel 6 = .ok (.iconst 4, 1) := by decide +kernel
theorem dX8_panel_7 : decode cX8_panel 7 = .ok (.invokestatic 50, 3) := by decide +kernel
theorem dX8_panel_10 : decode cX8_panel 10 = .ok (.ifCond .ne 5, 3) := by decide +kernel
theorem dX8_panel_13 : decode cX8_panel 13 = .ok (.iconst (-1), 1) := by decide +kernel
theorem dX8_panel_14 : decode cX8_panel 14 = .ok (.ireturn, 1) := by decide +kernel
theorem dX8_panel_15 : decode cX8_panel 15 = .ok (.iload_n 2, 1) := by decide +kernel
theorem dX8_panel_16 : decode cX8_panel 16 = .ok (.iconst 3, 1) := by decide +kernel
theorem dX8_panel_17 : decode cX8_panel 17 = .ok (.invokestatic 50, 3) := by decide +kernel
theorem dX8_panel_20 : decode cX8_panel 20 = .ok (.ifCond .ne 6, 3) := by decide +kernel
theorem dX8_panel_23 : decode cX8_panel 23 = .ok (.bipush (-2), 2) := by decide +kernel
theorem dX8_panel_25 : decode cX8_panel 25 = .ok (.ireturn, 1) := by decide +kernel
theorem dX8_panel_26 : decode cX8_panel 26 = .ok (.aload_n 0, 1) := by decide +kernel
theorem dX8_panel_27 : decode cX8_panel 27 = .ok (.getfield 13, 3) := by decide +kernel
theorem dX8_panel_30 : decode cX8_panel 30 = .ok (.iload_n 1, 1) := by decide +kernel
theorem dX8_panel_31 : decode cX8_panel 31 = .ok (.aaload, 1) := by decide +kernel
theorem dX8_panel_32 : decode cX8_panel 32 = .ok (.astore 5, 2) := by decide +kernel
theorem dX8_panel_34 : decode cX8_panel 34 = .ok (.aload 5, 2) := by decide +kernel
theorem dX8_panel_36 : decode cX8_panel 36 = .ok (.iload_n 2, 1) := by decide +kernel
theorem dX8_panel_37 : decode cX8_panel 37 = .ok (.iload_n 3, 1) := by decide +kernel
theorem dX8_panel_38 : decode cX8_panel 38 = .ok (.iload 4, 2) := by decide +kernel
theorem dX8_panel_40 : decode cX8_panel 40 = .ok (.invokevirtual 54, 3) := by decide +kernel
theorem dX8_panel_43 : decode cX8_panel 43 = .ok (.istore 6, 2) := by decide +kernel
theorem dX8_panel_45 : decode cX8_panel 45 = .ok (.iload 6, 2) := by decide +kernel
theorem dX8_panel_47 : decode cX8_panel 47 = .ok (.ifCond .eq 10, 3) := by decide +kernel
theorem dX8_panel_50 : decode cX8_panel 50 = .ok (.aload_n 0, 1) := by decide +kernel
theorem dX8_panel_51 : decode cX8_panel 51 = .ok (.iload 6, 2) := by decide +kernel
theorem dX8_panel_53 : decode cX8_panel 53 = .ok (.invokevirtual 58, 3) := by decide +kernel
theorem dX8_panel_56 : decode cX8_panel 56 = .ok (.ireturn, 1) := by decide +kernel
theorem dX8_panel_57 : decode cX8_panel 57 = .ok (.aload 5, 2) := by decide +kernel
theorem dX8_panel_59 : decode cX8_panel 59 = .ok (.iload_n 3, 1) := by decide +kernel
theorem dX8_panel_60 : decode cX8_panel 60 = .ok (.iload 4, 2) := by decide +kernel
theorem dX8_panel_62 : decode cX8_panel 62 = .ok (.invokestatic 62, 3) := by decide +kernel
theorem dX8_panel_65 : decode cX8_panel 65 = .ok (.istore 7, 2) := by decide +kernel
theorem dX8_panel_67 : decode cX8_panel 67 = .ok (.iload 7, 2) := by decide +kernel
theorem dX8_panel_69 : decode cX8_panel 69 = .ok (.iconst (-1), 1) := by decide +kernel
theorem dX8_panel_70 : decode cX8_panel 70 = .ok (.if_icmp .eq 9, 3) := by decide +kernel
theorem dX8_panel_73 : decode cX8_panel 73 = .ok (.bipush (-100), 2) := by decide +kernel
theorem dX8_panel_75 : decode cX8_panel 75 = .ok (.iload 7, 2) := by decide +kernel
theorem dX8_panel_77 : decode cX8_panel 77 = .ok (.isub, 1) := by decide +kernel
theorem dX8_panel_78 : decode cX8_panel 78 = .ok (.ireturn, 1) := by decide +kernel
theorem dX8_panel_79 : decode cX8_panel 79 = .ok (.aload_n 0, 1) := by decide +kernel
theorem dX8_panel_80 : decode cX8_panel 80 = .ok (.getfield 20, 3) := by decide +kernel
theorem dX8_panel_83 : decode cX8_panel 83 = .ok (.aload 5, 2) := by decide +kernel
theorem dX8_panel_85 : decode cX8_panel 85 = .ok (.iload_n 3, 1) := by decide +kernel
theorem dX8_panel_86 : decode cX8_panel 86 = .ok (.iload 4, 2) := by decide +kernel
theorem dX8_panel_88 : decode cX8_panel 88 = .ok (.invokestatic 68, 3) := by decide +kernel
theorem dX8_panel_91 : decode cX8_panel 91 = .ok (.aload_n 0, 1) := by decide +kernel
theorem dX8_panel_92 : decode cX8_panel 92 = .ok (.getfield 27, 3) := by decide +kernel
theorem dX8_panel_95 : decode cX8_panel 95 = .ok (.iconst 0, 1) := by decide +kernel
theorem dX8_panel_96 : decode cX8_panel 96 = .ok (.putfield 72, 3) := by decide +kernel
theorem dX8_panel_99 : decode cX8_panel 99 = .ok (.aload_n 0, 1) := by decide +kernel
theorem dX8_panel_100 : decode cX8_panel 100 = .ok (.getfield 20, 3) := by decide +kernel
theorem dX8_panel_103 : decode cX8_panel 103 = .ok (.getfield 75, 3) := by decide +kernel
theorem dX8_panel_106 : decode cX8_panel 106 = .ok (.ireturn, 1) := by decide +kernel
theorem dX8_ofPlace_0 : decode cX8_ofPlace 0 = .ok (.aload_n 0, 1) := by decide +kernel
theorem dX8_ofPlace_1 : decode cX8_ofPlace 1 = .ok (.iload_n 1, 1) := by decide +kernel
theorem dX8_ofPlace_2 : decode cX8_ofPlace 2 = .ok (.invokevirtual 76, 3) := by decide +kernel
theorem dX8_ofPlace_5 : decode cX8_ofPlace 5 = .ok (.ifCond .ne 5, 3) := by decide +kernel
theorem dX8_ofPlace_8 : decode cX8_ofPlace 8 = .ok (.iconst (-1), 1) := by decide +kernel
theorem dX8_ofPlace_9 : decode cX8_ofPlace 9 = .ok (.ireturn, 1) := by decide +kernel
theorem dX8_ofPlace_10 : decode cX8_ofPlace 10 = .ok (.aload_n 0, 1) := by decide +kernel
theorem dX8_ofPlace_11 : decode cX8_ofPlace 11 = .ok (.getfield 20, 3) := by decide +kernel
theorem dX8_ofPlace_14 : decode cX8_ofPlace 14 = .ok (.getfield 80, 3) := by decide +kernel
theorem dX8_ofPlace_17 : decode cX8_ofPlace 17 = .ok (.iload_n 1, 1) := by decide +kernel
theorem dX8_ofPlace_18 : decode cX8_ofPlace 18 = .ok (.aaload, 1) := by decide +kernel
theorem dX8_ofPlace_19 : decode cX8_ofPlace 19 = .ok (.astore_n 3, 1) := by decide +kernel
theorem dX8_ofPlace_20 : decode cX8_ofPlace 20 = .ok (.iload_n 2, 1) := by decide +kernel
theorem dX8_ofPlace_21 : decode cX8_ofPlace 21 = .ok (.tableswitch 75 0 4 #[35, 40, 45, 50, 55], 35) := by decide +kernel
theorem dX8_ofPlace_56 : decode cX8_ofPlace 56 = .ok (.aload_n 3, 1) := by decide +kernel
theorem dX8_ofPlace_57 : decode cX8_ofPlace 57 = .ok (.getfield 84, 3) := by decide +kernel
theorem dX8_ofPlace_60 : decode cX8_ofPlace 60 = .ok (.ireturn, 1) := by decide +kernel
theorem dX8_ofPlace_61 : decode cX8_ofPlace 61 = .ok (.aload_n 3, 1) := by decide +kernel
theorem dX8_ofPlace_62 : decode cX8_ofPlace 62 = .ok (.getfield 89, 3) := by decide +kernel
theorem dX8_ofPlace_65 : decode cX8_ofPlace 65 = .ok (.ireturn, 1) := by decide +kernel
theorem dX8_ofPlace_66 : decode cX8_ofPlace 66 = .ok (.aload_n 3, 1) := by decide +kernel
theorem dX8_ofPlace_67 : decode cX8_ofPlace 67 = .ok (.getfield 92, 3) := by decide +kernel
theorem dX8_ofPlace_70 : decode cX8_ofPlace 70 = .ok (.ireturn, 1) := by decide +kernel
theorem dX8_ofPlace_71 : decode cX8_ofPlace 71 = .ok (.aload_n 3, 1) := by decide +kernel
theorem dX8_ofPlace_72 : decode cX8_ofPlace 72 = .ok (.invokevirtual 95, 3) := by decide +kernel
theorem dX8_ofPlace_75 : decode cX8_ofPlace 75 = .ok (.ireturn, 1) := by decide +kernel
theorem dX8_ofPlace_76 : decode cX8_ofPlace 76 = .ok (.aload_n 3, 1) := by decide +kernel
theorem dX8_ofPlace_77 : decode cX8_ofPlace 77 = .ok (.aload_n 0, 1) := by decide +kernel
theorem dX8_ofPlace_78 : decode cX8_ofPlace 78 = .ok (.getfield 20, 3) := by decide +kernel
theorem dX8_ofPlace_81 : decode cX8_ofPlace 81 = .ok (.aload_n 0, 1) := by decide +kernel
theorem dX8_ofPlace_82 : decode cX8_ofPlace 82 = .ok (.getfield 20, 3) := by decide +kernel
theorem dX8_ofPlace_85 : decode cX8_ofPlace 85 = .ok (.getfield 99, 3) := by decide +kernel
theorem dX8_ofPlace_88 : decode cX8_ofPlace 88 = .ok (.iload_n 1, 1) := by decide +kernel
theorem dX8_ofPlace_89 : decode cX8_ofPlace 89 = .ok (.invokevirtual 102, 3) := by decide +kernel
theorem dX8_ofPlace_92 : decode cX8_ofPlace 92 = .ok (.invokevirtual 106, 3) := by decide +kernel
theorem dX8_ofPlace_95 : decode cX8_ofPlace 95 = .ok (.ireturn, 1) := by decide +kernel
theorem dX8_ofPlace_96 : decode cX8_ofPlace 96 = .ok (.bipush (-2), 2) := by decide +kernel
theorem dX8_ofPlace_98 : decode cX8_ofPlace 98 = .ok (.ireturn, 1) := by decide +kernel
theorem dX8_wear_0 : decode cX8_wear 0 = .ok (.aload_n 0, 1) := by decide +kernel
theorem dX8_wear_1 : decode cX8_wear 1 = .ok (.iload_n 1, 1) := by decide +kernel
theorem dX8_wear_2 : decode cX8_wear 2 = .ok (.invokevirtual 76, 3) := by decide +kernel
theorem dX8_wear_5 : decode cX8_wear 5 = .ok (.ifCond .eq 29, 3) := by decide +kernel
theorem dX8_wear_8 : decode cX8_wear 8 = .ok (.iload_n 2, 1) := by decide +kernel
theorem dX8_wear_9 : decode cX8_wear 9 = .ok (.bipush 7, 2) := by decide +kernel
theorem dX8_wear_11 : decode cX8_wear 11 = .ok (.invokestatic 50, 3) := by decide +kernel
theorem dX8_wear_14 : decode cX8_wear 14 = .ok (.ifCond .eq 20, 3) := by decide +kernel
theorem dX8_wear_17 : decode cX8_wear 17 = .ok (.aload_n 0, 1) := by decide +kernel
theorem dX8_wear_18 : decode cX8_wear 18 = .ok (.getfield 20, 3) := by decide +kernel
theorem dX8_wear_21 : decode cX8_wear 21 = .ok (.getfield 80, 3) := by decide +kernel
theorem dX8_wear_24 : decode cX8_wear 24 = .ok (.iload_n 1, 1) := by decide +kernel
theorem dX8_wear_25 : decode cX8_wear 25 = .ok (.aaload, 1) := by decide +kernel
theorem dX8_wear_26 : decode cX8_wear 26 = .ok (.getfield 109, 3) := by decide +kernel
theorem dX8_wear_29 : decode cX8_wear 29 = .ok (.iload_n 2, 1) := by decide +kernel
theorem dX8_wear_30 : decode cX8_wear 30 = .ok (.iaload, 1) := by decide +kernel
theorem dX8_wear_31 : decode cX8_wear 31 = .ok (.goto 4, 3) := by decide +kernel
theorem dX8_wear_34 : decode cX8_wear 34 = .ok (.iconst (-1), 1) := by decide +kernel
