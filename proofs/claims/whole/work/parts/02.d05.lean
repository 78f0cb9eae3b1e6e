theorem dX9_barsRead_29 : decode cX9_barsRead 29 = .ok (.istore 4, 2) := by decide +kernel
theorem dX9_barsRead_31 : decode cX9_barsRead 31 = .ok (.aload_n 0, 1) := by decide +kernel
theorem dX9_barsRead_32 : decode cX9_barsRead 32 = .ok (.iload_n 1, 1) := by decide +kernel
theorem dX9_barsRead_33 : decode cX9_barsRead 33 = .ok (.iload_n 2, 1) := by decide +kernel
theorem dX9_barsRead_34 : decode cX9_barsRead 34 = .ok (.iload 4, 2) := by decide +kernel
theorem dX9_barsRead_36 : decode cX9_barsRead 36 = .ok (.iconst 0, 1) := by decide +kernel
theorem dX9_barsRead_37 : decode cX9_barsRead 37 = .ok (.iload_n 3, 1) := by decide +kernel
theorem dX9_barsRead_38 : decode cX9_barsRead 38 = .ok (.iconst 1, 1) := by decide +kernel
theorem dX9_barsRead_39 : decode cX9_barsRead 39 = .ok (.if_icmp .ne 14, 3) := by decide +kernel
theorem dX9_barsRead_42 : decode cX9_barsRead 42 = .ok (.iload 4, 2) := by decide +kernel
theorem dX9_barsRead_44 : decode cX9_barsRead 44 = .ok (.iconst 2, 1) := by decide +kernel
theorem dX9_barsRead_45 : decode cX9_barsRead 45 = .ok (.if_icmp .ne 8, 3) := by decide +kernel
theorem dX9_barsRead_48 : decode cX9_barsRead 48 = .ok (.bipush 7, 2) := by decide +kernel
theorem dX9_barsRead_50 : decode cX9_barsRead 50 = .ok (.goto 5, 3) := by decide +kernel
theorem dX9_barsRead_53 : decode cX9_barsRead 53 = .ok (.bipush 9, 2) := by decide +kernel
theorem dX9_barsRead_55 : decode cX9_barsRead 55 = .ok (.invokevirtual 91, 3) := by decide +kernel
theorem dX9_barsRead_58 : decode cX9_barsRead 58 = .ok (.istore 5, 2) := by decide +kernel
theorem dX9_barsRead_60 : decode cX9_barsRead 60 = .ok (.iload 5, 2) := by decide +kernel
theorem dX9_barsRead_62 : decode cX9_barsRead 62 = .ok (.ifCond .ge 8, 3) := by decide +kernel
theorem dX9_barsRead_65 : decode cX9_barsRead 65 = .ok (.bipush (-9), 2) := by decide +kernel
theorem dX9_barsRead_67 : decode cX9_barsRead 67 = .ok (.goto 16, 3) := by decide +kernel
theorem dX9_barsRead_70 : decode cX9_barsRead 70 = .ok (.bipush 100, 2) := by decide +kernel
theorem dX9_barsRead_72 : decode cX9_barsRead 72 = .ok (.iload_n 3, 1) := by decide +kernel
theorem dX9_barsRead_73 : decode cX9_barsRead 73 = .ok (.imul, 1) := by decide +kernel
theorem dX9_barsRead_74 : decode cX9_barsRead 74 = .ok (.bipush 10, 2) := by decide +kernel
theorem dX9_barsRead_76 : decode cX9_barsRead 76 = .ok (.iload 4, 2) := by decide +kernel
theorem dX9_barsRead_78 : decode cX9_barsRead 78 = .ok (.imul, 1) := by decide +kernel
theorem dX9_barsRead_79 : decode cX9_barsRead 79 = .ok (.iadd, 1) := by decide +kernel
theorem dX9_barsRead_80 : decode cX9_barsRead 80 = .ok (.iload 5, 2) := by decide +kernel
theorem dX9_barsRead_82 : decode cX9_barsRead 82 = .ok (.iadd, 1) := by decide +kernel
theorem dX9_barsRead_83 : decode cX9_barsRead 83 = .ok (.ireturn, 1) := by decide +kernel
theorem dX9_readsPlace_0 : decode cX9_readsPlace 0 = .ok (.aload_n 0, 1) := by decide +kernel
theorem dX9_readsPlace_1 : decode cX9_readsPlace 1 = .ok (.getfield 95, 3) := by decide +kernel
theorem dX9_readsPlace_4 : decode cX9_readsPlace 4 = .ok (.iconst 4, 1) := by decide +kernel
theorem dX9_readsPlace_5 : decode cX9_readsPlace 5 = .ok (.if_icmp .eq 14, 3) := by decide +kernel
theorem dX9_readsPlace_8 : decode cX9_readsPlace 8 = .ok (.aload_n 0, 1) := by decide +kernel
theorem dX9_readsPlace_9 : decode cX9_readsPlace 9 = .ok (.iload_n 1, 1) := by decide +kernel
theorem dX9_readsPlace_10 : decode cX9_readsPlace 10 = .ok (.iload_n 2, 1) := by decide +kernel
theorem dX9_readsPlace_11 : decode cX9_readsPlace 11 = .ok (.invokevirtual 87, 3) := by decide +kernel
theorem dX9_readsPlace_14 : decode cX9_readsPlace 14 = .ok (.bipush 59, 2) := by decide +kernel
theorem dX9_readsPlace_16 : decode cX9_readsPlace 16 = .ok (.if_icmp .eq 5, 3) := by decide +kernel
theorem dX9_readsPlace_19 : decode cX9_readsPlace 19 = .ok (.iconst 0, 1) := by decide +kernel
theorem dX9_readsPlace_20 : decode cX9_readsPlace 20 = .ok (.ireturn, 1) := by decide +kernel
theorem dX9_readsPlace_21 : decode cX9_readsPlace 21 = .ok (.aload_n 0, 1) := by decide +kernel
theorem dX9_readsPlace_22 : decode cX9_readsPlace 22 = .ok (.dup, 1) := by decide +kernel
theorem dX9_readsPlace_23 : decode cX9_readsPlace 23 = .ok (.getfield 84, 3) := by decide +kernel
theorem dX9_readsPlace_26 : decode cX9_readsPlace 26 = .ok (.iconst 1, 1) := by decide +kernel
theorem dX9_readsPlace_27 : decode cX9_readsPlace 27 = .ok (.iadd, 1) := by decide +kernel
theorem dX9_readsPlace_28 : decode cX9_readsPlace 28 = .ok (.putfield 84, 3) := by decide +kernel
theorem dX9_readsPlace_31 : decode cX9_readsPlace 31 = .ok (.aload_n 0, 1) := by decide +kernel
theorem dX9_readsPlace_32 : decode cX9_readsPlace 32 = .ok (.iload_n 1, 1) := by decide +kernel
theorem dX9_readsPlace_33 : decode cX9_readsPlace 33 = .ok (.iload_n 2, 1) := by decide +kernel
theorem dX9_readsPlace_34 : decode cX9_readsPlace 34 = .ok (.invokevirtual 87, 3) := by decide +kernel
theorem dX9_readsPlace_37 : decode cX9_readsPlace 37 = .ok (.istore_n 3, 1) := by decide +kernel
theorem dX9_readsPlace_38 : decode cX9_readsPlace 38 = .ok (.iload_n 3, 1) := by decide +kernel
theorem dX9_readsPlace_39 : decode cX9_readsPlace 39 = .ok (.bipush 102, 2) := by decide +kernel
theorem dX9_readsPlace_41 : decode cX9_readsPlace 41 = .ok (.if_icmp .eq 17, 3) := by decide +kernel
theorem dX9_readsPlace_44 : decode cX9_readsPlace 44 = .ok (.iload_n 3, 1) := by decide +kernel
theorem dX9_readsPlace_45 : decode cX9_readsPlace 45 = .ok (.bipush 109, 2) := by decide +kernel
theorem dX9_readsPlace_47 : decode cX9_readsPlace 47 = .ok (.if_icmp .eq 11, 3) := by decide +kernel
theorem dX9_readsPlace_50 : decode cX9_readsPlace 50 = .ok (.iload_n 3, 1) := by decide +kernel
theorem dX9_readsPlace_51 : decode cX9_readsPlace 51 = .ok (.bipush 116, 2) := by decide +kernel
theorem dX9_readsPlace_53 : decode cX9_readsPlace 53 = .ok (.if_icmp .eq 5, 3) := by decide +kernel
theorem dX9_readsPlace_56 : decode cX9_readsPlace 56 = .ok (.iconst 0, 1) := by decide +kernel
theorem dX9_readsPlace_57 : decode cX9_readsPlace 57 = .ok (.ireturn, 1) := by decide +kernel
theorem dX9_readsPlace_58 : decode cX9_readsPlace 58 = .ok (.aload_n 0, 1) := by decide +kernel
theorem dX9_readsPlace_59 : decode cX9_readsPlace 59 = .ok (.dup, 1) := by decide +kernel
theorem dX9_readsPlace_60 : decode cX9_readsPlace 60 = .ok (.getfield 84, 3) := by decide +kernel
theorem dX9_readsPlace_63 : decode cX9_readsPlace 63 = .ok (.iconst 1, 1) := by decide +kernel
theorem dX9_readsPlace_64 : decode cX9_readsPlace 64 = .ok (.iadd, 1) := by decide +kernel
theorem dX9_readsPlace_65 : decode cX9_readsPlace 65 = .ok (.putfield 84, 3) := by decide +kernel
theorem dX9_readsPlace_68 : decode cX9_readsPlace 68 = .ok (.aload_n 0, 1) := by decide +kernel
theorem dX9_readsPlace_69 : decode cX9_readsPlace 69 = .ok (.iload_n 1, 1) := by decide +kernel
theorem dX9_readsPlace_70 : decode cX9_readsPlace 70 = .ok (.iload_n 2, 1) := by decide +kernel
theorem dX9_readsPlace_71 : decode cX9_readsPlace 71 = .ok (.invokevirtual 98, 3) := by decide +kernel
theorem dX9_readsPlace_74 : decode cX9_readsPlace 74 = .ok (.istore 4, 2) := by decide +kernel
theorem dX9_readsPlace_76 : decode cX9_readsPlace 76 = .ok (.iload 4, 2) := by decide +kernel
theorem dX9_readsPlace_78 : decode cX9_readsPlace 78 = .ok (.ifCond .ge 8, 3) := by decide +kernel
theorem dX9_readsPlace_81 : decode cX9_readsPlace 81 = .ok (.bipush (-9), 2) := by decide +kernel
theorem dX9_readsPlace_83 : decode cX9_readsPlace 83 = .ok (.goto 9, 3) := by decide +kernel
theorem dX9_readsPlace_86 : decode cX9_readsPlace 86 = .ok (.aload_n 0, 1) := by decide +kernel
theorem dX9_readsPlace_87 : decode cX9_readsPlace 87 = .ok (.iload_n 1, 1) := by decide +kernel
theorem dX9_readsPlace_88 : decode cX9_readsPlace 88 = .ok (.iload_n 2, 1) := by decide +kernel
theorem dX9_readsPlace_89 : decode cX9_readsPlace 89 = .ok (.invokevirtual 98, 3) := by decide +kernel
theorem dX9_readsPlace_92 : decode cX9_readsPlace 92 = .ok (.istore 5, 2) := by decide +kernel
theorem dX9_readsPlace_94 : decode cX9_readsPlace 94 = .ok (.iload 5, 2) := by decide +kernel
theorem dX9_readsPlace_96 : decode cX9_readsPlace 96 = .ok (.ifCond .ge 5, 3) := by decide +kernel
theorem dX9_readsPlace_99 : decode cX9_readsPlace 99 = .ok (.iconst 0, 1) := by decide +kernel
theorem dX9_readsPlace_100 : decode cX9_readsPlace 100 = .ok (.ireturn, 1) := by decide +kernel
theorem dX9_readsPlace_101 : decode cX9_readsPlace 101 = .ok (.aload_n 0, 1) := by decide +kernel
theorem dX9_readsPlace_102 : decode cX9_readsPlace 102 = .ok (.getfield 22, 3) := by decide +kernel
theorem dX9_readsPlace_105 : decode cX9_readsPlace 105 = .ok (.aload_n 0, 1) := by decide +kernel
theorem dX9_readsPlace_106 : decode cX9_readsPlace 106 = .ok (.getfield 95, 3) := by decide +kernel
theorem dX9_readsPlace_109 : decode cX9_readsPlace 109 = .ok (.iload_n 3, 1) := by decide +kernel
theorem dX9_readsPlace_110 : decode cX9_readsPlace 110 = .ok (.bipush 102, 2) := by decide +kernel
theorem dX9_readsPlace_112 : decode cX9_readsPlace 112 = .ok (.if_icmp .ne 7, 3) := by decide +kernel
theorem dX9_readsPlace_115 : decode cX9_readsPlace 115 = .ok (.iconst 0, 1) := by decide +kernel
theorem dX9_readsPlace_116 : decode cX9_readsPlace 116 = .ok (.goto 14, 3) := by decide +kernel
theorem dX9_readsPlace_119 : decode cX9_readsPlace 119 = .ok (.iload_n 3, 1) := by decide +kernel
theorem dX9_readsPlace_120 : decode cX9_readsPlace 120 = .ok (.bipush 109, 2) := by decide +kernel
theorem dX9_readsPlace_122 : decode cX9_readsPlace 122 = .ok (.if_icmp .ne 7, 3) := by decide +kernel
theorem dX9_readsPlace_125 : decode cX9_readsPlace 125 = .ok (.iconst 1, 1) := by decide +kernel
theorem dX9_readsPlace_126 : decode cX9_readsPlace 126 = .ok (.goto 4, 3) := by decide +kernel
theorem dX9_readsPlace_129 : decode cX9_readsPlace 129 = .ok (.iconst 2, 1) := by decide +kernel
theorem dX9_readsPlace_130 : decode cX9_readsPlace 130 = .ok (.iastore, 1) := by decide +kernel
theorem dX9_readsPlace_131 : decode cX9_readsPlace 131 = .ok (.aload_n 0, 1) := by decide +kernel
theorem dX9_readsPlace_132 : decode cX9_readsPlace 132 = .ok (.getfield 25, 3) := by decide +kernel
theorem dX9_readsPlace_135 : decode cX9_readsPlace 135 = .ok (.aload_n 0, 1) := by decide +kernel
theorem dX9_readsPlace_136 : decode cX9_readsPlace 136 = .ok (.getfield 95, 3) := by decide +kernel
theorem dX9_readsPlace_139 : decode cX9_readsPlace 139 = .ok (.iload 4, 2) := by decide +kernel
theorem dX9_readsPlace_141 : decode cX9_readsPlace 141 = .ok (.iastore, 1) := by decide +kernel
theorem dX9_readsPlace_142 : decode cX9_readsPlace 142 = .ok (.aload_n 0, 1) := by decide +kernel
theorem dX9_readsPlace_143 : decode cX9_readsPlace 143 = .ok (.getfield 28, 3) := by decide +kernel
theorem dX9_readsPlace_146 : decode cX9_readsPlace 146 = .ok (.aload_n 0, 1) := by decide +kernel
theorem dX9_readsPlace_147 : decode cX9_readsPlace 147 = .ok (.getfield 95, 3) := by decide +kernel
theorem dX9_readsPlace_150 : decode cX9_readsPlace 150 = .ok (.iload 5, 2) := by decide +kernel
theorem dX9_readsPlace_152 : decode cX9_readsPlace 152 = .ok (.iastore, 1) := by decide +kernel
theorem dX9_readsPlace_153 : decode cX9_readsPlace 153 = .ok (.aload_n 0, 1) := by decide +kernel
theorem dX9_readsPlace_154 : decode cX9_readsPlace 154 = .ok (.dup, 1) := by decide +kernel
theorem dX9_readsPlace_155 : decode cX9_readsPlace 155 = .ok (.getfield 95, 3) := by decide +kernel
theorem dX9_readsPlace_158 : decode cX9_readsPlace 158 = .ok (.iconst 1, 1) := by decide +kernel
theorem dX9_readsPlace_159 : decode cX9_readsPlace 159 = .ok (.iadd, 1) := by decide +kernel
theorem dX9_readsPlace_160 : decode cX9_readsPlace 160 = .ok (.putfield 95, 3) := by decide +kernel
theorem dX9_readsPlace_163 : decode cX9_readsPlace 163 = .ok (.iconst 1, 1) := by decide +kernel
theorem dX9_readsPlace_164 : decode cX9_readsPlace 164 = .ok (.ireturn, 1) := by decide +kernel
theorem dX9_lifeRead_0 : decode cX9_lifeRead 0 = .ok (.aload_n 0, 1) := by decide +kernel
theorem dX9_lifeRead_1 : decode cX9_lifeRead 1 = .ok (.iconst 0, 1) := by decide +kernel
theorem dX9_lifeRead_2 : decode cX9_lifeRead 2 = .ok (.putfield 84, 3) := by decide +kernel
theorem dX9_lifeRead_5 : decode cX9_lifeRead 5 = .ok (.aload_n 0, 1) := by decide +kernel
theorem dX9_lifeRead_6 : decode cX9_lifeRead 6 = .ok (.iconst 0, 1) := by decide +kernel
theorem dX9_lifeRead_7 : decode cX9_lifeRead 7 = .ok (.putfield 95, 3) := by decide +kernel
theorem dX9_lifeRead_10 : decode cX9_lifeRead 10 = .ok (.aload_n 0, 1) := by decide +kernel
theorem dX9_lifeRead_11 : decode cX9_lifeRead 11 = .ok (.iload_n 1, 1) := by decide +kernel
theorem dX9_lifeRead_12 : decode cX9_lifeRead 12 = .ok (.iload_n 2, 1) := by decide +kernel
theorem dX9_lifeRead_13 : decode cX9_lifeRead 13 = .ok (.invokevirtual 87, 3) := by decide +kernel
theorem dX9_lifeRead_16 : decode cX9_lifeRead 16 = .ok (.bipush 112, 2) := by decide +kernel
theorem dX9_lifeRead_18 : decode cX9_lifeRead 18 = .ok (.if_icmp .eq 6, 3) := by decide +kernel
theorem dX9_lifeRead_21 : decode cX9_lifeRead 21 = .ok (.bipush (-9), 2) := by decide +kernel
theorem dX9_lifeRead_23 : decode cX9_lifeRead 23 = .ok (.ireturn, 1) := by decide +kernel
theorem dX9_lifeRead_24 : decode cX9_lifeRead 24 = .ok (.aload_n 0, 1) := by decide +kernel
theorem dX9_lifeRead_25 : decode cX9_lifeRead 25 = .ok (.dup, 1) := by decide +kernel
theorem dX9_lifeRead_26 : decode cX9_lifeRead 26 = .ok (.getfield 84, 3) := by decide +kernel
theorem dX9_lifeRead_29 : decode cX9_lifeRead 29 = .ok (.iconst 1, 1) := by decide +kernel
theorem dX9_lifeRead_30 : decode cX9_lifeRead 30 = .ok (.iadd, 1) := by decide +kernel
theorem dX9_lifeRead_31 : decode cX9_lifeRead 31 = .ok (.putfield 84, 3) := by decide +kernel
theorem dX9_lifeRead_34 : decode cX9_lifeRead 34 = .ok (.aload_n 0, 1) := by decide +kernel
theorem dX9_lifeRead_35 : decode cX9_lifeRead 35 = .ok (.iload_n 1, 1) := by decide +kernel
theorem dX9_lifeRead_36 : decode cX9_lifeRead 36 = .ok (.iload_n 2, 1) := by decide +kernel
theorem dX9_lifeRead_37 : decode cX9_lifeRead 37 = .ok (.iconst 0, 1) := by decide +kernel
theorem dX9_lifeRead_38 : decode cX9_lifeRead 38 = .ok (.iconst 0, 1) := by decide +kernel
theorem dX9_lifeRead_39 : decode cX9_lifeRead 39 = .ok (.bipush 9, 2) := by decide +kernel
theorem dX9_lifeRead_41 : decode cX9_lifeRead 41 = .ok (.invokevirtual 91, 3) := by decide +kernel
theorem dX9_lifeRead_44 : decode cX9_lifeRead 44 = .ok (.istore_n 3, 1) := by decide +kernel
theorem dX9_lifeRead_45 : decode cX9_lifeRead 45 = .ok (.aload_n 0, 1) := by decide +kernel
theorem dX9_lifeRead_46 : decode cX9_lifeRead 46 = .ok (.iload_n 1, 1) := by decide +kernel
theorem dX9_lifeRead_47 : decode cX9_lifeRead 47 = .ok (.iload_n 2, 1) := by decide +kernel
theorem dX9_lifeRead_48 : decode cX9_lifeRead 48 = .ok (.iload_n 3, 1) := by decide +kernel
theorem dX9_lifeRead_49 : decode cX9_lifeRead 49 = .ok (.iload_n 3, 1) := by decide +kernel
theorem dX9_lifeRead_50 : decode cX9_lifeRead 50 = .ok (.ifCond .ne 7, 3) := by decide +kernel
theorem dX9_lifeRead_53 : decode cX9_lifeRead 53 = .ok (.iconst 1, 1) := by decide +kernel
theorem dX9_lifeRead_54 : decode cX9_lifeRead 54 = .ok (.goto 4, 3) := by decide +kernel
theorem dX9_lifeRead_57 : decode cX9_lifeRead 57 = .ok (.iconst 0, 1) := by decide +kernel
theorem dX9_lifeRead_58 : decode cX9_lifeRead 58 = .ok (.bipush 9, 2) := by decide +kernel
theorem dX9_lifeRead_60 : decode cX9_lifeRead 60 = .ok (.invokevirtual 91, 3) := by decide +kernel
theorem dX9_lifeRead_63 : decode cX9_lifeRead 63 = .ok (.istore 4, 2) := by decide +kernel
theorem dX9_lifeRead_65 : decode cX9_lifeRead 65 = .ok (.iload 4, 2) := by decide +kernel
theorem dX9_lifeRead_67 : decode cX9_lifeRead 67 = .ok (.ifCond .lt 7, 3) := by decide +kernel
theorem dX9_lifeRead_70 : decode cX9_lifeRead 70 = .ok (.iconst 1, 1) := by decide +kernel
theorem dX9_lifeRead_71 : decode cX9_lifeRead 71 = .ok (.goto 4, 3) := by decide +kernel
theorem dX9_lifeRead_74 : decode cX9_lifeRead 74 = .ok (.iconst 0, 1) := by decide +kernel
theorem dX9_lifeRead_75 : decode cX9_lifeRead 75 = .ok (.istore 5, 2) := by decide +kernel
theorem dX9_lifeRead_77 : decode cX9_lifeRead 77 = .ok (.iload 5, 2) := by decide +kernel
theorem dX9_lifeRead_79 : decode cX9_lifeRead 79 = .ok (.ifCond .eq 29, 3) := by decide +kernel
theorem dX9_lifeRead_82 : decode cX9_lifeRead 82 = .ok (.aload_n 0, 1) := by decide +kernel
theorem dX9_lifeRead_83 : decode cX9_lifeRead 83 = .ok (.getfield 95, 3) := by decide +kernel
theorem dX9_lifeRead_86 : decode cX9_lifeRead 86 = .ok (.ifCond .eq 11, 3) := by decide +kernel
theorem dX9_lifeRead_89 : decode cX9_lifeRead 89 = .ok (.aload_n 0, 1) := by decide +kernel
theorem dX9_lifeRead_90 : decode cX9_lifeRead 90 = .ok (.getfield 84, 3) := by decide +kernel
theorem dX9_lifeRead_93 : decode cX9_lifeRead 93 = .ok (.iload_n 2, 1) := by decide +kernel
theorem dX9_lifeRead_94 : decode cX9_lifeRead 94 = .ok (.if_icmp .ge 14, 3) := by decide +kernel
theorem dX9_lifeRead_97 : decode cX9_lifeRead 97 = .ok (.aload_n 0, 1) := by decide +kernel
theorem dX9_lifeRead_98 : decode cX9_lifeRead 98 = .ok (.iload_n 1, 1) := by decide +kernel
theorem dX9_lifeRead_99 : decode cX9_lifeRead 99 = .ok (.iload_n 2, 1) := by decide +kernel
theorem dX9_lifeRead_100 : decode cX9_lifeRead 100 = .ok (.invokevirtual 101, 3) := by decide +kernel
theorem dX9_lifeRead_103 : decode cX9_lifeRead 103 = .ok (.istore 5, 2) := by decide +kernel
theorem dX9_lifeRead_105 : decode cX9_lifeRead 105 = .ok (.goto (-28), 3) := by decide +kernel
theorem dX9_lifeRead_108 : decode cX9_lifeRead 108 = .ok (.iload 5, 2) := by decide +kernel
theorem dX9_lifeRead_110 : decode cX9_lifeRead 110 = .ok (.ifCond .eq 13, 3) := by decide +kernel
theorem dX9_lifeRead_113 : decode cX9_lifeRead 113 = .ok (.bipush 10, 2) := by decide +kernel
theorem dX9_lifeRead_115 : decode cX9_lifeRead 115 = .ok (.iload_n 3, 1) := by decide +kernel
theorem dX9_lifeRead_116 : decode cX9_lifeRead 116 = .ok (.imul, 1) := by decide +kernel
theorem dX9_lifeRead_117 : decode cX9_lifeRead 117 = .ok (.iload 4, 2) := by decide +kernel
theorem dX9_lifeRead_119 : decode cX9_lifeRead 119 = .ok (.iadd, 1) := by decide +kernel
theorem dX9_lifeRead_120 : decode cX9_lifeRead 120 = .ok (.goto 5, 3) := by decide +kernel
theorem dX9_lifeRead_123 : decode cX9_lifeRead 123 = .ok (.bipush (-9), 2) := by decide +kernel
theorem dX9_lifeRead_125 : decode cX9_lifeRead 125 = .ok (.ireturn, 1) := by decide +kernel
theorem dX9_cellsBarred_0 : decode cX9_cellsBarred 0 = .ok (.aload_n 0, 1) := by decide +kernel
theorem dX9_cellsBarred_1 : decode cX9_cellsBarred 1 = .ok (.getfield 55, 3) := by decide +kernel
theorem dX9_cellsBarred_4 : decode cX9_cellsBarred 4 = .ok (.iload_n 1, 1) := by decide +kernel
theorem dX9_cellsBarred_5 : decode cX9_cellsBarred 5 = .ok (.iaload, 1) := by decide +kernel
theorem dX9_cellsBarred_6 : decode cX9_cellsBarred 6 = .ok (.ifCond .lt 19, 3) := by decide +kernel
theorem dX9_cellsBarred_9 : decode cX9_cellsBarred 9 = .ok (.aload_n 0, 1) := by decide +kernel
theorem dX9_cellsBarred_10 : decode cX9_cellsBarred 10 = .ok (.getfield 58, 3) := by decide +kernel
theorem dX9_cellsBarred_13 : decode cX9_cellsBarred 13 = .ok (.iload_n 1, 1) := by decide +kernel
theorem dX9_cellsBarred_14 : decode cX9_cellsBarred 14 = .ok (.iaload, 1) := by decide +kernel
theorem dX9_cellsBarred_15 : decode cX9_cellsBarred 15 = .ok (.iload_n 2, 1) := by decide +kernel
theorem dX9_cellsBarred_16 : decode cX9_cellsBarred 16 = .ok (.if_icmp .eq 9, 3) := by decide +kernel
theorem dX9_cellsBarred_19 : decode cX9_cellsBarred 19 = .ok (.aload_n 0, 1) := by decide +kernel
theorem dX9_cellsBarred_20 : decode cX9_cellsBarred 20 = .ok (.iconst 2, 1) := by decide +kernel
theorem dX9_cellsBarred_21 : decode cX9_cellsBarred 21 = .ok (.invokevirtual 105, 3) := by decide +kernel
theorem dX9_cellsBarred_24 : decode cX9_cellsBarred 24 = .ok (.ireturn, 1) := by decide +kernel
theorem dX9_cellsBarred_25 : decode cX9_cellsBarred 25 = .ok (.aload_n 0, 1) := by decide +kernel
theorem dX9_cellsBarred_26 : decode cX9_cellsBarred 26 = .ok (.getfield 55, 3) := by decide +kernel
theorem dX9_cellsBarred_29 : decode cX9_cellsBarred 29 = .ok (.iload_n 1, 1) := by decide +kernel
theorem dX9_cellsBarred_30 : decode cX9_cellsBarred 30 = .ok (.iaload, 1) := by decide +kernel
theorem dX9_cellsBarred_31 : decode cX9_cellsBarred 31 = .ok (.ifCond .ge 9, 3) := by decide +kernel
theorem dX9_cellsBarred_34 : decode cX9_cellsBarred 34 = .ok (.aload_n 0, 1) := by decide +kernel
theorem dX9_cellsBarred_35 : decode cX9_cellsBarred 35 = .ok (.iconst 1, 1) := by decide +kernel
theorem dX9_cellsBarred_36 : decode cX9_cellsBarred 36 = .ok (.invokevirtual 105, 3) := by decide +kernel
theorem dX9_cellsBarred_39 : decode cX9_cellsBarred 39 = .ok (.ireturn, 1) := by decide +kernel
theorem dX9_cellsBarred_40 : decode cX9_cellsBarred 40 = .ok (.lload 4, 2) := by decide +kernel
theorem dX9_cellsBarred_42 : decode cX9_cellsBarred 42 = .ok (.lconst 0, 1) := by decide +kernel
theorem dX9_cellsBarred_43 : decode cX9_cellsBarred 43 = .ok (.lcmp, 1) := by decide +kernel
theorem dX9_cellsBarred_44 : decode cX9_cellsBarred 44 = .ok (.ifCond .ge 9, 3) := by decide +kernel
theorem dX9_cellsBarred_47 : decode cX9_cellsBarred 47 = .ok (.aload_n 0, 1) := by decide +kernel
theorem dX9_cellsBarred_48 : decode cX9_cellsBarred 48 = .ok (.iconst 4, 1) := by decide +kernel
theorem dX9_cellsBarred_49 : decode cX9_cellsBarred 49 = .ok (.invokevirtual 105, 3) := by decide +kernel
theorem dX9_cellsBarred_52 : decode cX9_cellsBarred 52 = .ok (.ireturn, 1) := by decide +kernel
theorem dX9_cellsBarred_53 : decode cX9_cellsBarred 53 = .ok (.iload_n 3, 1) := by decide +kernel
theorem dX9_cellsBarred_54 : decode cX9_cellsBarred 54 = .ok (.lload 4, 2) := by decide +kernel
theorem dX9_cellsBarred_56 : decode cX9_cellsBarred 56 = .ok (.aload_n 0, 1) := by decide +kernel
theorem dX9_cellsBarred_57 : decode cX9_cellsBarred 57 = .ok (.getfield 55, 3) := by decide +kernel
theorem dX9_cellsBarred_60 : decode cX9_cellsBarred 60 = .ok (.iload_n 1, 1) := by decide +kernel
theorem dX9_cellsBarred_61 : decode cX9_cellsBarred 61 = .ok (.iaload, 1) := by decide +kernel
theorem dX9_cellsBarred_62 : decode cX9_cellsBarred 62 = .ok (.invokestatic 109, 3) := by decide +kernel
theorem dX9_cellsBarred_65 : decode cX9_cellsBarred 65 = .ok (.ifCond .eq 11, 3) := by decide +kernel
theorem dX9_cellsBarred_68 : decode cX9_cellsBarred 68 = .ok (.aload_n 0, 1) := by decide +kernel
theorem dX9_cellsBarred_69 : decode cX9_cellsBarred 69 = .ok (.iconst 3, 1) := by decide +kernel
theorem dX9_cellsBarred_70 : decode cX9_cellsBarred 70 = .ok (.invokevirtual 105, 3) := by decide +kernel
theorem dX9_cellsBarred_73 : decode cX9_cellsBarred 73 = .ok (.goto 4, 3) := by decide +kernel
theorem dX9_cellsBarred_76 : decode cX9_cellsBarred 76 = .ok (.iconst 0, 1) := by decide +kernel
theorem dX9_cellsBarred_77 : decode cX9_cellsBarred 77 = .ok (.ireturn, 1) := by decide +kernel
theorem dX9_panel_0 : decode cX9_panel 0 = .ok (.iload_n 1, 1) := by decide +kernel
theorem dX9_panel_1 : decode cX9_panel 1 = .ok (.invokestatic 113, 3) := by decide +kernel
theorem dX9_panel_4 : decode cX9_panel 4 = .ok (.ifCond .eq 9, 3) := by decide +kernel
theorem dX9_panel_7 : decode cX9_panel 7 = .ok (.aload_n 0, 1) := by decide +kernel
theorem dX9_panel_8 : decode cX9_panel 8 = .ok (.iconst (-1), 1) := by decide +kernel
theorem dX9_panel_9 : decode cX9_panel 9 = .ok (.invokevirtual 117, 3) := by decide +kernel
theorem dX9_panel_12 : decode cX9_panel 12 = .ok (.ireturn, 1) := by decide +kernel
theorem dX9_panel_13 : decode cX9_panel 13 = .ok (.iload_n 2, 1) := by decide +kernel
theorem dX9_panel_14 : decode cX9_panel 14 = .ok (.i2l, 1) := by decide +kernel
theorem dX9_panel_15 : decode cX9_panel 15 = .ok (.lconst 0, 1) := by decide +kernel
theorem dX9_panel_16 : decode cX9_panel 16 = .ok (.ldc2_w 120, 3) := by decide +kernel
theorem dX9_panel_19 : decode cX9_panel 19 = .ok (.invokestatic 80, 3) := by decide +kernel
theorem dX9_panel_22 : decode cX9_panel 22 = .ok (.ifCond .ne 10, 3) := by decide +kernel
theorem dX9_panel_25 : decode cX9_panel 25 = .ok (.aload_n 0, 1) := by decide +kernel
theorem dX9_panel_26 : decode cX9_panel 26 = .ok (.bipush (-2), 2) := by decide +kernel
theorem dX9_panel_28 : decode cX9_panel 28 = .ok (.invokevirtual 117, 3) := by decide +kernel
theorem dX9_panel_31 : decode cX9_panel 31 = .ok (.ireturn, 1) := by decide +kernel
theorem dX9_panel_32 : decode cX9_panel 32 = .ok (.aload_n 0, 1) := by decide +kernel
theorem dX9_panel_33 : decode cX9_panel 33 = .ok (.iload_n 1, 1) := by decide +kernel
theorem dX9_panel_34 : decode cX9_panel 34 = .ok (.iload_n 2, 1) := by decide +kernel
theorem dX9_panel_35 : decode cX9_panel 35 = .ok (.iload_n 3, 1) := by decide +kernel
theorem dX9_panel_36 : decode cX9_panel 36 = .ok (.iload 4, 2) := by decide +kernel
theorem dX9_panel_38 : decode cX9_panel 38 = .ok (.i2l, 1) := by decide +kernel
theorem dX9_panel_39 : decode cX9_panel 39 = .ok (.invokevirtual 122, 3) := by decide +kernel
theorem dX9_panel_42 : decode cX9_panel 42 = .ok (.istore 5, 2) := by decide +kernel
theorem dX9_panel_44 : decode cX9_panel 44 = .ok (.iload 5, 2) := by decide +kernel
theorem dX9_panel_46 : decode cX9_panel 46 = .ok (.ifCond .ge 6, 3) := by decide +kernel
theorem dX9_panel_49 : decode cX9_panel 49 = .ok (.iload 5, 2) := by decide +kernel
theorem dX9_panel_51 : decode cX9_panel 51 = .ok (.ireturn, 1) := by decide +kernel
theorem dX9_panel_52 : decode cX9_panel 52 = .ok (.aload_n 0, 1) := by decide +kernel
theorem dX9_panel_53 : decode cX9_panel 53 = .ok (.bipush 60, 2) := by decide +kernel
theorem dX9_panel_55 : decode cX9_panel 55 = .ok (.iload_n 1, 1) := by decide +kernel
theorem dX9_panel_56 : decode cX9_panel 56 = .ok (.imul, 1) := by decide +kernel
theorem dX9_panel_57 : decode cX9_panel 57 = .ok (.iload_n 3, 1) := by decide +kernel
theorem dX9_panel_58 : decode cX9_panel 58 = .ok (.iadd, 1) := by decide +kernel
theorem dX9_panel_59 : decode cX9_panel 59 = .ok (.iload 4, 2) := by decide +kernel
theorem dX9_panel_61 : decode cX9_panel 61 = .ok (.invokevirtual 126, 3) := by decide +kernel
theorem dX9_panel_64 : decode cX9_panel 64 = .ok (.istore 6, 2) := by decide +kernel
theorem dX9_panel_66 : decode cX9_panel 66 = .ok (.iload 6, 2) := by decide +kernel
theorem dX9_panel_68 : decode cX9_panel 68 = .ok (.ifCond .ge 15, 3) := by decide +kernel
theorem dX9_panel_71 : decode cX9_panel 71 = .ok (.aload_n 0, 1) := by decide +kernel
theorem dX9_panel_72 : decode cX9_panel 72 = .ok (.bipush (-100), 2) := by decide +kernel
theorem dX9_panel_74 : decode cX9_panel 74 = .ok (.aload_n 0, 1) := by decide +kernel
theorem dX9_panel_75 : decode cX9_panel 75 = .ok (.getfield 84, 3) := by decide +kernel
theorem dX9_panel_78 : decode cX9_panel 78 = .ok (.isub, 1) := by decide +kernel
theorem dX9_panel_79 : decode cX9_panel 79 = .ok (.invokevirtual 117, 3) := by decide +kernel
theorem dX9_panel_82 : decode cX9_panel 82 = .ok (.ireturn, 1) := by decide +kernel
theorem dX9_panel_83 : decode cX9_panel 83 = .ok (.aload_n 0, 1) := by decide +kernel
theorem dX9_panel_84 : decode cX9_panel 84 = .ok (.iload 6, 2) := by decide +kernel
theorem dX9_panel_86 : decode cX9_panel 86 = .ok (.putfield 129, 3) := by decide +kernel
theorem dX9_panel_89 : decode cX9_panel 89 = .ok (.aload_n 0, 1) := by decide +kernel
theorem dX9_panel_90 : decode cX9_panel 90 = .ok (.iconst 0, 1) := by decide +kernel
theorem dX9_panel_91 : decode cX9_panel 91 = .ok (.putfield 132, 3) := by decide +kernel
theorem dX9_panel_94 : decode cX9_panel 94 = .ok (.aload_n 0, 1) := by decide +kernel
theorem dX9_panel_95 : decode cX9_panel 95 = .ok (.aload_n 0, 1) := by decide +kernel
theorem dX9_panel_96 : decode cX9_panel 96 = .ok (.getfield 95, 3) := by decide +kernel
theorem dX9_panel_99 : decode cX9_panel 99 = .ok (.putfield 77, 3) := by decide +kernel
theorem dX9_panel_102 : decode cX9_panel 102 = .ok (.iconst 0, 1) := by decide +kernel
theorem dX9_panel_103 : decode cX9_panel 103 = .ok (.istore 7, 2) := by decide +kernel
theorem dX9_panel_105 : decode cX9_panel 105 = .ok (.iload 7, 2) := by decide +kernel
theorem dX9_panel_107 : decode cX9_panel 107 = .ok (.aload_n 0, 1) := by decide +kernel
theorem dX9_panel_108 : decode cX9_panel 108 = .ok (.getfield 77, 3) := by decide +kernel
theorem dX9_panel_111 : decode cX9_panel 111 = .ok (.if_icmp .ge 51, 3) := by decide +kernel
theorem dX9_panel_114 : decode cX9_panel 114 = .ok (.aload_n 0, 1) := by decide +kernel
theorem dX9_panel_115 : decode cX9_panel 115 = .ok (.getfield 7, 3) := by decide +kernel
theorem dX9_panel_118 : decode cX9_panel 118 = .ok (.iload 7, 2) := by decide +kernel
theorem dX9_panel_120 : decode cX9_panel 120 = .ok (.aload_n 0, 1) := by decide +kernel
theorem dX9_panel_121 : decode cX9_panel 121 = .ok (.getfield 22, 3) := by decide +kernel
theorem dX9_panel_124 : decode cX9_panel 124 = .ok (.iload 7, 2) := by decide +kernel
theorem dX9_panel_126 : decode cX9_panel 126 = .ok (.iaload, 1) := by decide +kernel
theorem dX9_panel_127 : decode cX9_panel 127 = .ok (.iastore, 1) := by decide +kernel
theorem dX9_panel_128 : decode cX9_panel 128 = .ok (.aload_n 0, 1) := by decide +kernel
theorem dX9_panel_129 : decode cX9_panel 129 = .ok (.getfield 13, 3) := by decide +kernel
theorem dX9_panel_132 : decode cX9_panel 132 = .ok (.iload 7, 2) := by decide +kernel
theorem dX9_panel_134 : decode cX9_panel 134 = .ok (.aload_n 0, 1) := by decide +kernel
theorem dX9_panel_135 : decode cX9_panel 135 = .ok (.getfield 25, 3) := by decide +kernel
theorem dX9_panel_138 : decode cX9_panel 138 = .ok (.iload 7, 2) := by decide +kernel
theorem dX9_panel_140 : decode cX9_panel 140 = .ok (.iaload, 1) := by decide +kernel
theorem dX9_panel_141 : decode cX9_panel 141 = .ok (.iastore, 1) := by decide +kernel
theorem dX9_panel_142 : decode cX9_panel 142 = .ok (.aload_n 0, 1) := by decide +kernel
theorem dX9_panel_143 : decode cX9_panel 143 = .ok (.getfield 16, 3) := by decide +kernel
theorem dX9_panel_146 : decode cX9_panel 146 = .ok (.iload 7, 2) := by decide +kernel
theorem dX9_panel_148 : decode cX9_panel 148 = .ok (.aload_n 0, 1) := by decide +kernel
theorem dX9_panel_149 : decode cX9_panel 149 = .ok (.getfield 28, 3) := by decide +kernel
theorem dX9_panel_152 : decode cX9_panel 152 = .ok (.iload 7, 2) := by decide +kernel
theorem dX9_panel_154 : decode cX9_panel 154 = .ok (.iaload, 1) := by decide +kernel
theorem dX9_panel_155 : decode cX9_panel 155 = .ok (.iastore, 1) := by decide +kernel
theorem dX9_panel_156 : decode cX9_panel 156 = .ok (.iinc 7 1, 3) := by decide +kernel
theorem dX9_panel_159 : decode cX9_panel 159 = .ok (.goto (-54), 3) := by decide +kernel
theorem dX9_panel_162 : decode cX9_panel 162 = .ok (.iconst 0, 1) := by decide +kernel
theorem dX9_panel_163 : decode cX9_panel 163 = .ok (.istore 7, 2) := by decide +kernel
theorem dX9_panel_165 : decode cX9_panel 165 = .ok (.iload 7, 2) := by decide +kernel
theorem dX9_panel_167 : decode cX9_panel 167 = .ok (.bipush 28, 2) := by decide +kernel
theorem dX9_panel_169 : decode cX9_panel 169 = .ok (.if_icmp .ge 17, 3) := by decide +kernel
theorem dX9_panel_172 : decode cX9_panel 172 = .ok (.aload_n 0, 1) := by decide +kernel
theorem dX9_panel_173 : decode cX9_panel 173 = .ok (.getfield 19, 3) := by decide +kernel
theorem dX9_panel_176 : decode cX9_panel 176 = .ok (.iload 7, 2) := by decide +kernel
theorem dX9_panel_178 : decode cX9_panel 178 = .ok (.iconst 0, 1) := by decide +kernel
theorem dX9_panel_179 : decode cX9_panel 179 = .ok (.iastore, 1) := by decide +kernel
theorem dX9_panel_180 : decode cX9_panel 180 = .ok (.iinc 7 1, 3) := by decide +kernel
theorem dX9_panel_183 : decode cX9_panel 183 = .ok (.goto (-18), 3) := by decide +kernel
theorem dX9_panel_186 : decode cX9_panel 186 = .ok (.aload_n 0, 1) := by decide +kernel
theorem dX9_panel_187 : decode cX9_panel 187 = .ok (.iconst 0, 1) := by decide +kernel
theorem dX9_panel_188 : decode cX9_panel 188 = .ok (.putfield 135, 3) := by decide +kernel
theorem dX9_panel_191 : decode cX9_panel 191 = .ok (.aload_n 0, 1) := by decide +kernel
theorem dX9_panel_192 : decode cX9_panel 192 = .ok (.aload_n 0, 1) := by decide +kernel
theorem dX9_panel_193 : decode cX9_panel 193 = .ok (.getfield 77, 3) := by decide +kernel
theorem dX9_panel_196 : decode cX9_panel 196 = .ok (.invokevirtual 117, 3) := by decide +kernel
theorem dX9_panel_199 : decode cX9_panel 199 = .ok (.ireturn, 1) := by decide +kernel
theorem dX9_figureOf_0 : decode cX9_figureOf 0 = .ok (.iload_n 0, 1) := by decide +kernel
theorem dX9_figureOf_1 : decode cX9_figureOf 1 = .ok (.tableswitch 78 0 8 #[51, 54, 57, 60, 63, 66, 69, 72, 75], 51) := by decide +kernel
theorem dX9_figureOf_52 : decode cX9_figureOf 52 = .ok (.bipush 63, 2) := by decide +kernel
theorem dX9_figureOf_54 : decode cX9_figureOf 54 = .ok (.ireturn, 1) := by decide +kernel
theorem dX9_figureOf_55 : decode cX9_figureOf 55 = .ok (.bipush 6, 2) := by decide +kernel
theorem dX9_figureOf_57 : decode cX9_figureOf 57 = .ok (.ireturn, 1) := by decide +kernel
theorem dX9_figureOf_58 : decode cX9_figureOf 58 = .ok (.bipush 91, 2) := by decide +kernel
theorem dX9_figureOf_60 : decode cX9_figureOf 60 = .ok (.ireturn, 1) := by decide +kernel
theorem dX9_figureOf_61 : decode cX9_figureOf 61 = .ok (.bipush 79, 2) := by decide +kernel
theorem dX9_figureOf_63 : decode cX9_figureOf 63 = .ok (.ireturn, 1) := by decide +kernel
theorem dX9_figureOf_64 : decode cX9_figureOf 64 = .ok (.bipush 102, 2) := by decide +kernel
theorem dX9_figureOf_66 : decode cX9_figureOf 66 = .ok (.ireturn, 1) := by decide +kernel
theorem dX9_figureOf_67 : decode cX9_figureOf 67 = .ok (.bipush 109, 2) := by decide +kernel
theorem dX9_figureOf_69 : decode cX9_figureOf 69 = .ok (.ireturn, 1) := by decide +kernel
theorem dX9_figureOf_70 : decode cX9_figureOf 70 = .ok (.bipush 125, 2) := by decide +kernel
theorem dX9_figureOf_72 : decode cX9_figureOf 72 = .ok (.ireturn, 1) := by decide +kernel
theorem dX9_figureOf_73 : decode cX9_figureOf 73 = .ok (.bipush 7, 2) := by decide +kernel
theorem dX9_figureOf_75 : decode cX9_figureOf 75 = .ok (.ireturn, 1) := by decide +kernel
theorem dX9_figureOf_76 : decode cX9_figureOf 76 = .ok (.bipush 127, 2) := by decide +kernel
theorem dX9_figureOf_78 : decode cX9_figureOf 78 = .ok (.ireturn, 1) := by decide +kernel
theorem dX9_figureOf_79 : decode cX9_figureOf 79 = .ok (.bipush 111, 2) := by decide +kernel
theorem dX9_figureOf_81 : decode cX9_figureOf 81 = .ok (.ireturn, 1) := by decide +kernel
theorem dX9_exchanged_0 : decode cX9_exchanged 0 = .ok (.iload_n 0, 1) := by decide +kernel
theorem dX9_exchanged_1 : decode cX9_exchanged 1 = .ok (.iconst 1, 1) := by decide +kernel
theorem dX9_exchanged_2 : decode cX9_exchanged 2 = .ok (.iload_n 1, 1) := by decide +kernel
theorem dX9_exchanged_3 : decode cX9_exchanged 3 = .ok (.ishl, 1) := by decide +kernel
theorem dX9_exchanged_4 : decode cX9_exchanged 4 = .ok (.iconst (-1), 1) := by decide +kernel
theorem dX9_exchanged_5 : decode cX9_exchanged 5 = .ok (.ixor, 1) := by decide +kernel
theorem dX9_exchanged_6 : decode cX9_exchanged 6 = .ok (.iand, 1) := by decide +kernel
theorem dX9_exchanged_7 : decode cX9_exchanged 7 = .ok (.iconst 1, 1) := by decide +kernel
theorem dX9_exchanged_8 : decode cX9_exchanged 8 = .ok (.iload_n 2, 1) := by decide +kernel
theorem dX9_exchanged_9 : decode cX9_exchanged 9 = .ok (.ishl, 1) := by decide +kernel
theorem dX9_exchanged_10 : decode cX9_exchanged 10 = .ok (.iconst (-1), 1) := by decide +kernel
theorem dX9_exchanged_11 : decode cX9_exchanged 11 = .ok (.ixor, 1) := by decide +kernel
theorem dX9_exchanged_12 : decode cX9_exchanged 12 = .ok (.iand, 1) := by decide +kernel
theorem dX9_exchanged_13 : decode cX9_exchanged 13 = .ok (.istore_n 3, 1) := by decide +kernel
theorem dX9_exchanged_14 : decode cX9_exchanged 14 = .ok (.iload_n 3, 1) := by decide +kernel
theorem dX9_exchanged_15 : decode cX9_exchanged 15 = .ok (.iload_n 0, 1) := by decide +kernel
theorem dX9_exchanged_16 : decode cX9_exchanged 16 = .ok (.iload_n 1, 1) := by decide +kernel
theorem dX9_exchanged_17 : decode cX9_exchanged 17 = .ok (.ishr, 1) := by decide +kernel
theorem dX9_exchanged_18 : decode cX9_exchanged 18 = .ok (.iconst 1, 1) := by decide +kernel
theorem dX9_exchanged_19 : decode cX9_exchanged 19 = .ok (.iand, 1) := by decide +kernel
theorem dX9_exchanged_20 : decode cX9_exchanged 20 = .ok (.iload_n 2, 1) := by decide +kernel
theorem dX9_exchanged_21 : decode cX9_exchanged 21 = .ok (.ishl, 1) := by decide +kernel
theorem dX9_exchanged_22 : decode cX9_exchanged 22 = .ok (.ior, 1) := by decide +kernel
theorem dX9_exchanged_23 : decode cX9_exchanged 23 = .ok (.iload_n 0, 1) := by decide +kernel
theorem dX9_exchanged_24 : decode cX9_exchanged 24 = .ok (.iload_n 2, 1) := by decide +kernel
theorem dX9_exchanged_25 : decode cX9_exchanged 25 = .ok (.ishr, 1) := by decide +kernel
theorem dX9_exchanged_26 : decode cX9_exchanged 26 = .ok (.iconst 1, 1) := by decide +kernel
theorem dX9_exchanged_27 : decode cX9_exchanged 27 = .ok (.iand, 1) := by decide +kernel
theorem dX9_exchanged_28 : decode cX9_exchanged 28 = .ok (.iload_n 1, 1) := by decide +kernel
theorem dX9_exchanged_29 : decode cX9_exchanged 29 = .ok (.ishl, 1) := by decide +kernel
theorem dX9_exchanged_30 : decode cX9_exchanged 30 = .ok (.ior, 1) := by decide +kernel
theorem dX9_exchanged_31 : decode cX9_exchanged 31 = .ok (.ireturn, 1) := by decide +kernel
theorem dX9_mirrored_0 : decode cX9_mirrored 0 = .ok (.iload_n 0, 1) := by decide +kernel
theorem dX9_mirrored_1 : decode cX9_mirrored 1 = .ok (.iconst 1, 1) := by decide +kernel
theorem dX9_mirrored_2 : decode cX9_mirrored 2 = .ok (.iconst 5, 1) := by decide +kernel
theorem dX9_mirrored_3 : decode cX9_mirrored 3 = .ok (.invokestatic 138, 3) := by decide +kernel
theorem dX9_mirrored_6 : decode cX9_mirrored 6 = .ok (.iconst 2, 1) := by decide +kernel
theorem dX9_mirrored_7 : decode cX9_mirrored 7 = .ok (.iconst 4, 1) := by decide +kernel
theorem dX9_mirrored_8 : decode cX9_mirrored 8 = .ok (.invokestatic 138, 3) := by decide +kernel
theorem dX9_mirrored_11 : decode cX9_mirrored 11 = .ok (.ireturn, 1) := by decide +kernel
theorem dX9_turned_0 : decode cX9_turned 0 = .ok (.iload_n 0, 1) := by decide +kernel
theorem dX9_turned_1 : decode cX9_turned 1 = .ok (.iconst 0, 1) := by decide +kernel
theorem dX9_turned_2 : decode cX9_turned 2 = .ok (.iconst 3, 1) := by decide +kernel
theorem dX9_turned_3 : decode cX9_turned 3 = .ok (.invokestatic 138, 3) := by decide +kernel
theorem dX9_turned_6 : decode cX9_turned 6 = .ok (.iconst 1, 1) := by decide +kernel
theorem dX9_turned_7 : decode cX9_turned 7 = .ok (.iconst 2, 1) := by decide +kernel
theorem dX9_turned_8 : decode cX9_turned 8 = .ok (.invokestatic 138, 3) := by decide +kernel
theorem dX9_turned_11 : decode cX9_turned 11 = .ok (.iconst 4, 1) := by decide +kernel
theorem dX9_turned_12 : decode cX9_turned 12 = .ok (.iconst 5, 1) := by decide +kernel
theorem dX9_turned_13 : decode cX9_turned 13 = .ok (.invokestatic 138, 3) := by decide +kernel
theorem dX9_turned_16 : decode cX9_turned 16 = .ok (.ireturn, 1) := by decide +kernel
theorem dX9_faceOf_0 : decode cX9_faceOf 0 = .ok (.iload_n 1, 1) := by decide +kernel
theorem dX9_faceOf_1 : decode cX9_faceOf 1 = .ok (.invokestatic 142, 3) := by decide +kernel
theorem dX9_faceOf_4 : decode cX9_faceOf 4 = .ok (.istore_n 2, 1) := by decide +kernel
theorem dX9_faceOf_5 : decode cX9_faceOf 5 = .ok (.iload_n 0, 1) := by decide +kernel
theorem dX9_faceOf_6 : decode cX9_faceOf 6 = .ok (.ifCond .ne 7, 3) := by decide +kernel
theorem dX9_faceOf_9 : decode cX9_faceOf 9 = .ok (.iload_n 2, 1) := by decide +kernel
theorem dX9_faceOf_10 : decode cX9_faceOf 10 = .ok (.goto 22, 3) := by decide +kernel
theorem dX9_faceOf_13 : decode cX9_faceOf 13 = .ok (.iload_n 0, 1) := by decide +kernel
theorem dX9_faceOf_14 : decode cX9_faceOf 14 = .ok (.iconst 1, 1) := by decide +kernel
theorem dX9_faceOf_15 : decode cX9_faceOf 15 = .ok (.if_icmp .ne 10, 3) := by decide +kernel
theorem dX9_faceOf_18 : decode cX9_faceOf 18 = .ok (.iload_n 2, 1) := by decide +kernel
theorem dX9_faceOf_19 : decode cX9_faceOf 19 = .ok (.invokestatic 145, 3) := by decide +kernel
theorem dX9_faceOf_22 : decode cX9_faceOf 22 = .ok (.goto 10, 3) := by decide +kernel
theorem dX9_faceOf_25 : decode cX9_faceOf 25 = .ok (.iload_n 2, 1) := by decide +kernel
theorem dX9_faceOf_26 : decode cX9_faceOf 26 = .ok (.invokestatic 145, 3) := by decide +kernel
theorem dX9_faceOf_29 : decode cX9_faceOf 29 = .ok (.invokestatic 148, 3) := by decide +kernel
theorem dX9_faceOf_32 : decode cX9_faceOf 32 = .ok (.ireturn, 1) := by decide +kernel
theorem dX9_burnsAt_0 : decode cX9_burnsAt 0 = .ok (.aload_n 0, 1) := by decide +kernel
theorem dX9_burnsAt_1 : decode cX9_burnsAt 1 = .ok (.getfield 7, 3) := by decide +kernel
theorem dX9_burnsAt_4 : decode cX9_burnsAt 4 = .ok (.iload_n 1, 1) := by decide +kernel
theorem dX9_burnsAt_5 : decode cX9_burnsAt 5 = .ok (.iaload, 1) := by decide +kernel
theorem dX9_burnsAt_6 : decode cX9_burnsAt 6 = .ok (.iload_n 2, 1) := by decide +kernel
theorem dX9_burnsAt_7 : decode cX9_burnsAt 7 = .ok (.invokestatic 151, 3) := by decide +kernel
theorem dX9_burnsAt_10 : decode cX9_burnsAt 10 = .ok (.aload_n 0, 1) := by decide +kernel
theorem dX9_burnsAt_11 : decode cX9_burnsAt 11 = .ok (.getfield 13, 3) := by decide +kernel
theorem dX9_burnsAt_14 : decode cX9_burnsAt 14 = .ok (.iload_n 1, 1) := by decide +kernel
theorem dX9_burnsAt_15 : decode cX9_burnsAt 15 = .ok (.iaload, 1) := by decide +kernel
theorem dX9_burnsAt_16 : decode cX9_burnsAt 16 = .ok (.iconst (-1), 1) := by decide +kernel
theorem dX9_burnsAt_17 : decode cX9_burnsAt 17 = .ok (.ixor, 1) := by decide +kernel
theorem dX9_burnsAt_18 : decode cX9_burnsAt 18 = .ok (.iand, 1) := by decide +kernel
theorem dX9_burnsAt_19 : decode cX9_burnsAt 19 = .ok (.aload_n 0, 1) := by decide +kernel
theorem dX9_burnsAt_20 : decode cX9_burnsAt 20 = .ok (.getfield 16, 3) := by decide +kernel
theorem dX9_burnsAt_23 : decode cX9_burnsAt 23 = .ok (.iload_n 1, 1) := by decide +kernel
theorem dX9_burnsAt_24 : decode cX9_burnsAt 24 = .ok (.iaload, 1) := by decide +kernel
theorem dX9_burnsAt_25 : decode cX9_burnsAt 25 = .ok (.ior, 1) := by decide +kernel
theorem dX9_burnsAt_26 : decode cX9_burnsAt 26 = .ok (.ireturn, 1) := by decide +kernel
theorem dX9_ten_0 : decode cX9_ten 0 = .ok (.iconst 1, 1) := by decide +kernel
theorem dX9_ten_1 : decode cX9_ten 1 = .ok (.istore_n 2, 1) := by decide +kernel
theorem dX9_ten_2 : decode cX9_ten 2 = .ok (.iconst 0, 1) := by decide +kernel
theorem dX9_ten_3 : decode cX9_ten 3 = .ok (.istore_n 3, 1) := by decide +kernel
theorem dX9_ten_4 : decode cX9_ten 4 = .ok (.iload_n 3, 1) := by decide +kernel
theorem dX9_ten_5 : decode cX9_ten 5 = .ok (.iload_n 1, 1) := by decide +kernel
theorem dX9_ten_6 : decode cX9_ten 6 = .ok (.if_icmp .ge 14, 3) := by decide +kernel
theorem dX9_ten_9 : decode cX9_ten 9 = .ok (.iload_n 2, 1) := by decide +kernel
theorem dX9_ten_10 : decode cX9_ten 10 = .ok (.bipush 10, 2) := by decide +kernel
theorem dX9_ten_12 : decode cX9_ten 12 = .ok (.imul, 1) := by decide +kernel
theorem dX9_ten_13 : decode cX9_ten 13 = .ok (.istore_n 2, 1) := by decide +kernel
theorem dX9_ten_14 : decode cX9_ten 14 = .ok (.iinc 3 1, 3) := by decide +kernel
theorem dX9_ten_17 : decode cX9_ten 17 = .ok (.goto (-13), 3) := by decide +kernel
theorem dX9_ten_20 : decode cX9_ten 20 = .ok (.iload_n 2, 1) := by decide +kernel
theorem dX9_ten_21 : decode cX9_ten 21 = .ok (.ireturn, 1) := by decide +kernel
theorem dX9_last_0 : decode cX9_last 0 = .ok (.aload_n 0, 1) := by decide +kernel
theorem dX9_last_1 : decode cX9_last 1 = .ok (.aload_n 0, 1) := by decide +kernel
theorem dX9_last_2 : decode cX9_last 2 = .ok (.getfield 77, 3) := by decide +kernel
theorem dX9_last_5 : decode cX9_last 5 = .ok (.invokevirtual 154, 3) := by decide +kernel
theorem dX9_last_8 : decode cX9_last 8 = .ok (.iconst 1, 1) := by decide +kernel
theorem dX9_last_9 : decode cX9_last 9 = .ok (.isub, 1) := by decide +kernel
theorem dX9_last_10 : decode cX9_last 10 = .ok (.ireturn, 1) := by decide +kernel
theorem dX9_digitAt_0 : decode cX9_digitAt 0 = .ok (.iload_n 2, 1) := by decide +kernel
theorem dX9_digitAt_1 : decode cX9_digitAt 1 = .ok (.aload_n 0, 1) := by decide +kernel
theorem dX9_digitAt_2 : decode cX9_digitAt 2 = .ok (.aload_n 0, 1) := by decide +kernel
theorem dX9_digitAt_3 : decode cX9_digitAt 3 = .ok (.getfield 77, 3) := by decide +kernel
theorem dX9_digitAt_6 : decode cX9_digitAt 6 = .ok (.iconst 1, 1) := by decide +kernel
theorem dX9_digitAt_7 : decode cX9_digitAt 7 = .ok (.isub, 1) := by decide +kernel
theorem dX9_digitAt_8 : decode cX9_digitAt 8 = .ok (.iload_n 1, 1) := by decide +kernel
theorem dX9_digitAt_9 : decode cX9_digitAt 9 = .ok (.isub, 1) := by decide +kernel
theorem dX9_digitAt_10 : decode cX9_digitAt 10 = .ok (.invokevirtual 154, 3) := by decide +kernel
theorem dX9_digitAt_13 : decode cX9_digitAt 13 = .ok (.idiv, 1) := by decide +kernel
theorem dX9_digitAt_14 : decode cX9_digitAt 14 = .ok (.bipush 10, 2) := by decide +kernel
theorem dX9_digitAt_16 : decode cX9_digitAt 16 = .ok (.irem, 1) := by decide +kernel
theorem dX9_digitAt_17 : decode cX9_digitAt 17 = .ok (.ireturn, 1) := by decide +kernel
theorem dX9_unlikeAt_0 : decode cX9_unlikeAt 0 = .ok (.iconst 0, 1) := by decide +kernel
theorem dX9_unlikeAt_1 : decode cX9_unlikeAt 1 = .ok (.istore_n 2, 1) := by decide +kernel
theorem dX9_unlikeAt_2 : decode cX9_unlikeAt 2 = .ok (.iconst 0, 1) := by decide +kernel
theorem dX9_unlikeAt_3 : decode cX9_unlikeAt 3 = .ok (.istore_n 3, 1) := by decide +kernel
theorem dX9_unlikeAt_4 : decode cX9_unlikeAt 4 = .ok (.iload_n 3, 1) := by decide +kernel
theorem dX9_unlikeAt_5 : decode cX9_unlikeAt 5 = .ok (.bipush 10, 2) := by decide +kernel
theorem dX9_unlikeAt_7 : decode cX9_unlikeAt 7 = .ok (.if_icmp .ge 68, 3) := by decide +kernel
theorem dX9_unlikeAt_10 : decode cX9_unlikeAt 10 = .ok (.iconst 1, 1) := by decide +kernel
theorem dX9_unlikeAt_11 : decode cX9_unlikeAt 11 = .ok (.istore 4, 2) := by decide +kernel
theorem dX9_unlikeAt_13 : decode cX9_unlikeAt 13 = .ok (.iconst 0, 1) := by decide +kernel
theorem dX9_unlikeAt_14 : decode cX9_unlikeAt 14 = .ok (.istore 5, 2) := by decide +kernel
theorem dX9_unlikeAt_16 : decode cX9_unlikeAt 16 = .ok (.iload 5, 2) := by decide +kernel
theorem dX9_unlikeAt_18 : decode cX9_unlikeAt 18 = .ok (.iload_n 3, 1) := by decide +kernel
theorem dX9_unlikeAt_19 : decode cX9_unlikeAt 19 = .ok (.if_icmp .ge 37, 3) := by decide +kernel
theorem dX9_unlikeAt_22 : decode cX9_unlikeAt 22 = .ok (.iload 4, 2) := by decide +kernel
theorem dX9_unlikeAt_24 : decode cX9_unlikeAt 24 = .ok (.ifCond .eq 23, 3) := by decide +kernel
theorem dX9_unlikeAt_27 : decode cX9_unlikeAt 27 = .ok (.aload_n 0, 1) := by decide +kernel
theorem dX9_unlikeAt_28 : decode cX9_unlikeAt 28 = .ok (.iload_n 1, 1) := by decide +kernel
theorem dX9_unlikeAt_29 : decode cX9_unlikeAt 29 = .ok (.iload 5, 2) := by decide +kernel
theorem dX9_unlikeAt_31 : decode cX9_unlikeAt 31 = .ok (.invokevirtual 157, 3) := by decide +kernel
theorem dX9_unlikeAt_34 : decode cX9_unlikeAt 34 = .ok (.aload_n 0, 1) := by decide +kernel
theorem dX9_unlikeAt_35 : decode cX9_unlikeAt 35 = .ok (.iload_n 1, 1) := by decide +kernel
theorem dX9_unlikeAt_36 : decode cX9_unlikeAt 36 = .ok (.iload_n 3, 1) := by decide +kernel
theorem dX9_unlikeAt_37 : decode cX9_unlikeAt 37 = .ok (.invokevirtual 157, 3) := by decide +kernel
theorem dX9_unlikeAt_40 : decode cX9_unlikeAt 40 = .ok (.if_icmp .eq 7, 3) := by decide +kernel
theorem dX9_unlikeAt_43 : decode cX9_unlikeAt 43 = .ok (.iconst 1, 1) := by decide +kernel
theorem dX9_unlikeAt_44 : decode cX9_unlikeAt 44 = .ok (.goto 4, 3) := by decide +kernel
theorem dX9_unlikeAt_47 : decode cX9_unlikeAt 47 = .ok (.iconst 0, 1) := by decide +kernel
theorem dX9_unlikeAt_48 : decode cX9_unlikeAt 48 = .ok (.istore 4, 2) := by decide +kernel
theorem dX9_unlikeAt_50 : decode cX9_unlikeAt 50 = .ok (.iinc 5 1, 3) := by decide +kernel
theorem dX9_unlikeAt_53 : decode cX9_unlikeAt 53 = .ok (.goto (-37), 3) := by decide +kernel
theorem dX9_unlikeAt_56 : decode cX9_unlikeAt 56 = .ok (.iload_n 2, 1) := by decide +kernel
theorem dX9_unlikeAt_57 : decode cX9_unlikeAt 57 = .ok (.iload 4, 2) := by decide +kernel
theorem dX9_unlikeAt_59 : decode cX9_unlikeAt 59 = .ok (.ifCond .eq 7, 3) := by decide +kernel
theorem dX9_unlikeAt_62 : decode cX9_unlikeAt 62 = .ok (.iconst 1, 1) := by decide +kernel
theorem dX9_unlikeAt_63 : decode cX9_unlikeAt 63 = .ok (.goto 4, 3) := by decide +kernel
theorem dX9_unlikeAt_66 : decode cX9_unlikeAt 66 = .ok (.iconst 0, 1) := by decide +kernel
theorem dX9_unlikeAt_67 : decode cX9_unlikeAt 67 = .ok (.iadd, 1) := by decide +kernel
theorem dX9_unlikeAt_68 : decode cX9_unlikeAt 68 = .ok (.istore_n 2, 1) := by decide +kernel
theorem dX9_unlikeAt_69 : decode cX9_unlikeAt 69 = .ok (.iinc 3 1, 3) := by decide +kernel
theorem dX9_unlikeAt_72 : decode cX9_unlikeAt 72 = .ok (.goto (-68), 3) := by decide +kernel
theorem dX9_unlikeAt_75 : decode cX9_unlikeAt 75 = .ok (.iload_n 2, 1) := by decide +kernel
theorem dX9_unlikeAt_76 : decode cX9_unlikeAt 76 = .ok (.ireturn, 1) := by decide +kernel
theorem dX9_ofPlace_0 : decode cX9_ofPlace 0 = .ok (.aload_n 0, 1) := by decide +kernel
theorem dX9_ofPlace_1 : decode cX9_ofPlace 1 = .ok (.iload_n 1, 1) := by decide +kernel
theorem dX9_ofPlace_2 : decode cX9_ofPlace 2 = .ok (.invokevirtual 160, 3) := by decide +kernel
theorem dX9_ofPlace_5 : decode cX9_ofPlace 5 = .ok (.ifCond .eq 5, 3) := by decide +kernel
theorem dX9_ofPlace_8 : decode cX9_ofPlace 8 = .ok (.iconst (-1), 1) := by decide +kernel
theorem dX9_ofPlace_9 : decode cX9_ofPlace 9 = .ok (.ireturn, 1) := by decide +kernel
theorem dX9_ofPlace_10 : decode cX9_ofPlace 10 = .ok (.iload_n 2, 1) := by decide +kernel
theorem dX9_ofPlace_11 : decode cX9_ofPlace 11 = .ok (.tableswitch 75 0 4 #[33, 40, 47, 54, 60], 33) := by decide +kernel
theorem dX9_ofPlace_44 : decode cX9_ofPlace 44 = .ok (.aload_n 0, 1) := by decide +kernel
theorem dX9_ofPlace_45 : decode cX9_ofPlace 45 = .ok (.getfield 7, 3) := by decide +kernel
theorem dX9_ofPlace_48 : decode cX9_ofPlace 48 = .ok (.iload_n 1, 1) := by decide +kernel
theorem dX9_ofPlace_49 : decode cX9_ofPlace 49 = .ok (.iaload, 1) := by decide +kernel
theorem dX9_ofPlace_50 : decode cX9_ofPlace 50 = .ok (.ireturn, 1) := by decide +kernel
theorem dX9_ofPlace_51 : decode cX9_ofPlace 51 = .ok (.aload_n 0, 1) := by decide +kernel
theorem dX9_ofPlace_52 : decode cX9_ofPlace 52 = .ok (.getfield 13, 3) := by decide +kernel
theorem dX9_ofPlace_55 : decode cX9_ofPlace 55 = .ok (.iload_n 1, 1) := by decide +kernel
theorem dX9_ofPlace_56 : decode cX9_ofPlace 56 = .ok (.iaload, 1) := by decide +kernel
theorem dX9_ofPlace_57 : decode cX9_ofPlace 57 = .ok (.ireturn, 1) := by decide +kernel
theorem dX9_ofPlace_58 : decode cX9_ofPlace 58 = .ok (.aload_n 0, 1) := by decide +kernel
theorem dX9_ofPlace_59 : decode cX9_ofPlace 59 = .ok (.getfield 16, 3) := by decide +kernel
theorem dX9_ofPlace_62 : decode cX9_ofPlace 62 = .ok (.iload_n 1, 1) := by decide +kernel
theorem dX9_ofPlace_63 : decode cX9_ofPlace 63 = .ok (.iaload, 1) := by decide +kernel
theorem dX9_ofPlace_64 : decode cX9_ofPlace 64 = .ok (.ireturn, 1) := by decide +kernel
theorem dX9_ofPlace_65 : decode cX9_ofPlace 65 = .ok (.aload_n 0, 1) := by decide +kernel
theorem dX9_ofPlace_66 : decode cX9_ofPlace 66 = .ok (.iload_n 1, 1) := by decide +kernel
theorem dX9_ofPlace_67 : decode cX9_ofPlace 67 = .ok (.invokevirtual 163, 3) := by decide +kernel
theorem dX9_ofPlace_70 : decode cX9_ofPlace 70 = .ok (.ireturn, 1) := by decide +kernel
theorem dX9_ofPlace_71 : decode cX9_ofPlace 71 = .ok (.aload_n 0, 1) := by decide +kernel
theorem dX9_ofPlace_72 : decode cX9_ofPlace 72 = .ok (.iload_n 1, 1) := by decide +kernel
theorem dX9_ofPlace_73 : decode cX9_ofPlace 73 = .ok (.aload_n 0, 1) := by decide +kernel
theorem dX9_ofPlace_74 : decode cX9_ofPlace 74 = .ok (.iload_n 1, 1) := by decide +kernel
theorem dX9_ofPlace_75 : decode cX9_ofPlace 75 = .ok (.aload_n 0, 1) := by decide +kernel
theorem dX9_ofPlace_76 : decode cX9_ofPlace 76 = .ok (.getfield 132, 3) := by decide +kernel
theorem dX9_ofPlace_79 : decode cX9_ofPlace 79 = .ok (.invokevirtual 166, 3) := by decide +kernel
theorem dX9_ofPlace_82 : decode cX9_ofPlace 82 = .ok (.invokevirtual 157, 3) := by decide +kernel
theorem dX9_ofPlace_85 : decode cX9_ofPlace 85 = .ok (.ireturn, 1) := by decide +kernel
theorem dX9_ofPlace_86 : decode cX9_ofPlace 86 = .ok (.bipush (-2), 2) := by decide +kernel
theorem dX9_ofPlace_88 : decode cX9_ofPlace 88 = .ok (.ireturn, 1) := by decide +kernel
theorem dX9_wear_0 : decode cX9_wear 0 = .ok (.aload_n 0, 1) := by decide +kernel
theorem dX9_wear_1 : decode cX9_wear 1 = .ok (.iload_n 1, 1) := by decide +kernel
theorem dX9_wear_2 : decode cX9_wear 2 = .ok (.invokevirtual 160, 3) := by decide +kernel
theorem dX9_wear_5 : decode cX9_wear 5 = .ok (.ifCond .ne 15, 3) := by decide +kernel
theorem dX9_wear_8 : decode cX9_wear 8 = .ok (.iload_n 2, 1) := by decide +kernel
theorem dX9_wear_9 : decode cX9_wear 9 = .ok (.i2l, 1) := by decide +kernel
theorem dX9_wear_10 : decode cX9_wear 10 = .ok (.lconst 0, 1) := by decide +kernel
theorem dX9_wear_11 : decode cX9_wear 11 = .ok (.ldc2_w 169, 3) := by decide +kernel
theorem dX9_wear_14 : decode cX9_wear 14 = .ok (.invokestatic 80, 3) := by decide +kernel
theorem dX9_wear_17 : decode cX9_wear 17 = .ok (.ifCond .ne 7, 3) := by decide +kernel
theorem dX9_wear_20 : decode cX9_wear 20 = .ok (.iconst (-1), 1) := by decide +kernel
theorem dX9_wear_21 : decode cX9_wear 21 = .ok (.goto 14, 3) := by decide +kernel
theorem dX9_wear_24 : decode cX9_wear 24 = .ok (.aload_n 0, 1) := by decide +kernel
theorem dX9_wear_25 : decode cX9_wear 25 = .ok (.getfield 19, 3) := by decide +kernel
theorem dX9_wear_28 : decode cX9_wear 28 = .ok (.bipush 7, 2) := by decide +kernel
theorem dX9_wear_30 : decode cX9_wear 30 = .ok (.iload_n 1, 1) := by decide +kernel
theorem dX9_wear_31 : decode cX9_wear 31 = .ok (.imul, 1) := by decide +kernel
theorem dX9_wear_32 : decode cX9_wear 32 = .ok (.iload_n 2, 1) := by decide +kernel
theorem dX9_wear_33 : decode cX9_wear 33 = .ok (.iadd, 1) := by decide +kernel
theorem dX9_wear_34 : decode cX9_wear 34 = .ok (.iaload, 1) := by decide +kernel
theorem dX9_wear_35 : decode cX9_wear 35 = .ok (.ireturn, 1) := by decide +kernel
theorem dX9_kill_0 : decode cX9_kill 0 = .ok (.aload_n 0, 1) := by decide +kernel
theorem dX9_kill_1 : decode cX9_kill 1 = .ok (.iload_n 1, 1) := by decide +kernel
theorem dX9_kill_2 : decode cX9_kill 2 = .ok (.invokevirtual 160, 3) := by decide +kernel
theorem dX9_kill_5 : decode cX9_kill 5 = .ok (.ifCond .eq 5, 3) := by decide +kernel
theorem dX9_kill_8 : decode cX9_kill 8 = .ok (.iconst (-1), 1) := by decide +kernel
theorem dX9_kill_9 : decode cX9_kill 9 = .ok (.ireturn, 1) := by decide +kernel
theorem dX9_kill_10 : decode cX9_kill 10 = .ok (.iload_n 2, 1) := by decide +kernel
theorem dX9_kill_11 : decode cX9_kill 11 = .ok (.i2l, 1) := by decide +kernel
theorem dX9_kill_12 : decode cX9_kill 12 = .ok (.lconst 0, 1) := by decide +kernel
theorem dX9_kill_13 : decode cX9_kill 13 = .ok (.ldc2_w 171, 3) := by decide +kernel
theorem dX9_kill_16 : decode cX9_kill 16 = .ok (.invokestatic 80, 3) := by decide +kernel
theorem dX9_kill_19 : decode cX9_kill 19 = .ok (.ifCond .ne 6, 3) := by decide +kernel
theorem dX9_kill_22 : decode cX9_kill 22 = .ok (.bipush (-2), 2) := by decide +kernel
theorem dX9_kill_24 : decode cX9_kill 24 = .ok (.ireturn, 1) := by decide +kernel
theorem dX9_kill_25 : decode cX9_kill 25 = .ok (.aload_n 0, 1) := by decide +kernel
theorem dX9_kill_26 : decode cX9_kill 26 = .ok (.getfield 13, 3) := by decide +kernel
theorem dX9_kill_29 : decode cX9_kill 29 = .ok (.iload_n 1, 1) := by decide +kernel
theorem dX9_kill_30 : decode cX9_kill 30 = .ok (.iaload, 1) := by decide +kernel
theorem dX9_kill_31 : decode cX9_kill 31 = .ok (.istore_n 3, 1) := by decide +kernel
theorem dX9_kill_32 : decode cX9_kill 32 = .ok (.iconst 0, 1) := by decide +kernel
theorem dX9_kill_33 : decode cX9_kill 33 = .ok (.istore 4, 2) := by decide +kernel
theorem dX9_kill_35 : decode cX9_kill 35 = .ok (.iload 4, 2) := by decide +kernel
theorem dX9_kill_37 : decode cX9_kill 37 = .ok (.bipush 7, 2) := by decide +kernel
theorem dX9_kill_39 : decode cX9_kill 39 = .ok (.if_icmp .ge 55, 3) := by decide +kernel
theorem dX9_kill_42 : decode cX9_kill 42 = .ok (.aload_n 0, 1) := by decide +kernel
theorem dX9_kill_43 : decode cX9_kill 43 = .ok (.getfield 19, 3) := by decide +kernel
theorem dX9_kill_46 : decode cX9_kill 46 = .ok (.bipush 7, 2) := by decide +kernel
theorem dX9_kill_48 : decode cX9_kill 48 = .ok (.iload_n 1, 1) := by decide +kernel
theorem dX9_kill_49 : decode cX9_kill 49 = .ok (.imul, 1) := by decide +kernel
theorem dX9_kill_50 : decode cX9_kill 50 = .ok (.iload 4, 2) := by decide +kernel
theorem dX9_kill_52 : decode cX9_kill 52 = .ok (.iadd, 1) := by decide +kernel
theorem dX9_kill_53 : decode cX9_kill 53 = .ok (.iload_n 3, 1) := by decide +kernel
theorem dX9_kill_54 : decode cX9_kill 54 = .ok (.iload 4, 2) := by decide +kernel
theorem dX9_kill_56 : decode cX9_kill 56 = .ok (.invokestatic 173, 3) := by decide +kernel
theorem dX9_kill_59 : decode cX9_kill 59 = .ok (.ifCond .eq 16, 3) := by decide +kernel
theorem dX9_kill_62 : decode cX9_kill 62 = .ok (.iload_n 2, 1) := by decide +kernel
theorem dX9_kill_63 : decode cX9_kill 63 = .ok (.iload 4, 2) := by decide +kernel
theorem dX9_kill_65 : decode cX9_kill 65 = .ok (.invokestatic 173, 3) := by decide +kernel
theorem dX9_kill_68 : decode cX9_kill 68 = .ok (.ifCond .ne 7, 3) := by decide +kernel
theorem dX9_kill_71 : decode cX9_kill 71 = .ok (.iconst 0, 1) := by decide +kernel
theorem dX9_kill_72 : decode cX9_kill 72 = .ok (.goto 15, 3) := by decide +kernel
theorem dX9_kill_75 : decode cX9_kill 75 = .ok (.aload_n 0, 1) := by decide +kernel
theorem dX9_kill_76 : decode cX9_kill 76 = .ok (.getfield 19, 3) := by decide +kernel
theorem dX9_kill_79 : decode cX9_kill 79 = .ok (.bipush 7, 2) := by decide +kernel
theorem dX9_kill_81 : decode cX9_kill 81 = .ok (.iload_n 1, 1) := by decide +kernel
theorem dX9_kill_82 : decode cX9_kill 82 = .ok (.imul, 1) := by decide +kernel
theorem dX9_kill_83 : decode cX9_kill 83 = .ok (.iload 4, 2) := by decide +kernel
theorem dX9_kill_85 : decode cX9_kill 85 = .ok (.iadd, 1) := by decide +kernel
theorem dX9_kill_86 : decode cX9_kill 86 = .ok (.iaload, 1) := by decide +kernel
theorem dX9_kill_87 : decode cX9_kill 87 = .ok (.iastore, 1) := by decide +kernel
theorem dX9_kill_88 : decode cX9_kill 88 = .ok (.iinc 4 1, 3) := by decide +kernel
theorem dX9_kill_91 : decode cX9_kill 91 = .ok (.goto (-56), 3) := by decide +kernel
theorem dX9_kill_94 : decode cX9_kill 94 = .ok (.aload_n 0, 1) := by decide +kernel
theorem dX9_kill_95 : decode cX9_kill 95 = .ok (.getfield 13, 3) := by decide +kernel
theorem dX9_kill_98 : decode cX9_kill 98 = .ok (.iload_n 1, 1) := by decide +kernel
theorem dX9_kill_99 : decode cX9_kill 99 = .ok (.iload_n 2, 1) := by decide +kernel
theorem dX9_kill_100 : decode cX9_kill 100 = .ok (.iastore, 1) := by decide +kernel
theorem dX9_kill_101 : decode cX9_kill 101 = .ok (.iload_n 3, 1) := by decide +kernel
theorem dX9_kill_102 : decode cX9_kill 102 = .ok (.ireturn, 1) := by decide +kernel
theorem dX9_jam_0 : decode cX9_jam 0 = .ok (.aload_n 0, 1) := by decide +kernel
theorem dX9_jam_1 : decode cX9_jam 1 = .ok (.iload_n 1, 1) := by decide +kernel
theorem dX9_jam_2 : decode cX9_jam 2 = .ok (.invokevirtual 160, 3) := by decide +kernel
theorem dX9_jam_5 : decode cX9_jam 5 = .ok (.ifCond .eq 5, 3) := by decide +kernel
theorem dX9_jam_8 : decode cX9_jam 8 = .ok (.iconst (-1), 1) := by decide +kernel
theorem dX9_jam_9 : decode cX9_jam 9 = .ok (.ireturn, 1) := by decide +kernel
theorem dX9_jam_10 : decode cX9_jam 10 = .ok (.iload_n 2, 1) := by decide +kernel
theorem dX9_jam_11 : decode cX9_jam 11 = .ok (.i2l, 1) := by decide +kernel
theorem dX9_jam_12 : decode cX9_jam 12 = .ok (.lconst 0, 1) := by decide +kernel
theorem dX9_jam_13 : decode cX9_jam 13 = .ok (.ldc2_w 171, 3) := by decide +kernel
theorem dX9_jam_16 : decode cX9_jam 16 = .ok (.invokestatic 80, 3) := by decide +kernel
theorem dX9_jam_19 : decode cX9_jam 19 = .ok (.ifCond .ne 6, 3) := by decide +kernel
theorem dX9_jam_22 : decode cX9_jam 22 = .ok (.bipush (-2), 2) := by decide +kernel
theorem dX9_jam_24 : decode cX9_jam 24 = .ok (.ireturn, 1) := by decide +kernel
theorem dX9_jam_25 : decode cX9_jam 25 = .ok (.aload_n 0, 1) := by decide +kernel
theorem dX9_jam_26 : decode cX9_jam 26 = .ok (.getfield 16, 3) := by decide +kernel
theorem dX9_jam_29 : decode cX9_jam 29 = .ok (.iload_n 1, 1) := by decide +kernel
theorem dX9_jam_30 : decode cX9_jam 30 = .ok (.iaload, 1) := by decide +kernel
theorem dX9_jam_31 : decode cX9_jam 31 = .ok (.istore_n 3, 1) := by decide +kernel
theorem dX9_jam_32 : decode cX9_jam 32 = .ok (.aload_n 0, 1) := by decide +kernel
theorem dX9_jam_33 : decode cX9_jam 33 = .ok (.getfield 16, 3) := by decide +kernel
theorem dX9_jam_36 : decode cX9_jam 36 = .ok (.iload_n 1, 1) := by decide +kernel
theorem dX9_jam_37 : decode cX9_jam 37 = .ok (.iload_n 2, 1) := by decide +kernel
theorem dX9_jam_38 : decode cX9_jam 38 = .ok (.iastore, 1) := by decide +kernel
theorem dX9_jam_39 : decode cX9_jam 39 = .ok (.iload_n 3, 1) := by decide +kernel
theorem dX9_jam_40 : decode cX9_jam 40 = .ok (.ireturn, 1) := by decide +kernel
theorem dX9_burns_0 : decode cX9_burns 0 = .ok (.aload_n 0, 1) := by decide +kernel
theorem dX9_burns_1 : decode cX9_burns 1 = .ok (.iload_n 1, 1) := by decide +kernel
theorem dX9_burns_2 : decode cX9_burns 2 = .ok (.invokevirtual 160, 3) := by decide +kernel
theorem dX9_burns_5 : decode cX9_burns 5 = .ok (.ifCond .eq 5, 3) := by decide +kernel
theorem dX9_burns_8 : decode cX9_burns 8 = .ok (.iconst (-1), 1) := by decide +kernel
theorem dX9_burns_9 : decode cX9_burns 9 = .ok (.ireturn, 1) := by decide +kernel
theorem dX9_burns_10 : decode cX9_burns 10 = .ok (.iload_n 2, 1) := by decide +kernel
theorem dX9_burns_11 : decode cX9_burns 11 = .ok (.i2l, 1) := by decide +kernel
theorem dX9_burns_12 : decode cX9_burns 12 = .ok (.lconst 0, 1) := by decide +kernel
theorem dX9_burns_13 : decode cX9_burns 13 = .ok (.ldc2_w 176, 3) := by decide +kernel
theorem dX9_burns_16 : decode cX9_burns 16 = .ok (.invokestatic 80, 3) := by decide +kernel
theorem dX9_burns_19 : decode cX9_burns 19 = .ok (.ifCond .eq 12, 3) := by decide +kernel
theorem dX9_burns_22 : decode cX9_burns 22 = .ok (.aload_n 0, 1) := by decide +kernel
theorem dX9_burns_23 : decode cX9_burns 23 = .ok (.iload_n 1, 1) := by decide +kernel
theorem dX9_burns_24 : decode cX9_burns 24 = .ok (.iload_n 2, 1) := by decide +kernel
theorem dX9_burns_25 : decode cX9_burns 25 = .ok (.invokevirtual 157, 3) := by decide +kernel
theorem dX9_burns_28 : decode cX9_burns 28 = .ok (.goto 5, 3) := by decide +kernel
theorem dX9_burns_31 : decode cX9_burns 31 = .ok (.bipush (-2), 2) := by decide +kernel
