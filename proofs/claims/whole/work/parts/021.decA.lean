theorem dX0_init_0 : decode cX0_init 0 = .ok (.aload_n 0, 1) := by decide +kernel
theorem dX0_init_1 : decode cX0_init 1 = .ok (.invokespecial 3, 3) := by decide +kernel
theorem dX0_init_4 : decode cX0_init 4 = .ok (.aload_n 0, 1) := by decide +kernel
theorem dX0_init_5 : decode cX0_init 5 = .ok (.sipush 256, 3) := by decide +kernel
theorem dX0_init_8 : decode cX0_init 8 = .ok (.newarray .int, 2) := by decide +kernel
theorem dX0_init_10 : decode cX0_init 10 = .ok (.putfield 9, 3) := by decide +kernel
theorem dX0_init_13 : decode cX0_init 13 = .ok (.aload_n 0, 1) := by decide +kernel
theorem dX0_init_14 : decode cX0_init 14 = .ok (.sipush 256, 3) := by decide +kernel
theorem dX0_init_17 : decode cX0_init 17 = .ok (.newarray .int, 2) := by decide +kernel
theorem dX0_init_19 : decode cX0_init 19 = .ok (.putfield 15, 3) := by decide +kernel
theorem dX0_init_22 : decode cX0_init 22 = .ok (.aload_n 0, 1) := by decide +kernel
theorem dX0_init_23 : decode cX0_init 23 = .ok (.sipush 256, 3) := by decide +kernel
theorem dX0_init_26 : decode cX0_init 26 = .ok (.newarray .int, 2) := by decide +kernel
theorem dX0_init_28 : decode cX0_init 28 = .ok (.putfield 18, 3) := by decide +kernel
theorem dX0_init_31 : decode cX0_init 31 = .ok (.aload_n 0, 1) := by decide +kernel
theorem dX0_init_32 : decode cX0_init 32 = .ok (.ldc 21, 2) := by decide +kernel
theorem dX0_init_34 : decode cX0_init 34 = .ok (.putfield 22, 3) := by decide +kernel
theorem dX0_init_37 : decode cX0_init 37 = .ok (.return_, 1) := by decide +kernel
theorem dX0_solve_0 : decode cX0_solve 0 = .ok (.iconst 0, 1) := by decide +kernel
theorem dX0_solve_1 : decode cX0_solve 1 = .ok (.istore_n 3, 1) := by decide +kernel
theorem dX0_solve_2 : decode cX0_solve 2 = .ok (.iload_n 3, 1) := by decide +kernel
theorem dX0_solve_3 : decode cX0_solve 3 = .ok (.sipush 256, 3) := by decide +kernel
theorem dX0_solve_6 : decode cX0_solve 6 = .ok (.if_icmp .ge 25, 3) := by decide +kernel
theorem dX0_solve_9 : decode cX0_solve 9 = .ok (.aload_n 0, 1) := by decide +kernel
theorem dX0_solve_10 : decode cX0_solve 10 = .ok (.getfield 15, 3) := by decide +kernel
theorem dX0_solve_13 : decode cX0_solve 13 = .ok (.iload_n 3, 1) := by decide +kernel
theorem dX0_solve_14 : decode cX0_solve 14 = .ok (.iload_n 3, 1) := by decide +kernel
theorem dX0_solve_15 : decode cX0_solve 15 = .ok (.ifCond .ne 7, 3) := by decide +kernel
theorem dX0_solve_18 : decode cX0_solve 18 = .ok (.iconst 0, 1) := by decide +kernel
theorem dX0_solve_19 : decode cX0_solve 19 = .ok (.goto 5, 3) := by decide +kernel
theorem dX0_solve_22 : decode cX0_solve 22 = .ok (.ldc 21, 2) := by decide +kernel
theorem dX0_solve_24 : decode cX0_solve 24 = .ok (.iastore, 1) := by decide +kernel
theorem dX0_solve_25 : decode cX0_solve 25 = .ok (.iinc 3 1, 3) := by decide +kernel
theorem dX0_solve_28 : decode cX0_solve 28 = .ok (.goto (-26), 3) := by decide +kernel
theorem dX0_solve_31 : decode cX0_solve 31 = .ok (.iconst 0, 1) := by decide +kernel
theorem dX0_solve_32 : decode cX0_solve 32 = .ok (.istore_n 3, 1) := by decide +kernel
theorem dX0_solve_33 : decode cX0_solve 33 = .ok (.iload_n 3, 1) := by decide +kernel
theorem dX0_solve_34 : decode cX0_solve 34 = .ok (.aload_n 1, 1) := by decide +kernel
theorem dX0_solve_35 : decode cX0_solve 35 = .ok (.getfield 26, 3) := by decide +kernel
theorem dX0_solve_38 : decode cX0_solve 38 = .ok (.getfield 32, 3) := by decide +kernel
theorem dX0_solve_41 : decode cX0_solve 41 = .ok (.if_icmp .ge 86, 3) := by decide +kernel
theorem dX0_solve_44 : decode cX0_solve 44 = .ok (.aload_n 0, 1) := by decide +kernel
theorem dX0_solve_45 : decode cX0_solve 45 = .ok (.aload_n 1, 1) := by decide +kernel
theorem dX0_solve_46 : decode cX0_solve 46 = .ok (.iload_n 3, 1) := by decide +kernel
theorem dX0_solve_47 : decode cX0_solve 47 = .ok (.iload_n 2, 1) := by decide +kernel
theorem dX0_solve_48 : decode cX0_solve 48 = .ok (.invokevirtual 37, 3) := by decide +kernel
theorem dX0_solve_51 : decode cX0_solve 51 = .ok (.iconst 0, 1) := by decide +kernel
theorem dX0_solve_52 : decode cX0_solve 52 = .ok (.istore 4, 2) := by decide +kernel
theorem dX0_solve_54 : decode cX0_solve 54 = .ok (.iload 4, 2) := by decide +kernel
theorem dX0_solve_56 : decode cX0_solve 56 = .ok (.iload_n 2, 1) := by decide +kernel
theorem dX0_solve_57 : decode cX0_solve 57 = .ok (.if_icmp .gt 44, 3) := by decide +kernel
theorem dX0_solve_60 : decode cX0_solve 60 = .ok (.iload 4, 2) := by decide +kernel
theorem dX0_solve_62 : decode cX0_solve 62 = .ok (.sipush 256, 3) := by decide +kernel
theorem dX0_solve_65 : decode cX0_solve 65 = .ok (.if_icmp .ge 36, 3) := by decide +kernel
theorem dX0_solve_68 : decode cX0_solve 68 = .ok (.aload_n 0, 1) := by decide +kernel
theorem dX0_solve_69 : decode cX0_solve 69 = .ok (.getfield 18, 3) := by decide +kernel
theorem dX0_solve_72 : decode cX0_solve 72 = .ok (.iload 4, 2) := by decide +kernel
theorem dX0_solve_74 : decode cX0_solve 74 = .ok (.iload 4, 2) := by decide +kernel
theorem dX0_solve_76 : decode cX0_solve 76 = .ok (.iload_n 2, 1) := by decide +kernel
theorem dX0_solve_77 : decode cX0_solve 77 = .ok (.iconst (-1), 1) := by decide +kernel
theorem dX0_solve_78 : decode cX0_solve 78 = .ok (.ixor, 1) := by decide +kernel
theorem dX0_solve_79 : decode cX0_solve 79 = .ok (.iand, 1) := by decide +kernel
theorem dX0_solve_80 : decode cX0_solve 80 = .ok (.ifCond .ne 12, 3) := by decide +kernel
theorem dX0_solve_83 : decode cX0_solve 83 = .ok (.aload_n 0, 1) := by decide +kernel
theorem dX0_solve_84 : decode cX0_solve 84 = .ok (.iload 4, 2) := by decide +kernel
theorem dX0_solve_86 : decode cX0_solve 86 = .ok (.invokevirtual 41, 3) := by decide +kernel
theorem dX0_solve_89 : decode cX0_solve 89 = .ok (.goto 5, 3) := by decide +kernel
theorem dX0_solve_92 : decode cX0_solve 92 = .ok (.ldc 21, 2) := by decide +kernel
theorem dX0_solve_94 : decode cX0_solve 94 = .ok (.iastore, 1) := by decide +kernel
theorem dX0_solve_95 : decode cX0_solve 95 = .ok (.iinc 4 1, 3) := by decide +kernel
theorem dX0_solve_98 : decode cX0_solve 98 = .ok (.goto (-44), 3) := by decide +kernel
theorem dX0_solve_101 : decode cX0_solve 101 = .ok (.aload_n 0, 1) := by decide +kernel
theorem dX0_solve_102 : decode cX0_solve 102 = .ok (.getfield 15, 3) := by decide +kernel
theorem dX0_solve_105 : decode cX0_solve 105 = .ok (.astore 4, 2) := by decide +kernel
theorem dX0_solve_107 : decode cX0_solve 107 = .ok (.aload_n 0, 1) := by decide +kernel
theorem dX0_solve_108 : decode cX0_solve 108 = .ok (.aload_n 0, 1) := by decide +kernel
theorem dX0_solve_109 : decode cX0_solve 109 = .ok (.getfield 18, 3) := by decide +kernel
theorem dX0_solve_112 : decode cX0_solve 112 = .ok (.putfield 15, 3) := by decide +kernel
theorem dX0_solve_115 : decode cX0_solve 115 = .ok (.aload_n 0, 1) := by decide +kernel
theorem dX0_solve_116 : decode cX0_solve 116 = .ok (.aload 4, 2) := by decide +kernel
theorem dX0_solve_118 : decode cX0_solve 118 = .ok (.putfield 18, 3) := by decide +kernel
theorem dX0_solve_121 : decode cX0_solve 121 = .ok (.iinc 3 1, 3) := by decide +kernel
theorem dX0_solve_124 : decode cX0_solve 124 = .ok (.goto (-91), 3) := by decide +kernel
theorem dX0_solve_127 : decode cX0_solve 127 = .ok (.aload_n 0, 1) := by decide +kernel
theorem dX0_solve_128 : decode cX0_solve 128 = .ok (.iload_n 2, 1) := by decide +kernel
theorem dX0_solve_129 : decode cX0_solve 129 = .ok (.ifCond .lt 19, 3) := by decide +kernel
theorem dX0_solve_132 : decode cX0_solve 132 = .ok (.iload_n 2, 1) := by decide +kernel
theorem dX0_solve_133 : decode cX0_solve 133 = .ok (.sipush 256, 3) := by decide +kernel
theorem dX0_solve_136 : decode cX0_solve 136 = .ok (.if_icmp .ge 12, 3) := by decide +kernel
theorem dX0_solve_139 : decode cX0_solve 139 = .ok (.aload_n 0, 1) := by decide +kernel
theorem dX0_solve_140 : decode cX0_solve 140 = .ok (.getfield 15, 3) := by decide +kernel
theorem dX0_solve_143 : decode cX0_solve 143 = .ok (.iload_n 2, 1) := by decide +kernel
theorem dX0_solve_144 : decode cX0_solve 144 = .ok (.iaload, 1) := by decide +kernel
theorem dX0_solve_145 : decode cX0_solve 145 = .ok (.goto 5, 3) := by decide +kernel
theorem dX0_solve_148 : decode cX0_solve 148 = .ok (.ldc 21, 2) := by decide +kernel
theorem dX0_solve_150 : decode cX0_solve 150 = .ok (.putfield 22, 3) := by decide +kernel
theorem dX0_solve_153 : decode cX0_solve 153 = .ok (.aload_n 0, 1) := by decide +kernel
theorem dX0_solve_154 : decode cX0_solve 154 = .ok (.getfield 22, 3) := by decide +kernel
theorem dX0_solve_157 : decode cX0_solve 157 = .ok (.ldc 21, 2) := by decide +kernel
theorem dX0_solve_159 : decode cX0_solve 159 = .ok (.if_icmp .ge 7, 3) := by decide +kernel
theorem dX0_solve_162 : decode cX0_solve 162 = .ok (.iconst 1, 1) := by decide +kernel
theorem dX0_solve_163 : decode cX0_solve 163 = .ok (.goto 4, 3) := by decide +kernel
theorem dX0_solve_166 : decode cX0_solve 166 = .ok (.iconst 0, 1) := by decide +kernel
theorem dX0_solve_167 : decode cX0_solve 167 = .ok (.ireturn, 1) := by decide +kernel
theorem dX0_priceAll_0 : decode cX0_priceAll 0 = .ok (.aload_n 0, 1) := by decide +kernel
theorem dX0_priceAll_1 : decode cX0_priceAll 1 = .ok (.getfield 9, 3) := by decide +kernel
theorem dX0_priceAll_4 : decode cX0_priceAll 4 = .ok (.iconst 0, 1) := by decide +kernel
theorem dX0_priceAll_5 : decode cX0_priceAll 5 = .ok (.iconst 0, 1) := by decide +kernel
theorem dX0_priceAll_6 : decode cX0_priceAll 6 = .ok (.iastore, 1) := by decide +kernel
theorem dX0_priceAll_7 : decode cX0_priceAll 7 = .ok (.iconst 0, 1) := by decide +kernel
theorem dX0_priceAll_8 : decode cX0_priceAll 8 = .ok (.istore 4, 2) := by decide +kernel
theorem dX0_priceAll_10 : decode cX0_priceAll 10 = .ok (.iload 4, 2) := by decide +kernel
theorem dX0_priceAll_12 : decode cX0_priceAll 12 = .ok (.bipush 8, 2) := by decide +kernel
theorem dX0_priceAll_14 : decode cX0_priceAll 14 = .ok (.if_icmp .ge 133, 3) := by decide +kernel
theorem dX0_priceAll_17 : decode cX0_priceAll 17 = .ok (.iconst 1, 1) := by decide +kernel
theorem dX0_priceAll_18 : decode cX0_priceAll 18 = .ok (.iload 4, 2) := by decide +kernel
theorem dX0_priceAll_20 : decode cX0_priceAll 20 = .ok (.ishl, 1) := by decide +kernel
theorem dX0_priceAll_21 : decode cX0_priceAll 21 = .ok (.istore 5, 2) := by decide +kernel
theorem dX0_priceAll_23 : decode cX0_priceAll 23 = .ok (.iload_n 3, 1) := by decide +kernel
theorem dX0_priceAll_24 : decode cX0_priceAll 24 = .ok (.iload 4, 2) := by decide +kernel
theorem dX0_priceAll_26 : decode cX0_priceAll 26 = .ok (.ishr, 1) := by decide +kernel
theorem dX0_priceAll_27 : decode cX0_priceAll 27 = .ok (.iconst 1, 1) := by decide +kernel
theorem dX0_priceAll_28 : decode cX0_priceAll 28 = .ok (.iand, 1) := by decide +kernel
theorem dX0_priceAll_29 : decode cX0_priceAll 29 = .ok (.iconst 1, 1) := by decide +kernel
theorem dX0_priceAll_30 : decode cX0_priceAll 30 = .ok (.if_icmp .ne 7, 3) := by decide +kernel
theorem dX0_priceAll_33 : decode cX0_priceAll 33 = .ok (.iconst 1, 1) := by decide +kernel
theorem dX0_priceAll_34 : decode cX0_priceAll 34 = .ok (.goto 4, 3) := by decide +kernel
theorem dX0_priceAll_37 : decode cX0_priceAll 37 = .ok (.iconst 0, 1) := by decide +kernel
theorem dX0_priceAll_38 : decode cX0_priceAll 38 = .ok (.istore 6, 2) := by decide +kernel
theorem dX0_priceAll_40 : decode cX0_priceAll 40 = .ok (.iload 6, 2) := by decide +kernel
theorem dX0_priceAll_42 : decode cX0_priceAll 42 = .ok (.ifCond .eq 28, 3) := by decide +kernel
theorem dX0_priceAll_45 : decode cX0_priceAll 45 = .ok (.aload_n 1, 1) := by decide +kernel
theorem dX0_priceAll_46 : decode cX0_priceAll 46 = .ok (.aload_n 1, 1) := by decide +kernel
theorem dX0_priceAll_47 : decode cX0_priceAll 47 = .ok (.getfield 45, 3) := by decide +kernel
theorem dX0_priceAll_50 : decode cX0_priceAll 50 = .ok (.iload 4, 2) := by decide +kernel
theorem dX0_priceAll_52 : decode cX0_priceAll 52 = .ok (.iload_n 2, 1) := by decide +kernel
theorem dX0_priceAll_53 : decode cX0_priceAll 53 = .ok (.invokevirtual 48, 3) := by decide +kernel
theorem dX0_priceAll_56 : decode cX0_priceAll 56 = .ok (.ldc 52, 2) := by decide +kernel
theorem dX0_priceAll_58 : decode cX0_priceAll 58 = .ok (.imul, 1) := by decide +kernel
theorem dX0_priceAll_59 : decode cX0_priceAll 59 = .ok (.iload_n 2, 1) := by decide +kernel
theorem dX0_priceAll_60 : decode cX0_priceAll 60 = .ok (.iload 4, 2) := by decide +kernel
theorem dX0_priceAll_62 : decode cX0_priceAll 62 = .ok (.invokestatic 53, 3) := by decide +kernel
theorem dX0_priceAll_65 : decode cX0_priceAll 65 = .ok (.imul, 1) := by decide +kernel
theorem dX0_priceAll_66 : decode cX0_priceAll 66 = .ok (.iadd, 1) := by decide +kernel
theorem dX0_priceAll_67 : decode cX0_priceAll 67 = .ok (.goto 5, 3) := by decide +kernel
theorem dX0_priceAll_70 : decode cX0_priceAll 70 = .ok (.ldc 21, 2) := by decide +kernel
theorem dX0_priceAll_72 : decode cX0_priceAll 72 = .ok (.istore 7, 2) := by decide +kernel
theorem dX0_priceAll_74 : decode cX0_priceAll 74 = .ok (.iconst 0, 1) := by decide +kernel
theorem dX0_priceAll_75 : decode cX0_priceAll 75 = .ok (.istore 8, 2) := by decide +kernel
theorem dX0_priceAll_77 : decode cX0_priceAll 77 = .ok (.iload 8, 2) := by decide +kernel
theorem dX0_priceAll_79 : decode cX0_priceAll 79 = .ok (.iload 5, 2) := by decide +kernel
theorem dX0_priceAll_81 : decode cX0_priceAll 81 = .ok (.if_icmp .ge 60, 3) := by decide +kernel
theorem dX0_priceAll_84 : decode cX0_priceAll 84 = .ok (.aload_n 0, 1) := by decide +kernel
theorem dX0_priceAll_85 : decode cX0_priceAll 85 = .ok (.getfield 9, 3) := by decide +kernel
theorem dX0_priceAll_88 : decode cX0_priceAll 88 = .ok (.iload 8, 2) := by decide +kernel
theorem dX0_priceAll_90 : decode cX0_priceAll 90 = .ok (.iaload, 1) := by decide +kernel
theorem dX0_priceAll_91 : decode cX0_priceAll 91 = .ok (.iload 7, 2) := by decide +kernel
theorem dX0_priceAll_93 : decode cX0_priceAll 93 = .ok (.iadd, 1) := by decide +kernel
theorem dX0_priceAll_94 : decode cX0_priceAll 94 = .ok (.ldc 21, 2) := by decide +kernel
theorem dX0_priceAll_96 : decode cX0_priceAll 96 = .ok (.invokestatic 56, 3) := by decide +kernel
theorem dX0_priceAll_99 : decode cX0_priceAll 99 = .ok (.istore 9, 2) := by decide +kernel
theorem dX0_priceAll_101 : decode cX0_priceAll 101 = .ok (.aload_n 0, 1) := by decide +kernel
theorem dX0_priceAll_102 : decode cX0_priceAll 102 = .ok (.getfield 9, 3) := by decide +kernel
theorem dX0_priceAll_105 : decode cX0_priceAll 105 = .ok (.iload 5, 2) := by decide +kernel
theorem dX0_priceAll_107 : decode cX0_priceAll 107 = .ok (.iload 8, 2) := by decide +kernel
theorem dX0_priceAll_109 : decode cX0_priceAll 109 = .ok (.iadd, 1) := by decide +kernel
theorem dX0_priceAll_110 : decode cX0_priceAll 110 = .ok (.iload 9, 2) := by decide +kernel
theorem dX0_priceAll_112 : decode cX0_priceAll 112 = .ok (.ldc 52, 2) := by decide +kernel
theorem dX0_priceAll_114 : decode cX0_priceAll 114 = .ok (.idiv, 1) := by decide +kernel
theorem dX0_priceAll_115 : decode cX0_priceAll 115 = .ok (.aload_n 1, 1) := by decide +kernel
theorem dX0_priceAll_116 : decode cX0_priceAll 116 = .ok (.getfield 26, 3) := by decide +kernel
theorem dX0_priceAll_119 : decode cX0_priceAll 119 = .ok (.getfield 62, 3) := by decide +kernel
theorem dX0_priceAll_122 : decode cX0_priceAll 122 = .ok (.iload_n 2, 1) := by decide +kernel
theorem dX0_priceAll_123 : decode cX0_priceAll 123 = .ok (.iaload, 1) := by decide +kernel
theorem dX0_priceAll_124 : decode cX0_priceAll 124 = .ok (.if_icmp .le 8, 3) := by decide +kernel
theorem dX0_priceAll_127 : decode cX0_priceAll 127 = .ok (.ldc 21, 2) := by decide +kernel
theorem dX0_priceAll_129 : decode cX0_priceAll 129 = .ok (.goto 5, 3) := by decide +kernel
theorem dX0_priceAll_132 : decode cX0_priceAll 132 = .ok (.iload 9, 2) := by decide +kernel
theorem dX0_priceAll_134 : decode cX0_priceAll 134 = .ok (.iastore, 1) := by decide +kernel
theorem dX0_priceAll_135 : decode cX0_priceAll 135 = .ok (.iinc 8 1, 3) := by decide +kernel
theorem dX0_priceAll_138 : decode cX0_priceAll 138 = .ok (.goto (-61), 3) := by decide +kernel
theorem dX0_priceAll_141 : decode cX0_priceAll 141 = .ok (.iinc 4 1, 3) := by decide +kernel
theorem dX0_priceAll_144 : decode cX0_priceAll 144 = .ok (.goto (-134), 3) := by decide +kernel
theorem dX0_priceAll_147 : decode cX0_priceAll 147 = .ok (.return_, 1) := by decide +kernel
theorem dX0_leastWith_0 : decode cX0_leastWith 0 = .ok (.ldc 21, 2) := by decide +kernel
theorem dX0_leastWith_2 : decode cX0_leastWith 2 = .ok (.istore_n 2, 1) := by decide +kernel
theorem dX0_leastWith_3 : decode cX0_leastWith 3 = .ok (.iload_n 1, 1) := by decide +kernel
theorem dX0_leastWith_4 : decode cX0_leastWith 4 = .ok (.istore_n 3, 1) := by decide +kernel
theorem dX0_leastWith_5 : decode cX0_leastWith 5 = .ok (.iload_n 3, 1) := by decide +kernel
theorem dX0_leastWith_6 : decode cX0_leastWith 6 = .ok (.ifCond .lt 64, 3) := by decide +kernel
theorem dX0_leastWith_9 : decode cX0_leastWith 9 = .ok (.aload_n 0, 1) := by decide +kernel
theorem dX0_leastWith_10 : decode cX0_leastWith 10 = .ok (.getfield 9, 3) := by decide +kernel
theorem dX0_leastWith_13 : decode cX0_leastWith 13 = .ok (.iload_n 3, 1) := by decide +kernel
theorem dX0_leastWith_14 : decode cX0_leastWith 14 = .ok (.iaload, 1) := by decide +kernel
theorem dX0_leastWith_15 : decode cX0_leastWith 15 = .ok (.ldc 21, 2) := by decide +kernel
theorem dX0_leastWith_17 : decode cX0_leastWith 17 = .ok (.if_icmp .ge 36, 3) := by decide +kernel
theorem dX0_leastWith_20 : decode cX0_leastWith 20 = .ok (.aload_n 0, 1) := by decide +kernel
theorem dX0_leastWith_21 : decode cX0_leastWith 21 = .ok (.getfield 15, 3) := by decide +kernel
theorem dX0_leastWith_24 : decode cX0_leastWith 24 = .ok (.iload_n 1, 1) := by decide +kernel
theorem dX0_leastWith_25 : decode cX0_leastWith 25 = .ok (.iload_n 3, 1) := by decide +kernel
theorem dX0_leastWith_26 : decode cX0_leastWith 26 = .ok (.ixor, 1) := by decide +kernel
theorem dX0_leastWith_27 : decode cX0_leastWith 27 = .ok (.iaload, 1) := by decide +kernel
theorem dX0_leastWith_28 : decode cX0_leastWith 28 = .ok (.ldc 21, 2) := by decide +kernel
theorem dX0_leastWith_30 : decode cX0_leastWith 30 = .ok (.if_icmp .ge 23, 3) := by decide +kernel
theorem dX0_leastWith_33 : decode cX0_leastWith 33 = .ok (.iload_n 2, 1) := by decide +kernel
theorem dX0_leastWith_34 : decode cX0_leastWith 34 = .ok (.aload_n 0, 1) := by decide +kernel
theorem dX0_leastWith_35 : decode cX0_leastWith 35 = .ok (.getfield 9, 3) := by decide +kernel
theorem dX0_leastWith_38 : decode cX0_leastWith 38 = .ok (.iload_n 3, 1) := by decide +kernel
theorem dX0_leastWith_39 : decode cX0_leastWith 39 = .ok (.iaload, 1) := by decide +kernel
theorem dX0_leastWith_40 : decode cX0_leastWith 40 = .ok (.aload_n 0, 1) := by decide +kernel
theorem dX0_leastWith_41 : decode cX0_leastWith 41 = .ok (.getfield 15, 3) := by decide +kernel
theorem dX0_leastWith_44 : decode cX0_leastWith 44 = .ok (.iload_n 1, 1) := by decide +kernel
theorem dX0_leastWith_45 : decode cX0_leastWith 45 = .ok (.iload_n 3, 1) := by decide +kernel
theorem dX0_leastWith_46 : decode cX0_leastWith 46 = .ok (.ixor, 1) := by decide +kernel
theorem dX0_leastWith_47 : decode cX0_leastWith 47 = .ok (.iaload, 1) := by decide +kernel
theorem dX0_leastWith_48 : decode cX0_leastWith 48 = .ok (.iadd, 1) := by decide +kernel
theorem dX0_leastWith_49 : decode cX0_leastWith 49 = .ok (.invokestatic 56, 3) := by decide +kernel
theorem dX0_leastWith_52 : decode cX0_leastWith 52 = .ok (.istore_n 2, 1) := by decide +kernel
theorem dX0_leastWith_53 : decode cX0_leastWith 53 = .ok (.iload_n 3, 1) := by decide +kernel
theorem dX0_leastWith_54 : decode cX0_leastWith 54 = .ok (.ifCond .ne 7, 3) := by decide +kernel
theorem dX0_leastWith_57 : decode cX0_leastWith 57 = .ok (.iconst (-1), 1) := by decide +kernel
theorem dX0_leastWith_58 : decode cX0_leastWith 58 = .ok (.goto 8, 3) := by decide +kernel
theorem dX0_leastWith_61 : decode cX0_leastWith 61 = .ok (.iload_n 3, 1) := by decide +kernel
theorem dX0_leastWith_62 : decode cX0_leastWith 62 = .ok (.iconst 1, 1) := by decide +kernel
theorem dX0_leastWith_63 : decode cX0_leastWith 63 = .ok (.isub, 1) := by decide +kernel
theorem dX0_leastWith_64 : decode cX0_leastWith 64 = .ok (.iload_n 1, 1) := by decide +kernel
theorem dX0_leastWith_65 : decode cX0_leastWith 65 = .ok (.iand, 1) := by decide +kernel
theorem dX0_leastWith_66 : decode cX0_leastWith 66 = .ok (.istore_n 3, 1) := by decide +kernel
theorem dX0_leastWith_67 : decode cX0_leastWith 67 = .ok (.goto (-62), 3) := by decide +kernel
theorem dX0_leastWith_70 : decode cX0_leastWith 70 = .ok (.iload_n 2, 1) := by decide +kernel
theorem dX0_leastWith_71 : decode cX0_leastWith 71 = .ok (.ireturn, 1) := by decide +kernel
theorem dX0_digit_0 : decode cX0_digit 0 = .ok (.iconst 1, 1) := by decide +kernel
theorem dX0_digit_1 : decode cX0_digit 1 = .ok (.iconst 2, 1) := by decide +kernel
theorem dX0_digit_2 : decode cX0_digit 2 = .ok (.bipush 7, 2) := by decide +kernel
theorem dX0_digit_4 : decode cX0_digit 4 = .ok (.iload_n 0, 1) := by decide +kernel
theorem dX0_digit_5 : decode cX0_digit 5 = .ok (.isub, 1) := by decide +kernel
theorem dX0_digit_6 : decode cX0_digit 6 = .ok (.imul, 1) := by decide +kernel
theorem dX0_digit_7 : decode cX0_digit 7 = .ok (.ishl, 1) := by decide +kernel
theorem dX0_digit_8 : decode cX0_digit 8 = .ok (.ireturn, 1) := by decide +kernel
theorem dX0_oil_0 : decode cX0_oil 0 = .ok (.aload_n 0, 1) := by decide +kernel
theorem dX0_oil_1 : decode cX0_oil 1 = .ok (.getfield 22, 3) := by decide +kernel
theorem dX0_oil_4 : decode cX0_oil 4 = .ok (.ldc 52, 2) := by decide +kernel
theorem dX0_oil_6 : decode cX0_oil 6 = .ok (.idiv, 1) := by decide +kernel
theorem dX0_oil_7 : decode cX0_oil 7 = .ok (.ireturn, 1) := by decide +kernel
theorem dX0_loserOf_0 : decode cX0_loserOf 0 = .ok (.iload_n 1, 1) := by decide +kernel
theorem dX0_loserOf_1 : decode cX0_loserOf 1 = .ok (.ifCond .lt 23, 3) := by decide +kernel
theorem dX0_loserOf_4 : decode cX0_loserOf 4 = .ok (.iload_n 1, 1) := by decide +kernel
theorem dX0_loserOf_5 : decode cX0_loserOf 5 = .ok (.bipush 8, 2) := by decide +kernel
theorem dX0_loserOf_7 : decode cX0_loserOf 7 = .ok (.if_icmp .ge 17, 3) := by decide +kernel
theorem dX0_loserOf_10 : decode cX0_loserOf 10 = .ok (.aload_n 0, 1) := by decide +kernel
theorem dX0_loserOf_11 : decode cX0_loserOf 11 = .ok (.getfield 22, 3) := by decide +kernel
theorem dX0_loserOf_14 : decode cX0_loserOf 14 = .ok (.iload_n 1, 1) := by decide +kernel
theorem dX0_loserOf_15 : decode cX0_loserOf 15 = .ok (.invokestatic 53, 3) := by decide +kernel
theorem dX0_loserOf_18 : decode cX0_loserOf 18 = .ok (.idiv, 1) := by decide +kernel
theorem dX0_loserOf_19 : decode cX0_loserOf 19 = .ok (.iconst 4, 1) := by decide +kernel
theorem dX0_loserOf_20 : decode cX0_loserOf 20 = .ok (.irem, 1) := by decide +kernel
theorem dX0_loserOf_21 : decode cX0_loserOf 21 = .ok (.goto 5, 3) := by decide +kernel
theorem dX0_loserOf_24 : decode cX0_loserOf 24 = .ok (.bipush (-2), 2) := by decide +kernel
theorem dX0_loserOf_26 : decode cX0_loserOf 26 = .ok (.ireturn, 1) := by decide +kernel
theorem dX1_init_0 : decode cX1_init 0 = .ok (.aload_n 0, 1) := by decide +kernel
theorem dX1_init_1 : decode cX1_init 1 = .ok (.invokespecial 3, 3) := by decide +kernel
theorem dX1_init_4 : decode cX1_init 4 = .ok (.aload_n 0, 1) := by decide +kernel
theorem dX1_init_5 : decode cX1_init 5 = .ok (.bipush 10, 2) := by decide +kernel
theorem dX1_init_7 : decode cX1_init 7 = .ok (.newarray .int, 2) := by decide +kernel
theorem dX1_init_9 : decode cX1_init 9 = .ok (.putfield 9, 3) := by decide +kernel
theorem dX1_init_12 : decode cX1_init 12 = .ok (.aload_n 0, 1) := by decide +kernel
theorem dX1_init_13 : decode cX1_init 13 = .ok (.bipush 64, 2) := by decide +kernel
theorem dX1_init_15 : decode cX1_init 15 = .ok (.newarray .int, 2) := by decide +kernel
theorem dX1_init_17 : decode cX1_init 17 = .ok (.putfield 15, 3) := by decide +kernel
theorem dX1_init_20 : decode cX1_init 20 = .ok (.return_, 1) := by decide +kernel
theorem dX1_value_0 : decode cX1_value 0 = .ok (.aload_n 0, 1) := by decide +kernel
theorem dX1_value_1 : decode cX1_value 1 = .ok (.iconst 0, 1) := by decide +kernel
theorem dX1_value_2 : decode cX1_value 2 = .ok (.putfield 18, 3) := by decide +kernel
theorem dX1_value_5 : decode cX1_value 5 = .ok (.iload_n 2, 1) := by decide +kernel
theorem dX1_value_6 : decode cX1_value 6 = .ok (.istore 4, 2) := by decide +kernel
theorem dX1_value_8 : decode cX1_value 8 = .ok (.iconst 0, 1) := by decide +kernel
theorem dX1_value_9 : decode cX1_value 9 = .ok (.istore 5, 2) := by decide +kernel
theorem dX1_value_11 : decode cX1_value 11 = .ok (.iload 5, 2) := by decide +kernel
theorem dX1_value_13 : decode cX1_value 13 = .ok (.sipush 600, 3) := by decide +kernel
theorem dX1_value_16 : decode cX1_value 16 = .ok (.if_icmp .ge 189, 3) := by decide +kernel
theorem dX1_value_19 : decode cX1_value 19 = .ok (.aload_n 1, 1) := by decide +kernel
theorem dX1_value_20 : decode cX1_value 20 = .ok (.iload 4, 2) := by decide +kernel
theorem dX1_value_22 : decode cX1_value 22 = .ok (.invokevirtual 22, 3) := by decide +kernel
theorem dX1_value_25 : decode cX1_value 25 = .ok (.bipush 53, 2) := by decide +kernel
theorem dX1_value_27 : decode cX1_value 27 = .ok (.if_icmp .eq 178, 3) := by decide +kernel
theorem dX1_value_30 : decode cX1_value 30 = .ok (.aload_n 1, 1) := by decide +kernel
theorem dX1_value_31 : decode cX1_value 31 = .ok (.iload 4, 2) := by decide +kernel
theorem dX1_value_33 : decode cX1_value 33 = .ok (.invokevirtual 22, 3) := by decide +kernel
theorem dX1_value_36 : decode cX1_value 36 = .ok (.istore 6, 2) := by decide +kernel
theorem dX1_value_38 : decode cX1_value 38 = .ok (.iinc 4 1, 3) := by decide +kernel
theorem dX1_value_41 : decode cX1_value 41 = .ok (.iload 6, 2) := by decide +kernel
theorem dX1_value_43 : decode cX1_value 43 = .ok (.bipush 40, 2) := by decide +kernel
theorem dX1_value_45 : decode cX1_value 45 = .ok (.if_icmp .ne 19, 3) := by decide +kernel
theorem dX1_value_48 : decode cX1_value 48 = .ok (.aload_n 0, 1) := by decide +kernel
theorem dX1_value_49 : decode cX1_value 49 = .ok (.aload_n 1, 1) := by decide +kernel
theorem dX1_value_50 : decode cX1_value 50 = .ok (.iload 4, 2) := by decide +kernel
theorem dX1_value_52 : decode cX1_value 52 = .ok (.invokevirtual 22, 3) := by decide +kernel
theorem dX1_value_55 : decode cX1_value 55 = .ok (.invokevirtual 28, 3) := by decide +kernel
theorem dX1_value_58 : decode cX1_value 58 = .ok (.iinc 4 1, 3) := by decide +kernel
theorem dX1_value_61 : decode cX1_value 61 = .ok (.goto 138, 3) := by decide +kernel
theorem dX1_value_64 : decode cX1_value 64 = .ok (.iload 6, 2) := by decide +kernel
theorem dX1_value_66 : decode cX1_value 66 = .ok (.ifCond .lt 24, 3) := by decide +kernel
theorem dX1_value_69 : decode cX1_value 69 = .ok (.iload 6, 2) := by decide +kernel
theorem dX1_value_71 : decode cX1_value 71 = .ok (.bipush 10, 2) := by decide +kernel
theorem dX1_value_73 : decode cX1_value 73 = .ok (.if_icmp .ge 17, 3) := by decide +kernel
theorem dX1_value_76 : decode cX1_value 76 = .ok (.aload_n 0, 1) := by decide +kernel
theorem dX1_value_77 : decode cX1_value 77 = .ok (.aload_n 0, 1) := by decide +kernel
theorem dX1_value_78 : decode cX1_value 78 = .ok (.getfield 9, 3) := by decide +kernel
theorem dX1_value_81 : decode cX1_value 81 = .ok (.iload 6, 2) := by decide +kernel
theorem dX1_value_83 : decode cX1_value 83 = .ok (.iaload, 1) := by decide +kernel
theorem dX1_value_84 : decode cX1_value 84 = .ok (.invokevirtual 28, 3) := by decide +kernel
theorem dX1_value_87 : decode cX1_value 87 = .ok (.goto 112, 3) := by decide +kernel
theorem dX1_value_90 : decode cX1_value 90 = .ok (.iload 6, 2) := by decide +kernel
theorem dX1_value_92 : decode cX1_value 92 = .ok (.bipush 61, 2) := by decide +kernel
theorem dX1_value_94 : decode cX1_value 94 = .ok (.if_icmp .ne 14, 3) := by decide +kernel
theorem dX1_value_97 : decode cX1_value 97 = .ok (.aload_n 1, 1) := by decide +kernel
theorem dX1_value_98 : decode cX1_value 98 = .ok (.iload 4, 2) := by decide +kernel
theorem dX1_value_100 : decode cX1_value 100 = .ok (.invokevirtual 22, 3) := by decide +kernel
theorem dX1_value_103 : decode cX1_value 103 = .ok (.istore 4, 2) := by decide +kernel
theorem dX1_value_105 : decode cX1_value 105 = .ok (.goto 94, 3) := by decide +kernel
theorem dX1_value_108 : decode cX1_value 108 = .ok (.iload 6, 2) := by decide +kernel
theorem dX1_value_110 : decode cX1_value 110 = .ok (.bipush 62, 2) := by decide +kernel
theorem dX1_value_112 : decode cX1_value 112 = .ok (.if_icmp .ne 28, 3) := by decide +kernel
theorem dX1_value_115 : decode cX1_value 115 = .ok (.aload_n 0, 1) := by decide +kernel
theorem dX1_value_116 : decode cX1_value 116 = .ok (.invokevirtual 32, 3) := by decide +kernel
theorem dX1_value_119 : decode cX1_value 119 = .ok (.ifCond .ne 12, 3) := by decide +kernel
theorem dX1_value_122 : decode cX1_value 122 = .ok (.aload_n 1, 1) := by decide +kernel
theorem dX1_value_123 : decode cX1_value 123 = .ok (.iload 4, 2) := by decide +kernel
theorem dX1_value_125 : decode cX1_value 125 = .ok (.invokevirtual 22, 3) := by decide +kernel
theorem dX1_value_128 : decode cX1_value 128 = .ok (.goto 7, 3) := by decide +kernel
theorem dX1_value_131 : decode cX1_value 131 = .ok (.iload 4, 2) := by decide +kernel
theorem dX1_value_133 : decode cX1_value 133 = .ok (.iconst 1, 1) := by decide +kernel
theorem dX1_value_134 : decode cX1_value 134 = .ok (.iadd, 1) := by decide +kernel
theorem dX1_value_135 : decode cX1_value 135 = .ok (.istore 4, 2) := by decide +kernel
theorem dX1_value_137 : decode cX1_value 137 = .ok (.goto 62, 3) := by decide +kernel
theorem dX1_value_140 : decode cX1_value 140 = .ok (.iload 6, 2) := by decide +kernel
theorem dX1_value_142 : decode cX1_value 142 = .ok (.bipush 60, 2) := by decide +kernel
theorem dX1_value_144 : decode cX1_value 144 = .ok (.if_icmp .eq 17, 3) := by decide +kernel
theorem dX1_value_147 : decode cX1_value 147 = .ok (.iload 6, 2) := by decide +kernel
theorem dX1_value_149 : decode cX1_value 149 = .ok (.bipush 21, 2) := by decide +kernel
theorem dX1_value_151 : decode cX1_value 151 = .ok (.if_icmp .eq 10, 3) := by decide +kernel
theorem dX1_value_154 : decode cX1_value 154 = .ok (.iload 6, 2) := by decide +kernel
theorem dX1_value_156 : decode cX1_value 156 = .ok (.bipush 28, 2) := by decide +kernel
theorem dX1_value_158 : decode cX1_value 158 = .ok (.if_icmp .ne 20, 3) := by decide +kernel
theorem dX1_value_161 : decode cX1_value 161 = .ok (.aload_n 0, 1) := by decide +kernel
theorem dX1_value_162 : decode cX1_value 162 = .ok (.iload 6, 2) := by decide +kernel
theorem dX1_value_164 : decode cX1_value 164 = .ok (.aload_n 0, 1) := by decide +kernel
theorem dX1_value_165 : decode cX1_value 165 = .ok (.invokevirtual 32, 3) := by decide +kernel
theorem dX1_value_168 : decode cX1_value 168 = .ok (.iload_n 3, 1) := by decide +kernel
theorem dX1_value_169 : decode cX1_value 169 = .ok (.invokestatic 36, 3) := by decide +kernel
theorem dX1_value_172 : decode cX1_value 172 = .ok (.invokevirtual 28, 3) := by decide +kernel
theorem dX1_value_175 : decode cX1_value 175 = .ok (.goto 24, 3) := by decide +kernel
theorem dX1_value_178 : decode cX1_value 178 = .ok (.aload_n 0, 1) := by decide +kernel
theorem dX1_value_179 : decode cX1_value 179 = .ok (.invokevirtual 32, 3) := by decide +kernel
theorem dX1_value_182 : decode cX1_value 182 = .ok (.istore 7, 2) := by decide +kernel
theorem dX1_value_184 : decode cX1_value 184 = .ok (.aload_n 0, 1) := by decide +kernel
theorem dX1_value_185 : decode cX1_value 185 = .ok (.iload 6, 2) := by decide +kernel
theorem dX1_value_187 : decode cX1_value 187 = .ok (.aload_n 0, 1) := by decide +kernel
theorem dX1_value_188 : decode cX1_value 188 = .ok (.invokevirtual 32, 3) := by decide +kernel
theorem dX1_value_191 : decode cX1_value 191 = .ok (.iload 7, 2) := by decide +kernel
theorem dX1_value_193 : decode cX1_value 193 = .ok (.invokestatic 40, 3) := by decide +kernel
theorem dX1_value_196 : decode cX1_value 196 = .ok (.invokevirtual 28, 3) := by decide +kernel
theorem dX1_value_199 : decode cX1_value 199 = .ok (.iinc 5 1, 3) := by decide +kernel
theorem dX1_value_202 : decode cX1_value 202 = .ok (.goto (-191), 3) := by decide +kernel
theorem dX1_value_205 : decode cX1_value 205 = .ok (.aload_n 0, 1) := by decide +kernel
theorem dX1_value_206 : decode cX1_value 206 = .ok (.invokevirtual 32, 3) := by decide +kernel
theorem dX1_value_209 : decode cX1_value 209 = .ok (.ireturn, 1) := by decide +kernel
theorem dX1_push_0 : decode cX1_push 0 = .ok (.aload_n 0, 1) := by decide +kernel
theorem dX1_push_1 : decode cX1_push 1 = .ok (.getfield 18, 3) := by decide +kernel
theorem dX1_push_4 : decode cX1_push 4 = .ok (.bipush 64, 2) := by decide +kernel
theorem dX1_push_6 : decode cX1_push 6 = .ok (.if_icmp .ge 23, 3) := by decide +kernel
theorem dX1_push_9 : decode cX1_push 9 = .ok (.aload_n 0, 1) := by decide +kernel
theorem dX1_push_10 : decode cX1_push 10 = .ok (.getfield 15, 3) := by decide +kernel
theorem dX1_push_13 : decode cX1_push 13 = .ok (.aload_n 0, 1) := by decide +kernel
theorem dX1_push_14 : decode cX1_push 14 = .ok (.getfield 18, 3) := by decide +kernel
theorem dX1_push_17 : decode cX1_push 17 = .ok (.iload_n 1, 1) := by decide +kernel
theorem dX1_push_18 : decode cX1_push 18 = .ok (.iastore, 1) := by decide +kernel
theorem dX1_push_19 : decode cX1_push 19 = .ok (.aload_n 0, 1) := by decide +kernel
theorem dX1_push_20 : decode cX1_push 20 = .ok (.dup, 1) := by decide +kernel
theorem dX1_push_21 : decode cX1_push 21 = .ok (.getfield 18, 3) := by decide +kernel
theorem dX1_push_24 : decode cX1_push 24 = .ok (.iconst 1, 1) := by decide +kernel
theorem dX1_push_25 : decode cX1_push 25 = .ok (.iadd, 1) := by decide +kernel
theorem dX1_push_26 : decode cX1_push 26 = .ok (.putfield 18, 3) := by decide +kernel
theorem dX1_push_29 : decode cX1_push 29 = .ok (.return_, 1) := by decide +kernel
theorem dX1_pop_0 : decode cX1_pop 0 = .ok (.aload_n 0, 1) := by decide +kernel
theorem dX1_pop_1 : decode cX1_pop 1 = .ok (.getfield 18, 3) := by decide +kernel
theorem dX1_pop_4 : decode cX1_pop 4 = .ok (.ifCond .gt 5, 3) := by decide +kernel
theorem dX1_pop_7 : decode cX1_pop 7 = .ok (.iconst 0, 1) := by decide +kernel
theorem dX1_pop_8 : decode cX1_pop 8 = .ok (.ireturn, 1) := by decide +kernel
theorem dX1_pop_9 : decode cX1_pop 9 = .ok (.aload_n 0, 1) := by decide +kernel
theorem dX1_pop_10 : decode cX1_pop 10 = .ok (.dup, 1) := by decide +kernel
theorem dX1_pop_11 : decode cX1_pop 11 = .ok (.getfield 18, 3) := by decide +kernel
theorem dX1_pop_14 : decode cX1_pop 14 = .ok (.iconst 1, 1) := by decide +kernel
theorem dX1_pop_15 : decode cX1_pop 15 = .ok (.isub, 1) := by decide +kernel
theorem dX1_pop_16 : decode cX1_pop 16 = .ok (.putfield 18, 3) := by decide +kernel
theorem dX1_pop_19 : decode cX1_pop 19 = .ok (.aload_n 0, 1) := by decide +kernel
theorem dX1_pop_20 : decode cX1_pop 20 = .ok (.getfield 15, 3) := by decide +kernel
theorem dX1_pop_23 : decode cX1_pop 23 = .ok (.aload_n 0, 1) := by decide +kernel
theorem dX1_pop_24 : decode cX1_pop 24 = .ok (.getfield 18, 3) := by decide +kernel
theorem dX1_pop_27 : decode cX1_pop 27 = .ok (.iaload, 1) := by decide +kernel
theorem dX1_pop_28 : decode cX1_pop 28 = .ok (.ireturn, 1) := by decide +kernel
theorem dX1_ofOne_0 : decode cX1_ofOne 0 = .ok (.iload_n 0, 1) := by decide +kernel
theorem dX1_ofOne_1 : decode cX1_ofOne 1 = .ok (.lookupswitch 47 #[(21, 30), (60, 27)], 27) := by decide +kernel
theorem dX1_ofOne_28 : decode cX1_ofOne 28 = .ok (.iload_n 1, 1) := by decide +kernel
theorem dX1_ofOne_29 : decode cX1_ofOne 29 = .ok (.ineg, 1) := by decide +kernel
theorem dX1_ofOne_30 : decode cX1_ofOne 30 = .ok (.ireturn, 1) := by decide +kernel
theorem dX1_ofOne_31 : decode cX1_ofOne 31 = .ok (.iload_n 1, 1) := by decide +kernel
theorem dX1_ofOne_32 : decode cX1_ofOne 32 = .ok (.invokestatic 43, 3) := by decide +kernel
theorem dX1_ofOne_35 : decode cX1_ofOne 35 = .ok (.ifCond .eq 11, 3) := by decide +kernel
theorem dX1_ofOne_38 : decode cX1_ofOne 38 = .ok (.iload_n 2, 1) := by decide +kernel
theorem dX1_ofOne_39 : decode cX1_ofOne 39 = .ok (.iload_n 1, 1) := by decide +kernel
theorem dX1_ofOne_40 : decode cX1_ofOne 40 = .ok (.ishr, 1) := by decide +kernel
theorem dX1_ofOne_41 : decode cX1_ofOne 41 = .ok (.iconst 1, 1) := by decide +kernel
theorem dX1_ofOne_42 : decode cX1_ofOne 42 = .ok (.iand, 1) := by decide +kernel
theorem dX1_ofOne_43 : decode cX1_ofOne 43 = .ok (.goto 4, 3) := by decide +kernel
theorem dX1_ofOne_46 : decode cX1_ofOne 46 = .ok (.iconst 0, 1) := by decide +kernel
theorem dX1_ofOne_47 : decode cX1_ofOne 47 = .ok (.ireturn, 1) := by decide +kernel
theorem dX1_ofOne_48 : decode cX1_ofOne 48 = .ok (.iload_n 1, 1) := by decide +kernel
theorem dX1_ofOne_49 : decode cX1_ofOne 49 = .ok (.ifCond .ne 7, 3) := by decide +kernel
theorem dX1_ofOne_52 : decode cX1_ofOne 52 = .ok (.iconst 1, 1) := by decide +kernel
theorem dX1_ofOne_53 : decode cX1_ofOne 53 = .ok (.goto 4, 3) := by decide +kernel
theorem dX1_ofOne_56 : decode cX1_ofOne 56 = .ok (.iconst 0, 1) := by decide +kernel
theorem dX1_ofOne_57 : decode cX1_ofOne 57 = .ok (.ireturn, 1) := by decide +kernel
theorem dX1_ofTwo_0 : decode cX1_ofTwo 0 = .ok (.iload_n 0, 1) := by decide +kernel
theorem dX1_ofTwo_1 : decode cX1_ofTwo 1 = .ok (.tableswitch 288 19 50 #[186, 288, 288, 288, 288, 288, 288, 288, 280, 288, 288, 288, 288, 288, 288, 288, 288, 288, 288, 288, 288, 288, 196, 210, 224, 238, 252, 266, 143, 152, 161, 170], 143) := by decide +kernel
theorem dX1_ofTwo_144 : decode cX1_ofTwo 144 = .ok (.iload_n 1, 1) := by decide +kernel
theorem dX1_ofTwo_145 : decode cX1_ofTwo 145 = .ok (.i2l, 1) := by decide +kernel
theorem dX1_ofTwo_146 : decode cX1_ofTwo 146 = .ok (.iload_n 2, 1) := by decide +kernel
theorem dX1_ofTwo_147 : decode cX1_ofTwo 147 = .ok (.i2l, 1) := by decide +kernel
theorem dX1_ofTwo_148 : decode cX1_ofTwo 148 = .ok (.ladd, 1) := by decide +kernel
theorem dX1_ofTwo_149 : decode cX1_ofTwo 149 = .ok (.lstore_n 3, 1) := by decide +kernel
theorem dX1_ofTwo_150 : decode cX1_ofTwo 150 = .ok (.goto 144, 3) := by decide +kernel
theorem dX1_ofTwo_153 : decode cX1_ofTwo 153 = .ok (.iload_n 1, 1) := by decide +kernel
theorem dX1_ofTwo_154 : decode cX1_ofTwo 154 = .ok (.i2l, 1) := by decide +kernel
theorem dX1_ofTwo_155 : decode cX1_ofTwo 155 = .ok (.iload_n 2, 1) := by decide +kernel
theorem dX1_ofTwo_156 : decode cX1_ofTwo 156 = .ok (.i2l, 1) := by decide +kernel
theorem dX1_ofTwo_157 : decode cX1_ofTwo 157 = .ok (.lsub, 1) := by decide +kernel
theorem dX1_ofTwo_158 : decode cX1_ofTwo 158 = .ok (.lstore_n 3, 1) := by decide +kernel
theorem dX1_ofTwo_159 : decode cX1_ofTwo 159 = .ok (.goto 135, 3) := by decide +kernel
theorem dX1_ofTwo_162 : decode cX1_ofTwo 162 = .ok (.iload_n 1, 1) := by decide +kernel
theorem dX1_ofTwo_163 : decode cX1_ofTwo 163 = .ok (.i2l, 1) := by decide +kernel
theorem dX1_ofTwo_164 : decode cX1_ofTwo 164 = .ok (.iload_n 2, 1) := by decide +kernel
theorem dX1_ofTwo_165 : decode cX1_ofTwo 165 = .ok (.i2l, 1) := by decide +kernel
theorem dX1_ofTwo_166 : decode cX1_ofTwo 166 = .ok (.lmul, 1) := by decide +kernel
theorem dX1_ofTwo_167 : decode cX1_ofTwo 167 = .ok (.lstore_n 3, 1) := by decide +kernel
theorem dX1_ofTwo_168 : decode cX1_ofTwo 168 = .ok (.goto 126, 3) := by decide +kernel
theorem dX1_ofTwo_171 : decode cX1_ofTwo 171 = .ok (.iload_n 2, 1) := by decide +kernel
theorem dX1_ofTwo_172 : decode cX1_ofTwo 172 = .ok (.ifCond .ne 7, 3) := by decide +kernel
theorem dX1_ofTwo_175 : decode cX1_ofTwo 175 = .ok (.lconst 0, 1) := by decide +kernel
theorem dX1_ofTwo_176 : decode cX1_ofTwo 176 = .ok (.goto 7, 3) := by decide +kernel
theorem dX1_ofTwo_179 : decode cX1_ofTwo 179 = .ok (.iload_n 1, 1) := by decide +kernel
theorem dX1_ofTwo_180 : decode cX1_ofTwo 180 = .ok (.iload_n 2, 1) := by decide +kernel
theorem dX1_ofTwo_181 : decode cX1_ofTwo 181 = .ok (.idiv, 1) := by decide +kernel
theorem dX1_ofTwo_182 : decode cX1_ofTwo 182 = .ok (.i2l, 1) := by decide +kernel
theorem dX1_ofTwo_183 : decode cX1_ofTwo 183 = .ok (.lstore_n 3, 1) := by decide +kernel
theorem dX1_ofTwo_184 : decode cX1_ofTwo 184 = .ok (.goto 110, 3) := by decide +kernel
theorem dX1_ofTwo_187 : decode cX1_ofTwo 187 = .ok (.iload_n 1, 1) := by decide +kernel
theorem dX1_ofTwo_188 : decode cX1_ofTwo 188 = .ok (.iload_n 2, 1) := by decide +kernel
theorem dX1_ofTwo_189 : decode cX1_ofTwo 189 = .ok (.invokestatic 47, 3) := by decide +kernel
theorem dX1_ofTwo_192 : decode cX1_ofTwo 192 = .ok (.i2l, 1) := by decide +kernel
theorem dX1_ofTwo_193 : decode cX1_ofTwo 193 = .ok (.lstore_n 3, 1) := by decide +kernel
theorem dX1_ofTwo_194 : decode cX1_ofTwo 194 = .ok (.goto 100, 3) := by decide +kernel
theorem dX1_ofTwo_197 : decode cX1_ofTwo 197 = .ok (.iload_n 1, 1) := by decide +kernel
theorem dX1_ofTwo_198 : decode cX1_ofTwo 198 = .ok (.iload_n 2, 1) := by decide +kernel
theorem dX1_ofTwo_199 : decode cX1_ofTwo 199 = .ok (.if_icmp .ge 7, 3) := by decide +kernel
theorem dX1_ofTwo_202 : decode cX1_ofTwo 202 = .ok (.lconst 1, 1) := by decide +kernel
theorem dX1_ofTwo_203 : decode cX1_ofTwo 203 = .ok (.goto 4, 3) := by decide +kernel
theorem dX1_ofTwo_206 : decode cX1_ofTwo 206 = .ok (.lconst 0, 1) := by decide +kernel
theorem dX1_ofTwo_207 : decode cX1_ofTwo 207 = .ok (.lstore_n 3, 1) := by decide +kernel
theorem dX1_ofTwo_208 : decode cX1_ofTwo 208 = .ok (.goto 86, 3) := by decide +kernel
theorem dX1_ofTwo_211 : decode cX1_ofTwo 211 = .ok (.iload_n 1, 1) := by decide +kernel
theorem dX1_ofTwo_212 : decode cX1_ofTwo 212 = .ok (.iload_n 2, 1) := by decide +kernel
theorem dX1_ofTwo_213 : decode cX1_ofTwo 213 = .ok (.if_icmp .gt 7, 3) := by decide +kernel
theorem dX1_ofTwo_216 : decode cX1_ofTwo 216 = .ok (.lconst 1, 1) := by decide +kernel
theorem dX1_ofTwo_217 : decode cX1_ofTwo 217 = .ok (.goto 4, 3) := by decide +kernel
theorem dX1_ofTwo_220 : decode cX1_ofTwo 220 = .ok (.lconst 0, 1) := by decide +kernel
theorem dX1_ofTwo_221 : decode cX1_ofTwo 221 = .ok (.lstore_n 3, 1) := by decide +kernel
theorem dX1_ofTwo_222 : decode cX1_ofTwo 222 = .ok (.goto 72, 3) := by decide +kernel
theorem dX1_ofTwo_225 : decode cX1_ofTwo 225 = .ok (.iload_n 1, 1) := by decide +kernel
theorem dX1_ofTwo_226 : decode cX1_ofTwo 226 = .ok (.iload_n 2, 1) := by decide +kernel
theorem dX1_ofTwo_227 : decode cX1_ofTwo 227 = .ok (.if_icmp .le 7, 3) := by decide +kernel
theorem dX1_ofTwo_230 : decode cX1_ofTwo 230 = .ok (.lconst 1, 1) := by decide +kernel
theorem dX1_ofTwo_231 : decode cX1_ofTwo 231 = .ok (.goto 4, 3) := by decide +kernel
theorem dX1_ofTwo_234 : decode cX1_ofTwo 234 = .ok (.lconst 0, 1) := by decide +kernel
theorem dX1_ofTwo_235 : decode cX1_ofTwo 235 = .ok (.lstore_n 3, 1) := by decide +kernel
theorem dX1_ofTwo_236 : decode cX1_ofTwo 236 = .ok (.goto 58, 3) := by decide +kernel
theorem dX1_ofTwo_239 : decode cX1_ofTwo 239 = .ok (.iload_n 1, 1) := by decide +kernel
theorem dX1_ofTwo_240 : decode cX1_ofTwo 240 = .ok (.iload_n 2, 1) := by decide +kernel
theorem dX1_ofTwo_241 : decode cX1_ofTwo 241 = .ok (.if_icmp .lt 7, 3) := by decide +kernel
theorem dX1_ofTwo_244 : decode cX1_ofTwo 244 = .ok (.lconst 1, 1) := by decide +kernel
theorem dX1_ofTwo_245 : decode cX1_ofTwo 245 = .ok (.goto 4, 3) := by decide +kernel
theorem dX1_ofTwo_248 : decode cX1_ofTwo 248 = .ok (.lconst 0, 1) := by decide +kernel
theorem dX1_ofTwo_249 : decode cX1_ofTwo 249 = .ok (.lstore_n 3, 1) := by decide +kernel
theorem dX1_ofTwo_250 : decode cX1_ofTwo 250 = .ok (.goto 44, 3) := by decide +kernel
theorem dX1_ofTwo_253 : decode cX1_ofTwo 253 = .ok (.iload_n 1, 1) := by decide +kernel
theorem dX1_ofTwo_254 : decode cX1_ofTwo 254 = .ok (.iload_n 2, 1) := by decide +kernel
theorem dX1_ofTwo_255 : decode cX1_ofTwo 255 = .ok (.if_icmp .ne 7, 3) := by decide +kernel
theorem dX1_ofTwo_258 : decode cX1_ofTwo 258 = .ok (.lconst 1, 1) := by decide +kernel
theorem dX1_ofTwo_259 : decode cX1_ofTwo 259 = .ok (.goto 4, 3) := by decide +kernel
theorem dX1_ofTwo_262 : decode cX1_ofTwo 262 = .ok (.lconst 0, 1) := by decide +kernel
theorem dX1_ofTwo_263 : decode cX1_ofTwo 263 = .ok (.lstore_n 3, 1) := by decide +kernel
theorem dX1_ofTwo_264 : decode cX1_ofTwo 264 = .ok (.goto 30, 3) := by decide +kernel
theorem dX1_ofTwo_267 : decode cX1_ofTwo 267 = .ok (.iload_n 1, 1) := by decide +kernel
theorem dX1_ofTwo_268 : decode cX1_ofTwo 268 = .ok (.iload_n 2, 1) := by decide +kernel
theorem dX1_ofTwo_269 : decode cX1_ofTwo 269 = .ok (.if_icmp .eq 7, 3) := by decide +kernel
theorem dX1_ofTwo_272 : decode cX1_ofTwo 272 = .ok (.lconst 1, 1) := by decide +kernel
theorem dX1_ofTwo_273 : decode cX1_ofTwo 273 = .ok (.goto 4, 3) := by decide +kernel
theorem dX1_ofTwo_276 : decode cX1_ofTwo 276 = .ok (.lconst 0, 1) := by decide +kernel
theorem dX1_ofTwo_277 : decode cX1_ofTwo 277 = .ok (.lstore_n 3, 1) := by decide +kernel
theorem dX1_ofTwo_278 : decode cX1_ofTwo 278 = .ok (.goto 16, 3) := by decide +kernel
theorem dX1_ofTwo_281 : decode cX1_ofTwo 281 = .ok (.iload_n 1, 1) := by decide +kernel
theorem dX1_ofTwo_282 : decode cX1_ofTwo 282 = .ok (.iload_n 2, 1) := by decide +kernel
theorem dX1_ofTwo_283 : decode cX1_ofTwo 283 = .ok (.iand, 1) := by decide +kernel
theorem dX1_ofTwo_284 : decode cX1_ofTwo 284 = .ok (.i2l, 1) := by decide +kernel
theorem dX1_ofTwo_285 : decode cX1_ofTwo 285 = .ok (.lstore_n 3, 1) := by decide +kernel
theorem dX1_ofTwo_286 : decode cX1_ofTwo 286 = .ok (.goto 8, 3) := by decide +kernel
theorem dX1_ofTwo_289 : decode cX1_ofTwo 289 = .ok (.iload_n 1, 1) := by decide +kernel
theorem dX1_ofTwo_290 : decode cX1_ofTwo 290 = .ok (.iload_n 2, 1) := by decide +kernel
theorem dX1_ofTwo_291 : decode cX1_ofTwo 291 = .ok (.ior, 1) := by decide +kernel
theorem dX1_ofTwo_292 : decode cX1_ofTwo 292 = .ok (.i2l, 1) := by decide +kernel
theorem dX1_ofTwo_293 : decode cX1_ofTwo 293 = .ok (.lstore_n 3, 1) := by decide +kernel
theorem dX1_ofTwo_294 : decode cX1_ofTwo 294 = .ok (.lload_n 3, 1) := by decide +kernel
theorem dX1_ofTwo_295 : decode cX1_ofTwo 295 = .ok (.ldc2_w 51, 3) := by decide +kernel
theorem dX1_ofTwo_298 : decode cX1_ofTwo 298 = .ok (.lcmp, 1) := by decide +kernel
theorem dX1_ofTwo_299 : decode cX1_ofTwo 299 = .ok (.ifCond .le 6, 3) := by decide +kernel
theorem dX1_ofTwo_302 : decode cX1_ofTwo 302 = .ok (.ldc 53, 2) := by decide +kernel
theorem dX1_ofTwo_304 : decode cX1_ofTwo 304 = .ok (.ireturn, 1) := by decide +kernel
theorem dX1_ofTwo_305 : decode cX1_ofTwo 305 = .ok (.lload_n 3, 1) := by decide +kernel
theorem dX1_ofTwo_306 : decode cX1_ofTwo 306 = .ok (.ldc2_w 54, 3) := by decide +kernel
theorem dX1_ofTwo_309 : decode cX1_ofTwo 309 = .ok (.lcmp, 1) := by decide +kernel
theorem dX1_ofTwo_310 : decode cX1_ofTwo 310 = .ok (.ifCond .ge 8, 3) := by decide +kernel
theorem dX1_ofTwo_313 : decode cX1_ofTwo 313 = .ok (.ldc 56, 2) := by decide +kernel
theorem dX1_ofTwo_315 : decode cX1_ofTwo 315 = .ok (.goto 5, 3) := by decide +kernel
theorem dX1_ofTwo_318 : decode cX1_ofTwo 318 = .ok (.lload_n 3, 1) := by decide +kernel
theorem dX1_ofTwo_319 : decode cX1_ofTwo 319 = .ok (.l2i, 1) := by decide +kernel
theorem dX1_ofTwo_320 : decode cX1_ofTwo 320 = .ok (.ireturn, 1) := by decide +kernel
theorem dX1_apart_0 : decode cX1_apart 0 = .ok (.iload_n 0, 1) := by decide +kernel
theorem dX1_apart_1 : decode cX1_apart 1 = .ok (.ifCond .lt 19, 3) := by decide +kernel
theorem dX1_apart_4 : decode cX1_apart 4 = .ok (.iload_n 0, 1) := by decide +kernel
theorem dX1_apart_5 : decode cX1_apart 5 = .ok (.bipush 10, 2) := by decide +kernel
theorem dX1_apart_7 : decode cX1_apart 7 = .ok (.if_icmp .ge 13, 3) := by decide +kernel
theorem dX1_apart_10 : decode cX1_apart 10 = .ok (.iload_n 1, 1) := by decide +kernel
theorem dX1_apart_11 : decode cX1_apart 11 = .ok (.ifCond .lt 9, 3) := by decide +kernel
theorem dX1_apart_14 : decode cX1_apart 14 = .ok (.iload_n 1, 1) := by decide +kernel
theorem dX1_apart_15 : decode cX1_apart 15 = .ok (.bipush 10, 2) := by decide +kernel
theorem dX1_apart_17 : decode cX1_apart 17 = .ok (.if_icmp .lt 5, 3) := by decide +kernel
theorem dX1_apart_20 : decode cX1_apart 20 = .ok (.iconst 0, 1) := by decide +kernel
theorem dX1_apart_21 : decode cX1_apart 21 = .ok (.ireturn, 1) := by decide +kernel
theorem dX1_apart_22 : decode cX1_apart 22 = .ok (.iload_n 0, 1) := by decide +kernel
theorem dX1_apart_23 : decode cX1_apart 23 = .ok (.iload_n 1, 1) := by decide +kernel
theorem dX1_apart_24 : decode cX1_apart 24 = .ok (.if_icmp .ge 9, 3) := by decide +kernel
theorem dX1_apart_27 : decode cX1_apart 27 = .ok (.iload_n 1, 1) := by decide +kernel
theorem dX1_apart_28 : decode cX1_apart 28 = .ok (.iload_n 0, 1) := by decide +kernel
theorem dX1_apart_29 : decode cX1_apart 29 = .ok (.isub, 1) := by decide +kernel
theorem dX1_apart_30 : decode cX1_apart 30 = .ok (.goto 6, 3) := by decide +kernel
theorem dX1_apart_33 : decode cX1_apart 33 = .ok (.iload_n 0, 1) := by decide +kernel
theorem dX1_apart_34 : decode cX1_apart 34 = .ok (.iload_n 1, 1) := by decide +kernel
theorem dX1_apart_35 : decode cX1_apart 35 = .ok (.isub, 1) := by decide +kernel
theorem dX1_apart_36 : decode cX1_apart 36 = .ok (.istore_n 2, 1) := by decide +kernel
theorem dX1_apart_37 : decode cX1_apart 37 = .ok (.iload_n 2, 1) := by decide +kernel
theorem dX1_apart_38 : decode cX1_apart 38 = .ok (.iconst 5, 1) := by decide +kernel
theorem dX1_apart_39 : decode cX1_apart 39 = .ok (.if_icmp .le 10, 3) := by decide +kernel
theorem dX1_apart_42 : decode cX1_apart 42 = .ok (.bipush 10, 2) := by decide +kernel
theorem dX1_apart_44 : decode cX1_apart 44 = .ok (.iload_n 2, 1) := by decide +kernel
theorem dX1_apart_45 : decode cX1_apart 45 = .ok (.isub, 1) := by decide +kernel
theorem dX1_apart_46 : decode cX1_apart 46 = .ok (.goto 4, 3) := by decide +kernel
theorem dX1_apart_49 : decode cX1_apart 49 = .ok (.iload_n 2, 1) := by decide +kernel
theorem dX1_apart_50 : decode cX1_apart 50 = .ok (.ireturn, 1) := by decide +kernel
theorem dX2_init_0 : decode cX2_init 0 = .ok (.aload_n 0, 1) := by decide +kernel
theorem dX2_init_1 : decode cX2_init 1 = .ok (.invokespecial 3, 3) := by decide +kernel
theorem dX2_init_4 : decode cX2_init 4 = .ok (.aload_n 0, 1) := by decide +kernel
theorem dX2_init_5 : decode cX2_init 5 = .ok (.sipush 300, 3) := by decide +kernel
theorem dX2_init_8 : decode cX2_init 8 = .ok (.newarray .int, 2) := by decide +kernel
theorem dX2_init_10 : decode cX2_init 10 = .ok (.putfield 9, 3) := by decide +kernel
theorem dX2_init_13 : decode cX2_init 13 = .ok (.aload_n 0, 1) := by decide +kernel
theorem dX2_init_14 : decode cX2_init 14 = .ok (.iconst (-1), 1) := by decide +kernel
theorem dX2_init_15 : decode cX2_init 15 = .ok (.putfield 15, 3) := by decide +kernel
theorem dX2_init_18 : decode cX2_init 18 = .ok (.aload_n 0, 1) := by decide +kernel
theorem dX2_init_19 : decode cX2_init 19 = .ok (.new 19, 3) := by decide +kernel
theorem dX2_init_22 : decode cX2_init 22 = .ok (.dup, 1) := by decide +kernel
theorem dX2_init_23 : decode cX2_init 23 = .ok (.invokespecial 21, 3) := by decide +kernel
theorem dX2_init_26 : decode cX2_init 26 = .ok (.putfield 22, 3) := by decide +kernel
theorem dX2_init_29 : decode cX2_init 29 = .ok (.aload_n 0, 1) := by decide +kernel
theorem dX2_init_30 : decode cX2_init 30 = .ok (.sipush 301, 3) := by decide +kernel
theorem dX2_init_33 : decode cX2_init 33 = .ok (.newarray .int, 2) := by decide +kernel
theorem dX2_init_35 : decode cX2_init 35 = .ok (.putfield 26, 3) := by decide +kernel
theorem dX2_init_38 : decode cX2_init 38 = .ok (.aload_n 0, 1) := by decide +kernel
theorem dX2_init_39 : decode cX2_init 39 = .ok (.sipush 301, 3) := by decide +kernel
theorem dX2_init_42 : decode cX2_init 42 = .ok (.newarray .int, 2) := by decide +kernel
theorem dX2_init_44 : decode cX2_init 44 = .ok (.putfield 29, 3) := by decide +kernel
theorem dX2_init_47 : decode cX2_init 47 = .ok (.aload_n 0, 1) := by decide +kernel
theorem dX2_init_48 : decode cX2_init 48 = .ok (.sipush 301, 3) := by decide +kernel
theorem dX2_init_51 : decode cX2_init 51 = .ok (.newarray .int, 2) := by decide +kernel
theorem dX2_init_53 : decode cX2_init 53 = .ok (.putfield 32, 3) := by decide +kernel
theorem dX2_init_56 : decode cX2_init 56 = .ok (.return_, 1) := by decide +kernel
theorem dX2_append_0 : decode cX2_append 0 = .ok (.bipush 24, 2) := by decide +kernel
theorem dX2_append_2 : decode cX2_append 2 = .ok (.istore_n 2, 1) := by decide +kernel
theorem dX2_append_3 : decode cX2_append 3 = .ok (.iload_n 2, 1) := by decide +kernel
theorem dX2_append_4 : decode cX2_append 4 = .ok (.ifCond .lt 45, 3) := by decide +kernel
theorem dX2_append_7 : decode cX2_append 7 = .ok (.aload_n 0, 1) := by decide +kernel
theorem dX2_append_8 : decode cX2_append 8 = .ok (.getfield 35, 3) := by decide +kernel
theorem dX2_append_11 : decode cX2_append 11 = .ok (.sipush 300, 3) := by decide +kernel
theorem dX2_append_14 : decode cX2_append 14 = .ok (.if_icmp .ge 35, 3) := by decide +kernel
theorem dX2_append_17 : decode cX2_append 17 = .ok (.aload_n 0, 1) := by decide +kernel
theorem dX2_append_18 : decode cX2_append 18 = .ok (.getfield 9, 3) := by decide +kernel
theorem dX2_append_21 : decode cX2_append 21 = .ok (.aload_n 0, 1) := by decide +kernel
theorem dX2_append_22 : decode cX2_append 22 = .ok (.getfield 35, 3) := by decide +kernel
theorem dX2_append_25 : decode cX2_append 25 = .ok (.iload_n 1, 1) := by decide +kernel
theorem dX2_append_26 : decode cX2_append 26 = .ok (.iload_n 2, 1) := by decide +kernel
theorem dX2_append_27 : decode cX2_append 27 = .ok (.ishr, 1) := by decide +kernel
theorem dX2_append_28 : decode cX2_append 28 = .ok (.sipush 255, 3) := by decide +kernel
theorem dX2_append_31 : decode cX2_append 31 = .ok (.iand, 1) := by decide +kernel
theorem dX2_append_32 : decode cX2_append 32 = .ok (.iastore, 1) := by decide +kernel
theorem dX2_append_33 : decode cX2_append 33 = .ok (.aload_n 0, 1) := by decide +kernel
theorem dX2_append_34 : decode cX2_append 34 = .ok (.dup, 1) := by decide +kernel
theorem dX2_append_35 : decode cX2_append 35 = .ok (.getfield 35, 3) := by decide +kernel
theorem dX2_append_38 : decode cX2_append 38 = .ok (.iconst 1, 1) := by decide +kernel
theorem dX2_append_39 : decode cX2_append 39 = .ok (.iadd, 1) := by decide +kernel
theorem dX2_append_40 : decode cX2_append 40 = .ok (.putfield 35, 3) := by decide +kernel
theorem dX2_append_43 : decode cX2_append 43 = .ok (.iinc 2 (-8), 3) := by decide +kernel
theorem dX2_append_46 : decode cX2_append 46 = .ok (.goto (-43), 3) := by decide +kernel
theorem dX2_append_49 : decode cX2_append 49 = .ok (.return_, 1) := by decide +kernel
theorem dX2_readTape_0 : decode cX2_readTape 0 = .ok (.aload_n 0, 1) := by decide +kernel
theorem dX2_readTape_1 : decode cX2_readTape 1 = .ok (.iconst 1, 1) := by decide +kernel
theorem dX2_readTape_2 : decode cX2_readTape 2 = .ok (.putfield 38, 3) := by decide +kernel
theorem dX2_readTape_5 : decode cX2_readTape 5 = .ok (.aload_n 0, 1) := by decide +kernel
theorem dX2_readTape_6 : decode cX2_readTape 6 = .ok (.iconst 0, 1) := by decide +kernel
theorem dX2_readTape_7 : decode cX2_readTape 7 = .ok (.putfield 42, 3) := by decide +kernel
theorem dX2_readTape_10 : decode cX2_readTape 10 = .ok (.aload_n 0, 1) := by decide +kernel
theorem dX2_readTape_11 : decode cX2_readTape 11 = .ok (.iconst (-1), 1) := by decide +kernel
theorem dX2_readTape_12 : decode cX2_readTape 12 = .ok (.putfield 15, 3) := by decide +kernel
theorem dX2_readTape_15 : decode cX2_readTape 15 = .ok (.aload_n 0, 1) := by decide +kernel
theorem dX2_readTape_16 : decode cX2_readTape 16 = .ok (.getfield 22, 3) := by decide +kernel
theorem dX2_readTape_19 : decode cX2_readTape 19 = .ok (.invokevirtual 45, 3) := by decide +kernel
theorem dX2_readTape_22 : decode cX2_readTape 22 = .ok (.aload_n 0, 1) := by decide +kernel
theorem dX2_readTape_23 : decode cX2_readTape 23 = .ok (.invokevirtual 48, 3) := by decide +kernel
theorem dX2_readTape_26 : decode cX2_readTape 26 = .ok (.aload_n 0, 1) := by decide +kernel
theorem dX2_readTape_27 : decode cX2_readTape 27 = .ok (.iconst 0, 1) := by decide +kernel
theorem dX2_readTape_28 : decode cX2_readTape 28 = .ok (.putfield 51, 3) := by decide +kernel
theorem dX2_readTape_31 : decode cX2_readTape 31 = .ok (.iconst 0, 1) := by decide +kernel
theorem dX2_readTape_32 : decode cX2_readTape 32 = .ok (.istore_n 1, 1) := by decide +kernel
theorem dX2_readTape_33 : decode cX2_readTape 33 = .ok (.iload_n 1, 1) := by decide +kernel
theorem dX2_readTape_34 : decode cX2_readTape 34 = .ok (.sipush 300, 3) := by decide +kernel
theorem dX2_readTape_37 : decode cX2_readTape 37 = .ok (.if_icmp .gt 32, 3) := by decide +kernel
theorem dX2_readTape_40 : decode cX2_readTape 40 = .ok (.aload_n 0, 1) := by decide +kernel
theorem dX2_readTape_41 : decode cX2_readTape 41 = .ok (.getfield 26, 3) := by decide +kernel
theorem dX2_readTape_44 : decode cX2_readTape 44 = .ok (.aload_n 0, 1) := by decide +kernel
theorem dX2_readTape_45 : decode cX2_readTape 45 = .ok (.getfield 51, 3) := by decide +kernel
theorem dX2_readTape_48 : decode cX2_readTape 48 = .ok (.iaload, 1) := by decide +kernel
theorem dX2_readTape_49 : decode cX2_readTape 49 = .ok (.bipush 54, 2) := by decide +kernel
theorem dX2_readTape_51 : decode cX2_readTape 51 = .ok (.if_icmp .eq 18, 3) := by decide +kernel
theorem dX2_readTape_54 : decode cX2_readTape 54 = .ok (.aload_n 0, 1) := by decide +kernel
theorem dX2_readTape_55 : decode cX2_readTape 55 = .ok (.invokevirtual 54, 3) := by decide +kernel
theorem dX2_readTape_58 : decode cX2_readTape 58 = .ok (.ifCond .ne 5, 3) := by decide +kernel
theorem dX2_readTape_61 : decode cX2_readTape 61 = .ok (.iconst 0, 1) := by decide +kernel
theorem dX2_readTape_62 : decode cX2_readTape 62 = .ok (.ireturn, 1) := by decide +kernel
theorem dX2_readTape_63 : decode cX2_readTape 63 = .ok (.iinc 1 1, 3) := by decide +kernel
theorem dX2_readTape_66 : decode cX2_readTape 66 = .ok (.goto (-33), 3) := by decide +kernel
theorem dX2_readTape_69 : decode cX2_readTape 69 = .ok (.iconst 1, 1) := by decide +kernel
theorem dX2_readTape_70 : decode cX2_readTape 70 = .ok (.ireturn, 1) := by decide +kernel
theorem dX2_cut_0 : decode cX2_cut 0 = .ok (.aload_n 0, 1) := by decide +kernel
theorem dX2_cut_1 : decode cX2_cut 1 = .ok (.iconst 0, 1) := by decide +kernel
theorem dX2_cut_2 : decode cX2_cut 2 = .ok (.putfield 58, 3) := by decide +kernel
theorem dX2_cut_5 : decode cX2_cut 5 = .ok (.iconst 0, 1) := by decide +kernel
theorem dX2_cut_6 : decode cX2_cut 6 = .ok (.istore_n 1, 1) := by decide +kernel
theorem dX2_cut_7 : decode cX2_cut 7 = .ok (.iconst 0, 1) := by decide +kernel
theorem dX2_cut_8 : decode cX2_cut 8 = .ok (.istore_n 2, 1) := by decide +kernel
theorem dX2_cut_9 : decode cX2_cut 9 = .ok (.iload_n 2, 1) := by decide +kernel
theorem dX2_cut_10 : decode cX2_cut 10 = .ok (.sipush 300, 3) := by decide +kernel
theorem dX2_cut_13 : decode cX2_cut 13 = .ok (.if_icmp .ge 145, 3) := by decide +kernel
theorem dX2_cut_16 : decode cX2_cut 16 = .ok (.iload_n 1, 1) := by decide +kernel
theorem dX2_cut_17 : decode cX2_cut 17 = .ok (.aload_n 0, 1) := by decide +kernel
theorem dX2_cut_18 : decode cX2_cut 18 = .ok (.getfield 35, 3) := by decide +kernel
theorem dX2_cut_21 : decode cX2_cut 21 = .ok (.if_icmp .ge 137, 3) := by decide +kernel
theorem dX2_cut_24 : decode cX2_cut 24 = .ok (.aload_n 0, 1) := by decide +kernel
theorem dX2_cut_25 : decode cX2_cut 25 = .ok (.getfield 9, 3) := by decide +kernel
theorem dX2_cut_28 : decode cX2_cut 28 = .ok (.iload_n 1, 1) := by decide +kernel
theorem dX2_cut_29 : decode cX2_cut 29 = .ok (.iaload, 1) := by decide +kernel
theorem dX2_cut_30 : decode cX2_cut 30 = .ok (.istore_n 3, 1) := by decide +kernel
theorem dX2_cut_31 : decode cX2_cut 31 = .ok (.iconst 1, 1) := by decide +kernel
theorem dX2_cut_32 : decode cX2_cut 32 = .ok (.istore 4, 2) := by decide +kernel
theorem dX2_cut_34 : decode cX2_cut 34 = .ok (.iload_n 3, 1) := by decide +kernel
theorem dX2_cut_35 : decode cX2_cut 35 = .ok (.invokestatic 61, 3) := by decide +kernel
theorem dX2_cut_38 : decode cX2_cut 38 = .ok (.ifCond .eq 26, 3) := by decide +kernel
theorem dX2_cut_41 : decode cX2_cut 41 = .ok (.aload_n 0, 1) := by decide +kernel
theorem dX2_cut_42 : decode cX2_cut 42 = .ok (.iload_n 1, 1) := by decide +kernel
theorem dX2_cut_43 : decode cX2_cut 43 = .ok (.invokevirtual 65, 3) := by decide +kernel
theorem dX2_cut_46 : decode cX2_cut 46 = .ok (.istore 4, 2) := by decide +kernel
theorem dX2_cut_48 : decode cX2_cut 48 = .ok (.aload_n 0, 1) := by decide +kernel
theorem dX2_cut_49 : decode cX2_cut 49 = .ok (.aload_n 0, 1) := by decide +kernel
theorem dX2_cut_50 : decode cX2_cut 50 = .ok (.iload_n 1, 1) := by decide +kernel
theorem dX2_cut_51 : decode cX2_cut 51 = .ok (.iload 4, 2) := by decide +kernel
theorem dX2_cut_53 : decode cX2_cut 53 = .ok (.invokevirtual 69, 3) := by decide +kernel
theorem dX2_cut_56 : decode cX2_cut 56 = .ok (.iconst 0, 1) := by decide +kernel
theorem dX2_cut_57 : decode cX2_cut 57 = .ok (.iload_n 1, 1) := by decide +kernel
theorem dX2_cut_58 : decode cX2_cut 58 = .ok (.invokevirtual 73, 3) := by decide +kernel
theorem dX2_cut_61 : decode cX2_cut 61 = .ok (.goto 86, 3) := by decide +kernel
theorem dX2_cut_64 : decode cX2_cut 64 = .ok (.iload_n 3, 1) := by decide +kernel
theorem dX2_cut_65 : decode cX2_cut 65 = .ok (.invokestatic 77, 3) := by decide +kernel
theorem dX2_cut_68 : decode cX2_cut 68 = .ok (.ifCond .eq 27, 3) := by decide +kernel
theorem dX2_cut_71 : decode cX2_cut 71 = .ok (.aload_n 0, 1) := by decide +kernel
theorem dX2_cut_72 : decode cX2_cut 72 = .ok (.iload_n 1, 1) := by decide +kernel
theorem dX2_cut_73 : decode cX2_cut 73 = .ok (.invokevirtual 80, 3) := by decide +kernel
theorem dX2_cut_76 : decode cX2_cut 76 = .ok (.istore 4, 2) := by decide +kernel
theorem dX2_cut_78 : decode cX2_cut 78 = .ok (.aload_n 0, 1) := by decide +kernel
theorem dX2_cut_79 : decode cX2_cut 79 = .ok (.bipush 40, 2) := by decide +kernel
theorem dX2_cut_81 : decode cX2_cut 81 = .ok (.aload_n 0, 1) := by decide +kernel
theorem dX2_cut_82 : decode cX2_cut 82 = .ok (.iload_n 1, 1) := by decide +kernel
theorem dX2_cut_83 : decode cX2_cut 83 = .ok (.iload 4, 2) := by decide +kernel
theorem dX2_cut_85 : decode cX2_cut 85 = .ok (.invokevirtual 83, 3) := by decide +kernel
theorem dX2_cut_88 : decode cX2_cut 88 = .ok (.iload_n 1, 1) := by decide +kernel
theorem dX2_cut_89 : decode cX2_cut 89 = .ok (.invokevirtual 73, 3) := by decide +kernel
theorem dX2_cut_92 : decode cX2_cut 92 = .ok (.goto 55, 3) := by decide +kernel
theorem dX2_cut_95 : decode cX2_cut 95 = .ok (.iload_n 3, 1) := by decide +kernel
theorem dX2_cut_96 : decode cX2_cut 96 = .ok (.bipush 32, 2) := by decide +kernel
theorem dX2_cut_98 : decode cX2_cut 98 = .ok (.if_icmp .eq 49, 3) := by decide +kernel
theorem dX2_cut_101 : decode cX2_cut 101 = .ok (.iload_n 3, 1) := by decide +kernel
theorem dX2_cut_102 : decode cX2_cut 102 = .ok (.bipush 10, 2) := by decide +kernel
theorem dX2_cut_104 : decode cX2_cut 104 = .ok (.if_icmp .eq 43, 3) := by decide +kernel
theorem dX2_cut_107 : decode cX2_cut 107 = .ok (.aload_n 0, 1) := by decide +kernel
theorem dX2_cut_108 : decode cX2_cut 108 = .ok (.iload_n 1, 1) := by decide +kernel
theorem dX2_cut_109 : decode cX2_cut 109 = .ok (.invokevirtual 86, 3) := by decide +kernel
theorem dX2_cut_112 : decode cX2_cut 112 = .ok (.ifCond .eq 7, 3) := by decide +kernel
theorem dX2_cut_115 : decode cX2_cut 115 = .ok (.iconst 2, 1) := by decide +kernel
theorem dX2_cut_116 : decode cX2_cut 116 = .ok (.goto 4, 3) := by decide +kernel
theorem dX2_cut_119 : decode cX2_cut 119 = .ok (.iconst 1, 1) := by decide +kernel
theorem dX2_cut_120 : decode cX2_cut 120 = .ok (.istore 4, 2) := by decide +kernel
theorem dX2_cut_122 : decode cX2_cut 122 = .ok (.aload_n 0, 1) := by decide +kernel
theorem dX2_cut_123 : decode cX2_cut 123 = .ok (.iload 4, 2) := by decide +kernel
theorem dX2_cut_125 : decode cX2_cut 125 = .ok (.iconst 2, 1) := by decide +kernel
theorem dX2_cut_126 : decode cX2_cut 126 = .ok (.if_icmp .ne 12, 3) := by decide +kernel
theorem dX2_cut_129 : decode cX2_cut 129 = .ok (.iload_n 3, 1) := by decide +kernel
theorem dX2_cut_130 : decode cX2_cut 130 = .ok (.invokestatic 89, 3) := by decide +kernel
theorem dX2_cut_133 : decode cX2_cut 133 = .ok (.iconst 1, 1) := by decide +kernel
theorem dX2_cut_134 : decode cX2_cut 134 = .ok (.iadd, 1) := by decide +kernel
theorem dX2_cut_135 : decode cX2_cut 135 = .ok (.goto 7, 3) := by decide +kernel
theorem dX2_cut_138 : decode cX2_cut 138 = .ok (.iload_n 3, 1) := by decide +kernel
theorem dX2_cut_139 : decode cX2_cut 139 = .ok (.invokestatic 89, 3) := by decide +kernel
theorem dX2_cut_142 : decode cX2_cut 142 = .ok (.iconst 0, 1) := by decide +kernel
theorem dX2_cut_143 : decode cX2_cut 143 = .ok (.iload_n 1, 1) := by decide +kernel
theorem dX2_cut_144 : decode cX2_cut 144 = .ok (.invokevirtual 73, 3) := by decide +kernel
theorem dX2_cut_147 : decode cX2_cut 147 = .ok (.iload_n 1, 1) := by decide +kernel
theorem dX2_cut_148 : decode cX2_cut 148 = .ok (.iload 4, 2) := by decide +kernel
theorem dX2_cut_150 : decode cX2_cut 150 = .ok (.iadd, 1) := by decide +kernel
theorem dX2_cut_151 : decode cX2_cut 151 = .ok (.istore_n 1, 1) := by decide +kernel
theorem dX2_cut_152 : decode cX2_cut 152 = .ok (.iinc 2 1, 3) := by decide +kernel
theorem dX2_cut_155 : decode cX2_cut 155 = .ok (.goto (-146), 3) := by decide +kernel
theorem dX2_cut_158 : decode cX2_cut 158 = .ok (.aload_n 0, 1) := by decide +kernel
theorem dX2_cut_159 : decode cX2_cut 159 = .ok (.bipush 54, 2) := by decide +kernel
theorem dX2_cut_161 : decode cX2_cut 161 = .ok (.iconst 0, 1) := by decide +kernel
theorem dX2_cut_162 : decode cX2_cut 162 = .ok (.aload_n 0, 1) := by decide +kernel
theorem dX2_cut_163 : decode cX2_cut 163 = .ok (.getfield 35, 3) := by decide +kernel
theorem dX2_cut_166 : decode cX2_cut 166 = .ok (.invokevirtual 73, 3) := by decide +kernel
theorem dX2_cut_169 : decode cX2_cut 169 = .ok (.return_, 1) := by decide +kernel
theorem dX2_addToken_0 : decode cX2_addToken 0 = .ok (.aload_n 0, 1) := by decide +kernel
theorem dX2_addToken_1 : decode cX2_addToken 1 = .ok (.getfield 58, 3) := by decide +kernel
theorem dX2_addToken_4 : decode cX2_addToken 4 = .ok (.sipush 300, 3) := by decide +kernel
theorem dX2_addToken_7 : decode cX2_addToken 7 = .ok (.if_icmp .gt 43, 3) := by decide +kernel
theorem dX2_addToken_10 : decode cX2_addToken 10 = .ok (.aload_n 0, 1) := by decide +kernel
theorem dX2_addToken_11 : decode cX2_addToken 11 = .ok (.getfield 26, 3) := by decide +kernel
theorem dX2_addToken_14 : decode cX2_addToken 14 = .ok (.aload_n 0, 1) := by decide +kernel
theorem dX2_addToken_15 : decode cX2_addToken 15 = .ok (.getfield 58, 3) := by decide +kernel
theorem dX2_addToken_18 : decode cX2_addToken 18 = .ok (.iload_n 1, 1) := by decide +kernel
theorem dX2_addToken_19 : decode cX2_addToken 19 = .ok (.iastore, 1) := by decide +kernel
theorem dX2_addToken_20 : decode cX2_addToken 20 = .ok (.aload_n 0, 1) := by decide +kernel
theorem dX2_addToken_21 : decode cX2_addToken 21 = .ok (.getfield 29, 3) := by decide +kernel
theorem dX2_addToken_24 : decode cX2_addToken 24 = .ok (.aload_n 0, 1) := by decide +kernel
theorem dX2_addToken_25 : decode cX2_addToken 25 = .ok (.getfield 58, 3) := by decide +kernel
theorem dX2_addToken_28 : decode cX2_addToken 28 = .ok (.iload_n 2, 1) := by decide +kernel
theorem dX2_addToken_29 : decode cX2_addToken 29 = .ok (.iastore, 1) := by decide +kernel
theorem dX2_addToken_30 : decode cX2_addToken 30 = .ok (.aload_n 0, 1) := by decide +kernel
theorem dX2_addToken_31 : decode cX2_addToken 31 = .ok (.getfield 32, 3) := by decide +kernel
theorem dX2_addToken_34 : decode cX2_addToken 34 = .ok (.aload_n 0, 1) := by decide +kernel
theorem dX2_addToken_35 : decode cX2_addToken 35 = .ok (.getfield 58, 3) := by decide +kernel
theorem dX2_addToken_38 : decode cX2_addToken 38 = .ok (.iload_n 3, 1) := by decide +kernel
theorem dX2_addToken_39 : decode cX2_addToken 39 = .ok (.iastore, 1) := by decide +kernel
theorem dX2_addToken_40 : decode cX2_addToken 40 = .ok (.aload_n 0, 1) := by decide +kernel
theorem dX2_addToken_41 : decode cX2_addToken 41 = .ok (.dup, 1) := by decide +kernel
theorem dX2_addToken_42 : decode cX2_addToken 42 = .ok (.getfield 58, 3) := by decide +kernel
theorem dX2_addToken_45 : decode cX2_addToken 45 = .ok (.iconst 1, 1) := by decide +kernel
theorem dX2_addToken_46 : decode cX2_addToken 46 = .ok (.iadd, 1) := by decide +kernel
theorem dX2_addToken_47 : decode cX2_addToken 47 = .ok (.putfield 58, 3) := by decide +kernel
theorem dX2_addToken_50 : decode cX2_addToken 50 = .ok (.return_, 1) := by decide +kernel
theorem dX2_lettersFrom_0 : decode cX2_lettersFrom 0 = .ok (.iconst 0, 1) := by decide +kernel
theorem dX2_lettersFrom_1 : decode cX2_lettersFrom 1 = .ok (.istore_n 2, 1) := by decide +kernel
theorem dX2_lettersFrom_2 : decode cX2_lettersFrom 2 = .ok (.iload_n 1, 1) := by decide +kernel
theorem dX2_lettersFrom_3 : decode cX2_lettersFrom 3 = .ok (.iload_n 2, 1) := by decide +kernel
theorem dX2_lettersFrom_4 : decode cX2_lettersFrom 4 = .ok (.iadd, 1) := by decide +kernel
theorem dX2_lettersFrom_5 : decode cX2_lettersFrom 5 = .ok (.aload_n 0, 1) := by decide +kernel
theorem dX2_lettersFrom_6 : decode cX2_lettersFrom 6 = .ok (.getfield 35, 3) := by decide +kernel
theorem dX2_lettersFrom_9 : decode cX2_lettersFrom 9 = .ok (.if_icmp .ge 23, 3) := by decide +kernel
theorem dX2_lettersFrom_12 : decode cX2_lettersFrom 12 = .ok (.aload_n 0, 1) := by decide +kernel
theorem dX2_lettersFrom_13 : decode cX2_lettersFrom 13 = .ok (.getfield 9, 3) := by decide +kernel
theorem dX2_lettersFrom_16 : decode cX2_lettersFrom 16 = .ok (.iload_n 1, 1) := by decide +kernel
theorem dX2_lettersFrom_17 : decode cX2_lettersFrom 17 = .ok (.iload_n 2, 1) := by decide +kernel
theorem dX2_lettersFrom_18 : decode cX2_lettersFrom 18 = .ok (.iadd, 1) := by decide +kernel
theorem dX2_lettersFrom_19 : decode cX2_lettersFrom 19 = .ok (.iaload, 1) := by decide +kernel
theorem dX2_lettersFrom_20 : decode cX2_lettersFrom 20 = .ok (.invokestatic 61, 3) := by decide +kernel
theorem dX2_lettersFrom_23 : decode cX2_lettersFrom 23 = .ok (.ifCond .eq 9, 3) := by decide +kernel
theorem dX2_lettersFrom_26 : decode cX2_lettersFrom 26 = .ok (.iinc 2 1, 3) := by decide +kernel
theorem dX2_lettersFrom_29 : decode cX2_lettersFrom 29 = .ok (.goto (-27), 3) := by decide +kernel
theorem dX2_lettersFrom_32 : decode cX2_lettersFrom 32 = .ok (.iload_n 2, 1) := by decide +kernel
theorem dX2_lettersFrom_33 : decode cX2_lettersFrom 33 = .ok (.ireturn, 1) := by decide +kernel
theorem dX2_digitsFrom_0 : decode cX2_digitsFrom 0 = .ok (.iconst 0, 1) := by decide +kernel
theorem dX2_digitsFrom_1 : decode cX2_digitsFrom 1 = .ok (.istore_n 2, 1) := by decide +kernel
theorem dX2_digitsFrom_2 : decode cX2_digitsFrom 2 = .ok (.iload_n 1, 1) := by decide +kernel
theorem dX2_digitsFrom_3 : decode cX2_digitsFrom 3 = .ok (.iload_n 2, 1) := by decide +kernel
theorem dX2_digitsFrom_4 : decode cX2_digitsFrom 4 = .ok (.iadd, 1) := by decide +kernel
theorem dX2_digitsFrom_5 : decode cX2_digitsFrom 5 = .ok (.aload_n 0, 1) := by decide +kernel
theorem dX2_digitsFrom_6 : decode cX2_digitsFrom 6 = .ok (.getfield 35, 3) := by decide +kernel
theorem dX2_digitsFrom_9 : decode cX2_digitsFrom 9 = .ok (.if_icmp .ge 23, 3) := by decide +kernel
theorem dX2_digitsFrom_12 : decode cX2_digitsFrom 12 = .ok (.aload_n 0, 1) := by decide +kernel
theorem dX2_digitsFrom_13 : decode cX2_digitsFrom 13 = .ok (.getfield 9, 3) := by decide +kernel
theorem dX2_digitsFrom_16 : decode cX2_digitsFrom 16 = .ok (.iload_n 1, 1) := by decide +kernel
theorem dX2_digitsFrom_17 : decode cX2_digitsFrom 17 = .ok (.iload_n 2, 1) := by decide +kernel
theorem dX2_digitsFrom_18 : decode cX2_digitsFrom 18 = .ok (.iadd, 1) := by decide +kernel
theorem dX2_digitsFrom_19 : decode cX2_digitsFrom 19 = .ok (.iaload, 1) := by decide +kernel
theorem dX2_digitsFrom_20 : decode cX2_digitsFrom 20 = .ok (.invokestatic 77, 3) := by decide +kernel
theorem dX2_digitsFrom_23 : decode cX2_digitsFrom 23 = .ok (.ifCond .eq 9, 3) := by decide +kernel
theorem dX2_digitsFrom_26 : decode cX2_digitsFrom 26 = .ok (.iinc 2 1, 3) := by decide +kernel
theorem dX2_digitsFrom_29 : decode cX2_digitsFrom 29 = .ok (.goto (-27), 3) := by decide +kernel
theorem dX2_digitsFrom_32 : decode cX2_digitsFrom 32 = .ok (.iload_n 2, 1) := by decide +kernel
theorem dX2_digitsFrom_33 : decode cX2_digitsFrom 33 = .ok (.ireturn, 1) := by decide +kernel
theorem dX2_numberAt_0 : decode cX2_numberAt 0 = .ok (.iconst 0, 1) := by decide +kernel
theorem dX2_numberAt_1 : decode cX2_numberAt 1 = .ok (.istore_n 3, 1) := by decide +kernel
theorem dX2_numberAt_2 : decode cX2_numberAt 2 = .ok (.iload_n 1, 1) := by decide +kernel
theorem dX2_numberAt_3 : decode cX2_numberAt 3 = .ok (.istore 4, 2) := by decide +kernel
theorem dX2_numberAt_5 : decode cX2_numberAt 5 = .ok (.iload 4, 2) := by decide +kernel
theorem dX2_numberAt_7 : decode cX2_numberAt 7 = .ok (.iload_n 1, 1) := by decide +kernel
theorem dX2_numberAt_8 : decode cX2_numberAt 8 = .ok (.iload_n 2, 1) := by decide +kernel
theorem dX2_numberAt_9 : decode cX2_numberAt 9 = .ok (.iadd, 1) := by decide +kernel
theorem dX2_numberAt_10 : decode cX2_numberAt 10 = .ok (.if_icmp .ge 31, 3) := by decide +kernel
theorem dX2_numberAt_13 : decode cX2_numberAt 13 = .ok (.iload_n 3, 1) := by decide +kernel
theorem dX2_numberAt_14 : decode cX2_numberAt 14 = .ok (.bipush 10, 2) := by decide +kernel
theorem dX2_numberAt_16 : decode cX2_numberAt 16 = .ok (.imul, 1) := by decide +kernel
theorem dX2_numberAt_17 : decode cX2_numberAt 17 = .ok (.aload_n 0, 1) := by decide +kernel
theorem dX2_numberAt_18 : decode cX2_numberAt 18 = .ok (.getfield 9, 3) := by decide +kernel
theorem dX2_numberAt_21 : decode cX2_numberAt 21 = .ok (.iload 4, 2) := by decide +kernel
theorem dX2_numberAt_23 : decode cX2_numberAt 23 = .ok (.iaload, 1) := by decide +kernel
theorem dX2_numberAt_24 : decode cX2_numberAt 24 = .ok (.iadd, 1) := by decide +kernel
theorem dX2_numberAt_25 : decode cX2_numberAt 25 = .ok (.bipush 48, 2) := by decide +kernel
theorem dX2_numberAt_27 : decode cX2_numberAt 27 = .ok (.isub, 1) := by decide +kernel
theorem dX2_numberAt_28 : decode cX2_numberAt 28 = .ok (.sipush 10000, 3) := by decide +kernel
theorem dX2_numberAt_31 : decode cX2_numberAt 31 = .ok (.invokestatic 92, 3) := by decide +kernel
theorem dX2_numberAt_34 : decode cX2_numberAt 34 = .ok (.istore_n 3, 1) := by decide +kernel
theorem dX2_numberAt_35 : decode cX2_numberAt 35 = .ok (.iinc 4 1, 3) := by decide +kernel
theorem dX2_numberAt_38 : decode cX2_numberAt 38 = .ok (.goto (-33), 3) := by decide +kernel
theorem dX2_numberAt_41 : decode cX2_numberAt 41 = .ok (.iload_n 3, 1) := by decide +kernel
theorem dX2_numberAt_42 : decode cX2_numberAt 42 = .ok (.ireturn, 1) := by decide +kernel
theorem dX2_isPair_0 : decode cX2_isPair 0 = .ok (.aload_n 0, 1) := by decide +kernel
theorem dX2_isPair_1 : decode cX2_isPair 1 = .ok (.getfield 9, 3) := by decide +kernel
theorem dX2_isPair_4 : decode cX2_isPair 4 = .ok (.iload_n 1, 1) := by decide +kernel
theorem dX2_isPair_5 : decode cX2_isPair 5 = .ok (.iaload, 1) := by decide +kernel
theorem dX2_isPair_6 : decode cX2_isPair 6 = .ok (.bipush 60, 2) := by decide +kernel
theorem dX2_isPair_8 : decode cX2_isPair 8 = .ok (.if_icmp .eq 14, 3) := by decide +kernel
theorem dX2_isPair_11 : decode cX2_isPair 11 = .ok (.aload_n 0, 1) := by decide +kernel
theorem dX2_isPair_12 : decode cX2_isPair 12 = .ok (.getfield 9, 3) := by decide +kernel
theorem dX2_isPair_15 : decode cX2_isPair 15 = .ok (.iload_n 1, 1) := by decide +kernel
theorem dX2_isPair_16 : decode cX2_isPair 16 = .ok (.iaload, 1) := by decide +kernel
theorem dX2_isPair_17 : decode cX2_isPair 17 = .ok (.bipush 62, 2) := by decide +kernel
theorem dX2_isPair_19 : decode cX2_isPair 19 = .ok (.if_icmp .ne 30, 3) := by decide +kernel
theorem dX2_isPair_22 : decode cX2_isPair 22 = .ok (.iload_n 1, 1) := by decide +kernel
theorem dX2_isPair_23 : decode cX2_isPair 23 = .ok (.iconst 1, 1) := by decide +kernel
theorem dX2_isPair_24 : decode cX2_isPair 24 = .ok (.iadd, 1) := by decide +kernel
theorem dX2_isPair_25 : decode cX2_isPair 25 = .ok (.aload_n 0, 1) := by decide +kernel
theorem dX2_isPair_26 : decode cX2_isPair 26 = .ok (.getfield 35, 3) := by decide +kernel
theorem dX2_isPair_29 : decode cX2_isPair 29 = .ok (.if_icmp .ge 20, 3) := by decide +kernel
theorem dX2_isPair_32 : decode cX2_isPair 32 = .ok (.aload_n 0, 1) := by decide +kernel
theorem dX2_isPair_33 : decode cX2_isPair 33 = .ok (.getfield 9, 3) := by decide +kernel
theorem dX2_isPair_36 : decode cX2_isPair 36 = .ok (.iload_n 1, 1) := by decide +kernel
theorem dX2_isPair_37 : decode cX2_isPair 37 = .ok (.iconst 1, 1) := by decide +kernel
theorem dX2_isPair_38 : decode cX2_isPair 38 = .ok (.iadd, 1) := by decide +kernel
theorem dX2_isPair_39 : decode cX2_isPair 39 = .ok (.iaload, 1) := by decide +kernel
theorem dX2_isPair_40 : decode cX2_isPair 40 = .ok (.bipush 61, 2) := by decide +kernel
theorem dX2_isPair_42 : decode cX2_isPair 42 = .ok (.if_icmp .ne 7, 3) := by decide +kernel
theorem dX2_isPair_45 : decode cX2_isPair 45 = .ok (.iconst 1, 1) := by decide +kernel
theorem dX2_isPair_46 : decode cX2_isPair 46 = .ok (.goto 4, 3) := by decide +kernel
theorem dX2_isPair_49 : decode cX2_isPair 49 = .ok (.iconst 0, 1) := by decide +kernel
theorem dX2_isPair_50 : decode cX2_isPair 50 = .ok (.ireturn, 1) := by decide +kernel
theorem dX2_wordAt_0 : decode cX2_wordAt 0 = .ok (.iconst 0, 1) := by decide +kernel
theorem dX2_wordAt_1 : decode cX2_wordAt 1 = .ok (.istore_n 3, 1) := by decide +kernel
theorem dX2_wordAt_2 : decode cX2_wordAt 2 = .ok (.iconst 0, 1) := by decide +kernel
theorem dX2_wordAt_3 : decode cX2_wordAt 3 = .ok (.istore 4, 2) := by decide +kernel
theorem dX2_wordAt_5 : decode cX2_wordAt 5 = .ok (.iconst 0, 1) := by decide +kernel
theorem dX2_wordAt_6 : decode cX2_wordAt 6 = .ok (.istore 5, 2) := by decide +kernel
theorem dX2_wordAt_8 : decode cX2_wordAt 8 = .ok (.iload 5, 2) := by decide +kernel
theorem dX2_wordAt_10 : decode cX2_wordAt 10 = .ok (.ldc 97, 2) := by decide +kernel
theorem dX2_wordAt_12 : decode cX2_wordAt 12 = .ok (.invokevirtual 99, 3) := by decide +kernel
theorem dX2_wordAt_15 : decode cX2_wordAt 15 = .ok (.if_icmp .ge 52, 3) := by decide +kernel
theorem dX2_wordAt_18 : decode cX2_wordAt 18 = .ok (.ldc 97, 2) := by decide +kernel
theorem dX2_wordAt_20 : decode cX2_wordAt 20 = .ok (.iload 5, 2) := by decide +kernel
theorem dX2_wordAt_22 : decode cX2_wordAt 22 = .ok (.invokevirtual 105, 3) := by decide +kernel
theorem dX2_wordAt_25 : decode cX2_wordAt 25 = .ok (.bipush 32, 2) := by decide +kernel
theorem dX2_wordAt_27 : decode cX2_wordAt 27 = .ok (.if_icmp .ne 34, 3) := by decide +kernel
theorem dX2_wordAt_30 : decode cX2_wordAt 30 = .ok (.iload 5, 2) := by decide +kernel
theorem dX2_wordAt_32 : decode cX2_wordAt 32 = .ok (.iload 4, 2) := by decide +kernel
theorem dX2_wordAt_34 : decode cX2_wordAt 34 = .ok (.isub, 1) := by decide +kernel
theorem dX2_wordAt_35 : decode cX2_wordAt 35 = .ok (.iload_n 2, 1) := by decide +kernel
theorem dX2_wordAt_36 : decode cX2_wordAt 36 = .ok (.if_icmp .ne 16, 3) := by decide +kernel
theorem dX2_wordAt_39 : decode cX2_wordAt 39 = .ok (.aload_n 0, 1) := by decide +kernel
theorem dX2_wordAt_40 : decode cX2_wordAt 40 = .ok (.iload 4, 2) := by decide +kernel
theorem dX2_wordAt_42 : decode cX2_wordAt 42 = .ok (.iload_n 1, 1) := by decide +kernel
theorem dX2_wordAt_43 : decode cX2_wordAt 43 = .ok (.iload_n 2, 1) := by decide +kernel
theorem dX2_wordAt_44 : decode cX2_wordAt 44 = .ok (.invokevirtual 109, 3) := by decide +kernel
theorem dX2_wordAt_47 : decode cX2_wordAt 47 = .ok (.ifCond .eq 5, 3) := by decide +kernel
theorem dX2_wordAt_50 : decode cX2_wordAt 50 = .ok (.iload_n 3, 1) := by decide +kernel
theorem dX2_wordAt_51 : decode cX2_wordAt 51 = .ok (.ireturn, 1) := by decide +kernel
theorem dX2_wordAt_52 : decode cX2_wordAt 52 = .ok (.iinc 3 1, 3) := by decide +kernel
theorem dX2_wordAt_55 : decode cX2_wordAt 55 = .ok (.iload 5, 2) := by decide +kernel
theorem dX2_wordAt_57 : decode cX2_wordAt 57 = .ok (.iconst 1, 1) := by decide +kernel
theorem dX2_wordAt_58 : decode cX2_wordAt 58 = .ok (.iadd, 1) := by decide +kernel
theorem dX2_wordAt_59 : decode cX2_wordAt 59 = .ok (.istore 4, 2) := by decide +kernel
theorem dX2_wordAt_61 : decode cX2_wordAt 61 = .ok (.iinc 5 1, 3) := by decide +kernel
theorem dX2_wordAt_64 : decode cX2_wordAt 64 = .ok (.goto (-56), 3) := by decide +kernel
theorem dX2_wordAt_67 : decode cX2_wordAt 67 = .ok (.bipush 55, 2) := by decide +kernel
theorem dX2_wordAt_69 : decode cX2_wordAt 69 = .ok (.ireturn, 1) := by decide +kernel
theorem dX2_isSpelt_0 : decode cX2_isSpelt 0 = .ok (.iconst 0, 1) := by decide +kernel
theorem dX2_isSpelt_1 : decode cX2_isSpelt 1 = .ok (.istore 4, 2) := by decide +kernel
theorem dX2_isSpelt_3 : decode cX2_isSpelt 3 = .ok (.iload 4, 2) := by decide +kernel
theorem dX2_isSpelt_5 : decode cX2_isSpelt 5 = .ok (.iload_n 3, 1) := by decide +kernel
theorem dX2_isSpelt_6 : decode cX2_isSpelt 6 = .ok (.if_icmp .ge 32, 3) := by decide +kernel
theorem dX2_isSpelt_9 : decode cX2_isSpelt 9 = .ok (.ldc 97, 2) := by decide +kernel
theorem dX2_isSpelt_11 : decode cX2_isSpelt 11 = .ok (.iload_n 1, 1) := by decide +kernel
theorem dX2_isSpelt_12 : decode cX2_isSpelt 12 = .ok (.iload 4, 2) := by decide +kernel
theorem dX2_isSpelt_14 : decode cX2_isSpelt 14 = .ok (.iadd, 1) := by decide +kernel
theorem dX2_isSpelt_15 : decode cX2_isSpelt 15 = .ok (.invokevirtual 105, 3) := by decide +kernel
theorem dX2_isSpelt_18 : decode cX2_isSpelt 18 = .ok (.aload_n 0, 1) := by decide +kernel
theorem dX2_isSpelt_19 : decode cX2_isSpelt 19 = .ok (.getfield 9, 3) := by decide +kernel
theorem dX2_isSpelt_22 : decode cX2_isSpelt 22 = .ok (.iload_n 2, 1) := by decide +kernel
theorem dX2_isSpelt_23 : decode cX2_isSpelt 23 = .ok (.iload 4, 2) := by decide +kernel
theorem dX2_isSpelt_25 : decode cX2_isSpelt 25 = .ok (.iadd, 1) := by decide +kernel
theorem dX2_isSpelt_26 : decode cX2_isSpelt 26 = .ok (.iaload, 1) := by decide +kernel
theorem dX2_isSpelt_27 : decode cX2_isSpelt 27 = .ok (.if_icmp .eq 5, 3) := by decide +kernel
theorem dX2_isSpelt_30 : decode cX2_isSpelt 30 = .ok (.iconst 0, 1) := by decide +kernel
theorem dX2_isSpelt_31 : decode cX2_isSpelt 31 = .ok (.ireturn, 1) := by decide +kernel
theorem dX2_isSpelt_32 : decode cX2_isSpelt 32 = .ok (.iinc 4 1, 3) := by decide +kernel
theorem dX2_isSpelt_35 : decode cX2_isSpelt 35 = .ok (.goto (-32), 3) := by decide +kernel
theorem dX2_isSpelt_38 : decode cX2_isSpelt 38 = .ok (.iconst 1, 1) := by decide +kernel
theorem dX2_isSpelt_39 : decode cX2_isSpelt 39 = .ok (.ireturn, 1) := by decide +kernel
theorem dX2_isLetter_0 : decode cX2_isLetter 0 = .ok (.iload_n 0, 1) := by decide +kernel
theorem dX2_isLetter_1 : decode cX2_isLetter 1 = .ok (.bipush 97, 2) := by decide +kernel
theorem dX2_isLetter_3 : decode cX2_isLetter 3 = .ok (.if_icmp .lt 9, 3) := by decide +kernel
theorem dX2_isLetter_6 : decode cX2_isLetter 6 = .ok (.iload_n 0, 1) := by decide +kernel
theorem dX2_isLetter_7 : decode cX2_isLetter 7 = .ok (.bipush 122, 2) := by decide +kernel
theorem dX2_isLetter_9 : decode cX2_isLetter 9 = .ok (.if_icmp .le 15, 3) := by decide +kernel
theorem dX2_isLetter_12 : decode cX2_isLetter 12 = .ok (.iload_n 0, 1) := by decide +kernel
theorem dX2_isLetter_13 : decode cX2_isLetter 13 = .ok (.bipush 65, 2) := by decide +kernel
theorem dX2_isLetter_15 : decode cX2_isLetter 15 = .ok (.if_icmp .lt 13, 3) := by decide +kernel
theorem dX2_isLetter_18 : decode cX2_isLetter 18 = .ok (.iload_n 0, 1) := by decide +kernel
theorem dX2_isLetter_19 : decode cX2_isLetter 19 = .ok (.bipush 90, 2) := by decide +kernel
theorem dX2_isLetter_21 : decode cX2_isLetter 21 = .ok (.if_icmp .gt 7, 3) := by decide +kernel
theorem dX2_isLetter_24 : decode cX2_isLetter 24 = .ok (.iconst 1, 1) := by decide +kernel
theorem dX2_isLetter_25 : decode cX2_isLetter 25 = .ok (.goto 4, 3) := by decide +kernel
theorem dX2_isLetter_28 : decode cX2_isLetter 28 = .ok (.iconst 0, 1) := by decide +kernel
theorem dX2_isLetter_29 : decode cX2_isLetter 29 = .ok (.ireturn, 1) := by decide +kernel
theorem dX2_isDigit_0 : decode cX2_isDigit 0 = .ok (.iload_n 0, 1) := by decide +kernel
theorem dX2_isDigit_1 : decode cX2_isDigit 1 = .ok (.bipush 48, 2) := by decide +kernel
theorem dX2_isDigit_3 : decode cX2_isDigit 3 = .ok (.if_icmp .lt 13, 3) := by decide +kernel
theorem dX2_isDigit_6 : decode cX2_isDigit 6 = .ok (.iload_n 0, 1) := by decide +kernel
theorem dX2_isDigit_7 : decode cX2_isDigit 7 = .ok (.bipush 57, 2) := by decide +kernel
theorem dX2_isDigit_9 : decode cX2_isDigit 9 = .ok (.if_icmp .gt 7, 3) := by decide +kernel
theorem dX2_isDigit_12 : decode cX2_isDigit 12 = .ok (.iconst 1, 1) := by decide +kernel
theorem dX2_isDigit_13 : decode cX2_isDigit 13 = .ok (.goto 4, 3) := by decide +kernel
theorem dX2_isDigit_16 : decode cX2_isDigit 16 = .ok (.iconst 0, 1) := by decide +kernel
theorem dX2_isDigit_17 : decode cX2_isDigit 17 = .ok (.ireturn, 1) := by decide +kernel
theorem dX2_sign_0 : decode cX2_sign 0 = .ok (.iload_n 0, 1) := by decide +kernel
theorem dX2_sign_1 : decode cX2_sign 1 = .ok (.tableswitch 160 35 62 #[136, 160, 160, 160, 160, 151, 154, 145, 139, 160, 142, 160, 148, 160, 160, 160, 160, 160, 160, 160, 160, 160, 160, 160, 157, 127, 133, 130], 127) := by decide +kernel
theorem dX2_sign_128 : decode cX2_sign 128 = .ok (.bipush 41, 2) := by decide +kernel
theorem dX2_sign_130 : decode cX2_sign 130 = .ok (.ireturn, 1) := by decide +kernel
theorem dX2_sign_131 : decode cX2_sign 131 = .ok (.bipush 43, 2) := by decide +kernel
theorem dX2_sign_133 : decode cX2_sign 133 = .ok (.ireturn, 1) := by decide +kernel
theorem dX2_sign_134 : decode cX2_sign 134 = .ok (.bipush 45, 2) := by decide +kernel
theorem dX2_sign_136 : decode cX2_sign 136 = .ok (.ireturn, 1) := by decide +kernel
theorem dX2_sign_137 : decode cX2_sign 137 = .ok (.bipush 46, 2) := by decide +kernel
theorem dX2_sign_139 : decode cX2_sign 139 = .ok (.ireturn, 1) := by decide +kernel
theorem dX2_sign_140 : decode cX2_sign 140 = .ok (.bipush 47, 2) := by decide +kernel
theorem dX2_sign_142 : decode cX2_sign 142 = .ok (.ireturn, 1) := by decide +kernel
theorem dX2_sign_143 : decode cX2_sign 143 = .ok (.bipush 48, 2) := by decide +kernel
theorem dX2_sign_145 : decode cX2_sign 145 = .ok (.ireturn, 1) := by decide +kernel
theorem dX2_sign_146 : decode cX2_sign 146 = .ok (.bipush 49, 2) := by decide +kernel
theorem dX2_sign_148 : decode cX2_sign 148 = .ok (.ireturn, 1) := by decide +kernel
theorem dX2_sign_149 : decode cX2_sign 149 = .ok (.bipush 50, 2) := by decide +kernel
theorem dX2_sign_151 : decode cX2_sign 151 = .ok (.ireturn, 1) := by decide +kernel
theorem dX2_sign_152 : decode cX2_sign 152 = .ok (.bipush 51, 2) := by decide +kernel
theorem dX2_sign_154 : decode cX2_sign 154 = .ok (.ireturn, 1) := by decide +kernel
theorem dX2_sign_155 : decode cX2_sign 155 = .ok (.bipush 52, 2) := by decide +kernel
theorem dX2_sign_157 : decode cX2_sign 157 = .ok (.ireturn, 1) := by decide +kernel
theorem dX2_sign_158 : decode cX2_sign 158 = .ok (.bipush 53, 2) := by decide +kernel
theorem dX2_sign_160 : decode cX2_sign 160 = .ok (.ireturn, 1) := by decide +kernel
theorem dX2_sign_161 : decode cX2_sign 161 = .ok (.bipush 55, 2) := by decide +kernel
theorem dX2_sign_163 : decode cX2_sign 163 = .ok (.ireturn, 1) := by decide +kernel
theorem dX2_fail_0 : decode cX2_fail 0 = .ok (.aload_n 0, 1) := by decide +kernel
theorem dX2_fail_1 : decode cX2_fail 1 = .ok (.iload_n 1, 1) := by decide +kernel
theorem dX2_fail_2 : decode cX2_fail 2 = .ok (.putfield 42, 3) := by decide +kernel
theorem dX2_fail_5 : decode cX2_fail 5 = .ok (.aload_n 0, 1) := by decide +kernel
theorem dX2_fail_6 : decode cX2_fail 6 = .ok (.aload_n 0, 1) := by decide +kernel
theorem dX2_fail_7 : decode cX2_fail 7 = .ok (.getfield 32, 3) := by decide +kernel
theorem dX2_fail_10 : decode cX2_fail 10 = .ok (.aload_n 0, 1) := by decide +kernel
theorem dX2_fail_11 : decode cX2_fail 11 = .ok (.getfield 51, 3) := by decide +kernel
theorem dX2_fail_14 : decode cX2_fail 14 = .ok (.iaload, 1) := by decide +kernel
theorem dX2_fail_15 : decode cX2_fail 15 = .ok (.putfield 15, 3) := by decide +kernel
theorem dX2_fail_18 : decode cX2_fail 18 = .ok (.iconst 0, 1) := by decide +kernel
theorem dX2_fail_19 : decode cX2_fail 19 = .ok (.ireturn, 1) := by decide +kernel
theorem dX2_pass_0 : decode cX2_pass 0 = .ok (.aload_n 0, 1) := by decide +kernel
theorem dX2_pass_1 : decode cX2_pass 1 = .ok (.getfield 51, 3) := by decide +kernel
theorem dX2_pass_4 : decode cX2_pass 4 = .ok (.aload_n 0, 1) := by decide +kernel
theorem dX2_pass_5 : decode cX2_pass 5 = .ok (.getfield 58, 3) := by decide +kernel
theorem dX2_pass_8 : decode cX2_pass 8 = .ok (.iconst 1, 1) := by decide +kernel
theorem dX2_pass_9 : decode cX2_pass 9 = .ok (.isub, 1) := by decide +kernel
theorem dX2_pass_10 : decode cX2_pass 10 = .ok (.if_icmp .ge 13, 3) := by decide +kernel
theorem dX2_pass_13 : decode cX2_pass 13 = .ok (.aload_n 0, 1) := by decide +kernel
theorem dX2_pass_14 : decode cX2_pass 14 = .ok (.dup, 1) := by decide +kernel
theorem dX2_pass_15 : decode cX2_pass 15 = .ok (.getfield 51, 3) := by decide +kernel
theorem dX2_pass_18 : decode cX2_pass 18 = .ok (.iconst 1, 1) := by decide +kernel
theorem dX2_pass_19 : decode cX2_pass 19 = .ok (.iadd, 1) := by decide +kernel
theorem dX2_pass_20 : decode cX2_pass 20 = .ok (.putfield 51, 3) := by decide +kernel
theorem dX2_pass_23 : decode cX2_pass 23 = .ok (.return_, 1) := by decide +kernel
theorem dX2_expect_0 : decode cX2_expect 0 = .ok (.aload_n 0, 1) := by decide +kernel
theorem dX2_expect_1 : decode cX2_expect 1 = .ok (.getfield 26, 3) := by decide +kernel
theorem dX2_expect_4 : decode cX2_expect 4 = .ok (.aload_n 0, 1) := by decide +kernel
theorem dX2_expect_5 : decode cX2_expect 5 = .ok (.getfield 51, 3) := by decide +kernel
theorem dX2_expect_8 : decode cX2_expect 8 = .ok (.iaload, 1) := by decide +kernel
theorem dX2_expect_9 : decode cX2_expect 9 = .ok (.iload_n 1, 1) := by decide +kernel
theorem dX2_expect_10 : decode cX2_expect 10 = .ok (.if_icmp .eq 9, 3) := by decide +kernel
theorem dX2_expect_13 : decode cX2_expect 13 = .ok (.aload_n 0, 1) := by decide +kernel
theorem dX2_expect_14 : decode cX2_expect 14 = .ok (.iconst 1, 1) := by decide +kernel
theorem dX2_expect_15 : decode cX2_expect 15 = .ok (.invokevirtual 113, 3) := by decide +kernel
theorem dX2_expect_18 : decode cX2_expect 18 = .ok (.ireturn, 1) := by decide +kernel
theorem dX2_expect_19 : decode cX2_expect 19 = .ok (.aload_n 0, 1) := by decide +kernel
theorem dX2_expect_20 : decode cX2_expect 20 = .ok (.invokevirtual 116, 3) := by decide +kernel
theorem dX2_expect_23 : decode cX2_expect 23 = .ok (.iconst 1, 1) := by decide +kernel
theorem dX2_expect_24 : decode cX2_expect 24 = .ok (.ireturn, 1) := by decide +kernel
theorem dX2_number_0 : decode cX2_number 0 = .ok (.aload_n 0, 1) := by decide +kernel
theorem dX2_number_1 : decode cX2_number 1 = .ok (.getfield 26, 3) := by decide +kernel
theorem dX2_number_4 : decode cX2_number 4 = .ok (.aload_n 0, 1) := by decide +kernel
theorem dX2_number_5 : decode cX2_number 5 = .ok (.getfield 51, 3) := by decide +kernel
theorem dX2_number_8 : decode cX2_number 8 = .ok (.iaload, 1) := by decide +kernel
theorem dX2_number_9 : decode cX2_number 9 = .ok (.bipush 40, 2) := by decide +kernel
theorem dX2_number_11 : decode cX2_number 11 = .ok (.if_icmp .eq 9, 3) := by decide +kernel
theorem dX2_number_14 : decode cX2_number 14 = .ok (.aload_n 0, 1) := by decide +kernel
theorem dX2_number_15 : decode cX2_number 15 = .ok (.iconst 1, 1) := by decide +kernel
theorem dX2_number_16 : decode cX2_number 16 = .ok (.invokevirtual 113, 3) := by decide +kernel
theorem dX2_number_19 : decode cX2_number 19 = .ok (.ireturn, 1) := by decide +kernel
theorem dX2_number_20 : decode cX2_number 20 = .ok (.aload_n 0, 1) := by decide +kernel
theorem dX2_number_21 : decode cX2_number 21 = .ok (.getfield 29, 3) := by decide +kernel
theorem dX2_number_24 : decode cX2_number 24 = .ok (.aload_n 0, 1) := by decide +kernel
theorem dX2_number_25 : decode cX2_number 25 = .ok (.getfield 51, 3) := by decide +kernel
theorem dX2_number_28 : decode cX2_number 28 = .ok (.iaload, 1) := by decide +kernel
theorem dX2_number_29 : decode cX2_number 29 = .ok (.iload_n 1, 1) := by decide +kernel
theorem dX2_number_30 : decode cX2_number 30 = .ok (.if_icmp .lt 16, 3) := by decide +kernel
theorem dX2_number_33 : decode cX2_number 33 = .ok (.aload_n 0, 1) := by decide +kernel
theorem dX2_number_34 : decode cX2_number 34 = .ok (.getfield 29, 3) := by decide +kernel
theorem dX2_number_37 : decode cX2_number 37 = .ok (.aload_n 0, 1) := by decide +kernel
theorem dX2_number_38 : decode cX2_number 38 = .ok (.getfield 51, 3) := by decide +kernel
theorem dX2_number_41 : decode cX2_number 41 = .ok (.iaload, 1) := by decide +kernel
theorem dX2_number_42 : decode cX2_number 42 = .ok (.iload_n 2, 1) := by decide +kernel
theorem dX2_number_43 : decode cX2_number 43 = .ok (.if_icmp .le 9, 3) := by decide +kernel
theorem dX2_number_46 : decode cX2_number 46 = .ok (.aload_n 0, 1) := by decide +kernel
theorem dX2_number_47 : decode cX2_number 47 = .ok (.iconst 2, 1) := by decide +kernel
theorem dX2_number_48 : decode cX2_number 48 = .ok (.invokevirtual 113, 3) := by decide +kernel
theorem dX2_number_51 : decode cX2_number 51 = .ok (.ireturn, 1) := by decide +kernel
theorem dX2_number_52 : decode cX2_number 52 = .ok (.aload_n 0, 1) := by decide +kernel
theorem dX2_number_53 : decode cX2_number 53 = .ok (.getfield 22, 3) := by decide +kernel
theorem dX2_number_56 : decode cX2_number 56 = .ok (.aload_n 0, 1) := by decide +kernel
theorem dX2_number_57 : decode cX2_number 57 = .ok (.getfield 29, 3) := by decide +kernel
theorem dX2_number_60 : decode cX2_number 60 = .ok (.aload_n 0, 1) := by decide +kernel
theorem dX2_number_61 : decode cX2_number 61 = .ok (.getfield 51, 3) := by decide +kernel
theorem dX2_number_64 : decode cX2_number 64 = .ok (.iaload, 1) := by decide +kernel
theorem dX2_number_65 : decode cX2_number 65 = .ok (.invokevirtual 119, 3) := by decide +kernel
theorem dX2_number_68 : decode cX2_number 68 = .ok (.aload_n 0, 1) := by decide +kernel
theorem dX2_number_69 : decode cX2_number 69 = .ok (.invokevirtual 116, 3) := by decide +kernel
theorem dX2_number_72 : decode cX2_number 72 = .ok (.iconst 1, 1) := by decide +kernel
theorem dX2_number_73 : decode cX2_number 73 = .ok (.ireturn, 1) := by decide +kernel
theorem dX2_clause_0 : decode cX2_clause 0 = .ok (.aload_n 0, 1) := by decide +kernel
theorem dX2_clause_1 : decode cX2_clause 1 = .ok (.getfield 26, 3) := by decide +kernel
theorem dX2_clause_4 : decode cX2_clause 4 = .ok (.aload_n 0, 1) := by decide +kernel
theorem dX2_clause_5 : decode cX2_clause 5 = .ok (.getfield 51, 3) := by decide +kernel
theorem dX2_clause_8 : decode cX2_clause 8 = .ok (.iaload, 1) := by decide +kernel
theorem dX2_clause_9 : decode cX2_clause 9 = .ok (.istore_n 1, 1) := by decide +kernel
theorem dX2_clause_10 : decode cX2_clause 10 = .ok (.iload_n 1, 1) := by decide +kernel
theorem dX2_clause_11 : decode cX2_clause 11 = .ok (.ifCond .eq 21, 3) := by decide +kernel
theorem dX2_clause_14 : decode cX2_clause 14 = .ok (.iload_n 1, 1) := by decide +kernel
theorem dX2_clause_15 : decode cX2_clause 15 = .ok (.bipush 10, 2) := by decide +kernel
theorem dX2_clause_17 : decode cX2_clause 17 = .ok (.if_icmp .lt 9, 3) := by decide +kernel
theorem dX2_clause_20 : decode cX2_clause 20 = .ok (.iload_n 1, 1) := by decide +kernel
theorem dX2_clause_21 : decode cX2_clause 21 = .ok (.bipush 16, 2) := by decide +kernel
theorem dX2_clause_23 : decode cX2_clause 23 = .ok (.if_icmp .le 9, 3) := by decide +kernel
theorem dX2_clause_26 : decode cX2_clause 26 = .ok (.aload_n 0, 1) := by decide +kernel
theorem dX2_clause_27 : decode cX2_clause 27 = .ok (.iconst 1, 1) := by decide +kernel
theorem dX2_clause_28 : decode cX2_clause 28 = .ok (.invokevirtual 113, 3) := by decide +kernel
theorem dX2_clause_31 : decode cX2_clause 31 = .ok (.ireturn, 1) := by decide +kernel
theorem dX2_clause_32 : decode cX2_clause 32 = .ok (.iload_n 1, 1) := by decide +kernel
theorem dX2_clause_33 : decode cX2_clause 33 = .ok (.bipush 10, 2) := by decide +kernel
theorem dX2_clause_35 : decode cX2_clause 35 = .ok (.if_icmp .ne 14, 3) := by decide +kernel
theorem dX2_clause_38 : decode cX2_clause 38 = .ok (.aload_n 0, 1) := by decide +kernel
theorem dX2_clause_39 : decode cX2_clause 39 = .ok (.getfield 22, 3) := by decide +kernel
theorem dX2_clause_42 : decode cX2_clause 42 = .ok (.getfield 123, 3) := by decide +kernel
theorem dX2_clause_45 : decode cX2_clause 45 = .ok (.iconst (-1), 1) := by decide +kernel
theorem dX2_clause_46 : decode cX2_clause 46 = .ok (.if_icmp .ne 20, 3) := by decide +kernel
theorem dX2_clause_49 : decode cX2_clause 49 = .ok (.iload_n 1, 1) := by decide +kernel
theorem dX2_clause_50 : decode cX2_clause 50 = .ok (.bipush 11, 2) := by decide +kernel
theorem dX2_clause_52 : decode cX2_clause 52 = .ok (.if_icmp .ne 20, 3) := by decide +kernel
theorem dX2_clause_55 : decode cX2_clause 55 = .ok (.aload_n 0, 1) := by decide +kernel
theorem dX2_clause_56 : decode cX2_clause 56 = .ok (.getfield 22, 3) := by decide +kernel
theorem dX2_clause_59 : decode cX2_clause 59 = .ok (.getfield 126, 3) := by decide +kernel
theorem dX2_clause_62 : decode cX2_clause 62 = .ok (.iconst (-1), 1) := by decide +kernel
theorem dX2_clause_63 : decode cX2_clause 63 = .ok (.if_icmp .eq 9, 3) := by decide +kernel
theorem dX2_clause_66 : decode cX2_clause 66 = .ok (.aload_n 0, 1) := by decide +kernel
theorem dX2_clause_67 : decode cX2_clause 67 = .ok (.iconst 4, 1) := by decide +kernel
theorem dX2_clause_68 : decode cX2_clause 68 = .ok (.invokevirtual 113, 3) := by decide +kernel
theorem dX2_clause_71 : decode cX2_clause 71 = .ok (.ireturn, 1) := by decide +kernel
theorem dX2_clause_72 : decode cX2_clause 72 = .ok (.aload_n 0, 1) := by decide +kernel
theorem dX2_clause_73 : decode cX2_clause 73 = .ok (.getfield 22, 3) := by decide +kernel
theorem dX2_clause_76 : decode cX2_clause 76 = .ok (.getfield 129, 3) := by decide +kernel
theorem dX2_clause_79 : decode cX2_clause 79 = .ok (.bipush 24, 2) := by decide +kernel
theorem dX2_clause_81 : decode cX2_clause 81 = .ok (.if_icmp .lt 10, 3) := by decide +kernel
theorem dX2_clause_84 : decode cX2_clause 84 = .ok (.aload_n 0, 1) := by decide +kernel
theorem dX2_clause_85 : decode cX2_clause 85 = .ok (.bipush 6, 2) := by decide +kernel
theorem dX2_clause_87 : decode cX2_clause 87 = .ok (.invokevirtual 113, 3) := by decide +kernel
theorem dX2_clause_90 : decode cX2_clause 90 = .ok (.ireturn, 1) := by decide +kernel
theorem dX2_clause_91 : decode cX2_clause 91 = .ok (.aload_n 0, 1) := by decide +kernel
theorem dX2_clause_92 : decode cX2_clause 92 = .ok (.getfield 22, 3) := by decide +kernel
theorem dX2_clause_95 : decode cX2_clause 95 = .ok (.iload_n 1, 1) := by decide +kernel
theorem dX2_clause_96 : decode cX2_clause 96 = .ok (.invokevirtual 132, 3) := by decide +kernel
theorem dX2_clause_99 : decode cX2_clause 99 = .ok (.aload_n 0, 1) := by decide +kernel
theorem dX2_clause_100 : decode cX2_clause 100 = .ok (.invokevirtual 116, 3) := by decide +kernel
theorem dX2_clause_103 : decode cX2_clause 103 = .ok (.iload_n 1, 1) := by decide +kernel
theorem dX2_clause_104 : decode cX2_clause 104 = .ok (.bipush 10, 2) := by decide +kernel
theorem dX2_clause_106 : decode cX2_clause 106 = .ok (.if_icmp .eq 9, 3) := by decide +kernel
theorem dX2_clause_109 : decode cX2_clause 109 = .ok (.iload_n 1, 1) := by decide +kernel
theorem dX2_clause_110 : decode cX2_clause 110 = .ok (.bipush 11, 2) := by decide +kernel
theorem dX2_clause_112 : decode cX2_clause 112 = .ok (.if_icmp .ne 11, 3) := by decide +kernel
theorem dX2_clause_115 : decode cX2_clause 115 = .ok (.aload_n 0, 1) := by decide +kernel
theorem dX2_clause_116 : decode cX2_clause 116 = .ok (.iload_n 1, 1) := by decide +kernel
theorem dX2_clause_117 : decode cX2_clause 117 = .ok (.invokevirtual 135, 3) := by decide +kernel
theorem dX2_clause_120 : decode cX2_clause 120 = .ok (.goto 8, 3) := by decide +kernel
theorem dX2_clause_123 : decode cX2_clause 123 = .ok (.aload_n 0, 1) := by decide +kernel
theorem dX2_clause_124 : decode cX2_clause 124 = .ok (.iload_n 1, 1) := by decide +kernel
theorem dX2_clause_125 : decode cX2_clause 125 = .ok (.invokevirtual 138, 3) := by decide +kernel
theorem dX2_clause_128 : decode cX2_clause 128 = .ok (.istore_n 2, 1) := by decide +kernel
theorem dX2_clause_129 : decode cX2_clause 129 = .ok (.iload_n 2, 1) := by decide +kernel
theorem dX2_clause_130 : decode cX2_clause 130 = .ok (.ifCond .eq 16, 3) := by decide +kernel
theorem dX2_clause_133 : decode cX2_clause 133 = .ok (.aload_n 0, 1) := by decide +kernel
theorem dX2_clause_134 : decode cX2_clause 134 = .ok (.bipush 53, 2) := by decide +kernel
theorem dX2_clause_136 : decode cX2_clause 136 = .ok (.invokevirtual 141, 3) := by decide +kernel
theorem dX2_clause_139 : decode cX2_clause 139 = .ok (.ifCond .eq 7, 3) := by decide +kernel
theorem dX2_clause_142 : decode cX2_clause 142 = .ok (.iconst 1, 1) := by decide +kernel
theorem dX2_clause_143 : decode cX2_clause 143 = .ok (.goto 4, 3) := by decide +kernel
theorem dX2_clause_146 : decode cX2_clause 146 = .ok (.iconst 0, 1) := by decide +kernel
theorem dX2_clause_147 : decode cX2_clause 147 = .ok (.ireturn, 1) := by decide +kernel
theorem dX2_order_0 : decode cX2_order 0 = .ok (.iload_n 1, 1) := by decide +kernel
theorem dX2_order_1 : decode cX2_order 1 = .ok (.tableswitch 186 12 16 #[35, 69, 101, 149, 181], 35) := by decide +kernel
theorem dX2_order_36 : decode cX2_order 36 = .ok (.aload_n 0, 1) := by decide +kernel
theorem dX2_order_37 : decode cX2_order 37 = .ok (.iconst 0, 1) := by decide +kernel
theorem dX2_order_38 : decode cX2_order 38 = .ok (.bipush 99, 2) := by decide +kernel
theorem dX2_order_40 : decode cX2_order 40 = .ok (.invokevirtual 144, 3) := by decide +kernel
theorem dX2_order_43 : decode cX2_order 43 = .ok (.ifCond .eq 25, 3) := by decide +kernel
theorem dX2_order_46 : decode cX2_order 46 = .ok (.aload_n 0, 1) := by decide +kernel
theorem dX2_order_47 : decode cX2_order 47 = .ok (.iconst 1, 1) := by decide +kernel
theorem dX2_order_48 : decode cX2_order 48 = .ok (.invokevirtual 141, 3) := by decide +kernel
theorem dX2_order_51 : decode cX2_order 51 = .ok (.ifCond .eq 17, 3) := by decide +kernel
theorem dX2_order_54 : decode cX2_order 54 = .ok (.aload_n 0, 1) := by decide +kernel
theorem dX2_order_55 : decode cX2_order 55 = .ok (.iconst 0, 1) := by decide +kernel
theorem dX2_order_56 : decode cX2_order 56 = .ok (.bipush 10, 2) := by decide +kernel
theorem dX2_order_58 : decode cX2_order 58 = .ok (.invokevirtual 144, 3) := by decide +kernel
theorem dX2_order_61 : decode cX2_order 61 = .ok (.ifCond .eq 7, 3) := by decide +kernel
theorem dX2_order_64 : decode cX2_order 64 = .ok (.iconst 1, 1) := by decide +kernel
theorem dX2_order_65 : decode cX2_order 65 = .ok (.goto 4, 3) := by decide +kernel
theorem dX2_order_68 : decode cX2_order 68 = .ok (.iconst 0, 1) := by decide +kernel
theorem dX2_order_69 : decode cX2_order 69 = .ok (.ireturn, 1) := by decide +kernel
theorem dX2_order_70 : decode cX2_order 70 = .ok (.aload_n 0, 1) := by decide +kernel
theorem dX2_order_71 : decode cX2_order 71 = .ok (.invokevirtual 148, 3) := by decide +kernel
theorem dX2_order_74 : decode cX2_order 74 = .ok (.ifCond .eq 26, 3) := by decide +kernel
theorem dX2_order_77 : decode cX2_order 77 = .ok (.aload_n 0, 1) := by decide +kernel
theorem dX2_order_78 : decode cX2_order 78 = .ok (.bipush 17, 2) := by decide +kernel
theorem dX2_order_80 : decode cX2_order 80 = .ok (.invokevirtual 141, 3) := by decide +kernel
theorem dX2_order_83 : decode cX2_order 83 = .ok (.ifCond .eq 17, 3) := by decide +kernel
theorem dX2_order_86 : decode cX2_order 86 = .ok (.aload_n 0, 1) := by decide +kernel
theorem dX2_order_87 : decode cX2_order 87 = .ok (.iconst 0, 1) := by decide +kernel
theorem dX2_order_88 : decode cX2_order 88 = .ok (.bipush 9, 2) := by decide +kernel
theorem dX2_order_90 : decode cX2_order 90 = .ok (.invokevirtual 144, 3) := by decide +kernel
theorem dX2_order_93 : decode cX2_order 93 = .ok (.ifCond .eq 7, 3) := by decide +kernel
theorem dX2_order_96 : decode cX2_order 96 = .ok (.iconst 1, 1) := by decide +kernel
theorem dX2_order_97 : decode cX2_order 97 = .ok (.goto 4, 3) := by decide +kernel
theorem dX2_order_100 : decode cX2_order 100 = .ok (.iconst 0, 1) := by decide +kernel
theorem dX2_order_101 : decode cX2_order 101 = .ok (.ireturn, 1) := by decide +kernel
theorem dX2_order_102 : decode cX2_order 102 = .ok (.aload_n 0, 1) := by decide +kernel
theorem dX2_order_103 : decode cX2_order 103 = .ok (.iconst 0, 1) := by decide +kernel
theorem dX2_order_104 : decode cX2_order 104 = .ok (.bipush 7, 2) := by decide +kernel
theorem dX2_order_106 : decode cX2_order 106 = .ok (.invokevirtual 144, 3) := by decide +kernel
theorem dX2_order_109 : decode cX2_order 109 = .ok (.ifCond .eq 39, 3) := by decide +kernel
theorem dX2_order_112 : decode cX2_order 112 = .ok (.aload_n 0, 1) := by decide +kernel
theorem dX2_order_113 : decode cX2_order 113 = .ok (.bipush 17, 2) := by decide +kernel
theorem dX2_order_115 : decode cX2_order 115 = .ok (.invokevirtual 141, 3) := by decide +kernel
theorem dX2_order_118 : decode cX2_order 118 = .ok (.ifCond .eq 30, 3) := by decide +kernel
theorem dX2_order_121 : decode cX2_order 121 = .ok (.aload_n 0, 1) := by decide +kernel
theorem dX2_order_122 : decode cX2_order 122 = .ok (.invokevirtual 151, 3) := by decide +kernel
theorem dX2_order_125 : decode cX2_order 125 = .ok (.ifCond .eq 23, 3) := by decide +kernel
theorem dX2_order_128 : decode cX2_order 128 = .ok (.aload_n 0, 1) := by decide +kernel
theorem dX2_order_129 : decode cX2_order 129 = .ok (.bipush 18, 2) := by decide +kernel
theorem dX2_order_131 : decode cX2_order 131 = .ok (.invokevirtual 141, 3) := by decide +kernel
theorem dX2_order_134 : decode cX2_order 134 = .ok (.ifCond .eq 14, 3) := by decide +kernel
theorem dX2_order_137 : decode cX2_order 137 = .ok (.aload_n 0, 1) := by decide +kernel
theorem dX2_order_138 : decode cX2_order 138 = .ok (.invokevirtual 151, 3) := by decide +kernel
theorem dX2_order_141 : decode cX2_order 141 = .ok (.ifCond .eq 7, 3) := by decide +kernel
theorem dX2_order_144 : decode cX2_order 144 = .ok (.iconst 1, 1) := by decide +kernel
theorem dX2_order_145 : decode cX2_order 145 = .ok (.goto 4, 3) := by decide +kernel
theorem dX2_order_148 : decode cX2_order 148 = .ok (.iconst 0, 1) := by decide +kernel
theorem dX2_order_149 : decode cX2_order 149 = .ok (.ireturn, 1) := by decide +kernel
theorem dX2_order_150 : decode cX2_order 150 = .ok (.aload_n 0, 1) := by decide +kernel
theorem dX2_order_151 : decode cX2_order 151 = .ok (.iconst 1, 1) := by decide +kernel
theorem dX2_order_152 : decode cX2_order 152 = .ok (.bipush 99, 2) := by decide +kernel
theorem dX2_order_154 : decode cX2_order 154 = .ok (.invokevirtual 144, 3) := by decide +kernel
theorem dX2_order_157 : decode cX2_order 157 = .ok (.ifCond .eq 23, 3) := by decide +kernel
theorem dX2_order_160 : decode cX2_order 160 = .ok (.aload_n 0, 1) := by decide +kernel
theorem dX2_order_161 : decode cX2_order 161 = .ok (.bipush 17, 2) := by decide +kernel
theorem dX2_order_163 : decode cX2_order 163 = .ok (.invokevirtual 141, 3) := by decide +kernel
theorem dX2_order_166 : decode cX2_order 166 = .ok (.ifCond .eq 14, 3) := by decide +kernel
theorem dX2_order_169 : decode cX2_order 169 = .ok (.aload_n 0, 1) := by decide +kernel
theorem dX2_order_170 : decode cX2_order 170 = .ok (.invokevirtual 151, 3) := by decide +kernel
theorem dX2_order_173 : decode cX2_order 173 = .ok (.ifCond .eq 7, 3) := by decide +kernel
theorem dX2_order_176 : decode cX2_order 176 = .ok (.iconst 1, 1) := by decide +kernel
theorem dX2_order_177 : decode cX2_order 177 = .ok (.goto 4, 3) := by decide +kernel
theorem dX2_order_180 : decode cX2_order 180 = .ok (.iconst 0, 1) := by decide +kernel
theorem dX2_order_181 : decode cX2_order 181 = .ok (.ireturn, 1) := by decide +kernel
theorem dX2_order_182 : decode cX2_order 182 = .ok (.aload_n 0, 1) := by decide +kernel
theorem dX2_order_183 : decode cX2_order 183 = .ok (.invokevirtual 148, 3) := by decide +kernel
theorem dX2_order_186 : decode cX2_order 186 = .ok (.ireturn, 1) := by decide +kernel
theorem dX2_order_187 : decode cX2_order 187 = .ok (.aload_n 0, 1) := by decide +kernel
theorem dX2_order_188 : decode cX2_order 188 = .ok (.iconst 1, 1) := by decide +kernel
theorem dX2_order_189 : decode cX2_order 189 = .ok (.bipush 60, 2) := by decide +kernel
theorem dX2_order_191 : decode cX2_order 191 = .ok (.invokevirtual 144, 3) := by decide +kernel
theorem dX2_order_194 : decode cX2_order 194 = .ok (.ireturn, 1) := by decide +kernel
theorem dX2_lamp_0 : decode cX2_lamp 0 = .ok (.aload_n 0, 1) := by decide +kernel
theorem dX2_lamp_1 : decode cX2_lamp 1 = .ok (.iconst 0, 1) := by decide +kernel
theorem dX2_lamp_2 : decode cX2_lamp 2 = .ok (.bipush 9, 2) := by decide +kernel
theorem dX2_lamp_4 : decode cX2_lamp 4 = .ok (.invokevirtual 144, 3) := by decide +kernel
theorem dX2_lamp_7 : decode cX2_lamp 7 = .ok (.ireturn, 1) := by decide +kernel
theorem dX2_one_0 : decode cX2_one 0 = .ok (.aload_n 0, 1) := by decide +kernel
theorem dX2_one_1 : decode cX2_one 1 = .ok (.iconst 0, 1) := by decide +kernel
theorem dX2_one_2 : decode cX2_one 2 = .ok (.iconst 3, 1) := by decide +kernel
theorem dX2_one_3 : decode cX2_one 3 = .ok (.invokevirtual 144, 3) := by decide +kernel
theorem dX2_one_6 : decode cX2_one 6 = .ok (.ireturn, 1) := by decide +kernel
theorem dX2_law_0 : decode cX2_law 0 = .ok (.iload_n 1, 1) := by decide +kernel
theorem dX2_law_1 : decode cX2_law 1 = .ok (.bipush 10, 2) := by decide +kernel
theorem dX2_law_3 : decode cX2_law 3 = .ok (.if_icmp .ne 20, 3) := by decide +kernel
theorem dX2_law_6 : decode cX2_law 6 = .ok (.aload_n 0, 1) := by decide +kernel
theorem dX2_law_7 : decode cX2_law 7 = .ok (.getfield 22, 3) := by decide +kernel
theorem dX2_law_10 : decode cX2_law 10 = .ok (.aload_n 0, 1) := by decide +kernel
theorem dX2_law_11 : decode cX2_law 11 = .ok (.getfield 22, 3) := by decide +kernel
theorem dX2_law_14 : decode cX2_law 14 = .ok (.getfield 154, 3) := by decide +kernel
theorem dX2_law_17 : decode cX2_law 17 = .ok (.putfield 123, 3) := by decide +kernel
theorem dX2_law_20 : decode cX2_law 20 = .ok (.goto 17, 3) := by decide +kernel
theorem dX2_law_23 : decode cX2_law 23 = .ok (.aload_n 0, 1) := by decide +kernel
theorem dX2_law_24 : decode cX2_law 24 = .ok (.getfield 22, 3) := by decide +kernel
theorem dX2_law_27 : decode cX2_law 27 = .ok (.aload_n 0, 1) := by decide +kernel
theorem dX2_law_28 : decode cX2_law 28 = .ok (.getfield 22, 3) := by decide +kernel
theorem dX2_law_31 : decode cX2_law 31 = .ok (.getfield 154, 3) := by decide +kernel
theorem dX2_law_34 : decode cX2_law 34 = .ok (.putfield 126, 3) := by decide +kernel
theorem dX2_law_37 : decode cX2_law 37 = .ok (.aload_n 0, 1) := by decide +kernel
theorem dX2_law_38 : decode cX2_law 38 = .ok (.iload_n 1, 1) := by decide +kernel
theorem dX2_law_39 : decode cX2_law 39 = .ok (.iconst 0, 1) := by decide +kernel
theorem dX2_law_40 : decode cX2_law 40 = .ok (.invokevirtual 157, 3) := by decide +kernel
theorem dX2_law_43 : decode cX2_law 43 = .ok (.ifCond .ne 5, 3) := by decide +kernel
theorem dX2_law_46 : decode cX2_law 46 = .ok (.iconst 0, 1) := by decide +kernel
theorem dX2_law_47 : decode cX2_law 47 = .ok (.ireturn, 1) := by decide +kernel
theorem dX2_law_48 : decode cX2_law 48 = .ok (.aload_n 0, 1) := by decide +kernel
theorem dX2_law_49 : decode cX2_law 49 = .ok (.getfield 22, 3) := by decide +kernel
theorem dX2_law_52 : decode cX2_law 52 = .ok (.bipush 53, 2) := by decide +kernel
theorem dX2_law_54 : decode cX2_law 54 = .ok (.invokevirtual 160, 3) := by decide +kernel
theorem dX2_law_57 : decode cX2_law 57 = .ok (.iconst 1, 1) := by decide +kernel
theorem dX2_law_58 : decode cX2_law 58 = .ok (.ireturn, 1) := by decide +kernel
theorem dX2_sum_0 : decode cX2_sum 0 = .ok (.aload_n 0, 1) := by decide +kernel
theorem dX2_sum_1 : decode cX2_sum 1 = .ok (.iload_n 1, 1) := by decide +kernel
theorem dX2_sum_2 : decode cX2_sum 2 = .ok (.iload_n 2, 1) := by decide +kernel
theorem dX2_sum_3 : decode cX2_sum 3 = .ok (.invokevirtual 163, 3) := by decide +kernel
theorem dX2_sum_6 : decode cX2_sum 6 = .ok (.ifCond .ne 5, 3) := by decide +kernel
theorem dX2_sum_9 : decode cX2_sum 9 = .ok (.iconst 0, 1) := by decide +kernel
theorem dX2_sum_10 : decode cX2_sum 10 = .ok (.ireturn, 1) := by decide +kernel
theorem dX2_sum_11 : decode cX2_sum 11 = .ok (.iconst 0, 1) := by decide +kernel
theorem dX2_sum_12 : decode cX2_sum 12 = .ok (.istore_n 3, 1) := by decide +kernel
theorem dX2_sum_13 : decode cX2_sum 13 = .ok (.iload_n 3, 1) := by decide +kernel
theorem dX2_sum_14 : decode cX2_sum 14 = .ok (.sipush 300, 3) := by decide +kernel
theorem dX2_sum_17 : decode cX2_sum 17 = .ok (.if_icmp .ge 72, 3) := by decide +kernel
theorem dX2_sum_20 : decode cX2_sum 20 = .ok (.aload_n 0, 1) := by decide +kernel
theorem dX2_sum_21 : decode cX2_sum 21 = .ok (.getfield 26, 3) := by decide +kernel
theorem dX2_sum_24 : decode cX2_sum 24 = .ok (.aload_n 0, 1) := by decide +kernel
theorem dX2_sum_25 : decode cX2_sum 25 = .ok (.getfield 51, 3) := by decide +kernel
theorem dX2_sum_28 : decode cX2_sum 28 = .ok (.iaload, 1) := by decide +kernel
theorem dX2_sum_29 : decode cX2_sum 29 = .ok (.bipush 47, 2) := by decide +kernel
theorem dX2_sum_31 : decode cX2_sum 31 = .ok (.if_icmp .eq 17, 3) := by decide +kernel
theorem dX2_sum_34 : decode cX2_sum 34 = .ok (.aload_n 0, 1) := by decide +kernel
theorem dX2_sum_35 : decode cX2_sum 35 = .ok (.getfield 26, 3) := by decide +kernel
theorem dX2_sum_38 : decode cX2_sum 38 = .ok (.aload_n 0, 1) := by decide +kernel
theorem dX2_sum_39 : decode cX2_sum 39 = .ok (.getfield 51, 3) := by decide +kernel
theorem dX2_sum_42 : decode cX2_sum 42 = .ok (.iaload, 1) := by decide +kernel
theorem dX2_sum_43 : decode cX2_sum 43 = .ok (.bipush 48, 2) := by decide +kernel
theorem dX2_sum_45 : decode cX2_sum 45 = .ok (.if_icmp .ne 44, 3) := by decide +kernel
theorem dX2_sum_48 : decode cX2_sum 48 = .ok (.aload_n 0, 1) := by decide +kernel
theorem dX2_sum_49 : decode cX2_sum 49 = .ok (.getfield 26, 3) := by decide +kernel
theorem dX2_sum_52 : decode cX2_sum 52 = .ok (.aload_n 0, 1) := by decide +kernel
theorem dX2_sum_53 : decode cX2_sum 53 = .ok (.getfield 51, 3) := by decide +kernel
theorem dX2_sum_56 : decode cX2_sum 56 = .ok (.iaload, 1) := by decide +kernel
theorem dX2_sum_57 : decode cX2_sum 57 = .ok (.istore 4, 2) := by decide +kernel
theorem dX2_sum_59 : decode cX2_sum 59 = .ok (.aload_n 0, 1) := by decide +kernel
theorem dX2_sum_60 : decode cX2_sum 60 = .ok (.invokevirtual 116, 3) := by decide +kernel
theorem dX2_sum_63 : decode cX2_sum 63 = .ok (.aload_n 0, 1) := by decide +kernel
theorem dX2_sum_64 : decode cX2_sum 64 = .ok (.iload_n 1, 1) := by decide +kernel
theorem dX2_sum_65 : decode cX2_sum 65 = .ok (.iload_n 2, 1) := by decide +kernel
theorem dX2_sum_66 : decode cX2_sum 66 = .ok (.invokevirtual 163, 3) := by decide +kernel
theorem dX2_sum_69 : decode cX2_sum 69 = .ok (.ifCond .ne 5, 3) := by decide +kernel
theorem dX2_sum_72 : decode cX2_sum 72 = .ok (.iconst 0, 1) := by decide +kernel
theorem dX2_sum_73 : decode cX2_sum 73 = .ok (.ireturn, 1) := by decide +kernel
theorem dX2_sum_74 : decode cX2_sum 74 = .ok (.aload_n 0, 1) := by decide +kernel
theorem dX2_sum_75 : decode cX2_sum 75 = .ok (.getfield 22, 3) := by decide +kernel
theorem dX2_sum_78 : decode cX2_sum 78 = .ok (.iload 4, 2) := by decide +kernel
theorem dX2_sum_80 : decode cX2_sum 80 = .ok (.invokevirtual 160, 3) := by decide +kernel
theorem dX2_sum_83 : decode cX2_sum 83 = .ok (.iinc 3 1, 3) := by decide +kernel
theorem dX2_sum_86 : decode cX2_sum 86 = .ok (.goto (-73), 3) := by decide +kernel
theorem dX2_sum_89 : decode cX2_sum 89 = .ok (.iconst 1, 1) := by decide +kernel
theorem dX2_sum_90 : decode cX2_sum 90 = .ok (.ireturn, 1) := by decide +kernel
theorem dX2_product_0 : decode cX2_product 0 = .ok (.aload_n 0, 1) := by decide +kernel
theorem dX2_product_1 : decode cX2_product 1 = .ok (.iload_n 1, 1) := by decide +kernel
theorem dX2_product_2 : decode cX2_product 2 = .ok (.iload_n 2, 1) := by decide +kernel
theorem dX2_product_3 : decode cX2_product 3 = .ok (.invokevirtual 166, 3) := by decide +kernel
theorem dX2_product_6 : decode cX2_product 6 = .ok (.ifCond .ne 5, 3) := by decide +kernel
theorem dX2_product_9 : decode cX2_product 9 = .ok (.iconst 0, 1) := by decide +kernel
theorem dX2_product_10 : decode cX2_product 10 = .ok (.ireturn, 1) := by decide +kernel
theorem dX2_product_11 : decode cX2_product 11 = .ok (.iconst 0, 1) := by decide +kernel
theorem dX2_product_12 : decode cX2_product 12 = .ok (.istore_n 3, 1) := by decide +kernel
theorem dX2_product_13 : decode cX2_product 13 = .ok (.iload_n 3, 1) := by decide +kernel
theorem dX2_product_14 : decode cX2_product 14 = .ok (.sipush 300, 3) := by decide +kernel
theorem dX2_product_17 : decode cX2_product 17 = .ok (.if_icmp .ge 72, 3) := by decide +kernel
theorem dX2_product_20 : decode cX2_product 20 = .ok (.aload_n 0, 1) := by decide +kernel
theorem dX2_product_21 : decode cX2_product 21 = .ok (.getfield 26, 3) := by decide +kernel
theorem dX2_product_24 : decode cX2_product 24 = .ok (.aload_n 0, 1) := by decide +kernel
theorem dX2_product_25 : decode cX2_product 25 = .ok (.getfield 51, 3) := by decide +kernel
theorem dX2_product_28 : decode cX2_product 28 = .ok (.iaload, 1) := by decide +kernel
theorem dX2_product_29 : decode cX2_product 29 = .ok (.bipush 49, 2) := by decide +kernel
theorem dX2_product_31 : decode cX2_product 31 = .ok (.if_icmp .eq 17, 3) := by decide +kernel
theorem dX2_product_34 : decode cX2_product 34 = .ok (.aload_n 0, 1) := by decide +kernel
theorem dX2_product_35 : decode cX2_product 35 = .ok (.getfield 26, 3) := by decide +kernel
theorem dX2_product_38 : decode cX2_product 38 = .ok (.aload_n 0, 1) := by decide +kernel
theorem dX2_product_39 : decode cX2_product 39 = .ok (.getfield 51, 3) := by decide +kernel
theorem dX2_product_42 : decode cX2_product 42 = .ok (.iaload, 1) := by decide +kernel
theorem dX2_product_43 : decode cX2_product 43 = .ok (.bipush 50, 2) := by decide +kernel
theorem dX2_product_45 : decode cX2_product 45 = .ok (.if_icmp .ne 44, 3) := by decide +kernel
theorem dX2_product_48 : decode cX2_product 48 = .ok (.aload_n 0, 1) := by decide +kernel
theorem dX2_product_49 : decode cX2_product 49 = .ok (.getfield 26, 3) := by decide +kernel
theorem dX2_product_52 : decode cX2_product 52 = .ok (.aload_n 0, 1) := by decide +kernel
theorem dX2_product_53 : decode cX2_product 53 = .ok (.getfield 51, 3) := by decide +kernel
theorem dX2_product_56 : decode cX2_product 56 = .ok (.iaload, 1) := by decide +kernel
theorem dX2_product_57 : decode cX2_product 57 = .ok (.istore 4, 2) := by decide +kernel
theorem dX2_product_59 : decode cX2_product 59 = .ok (.aload_n 0, 1) := by decide +kernel
theorem dX2_product_60 : decode cX2_product 60 = .ok (.invokevirtual 116, 3) := by decide +kernel
theorem dX2_product_63 : decode cX2_product 63 = .ok (.aload_n 0, 1) := by decide +kernel
theorem dX2_product_64 : decode cX2_product 64 = .ok (.iload_n 1, 1) := by decide +kernel
theorem dX2_product_65 : decode cX2_product 65 = .ok (.iload_n 2, 1) := by decide +kernel
theorem dX2_product_66 : decode cX2_product 66 = .ok (.invokevirtual 166, 3) := by decide +kernel
theorem dX2_product_69 : decode cX2_product 69 = .ok (.ifCond .ne 5, 3) := by decide +kernel
theorem dX2_product_72 : decode cX2_product 72 = .ok (.iconst 0, 1) := by decide +kernel
theorem dX2_product_73 : decode cX2_product 73 = .ok (.ireturn, 1) := by decide +kernel
theorem dX2_product_74 : decode cX2_product 74 = .ok (.aload_n 0, 1) := by decide +kernel
theorem dX2_product_75 : decode cX2_product 75 = .ok (.getfield 22, 3) := by decide +kernel
theorem dX2_product_78 : decode cX2_product 78 = .ok (.iload 4, 2) := by decide +kernel
theorem dX2_product_80 : decode cX2_product 80 = .ok (.invokevirtual 160, 3) := by decide +kernel
theorem dX2_product_83 : decode cX2_product 83 = .ok (.iinc 3 1, 3) := by decide +kernel
theorem dX2_product_86 : decode cX2_product 86 = .ok (.goto (-73), 3) := by decide +kernel
theorem dX2_product_89 : decode cX2_product 89 = .ok (.iconst 1, 1) := by decide +kernel
theorem dX2_product_90 : decode cX2_product 90 = .ok (.ireturn, 1) := by decide +kernel
theorem dX2_factor_0 : decode cX2_factor 0 = .ok (.aload_n 0, 1) := by decide +kernel
theorem dX2_factor_1 : decode cX2_factor 1 = .ok (.getfield 26, 3) := by decide +kernel
theorem dX2_factor_4 : decode cX2_factor 4 = .ok (.aload_n 0, 1) := by decide +kernel
theorem dX2_factor_5 : decode cX2_factor 5 = .ok (.getfield 51, 3) := by decide +kernel
theorem dX2_factor_8 : decode cX2_factor 8 = .ok (.iaload, 1) := by decide +kernel
theorem dX2_factor_9 : decode cX2_factor 9 = .ok (.istore_n 3, 1) := by decide +kernel
theorem dX2_factor_10 : decode cX2_factor 10 = .ok (.iload_n 3, 1) := by decide +kernel
theorem dX2_factor_11 : decode cX2_factor 11 = .ok (.bipush 40, 2) := by decide +kernel
theorem dX2_factor_13 : decode cX2_factor 13 = .ok (.if_icmp .ne 8, 3) := by decide +kernel
theorem dX2_factor_16 : decode cX2_factor 16 = .ok (.aload_n 0, 1) := by decide +kernel
theorem dX2_factor_17 : decode cX2_factor 17 = .ok (.invokevirtual 169, 3) := by decide +kernel
theorem dX2_factor_20 : decode cX2_factor 20 = .ok (.ireturn, 1) := by decide +kernel
theorem dX2_factor_21 : decode cX2_factor 21 = .ok (.iload_n 3, 1) := by decide +kernel
theorem dX2_factor_22 : decode cX2_factor 22 = .ok (.bipush 10, 2) := by decide +kernel
theorem dX2_factor_24 : decode cX2_factor 24 = .ok (.if_icmp .ge 9, 3) := by decide +kernel
theorem dX2_factor_27 : decode cX2_factor 27 = .ok (.aload_n 0, 1) := by decide +kernel
theorem dX2_factor_28 : decode cX2_factor 28 = .ok (.iload_n 1, 1) := by decide +kernel
theorem dX2_factor_29 : decode cX2_factor 29 = .ok (.invokevirtual 172, 3) := by decide +kernel
theorem dX2_factor_32 : decode cX2_factor 32 = .ok (.ireturn, 1) := by decide +kernel
theorem dX2_factor_33 : decode cX2_factor 33 = .ok (.iload_n 3, 1) := by decide +kernel
theorem dX2_factor_34 : decode cX2_factor 34 = .ok (.bipush 51, 2) := by decide +kernel
theorem dX2_factor_36 : decode cX2_factor 36 = .ok (.if_icmp .eq 33, 3) := by decide +kernel
theorem dX2_factor_39 : decode cX2_factor 39 = .ok (.iload_n 3, 1) := by decide +kernel
theorem dX2_factor_40 : decode cX2_factor 40 = .ok (.bipush 48, 2) := by decide +kernel
theorem dX2_factor_42 : decode cX2_factor 42 = .ok (.if_icmp .eq 27, 3) := by decide +kernel
theorem dX2_factor_45 : decode cX2_factor 45 = .ok (.iload_n 3, 1) := by decide +kernel
theorem dX2_factor_46 : decode cX2_factor 46 = .ok (.bipush 21, 2) := by decide +kernel
theorem dX2_factor_48 : decode cX2_factor 48 = .ok (.if_icmp .eq 21, 3) := by decide +kernel
theorem dX2_factor_51 : decode cX2_factor 51 = .ok (.iload_n 3, 1) := by decide +kernel
theorem dX2_factor_52 : decode cX2_factor 52 = .ok (.bipush 19, 2) := by decide +kernel
theorem dX2_factor_54 : decode cX2_factor 54 = .ok (.if_icmp .eq 15, 3) := by decide +kernel
theorem dX2_factor_57 : decode cX2_factor 57 = .ok (.iload_n 3, 1) := by decide +kernel
theorem dX2_factor_58 : decode cX2_factor 58 = .ok (.bipush 22, 2) := by decide +kernel
theorem dX2_factor_60 : decode cX2_factor 60 = .ok (.if_icmp .eq 9, 3) := by decide +kernel
theorem dX2_factor_63 : decode cX2_factor 63 = .ok (.aload_n 0, 1) := by decide +kernel
theorem dX2_factor_64 : decode cX2_factor 64 = .ok (.iconst 1, 1) := by decide +kernel
theorem dX2_factor_65 : decode cX2_factor 65 = .ok (.invokevirtual 113, 3) := by decide +kernel
theorem dX2_factor_68 : decode cX2_factor 68 = .ok (.ireturn, 1) := by decide +kernel
theorem dX2_factor_69 : decode cX2_factor 69 = .ok (.iload_n 2, 1) := by decide +kernel
theorem dX2_factor_70 : decode cX2_factor 70 = .ok (.bipush 8, 2) := by decide +kernel
theorem dX2_factor_72 : decode cX2_factor 72 = .ok (.if_icmp .lt 9, 3) := by decide +kernel
theorem dX2_factor_75 : decode cX2_factor 75 = .ok (.aload_n 0, 1) := by decide +kernel
theorem dX2_factor_76 : decode cX2_factor 76 = .ok (.iconst 3, 1) := by decide +kernel
theorem dX2_factor_77 : decode cX2_factor 77 = .ok (.invokevirtual 113, 3) := by decide +kernel
theorem dX2_factor_80 : decode cX2_factor 80 = .ok (.ireturn, 1) := by decide +kernel
theorem dX2_factor_81 : decode cX2_factor 81 = .ok (.aload_n 0, 1) := by decide +kernel
theorem dX2_factor_82 : decode cX2_factor 82 = .ok (.invokevirtual 116, 3) := by decide +kernel
theorem dX2_factor_85 : decode cX2_factor 85 = .ok (.iload_n 3, 1) := by decide +kernel
theorem dX2_factor_86 : decode cX2_factor 86 = .ok (.lookupswitch 166 #[(19, 120), (21, 94), (48, 68), (51, 42)], 42) := by decide +kernel
theorem dX2_factor_128 : decode cX2_factor 128 = .ok (.aload_n 0, 1) := by decide +kernel
theorem dX2_factor_129 : decode cX2_factor 129 = .ok (.iload_n 1, 1) := by decide +kernel
theorem dX2_factor_130 : decode cX2_factor 130 = .ok (.iload_n 2, 1) := by decide +kernel
theorem dX2_factor_131 : decode cX2_factor 131 = .ok (.iconst 1, 1) := by decide +kernel
theorem dX2_factor_132 : decode cX2_factor 132 = .ok (.iadd, 1) := by decide +kernel
theorem dX2_factor_133 : decode cX2_factor 133 = .ok (.invokevirtual 157, 3) := by decide +kernel
theorem dX2_factor_136 : decode cX2_factor 136 = .ok (.ifCond .eq 16, 3) := by decide +kernel
theorem dX2_factor_139 : decode cX2_factor 139 = .ok (.aload_n 0, 1) := by decide +kernel
theorem dX2_factor_140 : decode cX2_factor 140 = .ok (.bipush 52, 2) := by decide +kernel
theorem dX2_factor_142 : decode cX2_factor 142 = .ok (.invokevirtual 141, 3) := by decide +kernel
theorem dX2_factor_145 : decode cX2_factor 145 = .ok (.ifCond .eq 7, 3) := by decide +kernel
theorem dX2_factor_148 : decode cX2_factor 148 = .ok (.iconst 1, 1) := by decide +kernel
theorem dX2_factor_149 : decode cX2_factor 149 = .ok (.goto 4, 3) := by decide +kernel
theorem dX2_factor_152 : decode cX2_factor 152 = .ok (.iconst 0, 1) := by decide +kernel
theorem dX2_factor_153 : decode cX2_factor 153 = .ok (.ireturn, 1) := by decide +kernel
theorem dX2_factor_154 : decode cX2_factor 154 = .ok (.aload_n 0, 1) := by decide +kernel
theorem dX2_factor_155 : decode cX2_factor 155 = .ok (.iload_n 1, 1) := by decide +kernel
theorem dX2_factor_156 : decode cX2_factor 156 = .ok (.iload_n 2, 1) := by decide +kernel
theorem dX2_factor_157 : decode cX2_factor 157 = .ok (.iconst 1, 1) := by decide +kernel
theorem dX2_factor_158 : decode cX2_factor 158 = .ok (.iadd, 1) := by decide +kernel
theorem dX2_factor_159 : decode cX2_factor 159 = .ok (.invokevirtual 166, 3) := by decide +kernel
theorem dX2_factor_162 : decode cX2_factor 162 = .ok (.ifCond .eq 16, 3) := by decide +kernel
theorem dX2_factor_165 : decode cX2_factor 165 = .ok (.aload_n 0, 1) := by decide +kernel
theorem dX2_factor_166 : decode cX2_factor 166 = .ok (.bipush 60, 2) := by decide +kernel
theorem dX2_factor_168 : decode cX2_factor 168 = .ok (.invokevirtual 175, 3) := by decide +kernel
theorem dX2_factor_171 : decode cX2_factor 171 = .ok (.ifCond .eq 7, 3) := by decide +kernel
theorem dX2_factor_174 : decode cX2_factor 174 = .ok (.iconst 1, 1) := by decide +kernel
theorem dX2_factor_175 : decode cX2_factor 175 = .ok (.goto 4, 3) := by decide +kernel
theorem dX2_factor_178 : decode cX2_factor 178 = .ok (.iconst 0, 1) := by decide +kernel
theorem dX2_factor_179 : decode cX2_factor 179 = .ok (.ireturn, 1) := by decide +kernel
theorem dX2_factor_180 : decode cX2_factor 180 = .ok (.aload_n 0, 1) := by decide +kernel
theorem dX2_factor_181 : decode cX2_factor 181 = .ok (.iload_n 1, 1) := by decide +kernel
theorem dX2_factor_182 : decode cX2_factor 182 = .ok (.iload_n 2, 1) := by decide +kernel
theorem dX2_factor_183 : decode cX2_factor 183 = .ok (.iconst 1, 1) := by decide +kernel
theorem dX2_factor_184 : decode cX2_factor 184 = .ok (.iadd, 1) := by decide +kernel
theorem dX2_factor_185 : decode cX2_factor 185 = .ok (.invokevirtual 166, 3) := by decide +kernel
theorem dX2_factor_188 : decode cX2_factor 188 = .ok (.ifCond .eq 16, 3) := by decide +kernel
theorem dX2_factor_191 : decode cX2_factor 191 = .ok (.aload_n 0, 1) := by decide +kernel
theorem dX2_factor_192 : decode cX2_factor 192 = .ok (.bipush 21, 2) := by decide +kernel
theorem dX2_factor_194 : decode cX2_factor 194 = .ok (.invokevirtual 175, 3) := by decide +kernel
theorem dX2_factor_197 : decode cX2_factor 197 = .ok (.ifCond .eq 7, 3) := by decide +kernel
theorem dX2_factor_200 : decode cX2_factor 200 = .ok (.iconst 1, 1) := by decide +kernel
theorem dX2_factor_201 : decode cX2_factor 201 = .ok (.goto 4, 3) := by decide +kernel
theorem dX2_factor_204 : decode cX2_factor 204 = .ok (.iconst 0, 1) := by decide +kernel
theorem dX2_factor_205 : decode cX2_factor 205 = .ok (.ireturn, 1) := by decide +kernel
theorem dX2_factor_206 : decode cX2_factor 206 = .ok (.aload_n 0, 1) := by decide +kernel
theorem dX2_factor_207 : decode cX2_factor 207 = .ok (.iload_n 1, 1) := by decide +kernel
theorem dX2_factor_208 : decode cX2_factor 208 = .ok (.iload_n 2, 1) := by decide +kernel
theorem dX2_factor_209 : decode cX2_factor 209 = .ok (.iconst 1, 1) := by decide +kernel
theorem dX2_factor_210 : decode cX2_factor 210 = .ok (.iadd, 1) := by decide +kernel
theorem dX2_factor_211 : decode cX2_factor 211 = .ok (.invokevirtual 166, 3) := by decide +kernel
theorem dX2_factor_214 : decode cX2_factor 214 = .ok (.ifCond .eq 36, 3) := by decide +kernel
theorem dX2_factor_217 : decode cX2_factor 217 = .ok (.aload_n 0, 1) := by decide +kernel
theorem dX2_factor_218 : decode cX2_factor 218 = .ok (.bipush 20, 2) := by decide +kernel
theorem dX2_factor_220 : decode cX2_factor 220 = .ok (.invokevirtual 141, 3) := by decide +kernel
theorem dX2_factor_223 : decode cX2_factor 223 = .ok (.ifCond .eq 27, 3) := by decide +kernel
theorem dX2_factor_226 : decode cX2_factor 226 = .ok (.aload_n 0, 1) := by decide +kernel
theorem dX2_factor_227 : decode cX2_factor 227 = .ok (.iload_n 1, 1) := by decide +kernel
theorem dX2_factor_228 : decode cX2_factor 228 = .ok (.iload_n 2, 1) := by decide +kernel
theorem dX2_factor_229 : decode cX2_factor 229 = .ok (.iconst 1, 1) := by decide +kernel
theorem dX2_factor_230 : decode cX2_factor 230 = .ok (.iadd, 1) := by decide +kernel
theorem dX2_factor_231 : decode cX2_factor 231 = .ok (.invokevirtual 166, 3) := by decide +kernel
theorem dX2_factor_234 : decode cX2_factor 234 = .ok (.ifCond .eq 16, 3) := by decide +kernel
theorem dX2_factor_237 : decode cX2_factor 237 = .ok (.aload_n 0, 1) := by decide +kernel
theorem dX2_factor_238 : decode cX2_factor 238 = .ok (.bipush 19, 2) := by decide +kernel
theorem dX2_factor_240 : decode cX2_factor 240 = .ok (.invokevirtual 175, 3) := by decide +kernel
theorem dX2_factor_243 : decode cX2_factor 243 = .ok (.ifCond .eq 7, 3) := by decide +kernel
theorem dX2_factor_246 : decode cX2_factor 246 = .ok (.iconst 1, 1) := by decide +kernel
theorem dX2_factor_247 : decode cX2_factor 247 = .ok (.goto 4, 3) := by decide +kernel
theorem dX2_factor_250 : decode cX2_factor 250 = .ok (.iconst 0, 1) := by decide +kernel
theorem dX2_factor_251 : decode cX2_factor 251 = .ok (.ireturn, 1) := by decide +kernel
theorem dX2_factor_252 : decode cX2_factor 252 = .ok (.aload_n 0, 1) := by decide +kernel
theorem dX2_factor_253 : decode cX2_factor 253 = .ok (.iload_n 1, 1) := by decide +kernel
theorem dX2_factor_254 : decode cX2_factor 254 = .ok (.iload_n 2, 1) := by decide +kernel
theorem dX2_factor_255 : decode cX2_factor 255 = .ok (.iconst 1, 1) := by decide +kernel
theorem dX2_factor_256 : decode cX2_factor 256 = .ok (.iadd, 1) := by decide +kernel
theorem dX2_factor_257 : decode cX2_factor 257 = .ok (.invokevirtual 178, 3) := by decide +kernel
theorem dX2_factor_260 : decode cX2_factor 260 = .ok (.ireturn, 1) := by decide +kernel
theorem dX2_constant_0 : decode cX2_constant 0 = .ok (.aload_n 0, 1) := by decide +kernel
theorem dX2_constant_1 : decode cX2_constant 1 = .ok (.getfield 29, 3) := by decide +kernel
theorem dX2_constant_4 : decode cX2_constant 4 = .ok (.aload_n 0, 1) := by decide +kernel
theorem dX2_constant_5 : decode cX2_constant 5 = .ok (.getfield 51, 3) := by decide +kernel
theorem dX2_constant_8 : decode cX2_constant 8 = .ok (.iaload, 1) := by decide +kernel
theorem dX2_constant_9 : decode cX2_constant 9 = .ok (.sipush 9999, 3) := by decide +kernel
theorem dX2_constant_12 : decode cX2_constant 12 = .ok (.if_icmp .le 9, 3) := by decide +kernel
theorem dX2_constant_15 : decode cX2_constant 15 = .ok (.aload_n 0, 1) := by decide +kernel
theorem dX2_constant_16 : decode cX2_constant 16 = .ok (.iconst 2, 1) := by decide +kernel
theorem dX2_constant_17 : decode cX2_constant 17 = .ok (.invokevirtual 113, 3) := by decide +kernel
theorem dX2_constant_20 : decode cX2_constant 20 = .ok (.ireturn, 1) := by decide +kernel
theorem dX2_constant_21 : decode cX2_constant 21 = .ok (.aload_n 0, 1) := by decide +kernel
theorem dX2_constant_22 : decode cX2_constant 22 = .ok (.getfield 22, 3) := by decide +kernel
theorem dX2_constant_25 : decode cX2_constant 25 = .ok (.bipush 40, 2) := by decide +kernel
theorem dX2_constant_27 : decode cX2_constant 27 = .ok (.invokevirtual 160, 3) := by decide +kernel
theorem dX2_constant_30 : decode cX2_constant 30 = .ok (.aload_n 0, 1) := by decide +kernel
theorem dX2_constant_31 : decode cX2_constant 31 = .ok (.getfield 22, 3) := by decide +kernel
theorem dX2_constant_34 : decode cX2_constant 34 = .ok (.aload_n 0, 1) := by decide +kernel
theorem dX2_constant_35 : decode cX2_constant 35 = .ok (.getfield 29, 3) := by decide +kernel
theorem dX2_constant_38 : decode cX2_constant 38 = .ok (.aload_n 0, 1) := by decide +kernel
theorem dX2_constant_39 : decode cX2_constant 39 = .ok (.getfield 51, 3) := by decide +kernel
theorem dX2_constant_42 : decode cX2_constant 42 = .ok (.iaload, 1) := by decide +kernel
theorem dX2_constant_43 : decode cX2_constant 43 = .ok (.invokevirtual 160, 3) := by decide +kernel
theorem dX2_constant_46 : decode cX2_constant 46 = .ok (.aload_n 0, 1) := by decide +kernel
theorem dX2_constant_47 : decode cX2_constant 47 = .ok (.invokevirtual 116, 3) := by decide +kernel
theorem dX2_constant_50 : decode cX2_constant 50 = .ok (.iconst 1, 1) := by decide +kernel
theorem dX2_constant_51 : decode cX2_constant 51 = .ok (.ireturn, 1) := by decide +kernel
theorem dX2_name_0 : decode cX2_name 0 = .ok (.aload_n 0, 1) := by decide +kernel
theorem dX2_name_1 : decode cX2_name 1 = .ok (.getfield 26, 3) := by decide +kernel
theorem dX2_name_4 : decode cX2_name 4 = .ok (.aload_n 0, 1) := by decide +kernel
theorem dX2_name_5 : decode cX2_name 5 = .ok (.getfield 51, 3) := by decide +kernel
theorem dX2_name_8 : decode cX2_name 8 = .ok (.iaload, 1) := by decide +kernel
theorem dX2_name_9 : decode cX2_name 9 = .ok (.istore_n 2, 1) := by decide +kernel
theorem dX2_name_10 : decode cX2_name 10 = .ok (.iload_n 1, 1) := by decide +kernel
theorem dX2_name_11 : decode cX2_name 11 = .ok (.bipush 10, 2) := by decide +kernel
theorem dX2_name_13 : decode cX2_name 13 = .ok (.if_icmp .ne 12, 3) := by decide +kernel
theorem dX2_name_16 : decode cX2_name 16 = .ok (.iload_n 2, 1) := by decide +kernel
theorem dX2_name_17 : decode cX2_name 17 = .ok (.bipush 9, 2) := by decide +kernel
theorem dX2_name_19 : decode cX2_name 19 = .ok (.if_icmp .ne 24, 3) := by decide +kernel
theorem dX2_name_22 : decode cX2_name 22 = .ok (.goto 15, 3) := by decide +kernel
theorem dX2_name_25 : decode cX2_name 25 = .ok (.iload_n 2, 1) := by decide +kernel
theorem dX2_name_26 : decode cX2_name 26 = .ok (.bipush 7, 2) := by decide +kernel
theorem dX2_name_28 : decode cX2_name 28 = .ok (.if_icmp .eq 9, 3) := by decide +kernel
theorem dX2_name_31 : decode cX2_name 31 = .ok (.iload_n 2, 1) := by decide +kernel
theorem dX2_name_32 : decode cX2_name 32 = .ok (.bipush 8, 2) := by decide +kernel
theorem dX2_name_34 : decode cX2_name 34 = .ok (.if_icmp .ne 9, 3) := by decide +kernel
theorem dX2_name_37 : decode cX2_name 37 = .ok (.aload_n 0, 1) := by decide +kernel
theorem dX2_name_38 : decode cX2_name 38 = .ok (.iconst 5, 1) := by decide +kernel
theorem dX2_name_39 : decode cX2_name 39 = .ok (.invokevirtual 113, 3) := by decide +kernel
theorem dX2_name_42 : decode cX2_name 42 = .ok (.ireturn, 1) := by decide +kernel
theorem dX2_name_43 : decode cX2_name 43 = .ok (.aload_n 0, 1) := by decide +kernel
theorem dX2_name_44 : decode cX2_name 44 = .ok (.getfield 22, 3) := by decide +kernel
theorem dX2_name_47 : decode cX2_name 47 = .ok (.iload_n 2, 1) := by decide +kernel
theorem dX2_name_48 : decode cX2_name 48 = .ok (.invokevirtual 160, 3) := by decide +kernel
theorem dX2_name_51 : decode cX2_name 51 = .ok (.aload_n 0, 1) := by decide +kernel
theorem dX2_name_52 : decode cX2_name 52 = .ok (.invokevirtual 116, 3) := by decide +kernel
theorem dX2_name_55 : decode cX2_name 55 = .ok (.iconst 1, 1) := by decide +kernel
theorem dX2_name_56 : decode cX2_name 56 = .ok (.ireturn, 1) := by decide +kernel
theorem dX2_emitted_0 : decode cX2_emitted 0 = .ok (.aload_n 0, 1) := by decide +kernel
theorem dX2_emitted_1 : decode cX2_emitted 1 = .ok (.getfield 22, 3) := by decide +kernel
theorem dX2_emitted_4 : decode cX2_emitted 4 = .ok (.iload_n 1, 1) := by decide +kernel
theorem dX2_emitted_5 : decode cX2_emitted 5 = .ok (.invokevirtual 160, 3) := by decide +kernel
theorem dX2_emitted_8 : decode cX2_emitted 8 = .ok (.iconst 1, 1) := by decide +kernel
theorem dX2_emitted_9 : decode cX2_emitted 9 = .ok (.ireturn, 1) := by decide +kernel
theorem dX2_choice_0 : decode cX2_choice 0 = .ok (.aload_n 0, 1) := by decide +kernel
theorem dX2_choice_1 : decode cX2_choice 1 = .ok (.iload_n 1, 1) := by decide +kernel
theorem dX2_choice_2 : decode cX2_choice 2 = .ok (.iload_n 2, 1) := by decide +kernel
theorem dX2_choice_3 : decode cX2_choice 3 = .ok (.invokevirtual 181, 3) := by decide +kernel
theorem dX2_choice_6 : decode cX2_choice 6 = .ok (.ifCond .eq 12, 3) := by decide +kernel
theorem dX2_choice_9 : decode cX2_choice 9 = .ok (.aload_n 0, 1) := by decide +kernel
theorem dX2_choice_10 : decode cX2_choice 10 = .ok (.bipush 23, 2) := by decide +kernel
theorem dX2_choice_12 : decode cX2_choice 12 = .ok (.invokevirtual 141, 3) := by decide +kernel
theorem dX2_choice_15 : decode cX2_choice 15 = .ok (.ifCond .ne 5, 3) := by decide +kernel
theorem dX2_choice_18 : decode cX2_choice 18 = .ok (.iconst 0, 1) := by decide +kernel
theorem dX2_choice_19 : decode cX2_choice 19 = .ok (.ireturn, 1) := by decide +kernel
theorem dX2_choice_20 : decode cX2_choice 20 = .ok (.aload_n 0, 1) := by decide +kernel
theorem dX2_choice_21 : decode cX2_choice 21 = .ok (.bipush 62, 2) := by decide +kernel
theorem dX2_choice_23 : decode cX2_choice 23 = .ok (.invokevirtual 184, 3) := by decide +kernel
theorem dX2_choice_26 : decode cX2_choice 26 = .ok (.istore_n 3, 1) := by decide +kernel
theorem dX2_choice_27 : decode cX2_choice 27 = .ok (.aload_n 0, 1) := by decide +kernel
theorem dX2_choice_28 : decode cX2_choice 28 = .ok (.iload_n 1, 1) := by decide +kernel
theorem dX2_choice_29 : decode cX2_choice 29 = .ok (.iload_n 2, 1) := by decide +kernel
theorem dX2_choice_30 : decode cX2_choice 30 = .ok (.invokevirtual 157, 3) := by decide +kernel
theorem dX2_choice_33 : decode cX2_choice 33 = .ok (.ifCond .eq 12, 3) := by decide +kernel
theorem dX2_choice_36 : decode cX2_choice 36 = .ok (.aload_n 0, 1) := by decide +kernel
theorem dX2_choice_37 : decode cX2_choice 37 = .ok (.bipush 24, 2) := by decide +kernel
theorem dX2_choice_39 : decode cX2_choice 39 = .ok (.invokevirtual 141, 3) := by decide +kernel
theorem dX2_choice_42 : decode cX2_choice 42 = .ok (.ifCond .ne 5, 3) := by decide +kernel
theorem dX2_choice_45 : decode cX2_choice 45 = .ok (.iconst 0, 1) := by decide +kernel
theorem dX2_choice_46 : decode cX2_choice 46 = .ok (.ireturn, 1) := by decide +kernel
theorem dX2_choice_47 : decode cX2_choice 47 = .ok (.aload_n 0, 1) := by decide +kernel
theorem dX2_choice_48 : decode cX2_choice 48 = .ok (.bipush 61, 2) := by decide +kernel
theorem dX2_choice_50 : decode cX2_choice 50 = .ok (.invokevirtual 184, 3) := by decide +kernel
theorem dX2_choice_53 : decode cX2_choice 53 = .ok (.istore 4, 2) := by decide +kernel
theorem dX2_choice_55 : decode cX2_choice 55 = .ok (.aload_n 0, 1) := by decide +kernel
theorem dX2_choice_56 : decode cX2_choice 56 = .ok (.getfield 22, 3) := by decide +kernel
theorem dX2_choice_59 : decode cX2_choice 59 = .ok (.iload_n 3, 1) := by decide +kernel
theorem dX2_choice_60 : decode cX2_choice 60 = .ok (.invokevirtual 187, 3) := by decide +kernel
theorem dX2_choice_63 : decode cX2_choice 63 = .ok (.aload_n 0, 1) := by decide +kernel
theorem dX2_choice_64 : decode cX2_choice 64 = .ok (.iload_n 1, 1) := by decide +kernel
theorem dX2_choice_65 : decode cX2_choice 65 = .ok (.iload_n 2, 1) := by decide +kernel
theorem dX2_choice_66 : decode cX2_choice 66 = .ok (.invokevirtual 157, 3) := by decide +kernel
theorem dX2_choice_69 : decode cX2_choice 69 = .ok (.ifCond .eq 12, 3) := by decide +kernel
theorem dX2_choice_72 : decode cX2_choice 72 = .ok (.aload_n 0, 1) := by decide +kernel
theorem dX2_choice_73 : decode cX2_choice 73 = .ok (.bipush 25, 2) := by decide +kernel
theorem dX2_choice_75 : decode cX2_choice 75 = .ok (.invokevirtual 141, 3) := by decide +kernel
theorem dX2_choice_78 : decode cX2_choice 78 = .ok (.ifCond .ne 5, 3) := by decide +kernel
theorem dX2_choice_81 : decode cX2_choice 81 = .ok (.iconst 0, 1) := by decide +kernel
theorem dX2_choice_82 : decode cX2_choice 82 = .ok (.ireturn, 1) := by decide +kernel
theorem dX2_choice_83 : decode cX2_choice 83 = .ok (.aload_n 0, 1) := by decide +kernel
theorem dX2_choice_84 : decode cX2_choice 84 = .ok (.getfield 22, 3) := by decide +kernel
theorem dX2_choice_87 : decode cX2_choice 87 = .ok (.iload 4, 2) := by decide +kernel
theorem dX2_choice_89 : decode cX2_choice 89 = .ok (.invokevirtual 187, 3) := by decide +kernel
theorem dX2_choice_92 : decode cX2_choice 92 = .ok (.iconst 1, 1) := by decide +kernel
theorem dX2_choice_93 : decode cX2_choice 93 = .ok (.ireturn, 1) := by decide +kernel
theorem dX2_emitJump_0 : decode cX2_emitJump 0 = .ok (.aload_n 0, 1) := by decide +kernel
theorem dX2_emitJump_1 : decode cX2_emitJump 1 = .ok (.getfield 22, 3) := by decide +kernel
theorem dX2_emitJump_4 : decode cX2_emitJump 4 = .ok (.iload_n 1, 1) := by decide +kernel
theorem dX2_emitJump_5 : decode cX2_emitJump 5 = .ok (.invokevirtual 160, 3) := by decide +kernel
theorem dX2_emitJump_8 : decode cX2_emitJump 8 = .ok (.aload_n 0, 1) := by decide +kernel
theorem dX2_emitJump_9 : decode cX2_emitJump 9 = .ok (.getfield 22, 3) := by decide +kernel
theorem dX2_emitJump_12 : decode cX2_emitJump 12 = .ok (.iconst 0, 1) := by decide +kernel
theorem dX2_emitJump_13 : decode cX2_emitJump 13 = .ok (.invokevirtual 160, 3) := by decide +kernel
theorem dX2_emitJump_16 : decode cX2_emitJump 16 = .ok (.aload_n 0, 1) := by decide +kernel
theorem dX2_emitJump_17 : decode cX2_emitJump 17 = .ok (.getfield 22, 3) := by decide +kernel
theorem dX2_emitJump_20 : decode cX2_emitJump 20 = .ok (.getfield 154, 3) := by decide +kernel
theorem dX2_emitJump_23 : decode cX2_emitJump 23 = .ok (.iconst 1, 1) := by decide +kernel
theorem dX2_emitJump_24 : decode cX2_emitJump 24 = .ok (.isub, 1) := by decide +kernel
theorem dX2_emitJump_25 : decode cX2_emitJump 25 = .ok (.ireturn, 1) := by decide +kernel
theorem dX2_either_0 : decode cX2_either 0 = .ok (.aload_n 0, 1) := by decide +kernel
theorem dX2_either_1 : decode cX2_either 1 = .ok (.iload_n 1, 1) := by decide +kernel
theorem dX2_either_2 : decode cX2_either 2 = .ok (.iload_n 2, 1) := by decide +kernel
theorem dX2_either_3 : decode cX2_either 3 = .ok (.invokevirtual 190, 3) := by decide +kernel
theorem dX2_either_6 : decode cX2_either 6 = .ok (.ifCond .ne 5, 3) := by decide +kernel
theorem dX2_either_9 : decode cX2_either 9 = .ok (.iconst 0, 1) := by decide +kernel
theorem dX2_either_10 : decode cX2_either 10 = .ok (.ireturn, 1) := by decide +kernel
theorem dX2_either_11 : decode cX2_either 11 = .ok (.iconst 0, 1) := by decide +kernel
theorem dX2_either_12 : decode cX2_either 12 = .ok (.istore_n 3, 1) := by decide +kernel
theorem dX2_either_13 : decode cX2_either 13 = .ok (.iload_n 3, 1) := by decide +kernel
theorem dX2_either_14 : decode cX2_either 14 = .ok (.sipush 300, 3) := by decide +kernel
theorem dX2_either_17 : decode cX2_either 17 = .ok (.if_icmp .ge 47, 3) := by decide +kernel
theorem dX2_either_20 : decode cX2_either 20 = .ok (.aload_n 0, 1) := by decide +kernel
theorem dX2_either_21 : decode cX2_either 21 = .ok (.getfield 26, 3) := by decide +kernel
theorem dX2_either_24 : decode cX2_either 24 = .ok (.aload_n 0, 1) := by decide +kernel
theorem dX2_either_25 : decode cX2_either 25 = .ok (.getfield 51, 3) := by decide +kernel
theorem dX2_either_28 : decode cX2_either 28 = .ok (.iaload, 1) := by decide +kernel
theorem dX2_either_29 : decode cX2_either 29 = .ok (.bipush 26, 2) := by decide +kernel
theorem dX2_either_31 : decode cX2_either 31 = .ok (.if_icmp .ne 33, 3) := by decide +kernel
theorem dX2_either_34 : decode cX2_either 34 = .ok (.aload_n 0, 1) := by decide +kernel
theorem dX2_either_35 : decode cX2_either 35 = .ok (.invokevirtual 116, 3) := by decide +kernel
theorem dX2_either_38 : decode cX2_either 38 = .ok (.aload_n 0, 1) := by decide +kernel
theorem dX2_either_39 : decode cX2_either 39 = .ok (.iload_n 1, 1) := by decide +kernel
theorem dX2_either_40 : decode cX2_either 40 = .ok (.iload_n 2, 1) := by decide +kernel
theorem dX2_either_41 : decode cX2_either 41 = .ok (.invokevirtual 190, 3) := by decide +kernel
theorem dX2_either_44 : decode cX2_either 44 = .ok (.ifCond .ne 5, 3) := by decide +kernel
theorem dX2_either_47 : decode cX2_either 47 = .ok (.iconst 0, 1) := by decide +kernel
theorem dX2_either_48 : decode cX2_either 48 = .ok (.ireturn, 1) := by decide +kernel
theorem dX2_either_49 : decode cX2_either 49 = .ok (.aload_n 0, 1) := by decide +kernel
theorem dX2_either_50 : decode cX2_either 50 = .ok (.getfield 22, 3) := by decide +kernel
theorem dX2_either_53 : decode cX2_either 53 = .ok (.bipush 26, 2) := by decide +kernel
theorem dX2_either_55 : decode cX2_either 55 = .ok (.invokevirtual 160, 3) := by decide +kernel
theorem dX2_either_58 : decode cX2_either 58 = .ok (.iinc 3 1, 3) := by decide +kernel
theorem dX2_either_61 : decode cX2_either 61 = .ok (.goto (-48), 3) := by decide +kernel
theorem dX2_either_64 : decode cX2_either 64 = .ok (.iconst 1, 1) := by decide +kernel
theorem dX2_either_65 : decode cX2_either 65 = .ok (.ireturn, 1) := by decide +kernel
theorem dX2_both_0 : decode cX2_both 0 = .ok (.aload_n 0, 1) := by decide +kernel
theorem dX2_both_1 : decode cX2_both 1 = .ok (.iload_n 1, 1) := by decide +kernel
theorem dX2_both_2 : decode cX2_both 2 = .ok (.iload_n 2, 1) := by decide +kernel
theorem dX2_both_3 : decode cX2_both 3 = .ok (.invokevirtual 193, 3) := by decide +kernel
theorem dX2_both_6 : decode cX2_both 6 = .ok (.ifCond .ne 5, 3) := by decide +kernel
theorem dX2_both_9 : decode cX2_both 9 = .ok (.iconst 0, 1) := by decide +kernel
theorem dX2_both_10 : decode cX2_both 10 = .ok (.ireturn, 1) := by decide +kernel
theorem dX2_both_11 : decode cX2_both 11 = .ok (.iconst 0, 1) := by decide +kernel
theorem dX2_both_12 : decode cX2_both 12 = .ok (.istore_n 3, 1) := by decide +kernel
theorem dX2_both_13 : decode cX2_both 13 = .ok (.iload_n 3, 1) := by decide +kernel
theorem dX2_both_14 : decode cX2_both 14 = .ok (.sipush 300, 3) := by decide +kernel
theorem dX2_both_17 : decode cX2_both 17 = .ok (.if_icmp .ge 47, 3) := by decide +kernel
theorem dX2_both_20 : decode cX2_both 20 = .ok (.aload_n 0, 1) := by decide +kernel
theorem dX2_both_21 : decode cX2_both 21 = .ok (.getfield 26, 3) := by decide +kernel
theorem dX2_both_24 : decode cX2_both 24 = .ok (.aload_n 0, 1) := by decide +kernel
theorem dX2_both_25 : decode cX2_both 25 = .ok (.getfield 51, 3) := by decide +kernel
theorem dX2_both_28 : decode cX2_both 28 = .ok (.iaload, 1) := by decide +kernel
theorem dX2_both_29 : decode cX2_both 29 = .ok (.bipush 27, 2) := by decide +kernel
theorem dX2_both_31 : decode cX2_both 31 = .ok (.if_icmp .ne 33, 3) := by decide +kernel
theorem dX2_both_34 : decode cX2_both 34 = .ok (.aload_n 0, 1) := by decide +kernel
theorem dX2_both_35 : decode cX2_both 35 = .ok (.invokevirtual 116, 3) := by decide +kernel
theorem dX2_both_38 : decode cX2_both 38 = .ok (.aload_n 0, 1) := by decide +kernel
theorem dX2_both_39 : decode cX2_both 39 = .ok (.iload_n 1, 1) := by decide +kernel
theorem dX2_both_40 : decode cX2_both 40 = .ok (.iload_n 2, 1) := by decide +kernel
theorem dX2_both_41 : decode cX2_both 41 = .ok (.invokevirtual 193, 3) := by decide +kernel
theorem dX2_both_44 : decode cX2_both 44 = .ok (.ifCond .ne 5, 3) := by decide +kernel
theorem dX2_both_47 : decode cX2_both 47 = .ok (.iconst 0, 1) := by decide +kernel
theorem dX2_both_48 : decode cX2_both 48 = .ok (.ireturn, 1) := by decide +kernel
theorem dX2_both_49 : decode cX2_both 49 = .ok (.aload_n 0, 1) := by decide +kernel
theorem dX2_both_50 : decode cX2_both 50 = .ok (.getfield 22, 3) := by decide +kernel
theorem dX2_both_53 : decode cX2_both 53 = .ok (.bipush 27, 2) := by decide +kernel
theorem dX2_both_55 : decode cX2_both 55 = .ok (.invokevirtual 160, 3) := by decide +kernel
theorem dX2_both_58 : decode cX2_both 58 = .ok (.iinc 3 1, 3) := by decide +kernel
theorem dX2_both_61 : decode cX2_both 61 = .ok (.goto (-48), 3) := by decide +kernel
theorem dX2_both_64 : decode cX2_both 64 = .ok (.iconst 1, 1) := by decide +kernel
theorem dX2_both_65 : decode cX2_both 65 = .ok (.ireturn, 1) := by decide +kernel
theorem dX2_ask_0 : decode cX2_ask 0 = .ok (.aload_n 0, 1) := by decide +kernel
theorem dX2_ask_1 : decode cX2_ask 1 = .ok (.getfield 26, 3) := by decide +kernel
theorem dX2_ask_4 : decode cX2_ask 4 = .ok (.aload_n 0, 1) := by decide +kernel
theorem dX2_ask_5 : decode cX2_ask 5 = .ok (.getfield 51, 3) := by decide +kernel
theorem dX2_ask_8 : decode cX2_ask 8 = .ok (.iaload, 1) := by decide +kernel
theorem dX2_ask_9 : decode cX2_ask 9 = .ok (.bipush 28, 2) := by decide +kernel
theorem dX2_ask_11 : decode cX2_ask 11 = .ok (.if_icmp .ne 45, 3) := by decide +kernel
theorem dX2_ask_14 : decode cX2_ask 14 = .ok (.iload_n 2, 1) := by decide +kernel
theorem dX2_ask_15 : decode cX2_ask 15 = .ok (.bipush 8, 2) := by decide +kernel
theorem dX2_ask_17 : decode cX2_ask 17 = .ok (.if_icmp .lt 9, 3) := by decide +kernel
theorem dX2_ask_20 : decode cX2_ask 20 = .ok (.aload_n 0, 1) := by decide +kernel
theorem dX2_ask_21 : decode cX2_ask 21 = .ok (.iconst 3, 1) := by decide +kernel
theorem dX2_ask_22 : decode cX2_ask 22 = .ok (.invokevirtual 113, 3) := by decide +kernel
theorem dX2_ask_25 : decode cX2_ask 25 = .ok (.ireturn, 1) := by decide +kernel
theorem dX2_ask_26 : decode cX2_ask 26 = .ok (.aload_n 0, 1) := by decide +kernel
theorem dX2_ask_27 : decode cX2_ask 27 = .ok (.invokevirtual 116, 3) := by decide +kernel
theorem dX2_ask_30 : decode cX2_ask 30 = .ok (.aload_n 0, 1) := by decide +kernel
theorem dX2_ask_31 : decode cX2_ask 31 = .ok (.iload_n 1, 1) := by decide +kernel
theorem dX2_ask_32 : decode cX2_ask 32 = .ok (.iload_n 2, 1) := by decide +kernel
theorem dX2_ask_33 : decode cX2_ask 33 = .ok (.iconst 1, 1) := by decide +kernel
theorem dX2_ask_34 : decode cX2_ask 34 = .ok (.iadd, 1) := by decide +kernel
theorem dX2_ask_35 : decode cX2_ask 35 = .ok (.invokevirtual 193, 3) := by decide +kernel
theorem dX2_ask_38 : decode cX2_ask 38 = .ok (.ifCond .eq 16, 3) := by decide +kernel
theorem dX2_ask_41 : decode cX2_ask 41 = .ok (.aload_n 0, 1) := by decide +kernel
theorem dX2_ask_42 : decode cX2_ask 42 = .ok (.bipush 28, 2) := by decide +kernel
theorem dX2_ask_44 : decode cX2_ask 44 = .ok (.invokevirtual 175, 3) := by decide +kernel
theorem dX2_ask_47 : decode cX2_ask 47 = .ok (.ifCond .eq 7, 3) := by decide +kernel
theorem dX2_ask_50 : decode cX2_ask 50 = .ok (.iconst 1, 1) := by decide +kernel
theorem dX2_ask_51 : decode cX2_ask 51 = .ok (.goto 4, 3) := by decide +kernel
theorem dX2_ask_54 : decode cX2_ask 54 = .ok (.iconst 0, 1) := by decide +kernel
theorem dX2_ask_55 : decode cX2_ask 55 = .ok (.ireturn, 1) := by decide +kernel
theorem dX2_ask_56 : decode cX2_ask 56 = .ok (.aload_n 0, 1) := by decide +kernel
theorem dX2_ask_57 : decode cX2_ask 57 = .ok (.iload_n 1, 1) := by decide +kernel
theorem dX2_ask_58 : decode cX2_ask 58 = .ok (.iload_n 2, 1) := by decide +kernel
theorem dX2_ask_59 : decode cX2_ask 59 = .ok (.invokevirtual 157, 3) := by decide +kernel
theorem dX2_ask_62 : decode cX2_ask 62 = .ok (.ifCond .ne 5, 3) := by decide +kernel
theorem dX2_ask_65 : decode cX2_ask 65 = .ok (.iconst 0, 1) := by decide +kernel
theorem dX2_ask_66 : decode cX2_ask 66 = .ok (.ireturn, 1) := by decide +kernel
theorem dX2_ask_67 : decode cX2_ask 67 = .ok (.aload_n 0, 1) := by decide +kernel
theorem dX2_ask_68 : decode cX2_ask 68 = .ok (.getfield 26, 3) := by decide +kernel
theorem dX2_ask_71 : decode cX2_ask 71 = .ok (.aload_n 0, 1) := by decide +kernel
theorem dX2_ask_72 : decode cX2_ask 72 = .ok (.getfield 51, 3) := by decide +kernel
theorem dX2_ask_75 : decode cX2_ask 75 = .ok (.iaload, 1) := by decide +kernel
theorem dX2_ask_76 : decode cX2_ask 76 = .ok (.istore_n 3, 1) := by decide +kernel
theorem dX2_ask_77 : decode cX2_ask 77 = .ok (.iload_n 3, 1) := by decide +kernel
theorem dX2_ask_78 : decode cX2_ask 78 = .ok (.bipush 41, 2) := by decide +kernel
theorem dX2_ask_80 : decode cX2_ask 80 = .ok (.if_icmp .lt 9, 3) := by decide +kernel
theorem dX2_ask_83 : decode cX2_ask 83 = .ok (.iload_n 3, 1) := by decide +kernel
theorem dX2_ask_84 : decode cX2_ask 84 = .ok (.bipush 46, 2) := by decide +kernel
theorem dX2_ask_86 : decode cX2_ask 86 = .ok (.if_icmp .le 9, 3) := by decide +kernel
theorem dX2_ask_89 : decode cX2_ask 89 = .ok (.aload_n 0, 1) := by decide +kernel
theorem dX2_ask_90 : decode cX2_ask 90 = .ok (.iconst 1, 1) := by decide +kernel
theorem dX2_ask_91 : decode cX2_ask 91 = .ok (.invokevirtual 113, 3) := by decide +kernel
theorem dX2_ask_94 : decode cX2_ask 94 = .ok (.ireturn, 1) := by decide +kernel
theorem dX2_ask_95 : decode cX2_ask 95 = .ok (.aload_n 0, 1) := by decide +kernel
theorem dX2_ask_96 : decode cX2_ask 96 = .ok (.invokevirtual 116, 3) := by decide +kernel
theorem dX2_ask_99 : decode cX2_ask 99 = .ok (.aload_n 0, 1) := by decide +kernel
theorem dX2_ask_100 : decode cX2_ask 100 = .ok (.iload_n 1, 1) := by decide +kernel
theorem dX2_ask_101 : decode cX2_ask 101 = .ok (.iload_n 2, 1) := by decide +kernel
theorem dX2_ask_102 : decode cX2_ask 102 = .ok (.invokevirtual 157, 3) := by decide +kernel
theorem dX2_ask_105 : decode cX2_ask 105 = .ok (.ifCond .eq 15, 3) := by decide +kernel
theorem dX2_ask_108 : decode cX2_ask 108 = .ok (.aload_n 0, 1) := by decide +kernel
theorem dX2_ask_109 : decode cX2_ask 109 = .ok (.iload_n 3, 1) := by decide +kernel
theorem dX2_ask_110 : decode cX2_ask 110 = .ok (.invokevirtual 175, 3) := by decide +kernel
theorem dX2_ask_113 : decode cX2_ask 113 = .ok (.ifCond .eq 7, 3) := by decide +kernel
theorem dX2_ask_116 : decode cX2_ask 116 = .ok (.iconst 1, 1) := by decide +kernel
theorem dX2_ask_117 : decode cX2_ask 117 = .ok (.goto 4, 3) := by decide +kernel
theorem dX2_ask_120 : decode cX2_ask 120 = .ok (.iconst 0, 1) := by decide +kernel
theorem dX2_ask_121 : decode cX2_ask 121 = .ok (.ireturn, 1) := by decide +kernel
theorem dX3_init_0 : decode cX3_init 0 = .ok (.aload_n 0, 1) := by decide +kernel
theorem dX3_init_1 : decode cX3_init 1 = .ok (.invokespecial 3, 3) := by decide +kernel
theorem dX3_init_4 : decode cX3_init 4 = .ok (.aload_n 0, 1) := by decide +kernel
theorem dX3_init_5 : decode cX3_init 5 = .ok (.iconst (-1), 1) := by decide +kernel
theorem dX3_init_6 : decode cX3_init 6 = .ok (.putfield 9, 3) := by decide +kernel
theorem dX3_init_9 : decode cX3_init 9 = .ok (.aload_n 0, 1) := by decide +kernel
theorem dX3_init_10 : decode cX3_init 10 = .ok (.iconst (-1), 1) := by decide +kernel
theorem dX3_init_11 : decode cX3_init 11 = .ok (.putfield 15, 3) := by decide +kernel
theorem dX3_init_14 : decode cX3_init 14 = .ok (.aload_n 0, 1) := by decide +kernel
theorem dX3_init_15 : decode cX3_init 15 = .ok (.bipush 24, 2) := by decide +kernel
theorem dX3_init_17 : decode cX3_init 17 = .ok (.newarray .int, 2) := by decide +kernel
theorem dX3_init_19 : decode cX3_init 19 = .ok (.putfield 18, 3) := by decide +kernel
theorem dX3_init_22 : decode cX3_init 22 = .ok (.aload_n 0, 1) := by decide +kernel
theorem dX3_init_23 : decode cX3_init 23 = .ok (.bipush 72, 2) := by decide +kernel
theorem dX3_init_25 : decode cX3_init 25 = .ok (.newarray .int, 2) := by decide +kernel
theorem dX3_init_27 : decode cX3_init 27 = .ok (.putfield 22, 3) := by decide +kernel
theorem dX3_init_30 : decode cX3_init 30 = .ok (.aload_n 0, 1) := by decide +kernel
theorem dX3_init_31 : decode cX3_init 31 = .ok (.sipush 600, 3) := by decide +kernel
theorem dX3_init_34 : decode cX3_init 34 = .ok (.newarray .int, 2) := by decide +kernel
theorem dX3_init_36 : decode cX3_init 36 = .ok (.putfield 25, 3) := by decide +kernel
theorem dX3_init_39 : decode cX3_init 39 = .ok (.return_, 1) := by decide +kernel
theorem dX3_empty_0 : decode cX3_empty 0 = .ok (.aload_n 0, 1) := by decide +kernel
theorem dX3_empty_1 : decode cX3_empty 1 = .ok (.iconst 0, 1) := by decide +kernel
theorem dX3_empty_2 : decode cX3_empty 2 = .ok (.putfield 28, 3) := by decide +kernel
theorem dX3_empty_5 : decode cX3_empty 5 = .ok (.aload_n 0, 1) := by decide +kernel
theorem dX3_empty_6 : decode cX3_empty 6 = .ok (.iconst 0, 1) := by decide +kernel
theorem dX3_empty_7 : decode cX3_empty 7 = .ok (.putfield 31, 3) := by decide +kernel
theorem dX3_empty_10 : decode cX3_empty 10 = .ok (.aload_n 0, 1) := by decide +kernel
theorem dX3_empty_11 : decode cX3_empty 11 = .ok (.iconst 0, 1) := by decide +kernel
theorem dX3_empty_12 : decode cX3_empty 12 = .ok (.putfield 34, 3) := by decide +kernel
theorem dX3_empty_15 : decode cX3_empty 15 = .ok (.aload_n 0, 1) := by decide +kernel
theorem dX3_empty_16 : decode cX3_empty 16 = .ok (.iconst (-1), 1) := by decide +kernel
theorem dX3_empty_17 : decode cX3_empty 17 = .ok (.putfield 9, 3) := by decide +kernel
theorem dX3_empty_20 : decode cX3_empty 20 = .ok (.aload_n 0, 1) := by decide +kernel
theorem dX3_empty_21 : decode cX3_empty 21 = .ok (.iconst (-1), 1) := by decide +kernel
theorem dX3_empty_22 : decode cX3_empty 22 = .ok (.putfield 15, 3) := by decide +kernel
theorem dX3_empty_25 : decode cX3_empty 25 = .ok (.return_, 1) := by decide +kernel
theorem dX3_copy_0 : decode cX3_copy 0 = .ok (.aload_n 0, 1) := by decide +kernel
theorem dX3_copy_1 : decode cX3_copy 1 = .ok (.aload_n 1, 1) := by decide +kernel
theorem dX3_copy_2 : decode cX3_copy 2 = .ok (.getfield 28, 3) := by decide +kernel
theorem dX3_copy_5 : decode cX3_copy 5 = .ok (.putfield 28, 3) := by decide +kernel
theorem dX3_copy_8 : decode cX3_copy 8 = .ok (.aload_n 0, 1) := by decide +kernel
theorem dX3_copy_9 : decode cX3_copy 9 = .ok (.aload_n 1, 1) := by decide +kernel
theorem dX3_copy_10 : decode cX3_copy 10 = .ok (.getfield 31, 3) := by decide +kernel
theorem dX3_copy_13 : decode cX3_copy 13 = .ok (.putfield 31, 3) := by decide +kernel
theorem dX3_copy_16 : decode cX3_copy 16 = .ok (.aload_n 0, 1) := by decide +kernel
theorem dX3_copy_17 : decode cX3_copy 17 = .ok (.aload_n 1, 1) := by decide +kernel
theorem dX3_copy_18 : decode cX3_copy 18 = .ok (.getfield 34, 3) := by decide +kernel
theorem dX3_copy_21 : decode cX3_copy 21 = .ok (.putfield 34, 3) := by decide +kernel
theorem dX3_copy_24 : decode cX3_copy 24 = .ok (.aload_n 0, 1) := by decide +kernel
theorem dX3_copy_25 : decode cX3_copy 25 = .ok (.aload_n 1, 1) := by decide +kernel
theorem dX3_copy_26 : decode cX3_copy 26 = .ok (.getfield 9, 3) := by decide +kernel
theorem dX3_copy_29 : decode cX3_copy 29 = .ok (.putfield 9, 3) := by decide +kernel
theorem dX3_copy_32 : decode cX3_copy 32 = .ok (.aload_n 0, 1) := by decide +kernel
theorem dX3_copy_33 : decode cX3_copy 33 = .ok (.aload_n 1, 1) := by decide +kernel
theorem dX3_copy_34 : decode cX3_copy 34 = .ok (.getfield 15, 3) := by decide +kernel
theorem dX3_copy_37 : decode cX3_copy 37 = .ok (.putfield 15, 3) := by decide +kernel
theorem dX3_copy_40 : decode cX3_copy 40 = .ok (.aload_n 1, 1) := by decide +kernel
theorem dX3_copy_41 : decode cX3_copy 41 = .ok (.getfield 18, 3) := by decide +kernel
theorem dX3_copy_44 : decode cX3_copy 44 = .ok (.iconst 0, 1) := by decide +kernel
theorem dX3_copy_45 : decode cX3_copy 45 = .ok (.aload_n 0, 1) := by decide +kernel
theorem dX3_copy_46 : decode cX3_copy 46 = .ok (.getfield 18, 3) := by decide +kernel
theorem dX3_copy_49 : decode cX3_copy 49 = .ok (.iconst 0, 1) := by decide +kernel
theorem dX3_copy_50 : decode cX3_copy 50 = .ok (.bipush 24, 2) := by decide +kernel
theorem dX3_copy_52 : decode cX3_copy 52 = .ok (.invokestatic 37, 3) := by decide +kernel
theorem dX3_copy_55 : decode cX3_copy 55 = .ok (.aload_n 1, 1) := by decide +kernel
theorem dX3_copy_56 : decode cX3_copy 56 = .ok (.getfield 22, 3) := by decide +kernel
theorem dX3_copy_59 : decode cX3_copy 59 = .ok (.iconst 0, 1) := by decide +kernel
theorem dX3_copy_60 : decode cX3_copy 60 = .ok (.aload_n 0, 1) := by decide +kernel
theorem dX3_copy_61 : decode cX3_copy 61 = .ok (.getfield 22, 3) := by decide +kernel
theorem dX3_copy_64 : decode cX3_copy 64 = .ok (.iconst 0, 1) := by decide +kernel
theorem dX3_copy_65 : decode cX3_copy 65 = .ok (.bipush 72, 2) := by decide +kernel
theorem dX3_copy_67 : decode cX3_copy 67 = .ok (.invokestatic 37, 3) := by decide +kernel
theorem dX3_copy_70 : decode cX3_copy 70 = .ok (.aload_n 1, 1) := by decide +kernel
theorem dX3_copy_71 : decode cX3_copy 71 = .ok (.getfield 25, 3) := by decide +kernel
theorem dX3_copy_74 : decode cX3_copy 74 = .ok (.iconst 0, 1) := by decide +kernel
theorem dX3_copy_75 : decode cX3_copy 75 = .ok (.aload_n 0, 1) := by decide +kernel
theorem dX3_copy_76 : decode cX3_copy 76 = .ok (.getfield 25, 3) := by decide +kernel
theorem dX3_copy_79 : decode cX3_copy 79 = .ok (.iconst 0, 1) := by decide +kernel
theorem dX3_copy_80 : decode cX3_copy 80 = .ok (.sipush 600, 3) := by decide +kernel
theorem dX3_copy_83 : decode cX3_copy 83 = .ok (.invokestatic 37, 3) := by decide +kernel
theorem dX3_copy_86 : decode cX3_copy 86 = .ok (.return_, 1) := by decide +kernel
theorem dX3_addClause_0 : decode cX3_addClause 0 = .ok (.aload_n 0, 1) := by decide +kernel
theorem dX3_addClause_1 : decode cX3_addClause 1 = .ok (.getfield 28, 3) := by decide +kernel
theorem dX3_addClause_4 : decode cX3_addClause 4 = .ok (.bipush 24, 2) := by decide +kernel
theorem dX3_addClause_6 : decode cX3_addClause 6 = .ok (.if_icmp .ge 28, 3) := by decide +kernel
theorem dX3_addClause_9 : decode cX3_addClause 9 = .ok (.aload_n 0, 1) := by decide +kernel
theorem dX3_addClause_10 : decode cX3_addClause 10 = .ok (.getfield 18, 3) := by decide +kernel
theorem dX3_addClause_13 : decode cX3_addClause 13 = .ok (.aload_n 0, 1) := by decide +kernel
theorem dX3_addClause_14 : decode cX3_addClause 14 = .ok (.getfield 28, 3) := by decide +kernel
theorem dX3_addClause_17 : decode cX3_addClause 17 = .ok (.iload_n 1, 1) := by decide +kernel
theorem dX3_addClause_18 : decode cX3_addClause 18 = .ok (.iastore, 1) := by decide +kernel
theorem dX3_addClause_19 : decode cX3_addClause 19 = .ok (.aload_n 0, 1) := by decide +kernel
theorem dX3_addClause_20 : decode cX3_addClause 20 = .ok (.dup, 1) := by decide +kernel
theorem dX3_addClause_21 : decode cX3_addClause 21 = .ok (.getfield 28, 3) := by decide +kernel
theorem dX3_addClause_24 : decode cX3_addClause 24 = .ok (.iconst 1, 1) := by decide +kernel
theorem dX3_addClause_25 : decode cX3_addClause 25 = .ok (.iadd, 1) := by decide +kernel
theorem dX3_addClause_26 : decode cX3_addClause 26 = .ok (.putfield 28, 3) := by decide +kernel
theorem dX3_addClause_29 : decode cX3_addClause 29 = .ok (.aload_n 0, 1) := by decide +kernel
theorem dX3_addClause_30 : decode cX3_addClause 30 = .ok (.iconst 0, 1) := by decide +kernel
theorem dX3_addClause_31 : decode cX3_addClause 31 = .ok (.putfield 31, 3) := by decide +kernel
theorem dX3_addClause_34 : decode cX3_addClause 34 = .ok (.return_, 1) := by decide +kernel
theorem dX3_addNumber_0 : decode cX3_addNumber 0 = .ok (.aload_n 0, 1) := by decide +kernel
theorem dX3_addNumber_1 : decode cX3_addNumber 1 = .ok (.getfield 28, 3) := by decide +kernel
theorem dX3_addNumber_4 : decode cX3_addNumber 4 = .ok (.iconst 1, 1) := by decide +kernel
theorem dX3_addNumber_5 : decode cX3_addNumber 5 = .ok (.isub, 1) := by decide +kernel
theorem dX3_addNumber_6 : decode cX3_addNumber 6 = .ok (.iconst 3, 1) := by decide +kernel
theorem dX3_addNumber_7 : decode cX3_addNumber 7 = .ok (.imul, 1) := by decide +kernel
theorem dX3_addNumber_8 : decode cX3_addNumber 8 = .ok (.aload_n 0, 1) := by decide +kernel
theorem dX3_addNumber_9 : decode cX3_addNumber 9 = .ok (.getfield 31, 3) := by decide +kernel
theorem dX3_addNumber_12 : decode cX3_addNumber 12 = .ok (.iadd, 1) := by decide +kernel
theorem dX3_addNumber_13 : decode cX3_addNumber 13 = .ok (.istore_n 2, 1) := by decide +kernel
theorem dX3_addNumber_14 : decode cX3_addNumber 14 = .ok (.aload_n 0, 1) := by decide +kernel
theorem dX3_addNumber_15 : decode cX3_addNumber 15 = .ok (.getfield 28, 3) := by decide +kernel
theorem dX3_addNumber_18 : decode cX3_addNumber 18 = .ok (.ifCond .le 37, 3) := by decide +kernel
theorem dX3_addNumber_21 : decode cX3_addNumber 21 = .ok (.aload_n 0, 1) := by decide +kernel
theorem dX3_addNumber_22 : decode cX3_addNumber 22 = .ok (.getfield 31, 3) := by decide +kernel
theorem dX3_addNumber_25 : decode cX3_addNumber 25 = .ok (.iconst 3, 1) := by decide +kernel
theorem dX3_addNumber_26 : decode cX3_addNumber 26 = .ok (.if_icmp .ge 29, 3) := by decide +kernel
theorem dX3_addNumber_29 : decode cX3_addNumber 29 = .ok (.iload_n 2, 1) := by decide +kernel
theorem dX3_addNumber_30 : decode cX3_addNumber 30 = .ok (.aload_n 0, 1) := by decide +kernel
theorem dX3_addNumber_31 : decode cX3_addNumber 31 = .ok (.getfield 22, 3) := by decide +kernel
theorem dX3_addNumber_34 : decode cX3_addNumber 34 = .ok (.arraylength, 1) := by decide +kernel
theorem dX3_addNumber_35 : decode cX3_addNumber 35 = .ok (.if_icmp .ge 20, 3) := by decide +kernel
theorem dX3_addNumber_38 : decode cX3_addNumber 38 = .ok (.aload_n 0, 1) := by decide +kernel
theorem dX3_addNumber_39 : decode cX3_addNumber 39 = .ok (.getfield 22, 3) := by decide +kernel
theorem dX3_addNumber_42 : decode cX3_addNumber 42 = .ok (.iload_n 2, 1) := by decide +kernel
theorem dX3_addNumber_43 : decode cX3_addNumber 43 = .ok (.iload_n 1, 1) := by decide +kernel
theorem dX3_addNumber_44 : decode cX3_addNumber 44 = .ok (.iastore, 1) := by decide +kernel
theorem dX3_addNumber_45 : decode cX3_addNumber 45 = .ok (.aload_n 0, 1) := by decide +kernel
theorem dX3_addNumber_46 : decode cX3_addNumber 46 = .ok (.dup, 1) := by decide +kernel
theorem dX3_addNumber_47 : decode cX3_addNumber 47 = .ok (.getfield 31, 3) := by decide +kernel
theorem dX3_addNumber_50 : decode cX3_addNumber 50 = .ok (.iconst 1, 1) := by decide +kernel
theorem dX3_addNumber_51 : decode cX3_addNumber 51 = .ok (.iadd, 1) := by decide +kernel
theorem dX3_addNumber_52 : decode cX3_addNumber 52 = .ok (.putfield 31, 3) := by decide +kernel
theorem dX3_addNumber_55 : decode cX3_addNumber 55 = .ok (.return_, 1) := by decide +kernel
theorem dX3_emit_0 : decode cX3_emit 0 = .ok (.aload_n 0, 1) := by decide +kernel
theorem dX3_emit_1 : decode cX3_emit 1 = .ok (.getfield 34, 3) := by decide +kernel
theorem dX3_emit_4 : decode cX3_emit 4 = .ok (.sipush 600, 3) := by decide +kernel
theorem dX3_emit_7 : decode cX3_emit 7 = .ok (.if_icmp .ge 23, 3) := by decide +kernel
theorem dX3_emit_10 : decode cX3_emit 10 = .ok (.aload_n 0, 1) := by decide +kernel
theorem dX3_emit_11 : decode cX3_emit 11 = .ok (.getfield 25, 3) := by decide +kernel
theorem dX3_emit_14 : decode cX3_emit 14 = .ok (.aload_n 0, 1) := by decide +kernel
theorem dX3_emit_15 : decode cX3_emit 15 = .ok (.getfield 34, 3) := by decide +kernel
theorem dX3_emit_18 : decode cX3_emit 18 = .ok (.iload_n 1, 1) := by decide +kernel
theorem dX3_emit_19 : decode cX3_emit 19 = .ok (.iastore, 1) := by decide +kernel
theorem dX3_emit_20 : decode cX3_emit 20 = .ok (.aload_n 0, 1) := by decide +kernel
theorem dX3_emit_21 : decode cX3_emit 21 = .ok (.dup, 1) := by decide +kernel
theorem dX3_emit_22 : decode cX3_emit 22 = .ok (.getfield 34, 3) := by decide +kernel
theorem dX3_emit_25 : decode cX3_emit 25 = .ok (.iconst 1, 1) := by decide +kernel
theorem dX3_emit_26 : decode cX3_emit 26 = .ok (.iadd, 1) := by decide +kernel
theorem dX3_emit_27 : decode cX3_emit 27 = .ok (.putfield 34, 3) := by decide +kernel
theorem dX3_emit_30 : decode cX3_emit 30 = .ok (.return_, 1) := by decide +kernel
theorem dX3_land_0 : decode cX3_land 0 = .ok (.iload_n 1, 1) := by decide +kernel
theorem dX3_land_1 : decode cX3_land 1 = .ok (.ifCond .lt 20, 3) := by decide +kernel
theorem dX3_land_4 : decode cX3_land 4 = .ok (.iload_n 1, 1) := by decide +kernel
theorem dX3_land_5 : decode cX3_land 5 = .ok (.sipush 600, 3) := by decide +kernel
theorem dX3_land_8 : decode cX3_land 8 = .ok (.if_icmp .ge 13, 3) := by decide +kernel
theorem dX3_land_11 : decode cX3_land 11 = .ok (.aload_n 0, 1) := by decide +kernel
theorem dX3_land_12 : decode cX3_land 12 = .ok (.getfield 25, 3) := by decide +kernel
theorem dX3_land_15 : decode cX3_land 15 = .ok (.iload_n 1, 1) := by decide +kernel
theorem dX3_land_16 : decode cX3_land 16 = .ok (.aload_n 0, 1) := by decide +kernel
theorem dX3_land_17 : decode cX3_land 17 = .ok (.getfield 34, 3) := by decide +kernel
theorem dX3_land_20 : decode cX3_land 20 = .ok (.iastore, 1) := by decide +kernel
theorem dX3_land_21 : decode cX3_land 21 = .ok (.return_, 1) := by decide +kernel
theorem dX3_kind_0 : decode cX3_kind 0 = .ok (.iload_n 1, 1) := by decide +kernel
theorem dX3_kind_1 : decode cX3_kind 1 = .ok (.ifCond .lt 20, 3) := by decide +kernel
theorem dX3_kind_4 : decode cX3_kind 4 = .ok (.iload_n 1, 1) := by decide +kernel
theorem dX3_kind_5 : decode cX3_kind 5 = .ok (.aload_n 0, 1) := by decide +kernel
theorem dX3_kind_6 : decode cX3_kind 6 = .ok (.getfield 28, 3) := by decide +kernel
theorem dX3_kind_9 : decode cX3_kind 9 = .ok (.if_icmp .ge 12, 3) := by decide +kernel
theorem dX3_kind_12 : decode cX3_kind 12 = .ok (.aload_n 0, 1) := by decide +kernel
theorem dX3_kind_13 : decode cX3_kind 13 = .ok (.getfield 18, 3) := by decide +kernel
theorem dX3_kind_16 : decode cX3_kind 16 = .ok (.iload_n 1, 1) := by decide +kernel
theorem dX3_kind_17 : decode cX3_kind 17 = .ok (.iaload, 1) := by decide +kernel
theorem dX3_kind_18 : decode cX3_kind 18 = .ok (.goto 5, 3) := by decide +kernel
theorem dX3_kind_21 : decode cX3_kind 21 = .ok (.bipush 55, 2) := by decide +kernel
theorem dX3_kind_23 : decode cX3_kind 23 = .ok (.ireturn, 1) := by decide +kernel
theorem dX3_number_0 : decode cX3_number 0 = .ok (.iload_n 1, 1) := by decide +kernel
theorem dX3_number_1 : decode cX3_number 1 = .ok (.iconst 3, 1) := by decide +kernel
theorem dX3_number_2 : decode cX3_number 2 = .ok (.imul, 1) := by decide +kernel
theorem dX3_number_3 : decode cX3_number 3 = .ok (.iload_n 2, 1) := by decide +kernel
theorem dX3_number_4 : decode cX3_number 4 = .ok (.iadd, 1) := by decide +kernel
theorem dX3_number_5 : decode cX3_number 5 = .ok (.istore_n 3, 1) := by decide +kernel
theorem dX3_number_6 : decode cX3_number 6 = .ok (.iload_n 1, 1) := by decide +kernel
theorem dX3_number_7 : decode cX3_number 7 = .ok (.ifCond .lt 29, 3) := by decide +kernel
theorem dX3_number_10 : decode cX3_number 10 = .ok (.iload_n 1, 1) := by decide +kernel
theorem dX3_number_11 : decode cX3_number 11 = .ok (.aload_n 0, 1) := by decide +kernel
theorem dX3_number_12 : decode cX3_number 12 = .ok (.getfield 28, 3) := by decide +kernel
theorem dX3_number_15 : decode cX3_number 15 = .ok (.if_icmp .ge 21, 3) := by decide +kernel
theorem dX3_number_18 : decode cX3_number 18 = .ok (.iload_n 2, 1) := by decide +kernel
theorem dX3_number_19 : decode cX3_number 19 = .ok (.ifCond .lt 17, 3) := by decide +kernel
theorem dX3_number_22 : decode cX3_number 22 = .ok (.iload_n 2, 1) := by decide +kernel
theorem dX3_number_23 : decode cX3_number 23 = .ok (.iconst 3, 1) := by decide +kernel
theorem dX3_number_24 : decode cX3_number 24 = .ok (.if_icmp .ge 12, 3) := by decide +kernel
theorem dX3_number_27 : decode cX3_number 27 = .ok (.aload_n 0, 1) := by decide +kernel
theorem dX3_number_28 : decode cX3_number 28 = .ok (.getfield 22, 3) := by decide +kernel
theorem dX3_number_31 : decode cX3_number 31 = .ok (.iload_n 3, 1) := by decide +kernel
theorem dX3_number_32 : decode cX3_number 32 = .ok (.iaload, 1) := by decide +kernel
theorem dX3_number_33 : decode cX3_number 33 = .ok (.goto 4, 3) := by decide +kernel
theorem dX3_number_36 : decode cX3_number 36 = .ok (.iconst 0, 1) := by decide +kernel
theorem dX3_number_37 : decode cX3_number 37 = .ok (.ireturn, 1) := by decide +kernel
theorem dX3_entry_0 : decode cX3_entry 0 = .ok (.iload_n 1, 1) := by decide +kernel
theorem dX3_entry_1 : decode cX3_entry 1 = .ok (.ifCond .lt 20, 3) := by decide +kernel
theorem dX3_entry_4 : decode cX3_entry 4 = .ok (.iload_n 1, 1) := by decide +kernel
theorem dX3_entry_5 : decode cX3_entry 5 = .ok (.aload_n 0, 1) := by decide +kernel
theorem dX3_entry_6 : decode cX3_entry 6 = .ok (.getfield 34, 3) := by decide +kernel
theorem dX3_entry_9 : decode cX3_entry 9 = .ok (.if_icmp .ge 12, 3) := by decide +kernel
theorem dX3_entry_12 : decode cX3_entry 12 = .ok (.aload_n 0, 1) := by decide +kernel
theorem dX3_entry_13 : decode cX3_entry 13 = .ok (.getfield 25, 3) := by decide +kernel
theorem dX3_entry_16 : decode cX3_entry 16 = .ok (.iload_n 1, 1) := by decide +kernel
theorem dX3_entry_17 : decode cX3_entry 17 = .ok (.iaload, 1) := by decide +kernel
theorem dX3_entry_18 : decode cX3_entry 18 = .ok (.goto 5, 3) := by decide +kernel
theorem dX3_entry_21 : decode cX3_entry 21 = .ok (.bipush 53, 2) := by decide +kernel
theorem dX3_entry_23 : decode cX3_entry 23 = .ok (.ireturn, 1) := by decide +kernel
theorem dX5_init_0 : decode cX5_init 0 = .ok (.aload_n 0, 1) := by decide +kernel
theorem dX5_init_1 : decode cX5_init 1 = .ok (.invokespecial 3, 3) := by decide +kernel
theorem dX5_init_4 : decode cX5_init 4 = .ok (.aload_n 0, 1) := by decide +kernel
theorem dX5_init_5 : decode cX5_init 5 = .ok (.sipush 367, 3) := by decide +kernel
theorem dX5_init_8 : decode cX5_init 8 = .ok (.putfield 9, 3) := by decide +kernel
theorem dX5_init_11 : decode cX5_init 11 = .ok (.aload_n 0, 1) := by decide +kernel
theorem dX5_init_12 : decode cX5_init 12 = .ok (.iconst 4, 1) := by decide +kernel
theorem dX5_init_13 : decode cX5_init 13 = .ok (.newarray .int, 2) := by decide +kernel
theorem dX5_init_15 : decode cX5_init 15 = .ok (.putfield 15, 3) := by decide +kernel
theorem dX5_init_18 : decode cX5_init 18 = .ok (.aload_n 0, 1) := by decide +kernel
theorem dX5_init_19 : decode cX5_init 19 = .ok (.iconst 4, 1) := by decide +kernel
theorem dX5_init_20 : decode cX5_init 20 = .ok (.newarray .int, 2) := by decide +kernel
theorem dX5_init_22 : decode cX5_init 22 = .ok (.putfield 19, 3) := by decide +kernel
theorem dX5_init_25 : decode cX5_init 25 = .ok (.aload_n 0, 1) := by decide +kernel
theorem dX5_init_26 : decode cX5_init 26 = .ok (.bipush 25, 2) := by decide +kernel
theorem dX5_init_28 : decode cX5_init 28 = .ok (.newarray .int, 2) := by decide +kernel
theorem dX5_init_30 : decode cX5_init 30 = .ok (.putfield 22, 3) := by decide +kernel
theorem dX5_init_33 : decode cX5_init 33 = .ok (.return_, 1) := by decide +kernel
theorem dX5_copy_0 : decode cX5_copy 0 = .ok (.aload_n 0, 1) := by decide +kernel
theorem dX5_copy_1 : decode cX5_copy 1 = .ok (.aload_n 1, 1) := by decide +kernel
theorem dX5_copy_2 : decode cX5_copy 2 = .ok (.getfield 25, 3) := by decide +kernel
theorem dX5_copy_5 : decode cX5_copy 5 = .ok (.putfield 25, 3) := by decide +kernel
theorem dX5_copy_8 : decode cX5_copy 8 = .ok (.aload_n 0, 1) := by decide +kernel
theorem dX5_copy_9 : decode cX5_copy 9 = .ok (.aload_n 1, 1) := by decide +kernel
theorem dX5_copy_10 : decode cX5_copy 10 = .ok (.invokevirtual 28, 3) := by decide +kernel
theorem dX5_copy_13 : decode cX5_copy 13 = .ok (.return_, 1) := by decide +kernel
theorem dX5_restore_0 : decode cX5_restore 0 = .ok (.iconst 0, 1) := by decide +kernel
theorem dX5_restore_1 : decode cX5_restore 1 = .ok (.istore_n 2, 1) := by decide +kernel
theorem dX5_restore_2 : decode cX5_restore 2 = .ok (.iload_n 2, 1) := by decide +kernel
theorem dX5_restore_3 : decode cX5_restore 3 = .ok (.aload_n 1, 1) := by decide +kernel
theorem dX5_restore_4 : decode cX5_restore 4 = .ok (.getfield 25, 3) := by decide +kernel
theorem dX5_restore_7 : decode cX5_restore 7 = .ok (.if_icmp .ge 38, 3) := by decide +kernel
theorem dX5_restore_10 : decode cX5_restore 10 = .ok (.iload_n 2, 1) := by decide +kernel
theorem dX5_restore_11 : decode cX5_restore 11 = .ok (.iconst 4, 1) := by decide +kernel
theorem dX5_restore_12 : decode cX5_restore 12 = .ok (.if_icmp .ge 33, 3) := by decide +kernel
theorem dX5_restore_15 : decode cX5_restore 15 = .ok (.aload_n 0, 1) := by decide +kernel
theorem dX5_restore_16 : decode cX5_restore 16 = .ok (.getfield 15, 3) := by decide +kernel
theorem dX5_restore_19 : decode cX5_restore 19 = .ok (.iload_n 2, 1) := by decide +kernel
theorem dX5_restore_20 : decode cX5_restore 20 = .ok (.aload_n 1, 1) := by decide +kernel
theorem dX5_restore_21 : decode cX5_restore 21 = .ok (.getfield 15, 3) := by decide +kernel
theorem dX5_restore_24 : decode cX5_restore 24 = .ok (.iload_n 2, 1) := by decide +kernel
theorem dX5_restore_25 : decode cX5_restore 25 = .ok (.iaload, 1) := by decide +kernel
theorem dX5_restore_26 : decode cX5_restore 26 = .ok (.iastore, 1) := by decide +kernel
theorem dX5_restore_27 : decode cX5_restore 27 = .ok (.aload_n 0, 1) := by decide +kernel
theorem dX5_restore_28 : decode cX5_restore 28 = .ok (.getfield 19, 3) := by decide +kernel
theorem dX5_restore_31 : decode cX5_restore 31 = .ok (.iload_n 2, 1) := by decide +kernel
theorem dX5_restore_32 : decode cX5_restore 32 = .ok (.aload_n 1, 1) := by decide +kernel
theorem dX5_restore_33 : decode cX5_restore 33 = .ok (.getfield 19, 3) := by decide +kernel
theorem dX5_restore_36 : decode cX5_restore 36 = .ok (.iload_n 2, 1) := by decide +kernel
theorem dX5_restore_37 : decode cX5_restore 37 = .ok (.iaload, 1) := by decide +kernel
theorem dX5_restore_38 : decode cX5_restore 38 = .ok (.iastore, 1) := by decide +kernel
theorem dX5_restore_39 : decode cX5_restore 39 = .ok (.iinc 2 1, 3) := by decide +kernel
theorem dX5_restore_42 : decode cX5_restore 42 = .ok (.goto (-40), 3) := by decide +kernel
theorem dX5_restore_45 : decode cX5_restore 45 = .ok (.aload_n 0, 1) := by decide +kernel
theorem dX5_restore_46 : decode cX5_restore 46 = .ok (.aload_n 1, 1) := by decide +kernel
theorem dX5_restore_47 : decode cX5_restore 47 = .ok (.getfield 32, 3) := by decide +kernel
theorem dX5_restore_50 : decode cX5_restore 50 = .ok (.putfield 32, 3) := by decide +kernel
theorem dX5_restore_53 : decode cX5_restore 53 = .ok (.aload_n 0, 1) := by decide +kernel
theorem dX5_restore_54 : decode cX5_restore 54 = .ok (.aload_n 1, 1) := by decide +kernel
theorem dX5_restore_55 : decode cX5_restore 55 = .ok (.getfield 35, 3) := by decide +kernel
theorem dX5_restore_58 : decode cX5_restore 58 = .ok (.putfield 35, 3) := by decide +kernel
theorem dX5_restore_61 : decode cX5_restore 61 = .ok (.aload_n 0, 1) := by decide +kernel
theorem dX5_restore_62 : decode cX5_restore 62 = .ok (.aload_n 1, 1) := by decide +kernel
theorem dX5_restore_63 : decode cX5_restore 63 = .ok (.getfield 38, 3) := by decide +kernel
theorem dX5_restore_66 : decode cX5_restore 66 = .ok (.putfield 38, 3) := by decide +kernel
theorem dX5_restore_69 : decode cX5_restore 69 = .ok (.aload_n 0, 1) := by decide +kernel
theorem dX5_restore_70 : decode cX5_restore 70 = .ok (.aload_n 1, 1) := by decide +kernel
theorem dX5_restore_71 : decode cX5_restore 71 = .ok (.getfield 9, 3) := by decide +kernel
theorem dX5_restore_74 : decode cX5_restore 74 = .ok (.putfield 9, 3) := by decide +kernel
theorem dX5_restore_77 : decode cX5_restore 77 = .ok (.aload_n 0, 1) := by decide +kernel
theorem dX5_restore_78 : decode cX5_restore 78 = .ok (.aload_n 1, 1) := by decide +kernel
theorem dX5_restore_79 : decode cX5_restore 79 = .ok (.getfield 41, 3) := by decide +kernel
theorem dX5_restore_82 : decode cX5_restore 82 = .ok (.putfield 41, 3) := by decide +kernel
theorem dX5_restore_85 : decode cX5_restore 85 = .ok (.aload_n 1, 1) := by decide +kernel
theorem dX5_restore_86 : decode cX5_restore 86 = .ok (.getfield 22, 3) := by decide +kernel
theorem dX5_restore_89 : decode cX5_restore 89 = .ok (.iconst 0, 1) := by decide +kernel
theorem dX5_restore_90 : decode cX5_restore 90 = .ok (.aload_n 0, 1) := by decide +kernel
theorem dX5_restore_91 : decode cX5_restore 91 = .ok (.getfield 22, 3) := by decide +kernel
theorem dX5_restore_94 : decode cX5_restore 94 = .ok (.iconst 0, 1) := by decide +kernel
theorem dX5_restore_95 : decode cX5_restore 95 = .ok (.bipush 25, 2) := by decide +kernel
theorem dX5_restore_97 : decode cX5_restore 97 = .ok (.invokestatic 44, 3) := by decide +kernel
theorem dX5_restore_100 : decode cX5_restore 100 = .ok (.return_, 1) := by decide +kernel
theorem dX5_draw_0 : decode cX5_draw 0 = .ok (.iload_n 1, 1) := by decide +kernel
theorem dX5_draw_1 : decode cX5_draw 1 = .ok (.ifCond .le 12, 3) := by decide +kernel
theorem dX5_draw_4 : decode cX5_draw 4 = .ok (.aload_n 0, 1) := by decide +kernel
theorem dX5_draw_5 : decode cX5_draw 5 = .ok (.getfield 9, 3) := by decide +kernel
theorem dX5_draw_8 : decode cX5_draw 8 = .ok (.iload_n 1, 1) := by decide +kernel
theorem dX5_draw_9 : decode cX5_draw 9 = .ok (.irem, 1) := by decide +kernel
theorem dX5_draw_10 : decode cX5_draw 10 = .ok (.goto 4, 3) := by decide +kernel
theorem dX5_draw_13 : decode cX5_draw 13 = .ok (.iconst 0, 1) := by decide +kernel
theorem dX5_draw_14 : decode cX5_draw 14 = .ok (.istore_n 2, 1) := by decide +kernel
theorem dX5_draw_15 : decode cX5_draw 15 = .ok (.aload_n 0, 1) := by decide +kernel
theorem dX5_draw_16 : decode cX5_draw 16 = .ok (.aload_n 0, 1) := by decide +kernel
theorem dX5_draw_17 : decode cX5_draw 17 = .ok (.getfield 9, 3) := by decide +kernel
theorem dX5_draw_20 : decode cX5_draw 20 = .ok (.sipush 617, 3) := by decide +kernel
theorem dX5_draw_23 : decode cX5_draw 23 = .ok (.imul, 1) := by decide +kernel
theorem dX5_draw_24 : decode cX5_draw 24 = .ok (.sipush 491, 3) := by decide +kernel
theorem dX5_draw_27 : decode cX5_draw 27 = .ok (.iadd, 1) := by decide +kernel
theorem dX5_draw_28 : decode cX5_draw 28 = .ok (.sipush 30869, 3) := by decide +kernel
theorem dX5_draw_31 : decode cX5_draw 31 = .ok (.irem, 1) := by decide +kernel
theorem dX5_draw_32 : decode cX5_draw 32 = .ok (.putfield 9, 3) := by decide +kernel
theorem dX5_draw_35 : decode cX5_draw 35 = .ok (.iload_n 2, 1) := by decide +kernel
theorem dX5_draw_36 : decode cX5_draw 36 = .ok (.ireturn, 1) := by decide +kernel
theorem dX5_oilOfAll_0 : decode cX5_oilOfAll 0 = .ok (.iconst 0, 1) := by decide +kernel
theorem dX5_oilOfAll_1 : decode cX5_oilOfAll 1 = .ok (.istore_n 1, 1) := by decide +kernel
theorem dX5_oilOfAll_2 : decode cX5_oilOfAll 2 = .ok (.iconst 0, 1) := by decide +kernel
theorem dX5_oilOfAll_3 : decode cX5_oilOfAll 3 = .ok (.istore_n 2, 1) := by decide +kernel
theorem dX5_oilOfAll_4 : decode cX5_oilOfAll 4 = .ok (.iload_n 2, 1) := by decide +kernel
theorem dX5_oilOfAll_5 : decode cX5_oilOfAll 5 = .ok (.aload_n 0, 1) := by decide +kernel
theorem dX5_oilOfAll_6 : decode cX5_oilOfAll 6 = .ok (.getfield 25, 3) := by decide +kernel
theorem dX5_oilOfAll_9 : decode cX5_oilOfAll 9 = .ok (.if_icmp .ge 23, 3) := by decide +kernel
theorem dX5_oilOfAll_12 : decode cX5_oilOfAll 12 = .ok (.iload_n 2, 1) := by decide +kernel
theorem dX5_oilOfAll_13 : decode cX5_oilOfAll 13 = .ok (.iconst 4, 1) := by decide +kernel
theorem dX5_oilOfAll_14 : decode cX5_oilOfAll 14 = .ok (.if_icmp .ge 18, 3) := by decide +kernel
theorem dX5_oilOfAll_17 : decode cX5_oilOfAll 17 = .ok (.iload_n 1, 1) := by decide +kernel
theorem dX5_oilOfAll_18 : decode cX5_oilOfAll 18 = .ok (.aload_n 0, 1) := by decide +kernel
theorem dX5_oilOfAll_19 : decode cX5_oilOfAll 19 = .ok (.getfield 15, 3) := by decide +kernel
theorem dX5_oilOfAll_22 : decode cX5_oilOfAll 22 = .ok (.iload_n 2, 1) := by decide +kernel
theorem dX5_oilOfAll_23 : decode cX5_oilOfAll 23 = .ok (.iaload, 1) := by decide +kernel
theorem dX5_oilOfAll_24 : decode cX5_oilOfAll 24 = .ok (.iadd, 1) := by decide +kernel
theorem dX5_oilOfAll_25 : decode cX5_oilOfAll 25 = .ok (.istore_n 1, 1) := by decide +kernel
theorem dX5_oilOfAll_26 : decode cX5_oilOfAll 26 = .ok (.iinc 2 1, 3) := by decide +kernel
theorem dX5_oilOfAll_29 : decode cX5_oilOfAll 29 = .ok (.goto (-25), 3) := by decide +kernel
theorem dX5_oilOfAll_32 : decode cX5_oilOfAll 32 = .ok (.iload_n 1, 1) := by decide +kernel
theorem dX5_oilOfAll_33 : decode cX5_oilOfAll 33 = .ok (.ireturn, 1) := by decide +kernel
theorem dX5_write_0 : decode cX5_write 0 = .ok (.aload_n 0, 1) := by decide +kernel
theorem dX5_write_1 : decode cX5_write 1 = .ok (.getfield 41, 3) := by decide +kernel
theorem dX5_write_4 : decode cX5_write 4 = .ok (.bipush 25, 2) := by decide +kernel
theorem dX5_write_6 : decode cX5_write 6 = .ok (.if_icmp .lt 24, 3) := by decide +kernel
theorem dX5_write_9 : decode cX5_write 9 = .ok (.aload_n 0, 1) := by decide +kernel
theorem dX5_write_10 : decode cX5_write 10 = .ok (.getfield 22, 3) := by decide +kernel
theorem dX5_write_13 : decode cX5_write 13 = .ok (.iconst 1, 1) := by decide +kernel
theorem dX5_write_14 : decode cX5_write 14 = .ok (.aload_n 0, 1) := by decide +kernel
theorem dX5_write_15 : decode cX5_write 15 = .ok (.getfield 22, 3) := by decide +kernel
theorem dX5_write_18 : decode cX5_write 18 = .ok (.iconst 0, 1) := by decide +kernel
theorem dX5_write_19 : decode cX5_write 19 = .ok (.bipush 24, 2) := by decide +kernel
theorem dX5_write_21 : decode cX5_write 21 = .ok (.invokestatic 44, 3) := by decide +kernel
theorem dX5_write_24 : decode cX5_write 24 = .ok (.aload_n 0, 1) := by decide +kernel
theorem dX5_write_25 : decode cX5_write 25 = .ok (.bipush 24, 2) := by decide +kernel
theorem dX5_write_27 : decode cX5_write 27 = .ok (.putfield 41, 3) := by decide +kernel
theorem dX5_write_30 : decode cX5_write 30 = .ok (.aload_n 0, 1) := by decide +kernel
theorem dX5_write_31 : decode cX5_write 31 = .ok (.getfield 22, 3) := by decide +kernel
theorem dX5_write_34 : decode cX5_write 34 = .ok (.aload_n 0, 1) := by decide +kernel
theorem dX5_write_35 : decode cX5_write 35 = .ok (.getfield 41, 3) := by decide +kernel
theorem dX5_write_38 : decode cX5_write 38 = .ok (.aload_n 0, 1) := by decide +kernel
theorem dX5_write_39 : decode cX5_write 39 = .ok (.getfield 38, 3) := by decide +kernel
theorem dX5_write_42 : decode cX5_write 42 = .ok (.bipush 8, 2) := by decide +kernel
theorem dX5_write_44 : decode cX5_write 44 = .ok (.imul, 1) := by decide +kernel
theorem dX5_write_45 : decode cX5_write 45 = .ok (.iload_n 1, 1) := by decide +kernel
theorem dX5_write_46 : decode cX5_write 46 = .ok (.iadd, 1) := by decide +kernel
theorem dX5_write_47 : decode cX5_write 47 = .ok (.iconst 4, 1) := by decide +kernel
theorem dX5_write_48 : decode cX5_write 48 = .ok (.imul, 1) := by decide +kernel
theorem dX5_write_49 : decode cX5_write 49 = .ok (.iload_n 2, 1) := by decide +kernel
theorem dX5_write_50 : decode cX5_write 50 = .ok (.iadd, 1) := by decide +kernel
theorem dX5_write_51 : decode cX5_write 51 = .ok (.sipush 1024, 3) := by decide +kernel
theorem dX5_write_54 : decode cX5_write 54 = .ok (.imul, 1) := by decide +kernel
theorem dX5_write_55 : decode cX5_write 55 = .ok (.aload_n 0, 1) := by decide +kernel
theorem dX5_write_56 : decode cX5_write 56 = .ok (.getfield 32, 3) := by decide +kernel
theorem dX5_write_59 : decode cX5_write 59 = .ok (.iadd, 1) := by decide +kernel
theorem dX5_write_60 : decode cX5_write 60 = .ok (.iastore, 1) := by decide +kernel
theorem dX5_write_61 : decode cX5_write 61 = .ok (.aload_n 0, 1) := by decide +kernel
theorem dX5_write_62 : decode cX5_write 62 = .ok (.dup, 1) := by decide +kernel
theorem dX5_write_63 : decode cX5_write 63 = .ok (.getfield 41, 3) := by decide +kernel
theorem dX5_write_66 : decode cX5_write 66 = .ok (.iconst 1, 1) := by decide +kernel
theorem dX5_write_67 : decode cX5_write 67 = .ok (.iadd, 1) := by decide +kernel
theorem dX5_write_68 : decode cX5_write 68 = .ok (.putfield 41, 3) := by decide +kernel
theorem dX5_write_71 : decode cX5_write 71 = .ok (.return_, 1) := by decide +kernel
theorem dX5_read_0 : decode cX5_read 0 = .ok (.iload_n 1, 1) := by decide +kernel
theorem dX5_read_1 : decode cX5_read 1 = .ok (.ifCond .lt 17, 3) := by decide +kernel
theorem dX5_read_4 : decode cX5_read 4 = .ok (.iload_n 1, 1) := by decide +kernel
theorem dX5_read_5 : decode cX5_read 5 = .ok (.aload_n 0, 1) := by decide +kernel
theorem dX5_read_6 : decode cX5_read 6 = .ok (.getfield 41, 3) := by decide +kernel
theorem dX5_read_9 : decode cX5_read 9 = .ok (.if_icmp .ge 9, 3) := by decide +kernel
theorem dX5_read_12 : decode cX5_read 12 = .ok (.iload_n 1, 1) := by decide +kernel
theorem dX5_read_13 : decode cX5_read 13 = .ok (.bipush 25, 2) := by decide +kernel
theorem dX5_read_15 : decode cX5_read 15 = .ok (.if_icmp .lt 6, 3) := by decide +kernel
theorem dX5_read_18 : decode cX5_read 18 = .ok (.bipush (-2), 2) := by decide +kernel
theorem dX5_read_20 : decode cX5_read 20 = .ok (.ireturn, 1) := by decide +kernel
theorem dX5_read_21 : decode cX5_read 21 = .ok (.aload_n 0, 1) := by decide +kernel
theorem dX5_read_22 : decode cX5_read 22 = .ok (.getfield 22, 3) := by decide +kernel
theorem dX5_read_25 : decode cX5_read 25 = .ok (.iload_n 1, 1) := by decide +kernel
theorem dX5_read_26 : decode cX5_read 26 = .ok (.iaload, 1) := by decide +kernel
theorem dX5_read_27 : decode cX5_read 27 = .ok (.istore_n 3, 1) := by decide +kernel
theorem dX5_read_28 : decode cX5_read 28 = .ok (.iload_n 3, 1) := by decide +kernel
theorem dX5_read_29 : decode cX5_read 29 = .ok (.sipush 1024, 3) := by decide +kernel
theorem dX5_read_32 : decode cX5_read 32 = .ok (.idiv, 1) := by decide +kernel
theorem dX5_read_33 : decode cX5_read 33 = .ok (.istore 4, 2) := by decide +kernel
theorem dX5_read_35 : decode cX5_read 35 = .ok (.iload_n 2, 1) := by decide +kernel
theorem dX5_read_36 : decode cX5_read 36 = .ok (.tableswitch 57 0 3 #[32, 38, 46, 51], 32) := by decide +kernel
theorem dX5_read_68 : decode cX5_read 68 = .ok (.iload 4, 2) := by decide +kernel
theorem dX5_read_70 : decode cX5_read 70 = .ok (.bipush 32, 2) := by decide +kernel
theorem dX5_read_72 : decode cX5_read 72 = .ok (.idiv, 1) := by decide +kernel
theorem dX5_read_73 : decode cX5_read 73 = .ok (.ireturn, 1) := by decide +kernel
theorem dX5_read_74 : decode cX5_read 74 = .ok (.iload 4, 2) := by decide +kernel
theorem dX5_read_76 : decode cX5_read 76 = .ok (.iconst 4, 1) := by decide +kernel
theorem dX5_read_77 : decode cX5_read 77 = .ok (.idiv, 1) := by decide +kernel
theorem dX5_read_78 : decode cX5_read 78 = .ok (.bipush 8, 2) := by decide +kernel
theorem dX5_read_80 : decode cX5_read 80 = .ok (.irem, 1) := by decide +kernel
theorem dX5_read_81 : decode cX5_read 81 = .ok (.ireturn, 1) := by decide +kernel
theorem dX5_read_82 : decode cX5_read 82 = .ok (.iload 4, 2) := by decide +kernel
theorem dX5_read_84 : decode cX5_read 84 = .ok (.iconst 4, 1) := by decide +kernel
theorem dX5_read_85 : decode cX5_read 85 = .ok (.irem, 1) := by decide +kernel
theorem dX5_read_86 : decode cX5_read 86 = .ok (.ireturn, 1) := by decide +kernel
theorem dX5_read_87 : decode cX5_read 87 = .ok (.iload_n 3, 1) := by decide +kernel
theorem dX5_read_88 : decode cX5_read 88 = .ok (.sipush 1024, 3) := by decide +kernel
theorem dX5_read_91 : decode cX5_read 91 = .ok (.irem, 1) := by decide +kernel
theorem dX5_read_92 : decode cX5_read 92 = .ok (.ireturn, 1) := by decide +kernel
theorem dX5_read_93 : decode cX5_read 93 = .ok (.bipush (-2), 2) := by decide +kernel
theorem dX5_read_95 : decode cX5_read 95 = .ok (.ireturn, 1) := by decide +kernel
theorem dX5_linesOf_0 : decode cX5_linesOf 0 = .ok (.iconst 0, 1) := by decide +kernel
theorem dX5_linesOf_1 : decode cX5_linesOf 1 = .ok (.istore_n 2, 1) := by decide +kernel
theorem dX5_linesOf_2 : decode cX5_linesOf 2 = .ok (.iconst 0, 1) := by decide +kernel
theorem dX5_linesOf_3 : decode cX5_linesOf 3 = .ok (.istore_n 3, 1) := by decide +kernel
theorem dX5_linesOf_4 : decode cX5_linesOf 4 = .ok (.iload_n 3, 1) := by decide +kernel
theorem dX5_linesOf_5 : decode cX5_linesOf 5 = .ok (.aload_n 0, 1) := by decide +kernel
theorem dX5_linesOf_6 : decode cX5_linesOf 6 = .ok (.getfield 41, 3) := by decide +kernel
theorem dX5_linesOf_9 : decode cX5_linesOf 9 = .ok (.if_icmp .ge 22, 3) := by decide +kernel
theorem dX5_linesOf_12 : decode cX5_linesOf 12 = .ok (.aload_n 0, 1) := by decide +kernel
theorem dX5_linesOf_13 : decode cX5_linesOf 13 = .ok (.iload_n 3, 1) := by decide +kernel
theorem dX5_linesOf_14 : decode cX5_linesOf 14 = .ok (.iconst 2, 1) := by decide +kernel
theorem dX5_linesOf_15 : decode cX5_linesOf 15 = .ok (.invokevirtual 50, 3) := by decide +kernel
theorem dX5_linesOf_18 : decode cX5_linesOf 18 = .ok (.iload_n 1, 1) := by decide +kernel
theorem dX5_linesOf_19 : decode cX5_linesOf 19 = .ok (.if_icmp .ne 6, 3) := by decide +kernel
theorem dX5_linesOf_22 : decode cX5_linesOf 22 = .ok (.iinc 2 1, 3) := by decide +kernel
theorem dX5_linesOf_25 : decode cX5_linesOf 25 = .ok (.iinc 3 1, 3) := by decide +kernel
theorem dX5_linesOf_28 : decode cX5_linesOf 28 = .ok (.goto (-24), 3) := by decide +kernel
theorem dX5_linesOf_31 : decode cX5_linesOf 31 = .ok (.iload_n 2, 1) := by decide +kernel
theorem dX5_linesOf_32 : decode cX5_linesOf 32 = .ok (.ireturn, 1) := by decide +kernel
theorem dX6_init_0 : decode cX6_init 0 = .ok (.aload_n 0, 1) := by decide +kernel
theorem dX6_init_1 : decode cX6_init 1 = .ok (.invokespecial 1, 3) := by decide +kernel
theorem dX6_init_4 : decode cX6_init 4 = .ok (.aload_n 0, 1) := by decide +kernel
theorem dX6_init_5 : decode cX6_init 5 = .ok (.iload_n 1, 1) := by decide +kernel
theorem dX6_init_6 : decode cX6_init 6 = .ok (.iconst 0, 1) := by decide +kernel
theorem dX6_init_7 : decode cX6_init 7 = .ok (.invokestatic 7, 3) := by decide +kernel
theorem dX6_init_10 : decode cX6_init 10 = .ok (.newarray .int, 2) := by decide +kernel
theorem dX6_init_12 : decode cX6_init 12 = .ok (.putfield 13, 3) := by decide +kernel
theorem dX6_init_15 : decode cX6_init 15 = .ok (.return_, 1) := by decide +kernel
theorem dX6_at_0 : decode cX6_at 0 = .ok (.iload_n 1, 1) := by decide +kernel
theorem dX6_at_1 : decode cX6_at 1 = .ok (.ifCond .lt 29, 3) := by decide +kernel
theorem dX6_at_4 : decode cX6_at 4 = .ok (.iload_n 1, 1) := by decide +kernel
theorem dX6_at_5 : decode cX6_at 5 = .ok (.aload_n 0, 1) := by decide +kernel
theorem dX6_at_6 : decode cX6_at 6 = .ok (.getfield 19, 3) := by decide +kernel
theorem dX6_at_9 : decode cX6_at 9 = .ok (.if_icmp .ge 21, 3) := by decide +kernel
theorem dX6_at_12 : decode cX6_at 12 = .ok (.iload_n 1, 1) := by decide +kernel
theorem dX6_at_13 : decode cX6_at 13 = .ok (.aload_n 0, 1) := by decide +kernel
theorem dX6_at_14 : decode cX6_at 14 = .ok (.getfield 13, 3) := by decide +kernel
theorem dX6_at_17 : decode cX6_at 17 = .ok (.arraylength, 1) := by decide +kernel
theorem dX6_at_18 : decode cX6_at 18 = .ok (.if_icmp .ge 12, 3) := by decide +kernel
theorem dX6_at_21 : decode cX6_at 21 = .ok (.aload_n 0, 1) := by decide +kernel
theorem dX6_at_22 : decode cX6_at 22 = .ok (.getfield 13, 3) := by decide +kernel
theorem dX6_at_25 : decode cX6_at 25 = .ok (.iload_n 1, 1) := by decide +kernel
theorem dX6_at_26 : decode cX6_at 26 = .ok (.iaload, 1) := by decide +kernel
theorem dX6_at_27 : decode cX6_at 27 = .ok (.goto 4, 3) := by decide +kernel
theorem dX6_at_30 : decode cX6_at 30 = .ok (.iconst 0, 1) := by decide +kernel
theorem dX6_at_31 : decode cX6_at 31 = .ok (.ireturn, 1) := by decide +kernel
theorem dX6_add_0 : decode cX6_add 0 = .ok (.aload_n 0, 1) := by decide +kernel
theorem dX6_add_1 : decode cX6_add 1 = .ok (.getfield 19, 3) := by decide +kernel
theorem dX6_add_4 : decode cX6_add 4 = .ok (.aload_n 0, 1) := by decide +kernel
theorem dX6_add_5 : decode cX6_add 5 = .ok (.getfield 13, 3) := by decide +kernel
theorem dX6_add_8 : decode cX6_add 8 = .ok (.arraylength, 1) := by decide +kernel
theorem dX6_add_9 : decode cX6_add 9 = .ok (.if_icmp .lt 5, 3) := by decide +kernel
theorem dX6_add_12 : decode cX6_add 12 = .ok (.iconst 0, 1) := by decide +kernel
theorem dX6_add_13 : decode cX6_add 13 = .ok (.ireturn, 1) := by decide +kernel
theorem dX6_add_14 : decode cX6_add 14 = .ok (.aload_n 0, 1) := by decide +kernel
theorem dX6_add_15 : decode cX6_add 15 = .ok (.getfield 13, 3) := by decide +kernel
theorem dX6_add_18 : decode cX6_add 18 = .ok (.aload_n 0, 1) := by decide +kernel
theorem dX6_add_19 : decode cX6_add 19 = .ok (.getfield 19, 3) := by decide +kernel
theorem dX6_add_22 : decode cX6_add 22 = .ok (.iload_n 1, 1) := by decide +kernel
theorem dX6_add_23 : decode cX6_add 23 = .ok (.iastore, 1) := by decide +kernel
theorem dX6_add_24 : decode cX6_add 24 = .ok (.aload_n 0, 1) := by decide +kernel
theorem dX6_add_25 : decode cX6_add 25 = .ok (.dup, 1) := by decide +kernel
theorem dX6_add_26 : decode cX6_add 26 = .ok (.getfield 19, 3) := by decide +kernel
theorem dX6_add_29 : decode cX6_add 29 = .ok (.iconst 1, 1) := by decide +kernel
theorem dX6_add_30 : decode cX6_add 30 = .ok (.iadd, 1) := by decide +kernel
theorem dX6_add_31 : decode cX6_add 31 = .ok (.putfield 19, 3) := by decide +kernel
theorem dX6_add_34 : decode cX6_add 34 = .ok (.iconst 1, 1) := by decide +kernel
theorem dX6_add_35 : decode cX6_add 35 = .ok (.ireturn, 1) := by decide +kernel
theorem dX6_clear_0 : decode cX6_clear 0 = .ok (.aload_n 0, 1) := by decide +kernel
theorem dX6_clear_1 : decode cX6_clear 1 = .ok (.iconst 0, 1) := by decide +kernel
theorem dX6_clear_2 : decode cX6_clear 2 = .ok (.putfield 19, 3) := by decide +kernel
theorem dX6_clear_5 : decode cX6_clear 5 = .ok (.return_, 1) := by decide +kernel
theorem dX6_copy_0 : decode cX6_copy 0 = .ok (.aload_n 0, 1) := by decide +kernel
theorem dX6_copy_1 : decode cX6_copy 1 = .ok (.invokevirtual 23, 3) := by decide +kernel
theorem dX6_copy_4 : decode cX6_copy 4 = .ok (.iconst 0, 1) := by decide +kernel
theorem dX6_copy_5 : decode cX6_copy 5 = .ok (.istore_n 2, 1) := by decide +kernel
theorem dX6_copy_6 : decode cX6_copy 6 = .ok (.iload_n 2, 1) := by decide +kernel
theorem dX6_copy_7 : decode cX6_copy 7 = .ok (.aload_n 1, 1) := by decide +kernel
theorem dX6_copy_8 : decode cX6_copy 8 = .ok (.getfield 19, 3) := by decide +kernel
theorem dX6_copy_11 : decode cX6_copy 11 = .ok (.if_icmp .ge 19, 3) := by decide +kernel
theorem dX6_copy_14 : decode cX6_copy 14 = .ok (.aload_n 0, 1) := by decide +kernel
theorem dX6_copy_15 : decode cX6_copy 15 = .ok (.aload_n 1, 1) := by decide +kernel
theorem dX6_copy_16 : decode cX6_copy 16 = .ok (.iload_n 2, 1) := by decide +kernel
theorem dX6_copy_17 : decode cX6_copy 17 = .ok (.invokevirtual 26, 3) := by decide +kernel
theorem dX6_copy_20 : decode cX6_copy 20 = .ok (.invokevirtual 30, 3) := by decide +kernel
theorem dX6_copy_23 : decode cX6_copy 23 = .ok (.pop, 1) := by decide +kernel
theorem dX6_copy_24 : decode cX6_copy 24 = .ok (.iinc 2 1, 3) := by decide +kernel
theorem dX6_copy_27 : decode cX6_copy 27 = .ok (.goto (-21), 3) := by decide +kernel
theorem dX6_copy_30 : decode cX6_copy 30 = .ok (.return_, 1) := by decide +kernel
theorem dX7_init_0 : decode cX7_init 0 = .ok (.aload_n 0, 1) := by decide +kernel
theorem dX7_init_1 : decode cX7_init 1 = .ok (.invokespecial 3, 3) := by decide +kernel
theorem dX7_init_4 : decode cX7_init 4 = .ok (.aload_n 0, 1) := by decide +kernel
theorem dX7_init_5 : decode cX7_init 5 = .ok (.new 9, 3) := by decide +kernel
theorem dX7_init_8 : decode cX7_init 8 = .ok (.dup, 1) := by decide +kernel
theorem dX7_init_9 : decode cX7_init 9 = .ok (.invokespecial 11, 3) := by decide +kernel
theorem dX7_init_12 : decode cX7_init 12 = .ok (.putfield 12, 3) := by decide +kernel
theorem dX7_init_15 : decode cX7_init 15 = .ok (.aload_n 0, 1) := by decide +kernel
theorem dX7_init_16 : decode cX7_init 16 = .ok (.new 18, 3) := by decide +kernel
theorem dX7_init_19 : decode cX7_init 19 = .ok (.dup, 1) := by decide +kernel
theorem dX7_init_20 : decode cX7_init 20 = .ok (.iconst 4, 1) := by decide +kernel
theorem dX7_init_21 : decode cX7_init 21 = .ok (.invokespecial 20, 3) := by decide +kernel
theorem dX7_init_24 : decode cX7_init 24 = .ok (.putfield 23, 3) := by decide +kernel
theorem dX7_init_27 : decode cX7_init 27 = .ok (.aload_n 0, 1) := by decide +kernel
theorem dX7_init_28 : decode cX7_init 28 = .ok (.new 18, 3) := by decide +kernel
theorem dX7_init_31 : decode cX7_init 31 = .ok (.dup, 1) := by decide +kernel
theorem dX7_init_32 : decode cX7_init 32 = .ok (.bipush 8, 2) := by decide +kernel
theorem dX7_init_34 : decode cX7_init 34 = .ok (.invokespecial 20, 3) := by decide +kernel
theorem dX7_init_37 : decode cX7_init 37 = .ok (.putfield 27, 3) := by decide +kernel
theorem dX7_init_40 : decode cX7_init 40 = .ok (.aload_n 0, 1) := by decide +kernel
theorem dX7_init_41 : decode cX7_init 41 = .ok (.new 18, 3) := by decide +kernel
theorem dX7_init_44 : decode cX7_init 44 = .ok (.dup, 1) := by decide +kernel
theorem dX7_init_45 : decode cX7_init 45 = .ok (.bipush 6, 2) := by decide +kernel
theorem dX7_init_47 : decode cX7_init 47 = .ok (.invokespecial 20, 3) := by decide +kernel
theorem dX7_init_50 : decode cX7_init 50 = .ok (.putfield 30, 3) := by decide +kernel
theorem dX7_init_53 : decode cX7_init 53 = .ok (.aload_n 0, 1) := by decide +kernel
theorem dX7_init_54 : decode cX7_init 54 = .ok (.new 18, 3) := by decide +kernel
theorem dX7_init_57 : decode cX7_init 57 = .ok (.dup, 1) := by decide +kernel
theorem dX7_init_58 : decode cX7_init 58 = .ok (.bipush 8, 2) := by decide +kernel
theorem dX7_init_60 : decode cX7_init 60 = .ok (.invokespecial 20, 3) := by decide +kernel
theorem dX7_init_63 : decode cX7_init 63 = .ok (.putfield 33, 3) := by decide +kernel
theorem dX7_init_66 : decode cX7_init 66 = .ok (.aload_n 0, 1) := by decide +kernel
theorem dX7_init_67 : decode cX7_init 67 = .ok (.new 18, 3) := by decide +kernel
theorem dX7_init_70 : decode cX7_init 70 = .ok (.dup, 1) := by decide +kernel
theorem dX7_init_71 : decode cX7_init 71 = .ok (.bipush 8, 2) := by decide +kernel
theorem dX7_init_73 : decode cX7_init 73 = .ok (.invokespecial 20, 3) := by decide +kernel
theorem dX7_init_76 : decode cX7_init 76 = .ok (.putfield 36, 3) := by decide +kernel
theorem dX7_init_79 : decode cX7_init 79 = .ok (.aload_n 0, 1) := by decide +kernel
theorem dX7_init_80 : decode cX7_init 80 = .ok (.iconst 4, 1) := by decide +kernel
theorem dX7_init_81 : decode cX7_init 81 = .ok (.anewarray 39, 3) := by decide +kernel
theorem dX7_init_84 : decode cX7_init 84 = .ok (.putfield 41, 3) := by decide +kernel
theorem dX7_init_87 : decode cX7_init 87 = .ok (.aload_n 0, 1) := by decide +kernel
theorem dX7_init_88 : decode cX7_init 88 = .ok (.iconst (-1), 1) := by decide +kernel
theorem dX7_init_89 : decode cX7_init 89 = .ok (.putfield 45, 3) := by decide +kernel
theorem dX7_init_92 : decode cX7_init 92 = .ok (.aload_n 0, 1) := by decide +kernel
theorem dX7_init_93 : decode cX7_init 93 = .ok (.bipush 30, 2) := by decide +kernel
theorem dX7_init_95 : decode cX7_init 95 = .ok (.anewarray 9, 3) := by decide +kernel
theorem dX7_init_98 : decode cX7_init 98 = .ok (.putfield 49, 3) := by decide +kernel
theorem dX7_init_101 : decode cX7_init 101 = .ok (.aload_n 0, 1) := by decide +kernel
theorem dX7_init_102 : decode cX7_init 102 = .ok (.new 53, 3) := by decide +kernel
theorem dX7_init_105 : decode cX7_init 105 = .ok (.dup, 1) := by decide +kernel
theorem dX7_init_106 : decode cX7_init 106 = .ok (.invokespecial 55, 3) := by decide +kernel
theorem dX7_init_109 : decode cX7_init 109 = .ok (.putfield 56, 3) := by decide +kernel
theorem dX7_init_112 : decode cX7_init 112 = .ok (.iconst 0, 1) := by decide +kernel
theorem dX7_init_113 : decode cX7_init 113 = .ok (.istore_n 1, 1) := by decide +kernel
theorem dX7_init_114 : decode cX7_init 114 = .ok (.iload_n 1, 1) := by decide +kernel
theorem dX7_init_115 : decode cX7_init 115 = .ok (.iconst 4, 1) := by decide +kernel
theorem dX7_init_116 : decode cX7_init 116 = .ok (.if_icmp .ge 22, 3) := by decide +kernel
theorem dX7_init_119 : decode cX7_init 119 = .ok (.aload_n 0, 1) := by decide +kernel
theorem dX7_init_120 : decode cX7_init 120 = .ok (.getfield 41, 3) := by decide +kernel
theorem dX7_init_123 : decode cX7_init 123 = .ok (.iload_n 1, 1) := by decide +kernel
theorem dX7_init_124 : decode cX7_init 124 = .ok (.new 39, 3) := by decide +kernel
theorem dX7_init_127 : decode cX7_init 127 = .ok (.dup, 1) := by decide +kernel
theorem dX7_init_128 : decode cX7_init 128 = .ok (.invokespecial 60, 3) := by decide +kernel
theorem dX7_init_131 : decode cX7_init 131 = .ok (.aastore, 1) := by decide +kernel
theorem dX7_init_132 : decode cX7_init 132 = .ok (.iinc 1 1, 3) := by decide +kernel
theorem dX7_init_135 : decode cX7_init 135 = .ok (.goto (-21), 3) := by decide +kernel
theorem dX7_init_138 : decode cX7_init 138 = .ok (.iconst 0, 1) := by decide +kernel
theorem dX7_init_139 : decode cX7_init 139 = .ok (.istore_n 1, 1) := by decide +kernel
theorem dX7_init_140 : decode cX7_init 140 = .ok (.iload_n 1, 1) := by decide +kernel
theorem dX7_init_141 : decode cX7_init 141 = .ok (.bipush 30, 2) := by decide +kernel
theorem dX7_init_143 : decode cX7_init 143 = .ok (.if_icmp .ge 22, 3) := by decide +kernel
theorem dX7_init_146 : decode cX7_init 146 = .ok (.aload_n 0, 1) := by decide +kernel
theorem dX7_init_147 : decode cX7_init 147 = .ok (.getfield 49, 3) := by decide +kernel
theorem dX7_init_150 : decode cX7_init 150 = .ok (.iload_n 1, 1) := by decide +kernel
theorem dX7_init_151 : decode cX7_init 151 = .ok (.new 9, 3) := by decide +kernel
theorem dX7_init_154 : decode cX7_init 154 = .ok (.dup, 1) := by decide +kernel
theorem dX7_init_155 : decode cX7_init 155 = .ok (.invokespecial 11, 3) := by decide +kernel
theorem dX7_init_158 : decode cX7_init 158 = .ok (.aastore, 1) := by decide +kernel
theorem dX7_init_159 : decode cX7_init 159 = .ok (.iinc 1 1, 3) := by decide +kernel
theorem dX7_init_162 : decode cX7_init 162 = .ok (.goto (-22), 3) := by decide +kernel
theorem dX7_init_165 : decode cX7_init 165 = .ok (.return_, 1) := by decide +kernel
theorem dX7_copy_0 : decode cX7_copy 0 = .ok (.aload_n 0, 1) := by decide +kernel
theorem dX7_copy_1 : decode cX7_copy 1 = .ok (.getfield 12, 3) := by decide +kernel
theorem dX7_copy_4 : decode cX7_copy 4 = .ok (.aload_n 1, 1) := by decide +kernel
theorem dX7_copy_5 : decode cX7_copy 5 = .ok (.getfield 12, 3) := by decide +kernel
theorem dX7_copy_8 : decode cX7_copy 8 = .ok (.invokevirtual 61, 3) := by decide +kernel
theorem dX7_copy_11 : decode cX7_copy 11 = .ok (.aload_n 0, 1) := by decide +kernel
theorem dX7_copy_12 : decode cX7_copy 12 = .ok (.getfield 23, 3) := by decide +kernel
theorem dX7_copy_15 : decode cX7_copy 15 = .ok (.aload_n 1, 1) := by decide +kernel
theorem dX7_copy_16 : decode cX7_copy 16 = .ok (.getfield 23, 3) := by decide +kernel
theorem dX7_copy_19 : decode cX7_copy 19 = .ok (.invokevirtual 65, 3) := by decide +kernel
theorem dX7_copy_22 : decode cX7_copy 22 = .ok (.aload_n 0, 1) := by decide +kernel
theorem dX7_copy_23 : decode cX7_copy 23 = .ok (.getfield 27, 3) := by decide +kernel
theorem dX7_copy_26 : decode cX7_copy 26 = .ok (.aload_n 1, 1) := by decide +kernel
theorem dX7_copy_27 : decode cX7_copy 27 = .ok (.getfield 27, 3) := by decide +kernel
theorem dX7_copy_30 : decode cX7_copy 30 = .ok (.invokevirtual 65, 3) := by decide +kernel
theorem dX7_copy_33 : decode cX7_copy 33 = .ok (.aload_n 0, 1) := by decide +kernel
theorem dX7_copy_34 : decode cX7_copy 34 = .ok (.getfield 30, 3) := by decide +kernel
theorem dX7_copy_37 : decode cX7_copy 37 = .ok (.aload_n 1, 1) := by decide +kernel
theorem dX7_copy_38 : decode cX7_copy 38 = .ok (.getfield 30, 3) := by decide +kernel
theorem dX7_copy_41 : decode cX7_copy 41 = .ok (.invokevirtual 65, 3) := by decide +kernel
theorem dX7_copy_44 : decode cX7_copy 44 = .ok (.aload_n 0, 1) := by decide +kernel
theorem dX7_copy_45 : decode cX7_copy 45 = .ok (.getfield 33, 3) := by decide +kernel
theorem dX7_copy_48 : decode cX7_copy 48 = .ok (.aload_n 1, 1) := by decide +kernel
theorem dX7_copy_49 : decode cX7_copy 49 = .ok (.getfield 33, 3) := by decide +kernel
theorem dX7_copy_52 : decode cX7_copy 52 = .ok (.invokevirtual 65, 3) := by decide +kernel
theorem dX7_copy_55 : decode cX7_copy 55 = .ok (.aload_n 0, 1) := by decide +kernel
theorem dX7_copy_56 : decode cX7_copy 56 = .ok (.getfield 36, 3) := by decide +kernel
theorem dX7_copy_59 : decode cX7_copy 59 = .ok (.aload_n 1, 1) := by decide +kernel
theorem dX7_copy_60 : decode cX7_copy 60 = .ok (.getfield 36, 3) := by decide +kernel
theorem dX7_copy_63 : decode cX7_copy 63 = .ok (.invokevirtual 65, 3) := by decide +kernel
theorem dX7_copy_66 : decode cX7_copy 66 = .ok (.aload_n 0, 1) := by decide +kernel
theorem dX7_copy_67 : decode cX7_copy 67 = .ok (.aload_n 1, 1) := by decide +kernel
theorem dX7_copy_68 : decode cX7_copy 68 = .ok (.getfield 68, 3) := by decide +kernel
theorem dX7_copy_71 : decode cX7_copy 71 = .ok (.putfield 68, 3) := by decide +kernel
theorem dX7_copy_74 : decode cX7_copy 74 = .ok (.aload_n 0, 1) := by decide +kernel
theorem dX7_copy_75 : decode cX7_copy 75 = .ok (.aload_n 1, 1) := by decide +kernel
theorem dX7_copy_76 : decode cX7_copy 76 = .ok (.getfield 45, 3) := by decide +kernel
theorem dX7_copy_79 : decode cX7_copy 79 = .ok (.putfield 45, 3) := by decide +kernel
theorem dX7_copy_82 : decode cX7_copy 82 = .ok (.iconst 0, 1) := by decide +kernel
theorem dX7_copy_83 : decode cX7_copy 83 = .ok (.istore_n 2, 1) := by decide +kernel
theorem dX7_copy_84 : decode cX7_copy 84 = .ok (.iload_n 2, 1) := by decide +kernel
theorem dX7_copy_85 : decode cX7_copy 85 = .ok (.aload_n 0, 1) := by decide +kernel
theorem dX7_copy_86 : decode cX7_copy 86 = .ok (.getfield 68, 3) := by decide +kernel
theorem dX7_copy_89 : decode cX7_copy 89 = .ok (.if_icmp .ge 24, 3) := by decide +kernel
theorem dX7_copy_92 : decode cX7_copy 92 = .ok (.aload_n 0, 1) := by decide +kernel
theorem dX7_copy_93 : decode cX7_copy 93 = .ok (.getfield 41, 3) := by decide +kernel
theorem dX7_copy_96 : decode cX7_copy 96 = .ok (.iload_n 2, 1) := by decide +kernel
theorem dX7_copy_97 : decode cX7_copy 97 = .ok (.aaload, 1) := by decide +kernel
theorem dX7_copy_98 : decode cX7_copy 98 = .ok (.aload_n 1, 1) := by decide +kernel
theorem dX7_copy_99 : decode cX7_copy 99 = .ok (.getfield 41, 3) := by decide +kernel
theorem dX7_copy_102 : decode cX7_copy 102 = .ok (.iload_n 2, 1) := by decide +kernel
theorem dX7_copy_103 : decode cX7_copy 103 = .ok (.aaload, 1) := by decide +kernel
theorem dX7_copy_104 : decode cX7_copy 104 = .ok (.invokevirtual 71, 3) := by decide +kernel
theorem dX7_copy_107 : decode cX7_copy 107 = .ok (.iinc 2 1, 3) := by decide +kernel
theorem dX7_copy_110 : decode cX7_copy 110 = .ok (.goto (-26), 3) := by decide +kernel
theorem dX7_copy_113 : decode cX7_copy 113 = .ok (.aload_n 0, 1) := by decide +kernel
theorem dX7_copy_114 : decode cX7_copy 114 = .ok (.aload_n 1, 1) := by decide +kernel
theorem dX7_copy_115 : decode cX7_copy 115 = .ok (.getfield 74, 3) := by decide +kernel
theorem dX7_copy_118 : decode cX7_copy 118 = .ok (.putfield 74, 3) := by decide +kernel
theorem dX7_copy_121 : decode cX7_copy 121 = .ok (.aload_n 0, 1) := by decide +kernel
theorem dX7_copy_122 : decode cX7_copy 122 = .ok (.aload_n 1, 1) := by decide +kernel
theorem dX7_copy_123 : decode cX7_copy 123 = .ok (.getfield 77, 3) := by decide +kernel
theorem dX7_copy_126 : decode cX7_copy 126 = .ok (.putfield 77, 3) := by decide +kernel
theorem dX7_copy_129 : decode cX7_copy 129 = .ok (.iconst 0, 1) := by decide +kernel
theorem dX7_copy_130 : decode cX7_copy 130 = .ok (.istore_n 2, 1) := by decide +kernel
theorem dX7_copy_131 : decode cX7_copy 131 = .ok (.iload_n 2, 1) := by decide +kernel
theorem dX7_copy_132 : decode cX7_copy 132 = .ok (.bipush 30, 2) := by decide +kernel
theorem dX7_copy_134 : decode cX7_copy 134 = .ok (.if_icmp .ge 24, 3) := by decide +kernel
theorem dX7_copy_137 : decode cX7_copy 137 = .ok (.aload_n 0, 1) := by decide +kernel
theorem dX7_copy_138 : decode cX7_copy 138 = .ok (.getfield 49, 3) := by decide +kernel
theorem dX7_copy_141 : decode cX7_copy 141 = .ok (.iload_n 2, 1) := by decide +kernel
theorem dX7_copy_142 : decode cX7_copy 142 = .ok (.aaload, 1) := by decide +kernel
theorem dX7_copy_143 : decode cX7_copy 143 = .ok (.aload_n 1, 1) := by decide +kernel
theorem dX7_copy_144 : decode cX7_copy 144 = .ok (.getfield 49, 3) := by decide +kernel
theorem dX7_copy_147 : decode cX7_copy 147 = .ok (.iload_n 2, 1) := by decide +kernel
theorem dX7_copy_148 : decode cX7_copy 148 = .ok (.aaload, 1) := by decide +kernel
theorem dX7_copy_149 : decode cX7_copy 149 = .ok (.invokevirtual 61, 3) := by decide +kernel
theorem dX7_copy_152 : decode cX7_copy 152 = .ok (.iinc 2 1, 3) := by decide +kernel
theorem dX7_copy_155 : decode cX7_copy 155 = .ok (.goto (-24), 3) := by decide +kernel
theorem dX7_copy_158 : decode cX7_copy 158 = .ok (.return_, 1) := by decide +kernel
theorem dX7_hasPerson_0 : decode cX7_hasPerson 0 = .ok (.iload_n 1, 1) := by decide +kernel
theorem dX7_hasPerson_1 : decode cX7_hasPerson 1 = .ok (.ifCond .lt 18, 3) := by decide +kernel
theorem dX7_hasPerson_4 : decode cX7_hasPerson 4 = .ok (.iload_n 1, 1) := by decide +kernel
theorem dX7_hasPerson_5 : decode cX7_hasPerson 5 = .ok (.aload_n 0, 1) := by decide +kernel
theorem dX7_hasPerson_6 : decode cX7_hasPerson 6 = .ok (.getfield 12, 3) := by decide +kernel
theorem dX7_hasPerson_9 : decode cX7_hasPerson 9 = .ok (.getfield 80, 3) := by decide +kernel
theorem dX7_hasPerson_12 : decode cX7_hasPerson 12 = .ok (.if_icmp .ge 7, 3) := by decide +kernel
theorem dX7_hasPerson_15 : decode cX7_hasPerson 15 = .ok (.iconst 1, 1) := by decide +kernel
theorem dX7_hasPerson_16 : decode cX7_hasPerson 16 = .ok (.goto 4, 3) := by decide +kernel
theorem dX7_hasPerson_19 : decode cX7_hasPerson 19 = .ok (.iconst 0, 1) := by decide +kernel
theorem dX7_hasPerson_20 : decode cX7_hasPerson 20 = .ok (.ireturn, 1) := by decide +kernel
theorem dX7_hasTwo_0 : decode cX7_hasTwo 0 = .ok (.aload_n 0, 1) := by decide +kernel
theorem dX7_hasTwo_1 : decode cX7_hasTwo 1 = .ok (.iload_n 1, 1) := by decide +kernel
theorem dX7_hasTwo_2 : decode cX7_hasTwo 2 = .ok (.invokevirtual 83, 3) := by decide +kernel
theorem dX7_hasTwo_5 : decode cX7_hasTwo 5 = .ok (.ifCond .eq 20, 3) := by decide +kernel
theorem dX7_hasTwo_8 : decode cX7_hasTwo 8 = .ok (.aload_n 0, 1) := by decide +kernel
theorem dX7_hasTwo_9 : decode cX7_hasTwo 9 = .ok (.iload_n 2, 1) := by decide +kernel
theorem dX7_hasTwo_10 : decode cX7_hasTwo 10 = .ok (.invokevirtual 83, 3) := by decide +kernel
theorem dX7_hasTwo_13 : decode cX7_hasTwo 13 = .ok (.ifCond .eq 12, 3) := by decide +kernel
theorem dX7_hasTwo_16 : decode cX7_hasTwo 16 = .ok (.iload_n 1, 1) := by decide +kernel
theorem dX7_hasTwo_17 : decode cX7_hasTwo 17 = .ok (.iload_n 2, 1) := by decide +kernel
theorem dX7_hasTwo_18 : decode cX7_hasTwo 18 = .ok (.if_icmp .eq 7, 3) := by decide +kernel
theorem dX7_hasTwo_21 : decode cX7_hasTwo 21 = .ok (.iconst 1, 1) := by decide +kernel
theorem dX7_hasTwo_22 : decode cX7_hasTwo 22 = .ok (.goto 4, 3) := by decide +kernel
theorem dX7_hasTwo_25 : decode cX7_hasTwo 25 = .ok (.iconst 0, 1) := by decide +kernel
theorem dX7_hasTwo_26 : decode cX7_hasTwo 26 = .ok (.ireturn, 1) := by decide +kernel
theorem dX7_hasDispute_0 : decode cX7_hasDispute 0 = .ok (.iload_n 1, 1) := by decide +kernel
theorem dX7_hasDispute_1 : decode cX7_hasDispute 1 = .ok (.ifCond .lt 18, 3) := by decide +kernel
theorem dX7_hasDispute_4 : decode cX7_hasDispute 4 = .ok (.iload_n 1, 1) := by decide +kernel
theorem dX7_hasDispute_5 : decode cX7_hasDispute 5 = .ok (.aload_n 0, 1) := by decide +kernel
theorem dX7_hasDispute_6 : decode cX7_hasDispute 6 = .ok (.getfield 27, 3) := by decide +kernel
theorem dX7_hasDispute_9 : decode cX7_hasDispute 9 = .ok (.getfield 87, 3) := by decide +kernel
theorem dX7_hasDispute_12 : decode cX7_hasDispute 12 = .ok (.if_icmp .ge 7, 3) := by decide +kernel
theorem dX7_hasDispute_15 : decode cX7_hasDispute 15 = .ok (.iconst 1, 1) := by decide +kernel
theorem dX7_hasDispute_16 : decode cX7_hasDispute 16 = .ok (.goto 4, 3) := by decide +kernel
theorem dX7_hasDispute_19 : decode cX7_hasDispute 19 = .ok (.iconst 0, 1) := by decide +kernel
theorem dX7_hasDispute_20 : decode cX7_hasDispute 20 = .ok (.ireturn, 1) := by decide +kernel
theorem dX7_hasText_0 : decode cX7_hasText 0 = .ok (.iload_n 1, 1) := by decide +kernel
theorem dX7_hasText_1 : decode cX7_hasText 1 = .ok (.ifCond .lt 15, 3) := by decide +kernel
theorem dX7_hasText_4 : decode cX7_hasText 4 = .ok (.iload_n 1, 1) := by decide +kernel
theorem dX7_hasText_5 : decode cX7_hasText 5 = .ok (.aload_n 0, 1) := by decide +kernel
theorem dX7_hasText_6 : decode cX7_hasText 6 = .ok (.getfield 68, 3) := by decide +kernel
theorem dX7_hasText_9 : decode cX7_hasText 9 = .ok (.if_icmp .ge 7, 3) := by decide +kernel
theorem dX7_hasText_12 : decode cX7_hasText 12 = .ok (.iconst 1, 1) := by decide +kernel
theorem dX7_hasText_13 : decode cX7_hasText 13 = .ok (.goto 4, 3) := by decide +kernel
theorem dX7_hasText_16 : decode cX7_hasText 16 = .ok (.iconst 0, 1) := by decide +kernel
theorem dX7_hasText_17 : decode cX7_hasText 17 = .ok (.ireturn, 1) := by decide +kernel
theorem dX7_canArgue_0 : decode cX7_canArgue 0 = .ok (.aload_n 0, 1) := by decide +kernel
theorem dX7_canArgue_1 : decode cX7_canArgue 1 = .ok (.iload_n 1, 1) := by decide +kernel
theorem dX7_canArgue_2 : decode cX7_canArgue 2 = .ok (.invokevirtual 90, 3) := by decide +kernel
theorem dX7_canArgue_5 : decode cX7_canArgue 5 = .ok (.ifCond .eq 16, 3) := by decide +kernel
theorem dX7_canArgue_8 : decode cX7_canArgue 8 = .ok (.aload_n 0, 1) := by decide +kernel
theorem dX7_canArgue_9 : decode cX7_canArgue 9 = .ok (.iload_n 2, 1) := by decide +kernel
theorem dX7_canArgue_10 : decode cX7_canArgue 10 = .ok (.iload_n 3, 1) := by decide +kernel
theorem dX7_canArgue_11 : decode cX7_canArgue 11 = .ok (.invokevirtual 93, 3) := by decide +kernel
theorem dX7_canArgue_14 : decode cX7_canArgue 14 = .ok (.ifCond .eq 7, 3) := by decide +kernel
theorem dX7_canArgue_17 : decode cX7_canArgue 17 = .ok (.iconst 1, 1) := by decide +kernel
theorem dX7_canArgue_18 : decode cX7_canArgue 18 = .ok (.goto 4, 3) := by decide +kernel
theorem dX7_canArgue_21 : decode cX7_canArgue 21 = .ok (.iconst 0, 1) := by decide +kernel
theorem dX7_canArgue_22 : decode cX7_canArgue 22 = .ok (.ireturn, 1) := by decide +kernel
theorem dX7_tellPerson_0 : decode cX7_tellPerson 0 = .ok (.iload_n 1, 1) := by decide +kernel
theorem dX7_tellPerson_1 : decode cX7_tellPerson 1 = .ok (.ifCond .lt 30, 3) := by decide +kernel
theorem dX7_tellPerson_4 : decode cX7_tellPerson 4 = .ok (.iload_n 1, 1) := by decide +kernel
theorem dX7_tellPerson_5 : decode cX7_tellPerson 5 = .ok (.bipush 99, 2) := by decide +kernel
theorem dX7_tellPerson_7 : decode cX7_tellPerson 7 = .ok (.if_icmp .gt 24, 3) := by decide +kernel
theorem dX7_tellPerson_10 : decode cX7_tellPerson 10 = .ok (.iload_n 2, 1) := by decide +kernel
theorem dX7_tellPerson_11 : decode cX7_tellPerson 11 = .ok (.ifCond .lt 20, 3) := by decide +kernel
theorem dX7_tellPerson_14 : decode cX7_tellPerson 14 = .ok (.iload_n 2, 1) := by decide +kernel
theorem dX7_tellPerson_15 : decode cX7_tellPerson 15 = .ok (.bipush 10, 2) := by decide +kernel
theorem dX7_tellPerson_17 : decode cX7_tellPerson 17 = .ok (.if_icmp .gt 14, 3) := by decide +kernel
theorem dX7_tellPerson_20 : decode cX7_tellPerson 20 = .ok (.aload_n 0, 1) := by decide +kernel
theorem dX7_tellPerson_21 : decode cX7_tellPerson 21 = .ok (.getfield 23, 3) := by decide +kernel
theorem dX7_tellPerson_24 : decode cX7_tellPerson 24 = .ok (.iload_n 2, 1) := by decide +kernel
theorem dX7_tellPerson_25 : decode cX7_tellPerson 25 = .ok (.invokevirtual 97, 3) := by decide +kernel
theorem dX7_tellPerson_28 : decode cX7_tellPerson 28 = .ok (.ifCond .ne 5, 3) := by decide +kernel
theorem dX7_tellPerson_31 : decode cX7_tellPerson 31 = .ok (.iconst (-1), 1) := by decide +kernel
theorem dX7_tellPerson_32 : decode cX7_tellPerson 32 = .ok (.ireturn, 1) := by decide +kernel
theorem dX7_tellPerson_33 : decode cX7_tellPerson 33 = .ok (.aload_n 0, 1) := by decide +kernel
theorem dX7_tellPerson_34 : decode cX7_tellPerson 34 = .ok (.getfield 23, 3) := by decide +kernel
theorem dX7_tellPerson_37 : decode cX7_tellPerson 37 = .ok (.getfield 87, 3) := by decide +kernel
theorem dX7_tellPerson_40 : decode cX7_tellPerson 40 = .ok (.iconst 1, 1) := by decide +kernel
theorem dX7_tellPerson_41 : decode cX7_tellPerson 41 = .ok (.isub, 1) := by decide +kernel
theorem dX7_tellPerson_42 : decode cX7_tellPerson 42 = .ok (.istore_n 3, 1) := by decide +kernel
theorem dX7_tellPerson_43 : decode cX7_tellPerson 43 = .ok (.aload_n 0, 1) := by decide +kernel
theorem dX7_tellPerson_44 : decode cX7_tellPerson 44 = .ok (.getfield 12, 3) := by decide +kernel
theorem dX7_tellPerson_47 : decode cX7_tellPerson 47 = .ok (.getfield 100, 3) := by decide +kernel
theorem dX7_tellPerson_50 : decode cX7_tellPerson 50 = .ok (.iload_n 3, 1) := by decide +kernel
theorem dX7_tellPerson_51 : decode cX7_tellPerson 51 = .ok (.iload_n 1, 1) := by decide +kernel
theorem dX7_tellPerson_52 : decode cX7_tellPerson 52 = .ok (.iastore, 1) := by decide +kernel
theorem dX7_tellPerson_53 : decode cX7_tellPerson 53 = .ok (.aload_n 0, 1) := by decide +kernel
theorem dX7_tellPerson_54 : decode cX7_tellPerson 54 = .ok (.getfield 12, 3) := by decide +kernel
theorem dX7_tellPerson_57 : decode cX7_tellPerson 57 = .ok (.getfield 104, 3) := by decide +kernel
theorem dX7_tellPerson_60 : decode cX7_tellPerson 60 = .ok (.iload_n 3, 1) := by decide +kernel
theorem dX7_tellPerson_61 : decode cX7_tellPerson 61 = .ok (.iconst 0, 1) := by decide +kernel
theorem dX7_tellPerson_62 : decode cX7_tellPerson 62 = .ok (.iastore, 1) := by decide +kernel
theorem dX7_tellPerson_63 : decode cX7_tellPerson 63 = .ok (.aload_n 0, 1) := by decide +kernel
theorem dX7_tellPerson_64 : decode cX7_tellPerson 64 = .ok (.getfield 12, 3) := by decide +kernel
theorem dX7_tellPerson_67 : decode cX7_tellPerson 67 = .ok (.aload_n 0, 1) := by decide +kernel
theorem dX7_tellPerson_68 : decode cX7_tellPerson 68 = .ok (.getfield 23, 3) := by decide +kernel
theorem dX7_tellPerson_71 : decode cX7_tellPerson 71 = .ok (.getfield 87, 3) := by decide +kernel
theorem dX7_tellPerson_74 : decode cX7_tellPerson 74 = .ok (.putfield 80, 3) := by decide +kernel
theorem dX7_tellPerson_77 : decode cX7_tellPerson 77 = .ok (.iload_n 3, 1) := by decide +kernel
theorem dX7_tellPerson_78 : decode cX7_tellPerson 78 = .ok (.ireturn, 1) := by decide +kernel
theorem dX7_tellDispute_0 : decode cX7_tellDispute 0 = .ok (.iload_n 1, 1) := by decide +kernel
theorem dX7_tellDispute_1 : decode cX7_tellDispute 1 = .ok (.invokestatic 107, 3) := by decide +kernel
theorem dX7_tellDispute_4 : decode cX7_tellDispute 4 = .ok (.ifCond .eq 26, 3) := by decide +kernel
theorem dX7_tellDispute_7 : decode cX7_tellDispute 7 = .ok (.aload_n 0, 1) := by decide +kernel
theorem dX7_tellDispute_8 : decode cX7_tellDispute 8 = .ok (.getfield 27, 3) := by decide +kernel
theorem dX7_tellDispute_11 : decode cX7_tellDispute 11 = .ok (.iload_n 1, 1) := by decide +kernel
theorem dX7_tellDispute_12 : decode cX7_tellDispute 12 = .ok (.invokevirtual 97, 3) := by decide +kernel
theorem dX7_tellDispute_15 : decode cX7_tellDispute 15 = .ok (.ifCond .eq 15, 3) := by decide +kernel
theorem dX7_tellDispute_18 : decode cX7_tellDispute 18 = .ok (.aload_n 0, 1) := by decide +kernel
theorem dX7_tellDispute_19 : decode cX7_tellDispute 19 = .ok (.getfield 27, 3) := by decide +kernel
theorem dX7_tellDispute_22 : decode cX7_tellDispute 22 = .ok (.getfield 87, 3) := by decide +kernel
theorem dX7_tellDispute_25 : decode cX7_tellDispute 25 = .ok (.iconst 1, 1) := by decide +kernel
theorem dX7_tellDispute_26 : decode cX7_tellDispute 26 = .ok (.isub, 1) := by decide +kernel
theorem dX7_tellDispute_27 : decode cX7_tellDispute 27 = .ok (.goto 4, 3) := by decide +kernel
theorem dX7_tellDispute_30 : decode cX7_tellDispute 30 = .ok (.iconst (-1), 1) := by decide +kernel
theorem dX7_tellDispute_31 : decode cX7_tellDispute 31 = .ok (.ireturn, 1) := by decide +kernel
theorem dX7_oddsOf_0 : decode cX7_oddsOf 0 = .ok (.aload_n 0, 1) := by decide +kernel
theorem dX7_oddsOf_1 : decode cX7_oddsOf 1 = .ok (.aload_n 0, 1) := by decide +kernel
theorem dX7_oddsOf_2 : decode cX7_oddsOf 2 = .ok (.getfield 45, 3) := by decide +kernel
theorem dX7_oddsOf_5 : decode cX7_oddsOf 5 = .ok (.invokevirtual 110, 3) := by decide +kernel
theorem dX7_oddsOf_8 : decode cX7_oddsOf 8 = .ok (.ifCond .eq 19, 3) := by decide +kernel
theorem dX7_oddsOf_11 : decode cX7_oddsOf 11 = .ok (.aload_n 0, 1) := by decide +kernel
theorem dX7_oddsOf_12 : decode cX7_oddsOf 12 = .ok (.getfield 41, 3) := by decide +kernel
theorem dX7_oddsOf_15 : decode cX7_oddsOf 15 = .ok (.aload_n 0, 1) := by decide +kernel
theorem dX7_oddsOf_16 : decode cX7_oddsOf 16 = .ok (.getfield 45, 3) := by decide +kernel
theorem dX7_oddsOf_19 : decode cX7_oddsOf 19 = .ok (.aaload, 1) := by decide +kernel
theorem dX7_oddsOf_20 : decode cX7_oddsOf 20 = .ok (.getfield 113, 3) := by decide +kernel
theorem dX7_oddsOf_23 : decode cX7_oddsOf 23 = .ok (.iconst (-1), 1) := by decide +kernel
theorem dX7_oddsOf_24 : decode cX7_oddsOf 24 = .ok (.if_icmp .ne 12, 3) := by decide +kernel
theorem dX7_oddsOf_27 : decode cX7_oddsOf 27 = .ok (.aload_n 0, 1) := by decide +kernel
theorem dX7_oddsOf_28 : decode cX7_oddsOf 28 = .ok (.getfield 23, 3) := by decide +kernel
theorem dX7_oddsOf_31 : decode cX7_oddsOf 31 = .ok (.iload_n 2, 1) := by decide +kernel
theorem dX7_oddsOf_32 : decode cX7_oddsOf 32 = .ok (.invokevirtual 116, 3) := by decide +kernel
theorem dX7_oddsOf_35 : decode cX7_oddsOf 35 = .ok (.ireturn, 1) := by decide +kernel
theorem dX7_oddsOf_36 : decode cX7_oddsOf 36 = .ok (.aload_n 0, 1) := by decide +kernel
theorem dX7_oddsOf_37 : decode cX7_oddsOf 37 = .ok (.iload_n 1, 1) := by decide +kernel
theorem dX7_oddsOf_38 : decode cX7_oddsOf 38 = .ok (.iload_n 2, 1) := by decide +kernel
theorem dX7_oddsOf_39 : decode cX7_oddsOf 39 = .ok (.invokevirtual 120, 3) := by decide +kernel
theorem dX7_oddsOf_42 : decode cX7_oddsOf 42 = .ok (.aload_n 0, 1) := by decide +kernel
theorem dX7_oddsOf_43 : decode cX7_oddsOf 43 = .ok (.getfield 56, 3) := by decide +kernel
theorem dX7_oddsOf_46 : decode cX7_oddsOf 46 = .ok (.getfield 124, 3) := by decide +kernel
theorem dX7_oddsOf_49 : decode cX7_oddsOf 49 = .ok (.bipush 7, 2) := by decide +kernel
theorem dX7_oddsOf_51 : decode cX7_oddsOf 51 = .ok (.aload_n 0, 1) := by decide +kernel
theorem dX7_oddsOf_52 : decode cX7_oddsOf 52 = .ok (.getfield 23, 3) := by decide +kernel
theorem dX7_oddsOf_55 : decode cX7_oddsOf 55 = .ok (.iload_n 3, 1) := by decide +kernel
theorem dX7_oddsOf_56 : decode cX7_oddsOf 56 = .ok (.invokevirtual 116, 3) := by decide +kernel
theorem dX7_oddsOf_59 : decode cX7_oddsOf 59 = .ok (.iastore, 1) := by decide +kernel
theorem dX7_oddsOf_60 : decode cX7_oddsOf 60 = .ok (.aload_n 0, 1) := by decide +kernel
theorem dX7_oddsOf_61 : decode cX7_oddsOf 61 = .ok (.getfield 56, 3) := by decide +kernel
theorem dX7_oddsOf_64 : decode cX7_oddsOf 64 = .ok (.getfield 124, 3) := by decide +kernel
theorem dX7_oddsOf_67 : decode cX7_oddsOf 67 = .ok (.bipush 8, 2) := by decide +kernel
theorem dX7_oddsOf_69 : decode cX7_oddsOf 69 = .ok (.aload_n 0, 1) := by decide +kernel
theorem dX7_oddsOf_70 : decode cX7_oddsOf 70 = .ok (.getfield 12, 3) := by decide +kernel
theorem dX7_oddsOf_73 : decode cX7_oddsOf 73 = .ok (.getfield 100, 3) := by decide +kernel
theorem dX7_oddsOf_76 : decode cX7_oddsOf 76 = .ok (.iload_n 3, 1) := by decide +kernel
theorem dX7_oddsOf_77 : decode cX7_oddsOf 77 = .ok (.iaload, 1) := by decide +kernel
theorem dX7_oddsOf_78 : decode cX7_oddsOf 78 = .ok (.iastore, 1) := by decide +kernel
theorem dX7_oddsOf_79 : decode cX7_oddsOf 79 = .ok (.iconst 0, 1) := by decide +kernel
theorem dX7_oddsOf_80 : decode cX7_oddsOf 80 = .ok (.aload_n 0, 1) := by decide +kernel
theorem dX7_oddsOf_81 : decode cX7_oddsOf 81 = .ok (.getfield 56, 3) := by decide +kernel
theorem dX7_oddsOf_84 : decode cX7_oddsOf 84 = .ok (.aload_n 0, 1) := by decide +kernel
theorem dX7_oddsOf_85 : decode cX7_oddsOf 85 = .ok (.getfield 41, 3) := by decide +kernel
theorem dX7_oddsOf_88 : decode cX7_oddsOf 88 = .ok (.aload_n 0, 1) := by decide +kernel
theorem dX7_oddsOf_89 : decode cX7_oddsOf 89 = .ok (.getfield 45, 3) := by decide +kernel
theorem dX7_oddsOf_92 : decode cX7_oddsOf 92 = .ok (.aaload, 1) := by decide +kernel
theorem dX7_oddsOf_93 : decode cX7_oddsOf 93 = .ok (.aload_n 0, 1) := by decide +kernel
theorem dX7_oddsOf_94 : decode cX7_oddsOf 94 = .ok (.getfield 41, 3) := by decide +kernel
theorem dX7_oddsOf_97 : decode cX7_oddsOf 97 = .ok (.aload_n 0, 1) := by decide +kernel
theorem dX7_oddsOf_98 : decode cX7_oddsOf 98 = .ok (.getfield 45, 3) := by decide +kernel
theorem dX7_oddsOf_101 : decode cX7_oddsOf 101 = .ok (.aaload, 1) := by decide +kernel
theorem dX7_oddsOf_102 : decode cX7_oddsOf 102 = .ok (.getfield 113, 3) := by decide +kernel
theorem dX7_oddsOf_105 : decode cX7_oddsOf 105 = .ok (.aload_n 0, 1) := by decide +kernel
theorem dX7_oddsOf_106 : decode cX7_oddsOf 106 = .ok (.getfield 12, 3) := by decide +kernel
theorem dX7_oddsOf_109 : decode cX7_oddsOf 109 = .ok (.getfield 127, 3) := by decide +kernel
theorem dX7_oddsOf_112 : decode cX7_oddsOf 112 = .ok (.invokevirtual 130, 3) := by decide +kernel
theorem dX7_oddsOf_115 : decode cX7_oddsOf 115 = .ok (.bipush 10, 2) := by decide +kernel
theorem dX7_oddsOf_117 : decode cX7_oddsOf 117 = .ok (.invokestatic 134, 3) := by decide +kernel
theorem dX7_oddsOf_120 : decode cX7_oddsOf 120 = .ok (.ireturn, 1) := by decide +kernel
theorem dX7_fillsBy_0 : decode cX7_fillsBy 0 = .ok (.aload_n 0, 1) := by decide +kernel
theorem dX7_fillsBy_1 : decode cX7_fillsBy 1 = .ok (.iload_n 1, 1) := by decide +kernel
theorem dX7_fillsBy_2 : decode cX7_fillsBy 2 = .ok (.invokevirtual 110, 3) := by decide +kernel
theorem dX7_fillsBy_5 : decode cX7_fillsBy 5 = .ok (.ifCond .eq 16, 3) := by decide +kernel
theorem dX7_fillsBy_8 : decode cX7_fillsBy 8 = .ok (.aload_n 0, 1) := by decide +kernel
theorem dX7_fillsBy_9 : decode cX7_fillsBy 9 = .ok (.getfield 41, 3) := by decide +kernel
theorem dX7_fillsBy_12 : decode cX7_fillsBy 12 = .ok (.iload_n 1, 1) := by decide +kernel
theorem dX7_fillsBy_13 : decode cX7_fillsBy 13 = .ok (.aaload, 1) := by decide +kernel
theorem dX7_fillsBy_14 : decode cX7_fillsBy 14 = .ok (.getfield 138, 3) := by decide +kernel
theorem dX7_fillsBy_17 : decode cX7_fillsBy 17 = .ok (.iconst (-1), 1) := by decide +kernel
theorem dX7_fillsBy_18 : decode cX7_fillsBy 18 = .ok (.if_icmp .ne 20, 3) := by decide +kernel
theorem dX7_fillsBy_21 : decode cX7_fillsBy 21 = .ok (.aload_n 0, 1) := by decide +kernel
theorem dX7_fillsBy_22 : decode cX7_fillsBy 22 = .ok (.getfield 27, 3) := by decide +kernel
theorem dX7_fillsBy_25 : decode cX7_fillsBy 25 = .ok (.iload_n 2, 1) := by decide +kernel
theorem dX7_fillsBy_26 : decode cX7_fillsBy 26 = .ok (.invokevirtual 116, 3) := by decide +kernel
theorem dX7_fillsBy_29 : decode cX7_fillsBy 29 = .ok (.invokestatic 141, 3) := by decide +kernel
theorem dX7_fillsBy_32 : decode cX7_fillsBy 32 = .ok (.bipush 9, 2) := by decide +kernel
theorem dX7_fillsBy_34 : decode cX7_fillsBy 34 = .ok (.invokestatic 146, 3) := by decide +kernel
theorem dX7_fillsBy_37 : decode cX7_fillsBy 37 = .ok (.ireturn, 1) := by decide +kernel
theorem dX7_fillsBy_38 : decode cX7_fillsBy 38 = .ok (.aload_n 0, 1) := by decide +kernel
theorem dX7_fillsBy_39 : decode cX7_fillsBy 39 = .ok (.iload_n 2, 1) := by decide +kernel
theorem dX7_fillsBy_40 : decode cX7_fillsBy 40 = .ok (.iload_n 3, 1) := by decide +kernel
theorem dX7_fillsBy_41 : decode cX7_fillsBy 41 = .ok (.invokevirtual 120, 3) := by decide +kernel
theorem dX7_fillsBy_44 : decode cX7_fillsBy 44 = .ok (.aload_n 0, 1) := by decide +kernel
theorem dX7_fillsBy_45 : decode cX7_fillsBy 45 = .ok (.getfield 56, 3) := by decide +kernel
theorem dX7_fillsBy_48 : decode cX7_fillsBy 48 = .ok (.getfield 124, 3) := by decide +kernel
theorem dX7_fillsBy_51 : decode cX7_fillsBy 51 = .ok (.bipush 9, 2) := by decide +kernel
theorem dX7_fillsBy_53 : decode cX7_fillsBy 53 = .ok (.iload_n 3, 1) := by decide +kernel
theorem dX7_fillsBy_54 : decode cX7_fillsBy 54 = .ok (.iastore, 1) := by decide +kernel
theorem dX7_fillsBy_55 : decode cX7_fillsBy 55 = .ok (.iconst 0, 1) := by decide +kernel
theorem dX7_fillsBy_56 : decode cX7_fillsBy 56 = .ok (.aload_n 0, 1) := by decide +kernel
theorem dX7_fillsBy_57 : decode cX7_fillsBy 57 = .ok (.getfield 56, 3) := by decide +kernel
theorem dX7_fillsBy_60 : decode cX7_fillsBy 60 = .ok (.aload_n 0, 1) := by decide +kernel
theorem dX7_fillsBy_61 : decode cX7_fillsBy 61 = .ok (.getfield 41, 3) := by decide +kernel
theorem dX7_fillsBy_64 : decode cX7_fillsBy 64 = .ok (.iload_n 1, 1) := by decide +kernel
theorem dX7_fillsBy_65 : decode cX7_fillsBy 65 = .ok (.aaload, 1) := by decide +kernel
theorem dX7_fillsBy_66 : decode cX7_fillsBy 66 = .ok (.aload_n 0, 1) := by decide +kernel
theorem dX7_fillsBy_67 : decode cX7_fillsBy 67 = .ok (.getfield 41, 3) := by decide +kernel
theorem dX7_fillsBy_70 : decode cX7_fillsBy 70 = .ok (.iload_n 1, 1) := by decide +kernel
theorem dX7_fillsBy_71 : decode cX7_fillsBy 71 = .ok (.aaload, 1) := by decide +kernel
theorem dX7_fillsBy_72 : decode cX7_fillsBy 72 = .ok (.getfield 138, 3) := by decide +kernel
theorem dX7_fillsBy_75 : decode cX7_fillsBy 75 = .ok (.aload_n 0, 1) := by decide +kernel
theorem dX7_fillsBy_76 : decode cX7_fillsBy 76 = .ok (.getfield 12, 3) := by decide +kernel
theorem dX7_fillsBy_79 : decode cX7_fillsBy 79 = .ok (.getfield 127, 3) := by decide +kernel
theorem dX7_fillsBy_82 : decode cX7_fillsBy 82 = .ok (.invokevirtual 130, 3) := by decide +kernel
theorem dX7_fillsBy_85 : decode cX7_fillsBy 85 = .ok (.bipush 9, 2) := by decide +kernel
theorem dX7_fillsBy_87 : decode cX7_fillsBy 87 = .ok (.invokestatic 134, 3) := by decide +kernel
theorem dX7_fillsBy_90 : decode cX7_fillsBy 90 = .ok (.ireturn, 1) := by decide +kernel
theorem dX7_nameAll_0 : decode cX7_nameAll 0 = .ok (.aload_n 0, 1) := by decide +kernel
theorem dX7_nameAll_1 : decode cX7_nameAll 1 = .ok (.getfield 56, 3) := by decide +kernel
theorem dX7_nameAll_4 : decode cX7_nameAll 4 = .ok (.getfield 124, 3) := by decide +kernel
theorem dX7_nameAll_7 : decode cX7_nameAll 7 = .ok (.iconst 0, 1) := by decide +kernel
theorem dX7_nameAll_8 : decode cX7_nameAll 8 = .ok (.aload_n 0, 1) := by decide +kernel
theorem dX7_nameAll_9 : decode cX7_nameAll 9 = .ok (.getfield 12, 3) := by decide +kernel
theorem dX7_nameAll_12 : decode cX7_nameAll 12 = .ok (.getfield 152, 3) := by decide +kernel
theorem dX7_nameAll_15 : decode cX7_nameAll 15 = .ok (.iastore, 1) := by decide +kernel
theorem dX7_nameAll_16 : decode cX7_nameAll 16 = .ok (.aload_n 0, 1) := by decide +kernel
theorem dX7_nameAll_17 : decode cX7_nameAll 17 = .ok (.getfield 56, 3) := by decide +kernel
theorem dX7_nameAll_20 : decode cX7_nameAll 20 = .ok (.getfield 124, 3) := by decide +kernel
theorem dX7_nameAll_23 : decode cX7_nameAll 23 = .ok (.iconst 2, 1) := by decide +kernel
theorem dX7_nameAll_24 : decode cX7_nameAll 24 = .ok (.aload_n 0, 1) := by decide +kernel
theorem dX7_nameAll_25 : decode cX7_nameAll 25 = .ok (.getfield 12, 3) := by decide +kernel
theorem dX7_nameAll_28 : decode cX7_nameAll 28 = .ok (.getfield 127, 3) := by decide +kernel
theorem dX7_nameAll_31 : decode cX7_nameAll 31 = .ok (.invokestatic 141, 3) := by decide +kernel
theorem dX7_nameAll_34 : decode cX7_nameAll 34 = .ok (.iastore, 1) := by decide +kernel
theorem dX7_nameAll_35 : decode cX7_nameAll 35 = .ok (.aload_n 0, 1) := by decide +kernel
theorem dX7_nameAll_36 : decode cX7_nameAll 36 = .ok (.getfield 56, 3) := by decide +kernel
theorem dX7_nameAll_39 : decode cX7_nameAll 39 = .ok (.getfield 124, 3) := by decide +kernel
theorem dX7_nameAll_42 : decode cX7_nameAll 42 = .ok (.iconst 3, 1) := by decide +kernel
theorem dX7_nameAll_43 : decode cX7_nameAll 43 = .ok (.iload_n 1, 1) := by decide +kernel
theorem dX7_nameAll_44 : decode cX7_nameAll 44 = .ok (.iastore, 1) := by decide +kernel
theorem dX7_nameAll_45 : decode cX7_nameAll 45 = .ok (.aload_n 0, 1) := by decide +kernel
theorem dX7_nameAll_46 : decode cX7_nameAll 46 = .ok (.getfield 56, 3) := by decide +kernel
theorem dX7_nameAll_49 : decode cX7_nameAll 49 = .ok (.getfield 124, 3) := by decide +kernel
theorem dX7_nameAll_52 : decode cX7_nameAll 52 = .ok (.iconst 4, 1) := by decide +kernel
theorem dX7_nameAll_53 : decode cX7_nameAll 53 = .ok (.aload_n 0, 1) := by decide +kernel
theorem dX7_nameAll_54 : decode cX7_nameAll 54 = .ok (.getfield 27, 3) := by decide +kernel
theorem dX7_nameAll_57 : decode cX7_nameAll 57 = .ok (.iload_n 1, 1) := by decide +kernel
theorem dX7_nameAll_58 : decode cX7_nameAll 58 = .ok (.invokevirtual 116, 3) := by decide +kernel
theorem dX7_nameAll_61 : decode cX7_nameAll 61 = .ok (.invokestatic 141, 3) := by decide +kernel
theorem dX7_nameAll_64 : decode cX7_nameAll 64 = .ok (.iastore, 1) := by decide +kernel
theorem dX7_nameAll_65 : decode cX7_nameAll 65 = .ok (.aload_n 0, 1) := by decide +kernel
theorem dX7_nameAll_66 : decode cX7_nameAll 66 = .ok (.getfield 56, 3) := by decide +kernel
theorem dX7_nameAll_69 : decode cX7_nameAll 69 = .ok (.getfield 124, 3) := by decide +kernel
theorem dX7_nameAll_72 : decode cX7_nameAll 72 = .ok (.iconst 1, 1) := by decide +kernel
theorem dX7_nameAll_73 : decode cX7_nameAll 73 = .ok (.aload_n 0, 1) := by decide +kernel
theorem dX7_nameAll_74 : decode cX7_nameAll 74 = .ok (.getfield 23, 3) := by decide +kernel
theorem dX7_nameAll_77 : decode cX7_nameAll 77 = .ok (.iload_n 2, 1) := by decide +kernel
theorem dX7_nameAll_78 : decode cX7_nameAll 78 = .ok (.invokevirtual 116, 3) := by decide +kernel
theorem dX7_nameAll_81 : decode cX7_nameAll 81 = .ok (.iastore, 1) := by decide +kernel
theorem dX7_nameAll_82 : decode cX7_nameAll 82 = .ok (.aload_n 0, 1) := by decide +kernel
theorem dX7_nameAll_83 : decode cX7_nameAll 83 = .ok (.getfield 56, 3) := by decide +kernel
theorem dX7_nameAll_86 : decode cX7_nameAll 86 = .ok (.getfield 124, 3) := by decide +kernel
theorem dX7_nameAll_89 : decode cX7_nameAll 89 = .ok (.iconst 5, 1) := by decide +kernel
theorem dX7_nameAll_90 : decode cX7_nameAll 90 = .ok (.aload_n 0, 1) := by decide +kernel
theorem dX7_nameAll_91 : decode cX7_nameAll 91 = .ok (.getfield 12, 3) := by decide +kernel
theorem dX7_nameAll_94 : decode cX7_nameAll 94 = .ok (.getfield 100, 3) := by decide +kernel
theorem dX7_nameAll_97 : decode cX7_nameAll 97 = .ok (.iload_n 2, 1) := by decide +kernel
theorem dX7_nameAll_98 : decode cX7_nameAll 98 = .ok (.iaload, 1) := by decide +kernel
theorem dX7_nameAll_99 : decode cX7_nameAll 99 = .ok (.iastore, 1) := by decide +kernel
theorem dX7_nameAll_100 : decode cX7_nameAll 100 = .ok (.aload_n 0, 1) := by decide +kernel
theorem dX7_nameAll_101 : decode cX7_nameAll 101 = .ok (.getfield 56, 3) := by decide +kernel
theorem dX7_nameAll_104 : decode cX7_nameAll 104 = .ok (.getfield 124, 3) := by decide +kernel
theorem dX7_nameAll_107 : decode cX7_nameAll 107 = .ok (.bipush 6, 2) := by decide +kernel
theorem dX7_nameAll_109 : decode cX7_nameAll 109 = .ok (.aload_n 0, 1) := by decide +kernel
theorem dX7_nameAll_110 : decode cX7_nameAll 110 = .ok (.getfield 12, 3) := by decide +kernel
theorem dX7_nameAll_113 : decode cX7_nameAll 113 = .ok (.getfield 104, 3) := by decide +kernel
theorem dX7_nameAll_116 : decode cX7_nameAll 116 = .ok (.iload_n 2, 1) := by decide +kernel
theorem dX7_nameAll_117 : decode cX7_nameAll 117 = .ok (.iaload, 1) := by decide +kernel
theorem dX7_nameAll_118 : decode cX7_nameAll 118 = .ok (.iastore, 1) := by decide +kernel
theorem dX7_nameAll_119 : decode cX7_nameAll 119 = .ok (.return_, 1) := by decide +kernel
theorem dX7_agrees_0 : decode cX7_agrees 0 = .ok (.iconst 0, 1) := by decide +kernel
theorem dX7_agrees_1 : decode cX7_agrees 1 = .ok (.istore_n 2, 1) := by decide +kernel
theorem dX7_agrees_2 : decode cX7_agrees 2 = .ok (.iload_n 2, 1) := by decide +kernel
theorem dX7_agrees_3 : decode cX7_agrees 3 = .ok (.aload_n 0, 1) := by decide +kernel
theorem dX7_agrees_4 : decode cX7_agrees 4 = .ok (.getfield 36, 3) := by decide +kernel
theorem dX7_agrees_7 : decode cX7_agrees 7 = .ok (.getfield 87, 3) := by decide +kernel
theorem dX7_agrees_10 : decode cX7_agrees 10 = .ok (.if_icmp .ge 46, 3) := by decide +kernel
theorem dX7_agrees_13 : decode cX7_agrees 13 = .ok (.aload_n 0, 1) := by decide +kernel
theorem dX7_agrees_14 : decode cX7_agrees 14 = .ok (.getfield 36, 3) := by decide +kernel
theorem dX7_agrees_17 : decode cX7_agrees 17 = .ok (.iload_n 2, 1) := by decide +kernel
theorem dX7_agrees_18 : decode cX7_agrees 18 = .ok (.invokevirtual 116, 3) := by decide +kernel
theorem dX7_agrees_21 : decode cX7_agrees 21 = .ok (.istore_n 3, 1) := by decide +kernel
theorem dX7_agrees_22 : decode cX7_agrees 22 = .ok (.iload_n 3, 1) := by decide +kernel
theorem dX7_agrees_23 : decode cX7_agrees 23 = .ok (.bipush 10, 2) := by decide +kernel
theorem dX7_agrees_25 : decode cX7_agrees 25 = .ok (.idiv, 1) := by decide +kernel
theorem dX7_agrees_26 : decode cX7_agrees 26 = .ok (.istore 4, 2) := by decide +kernel
theorem dX7_agrees_28 : decode cX7_agrees 28 = .ok (.aload_n 0, 1) := by decide +kernel
theorem dX7_agrees_29 : decode cX7_agrees 29 = .ok (.iload_n 1, 1) := by decide +kernel
theorem dX7_agrees_30 : decode cX7_agrees 30 = .ok (.iload 4, 2) := by decide +kernel
theorem dX7_agrees_32 : decode cX7_agrees 32 = .ok (.iconst 4, 1) := by decide +kernel
theorem dX7_agrees_33 : decode cX7_agrees 33 = .ok (.idiv, 1) := by decide +kernel
theorem dX7_agrees_34 : decode cX7_agrees 34 = .ok (.iload 4, 2) := by decide +kernel
theorem dX7_agrees_36 : decode cX7_agrees 36 = .ok (.iconst 4, 1) := by decide +kernel
theorem dX7_agrees_37 : decode cX7_agrees 37 = .ok (.irem, 1) := by decide +kernel
theorem dX7_agrees_38 : decode cX7_agrees 38 = .ok (.invokevirtual 155, 3) := by decide +kernel
theorem dX7_agrees_41 : decode cX7_agrees 41 = .ok (.iload_n 3, 1) := by decide +kernel
theorem dX7_agrees_42 : decode cX7_agrees 42 = .ok (.bipush 10, 2) := by decide +kernel
theorem dX7_agrees_44 : decode cX7_agrees 44 = .ok (.irem, 1) := by decide +kernel
theorem dX7_agrees_45 : decode cX7_agrees 45 = .ok (.if_icmp .eq 5, 3) := by decide +kernel
theorem dX7_agrees_48 : decode cX7_agrees 48 = .ok (.iconst 0, 1) := by decide +kernel
theorem dX7_agrees_49 : decode cX7_agrees 49 = .ok (.ireturn, 1) := by decide +kernel
theorem dX7_agrees_50 : decode cX7_agrees 50 = .ok (.iinc 2 1, 3) := by decide +kernel
theorem dX7_agrees_53 : decode cX7_agrees 53 = .ok (.goto (-51), 3) := by decide +kernel
theorem dX7_agrees_56 : decode cX7_agrees 56 = .ok (.iconst 1, 1) := by decide +kernel
theorem dX7_agrees_57 : decode cX7_agrees 57 = .ok (.ireturn, 1) := by decide +kernel
theorem dX7_canFillAny_0 : decode cX7_canFillAny 0 = .ok (.iconst 0, 1) := by decide +kernel
theorem dX7_canFillAny_1 : decode cX7_canFillAny 1 = .ok (.istore_n 2, 1) := by decide +kernel
theorem dX7_canFillAny_2 : decode cX7_canFillAny 2 = .ok (.iload_n 2, 1) := by decide +kernel
theorem dX7_canFillAny_3 : decode cX7_canFillAny 3 = .ok (.aload_n 0, 1) := by decide +kernel
theorem dX7_canFillAny_4 : decode cX7_canFillAny 4 = .ok (.getfield 27, 3) := by decide +kernel
theorem dX7_canFillAny_7 : decode cX7_canFillAny 7 = .ok (.getfield 87, 3) := by decide +kernel
theorem dX7_canFillAny_10 : decode cX7_canFillAny 10 = .ok (.if_icmp .ge 33, 3) := by decide +kernel
theorem dX7_canFillAny_13 : decode cX7_canFillAny 13 = .ok (.aload_n 0, 1) := by decide +kernel
theorem dX7_canFillAny_14 : decode cX7_canFillAny 14 = .ok (.getfield 12, 3) := by decide +kernel
theorem dX7_canFillAny_17 : decode cX7_canFillAny 17 = .ok (.getfield 100, 3) := by decide +kernel
theorem dX7_canFillAny_20 : decode cX7_canFillAny 20 = .ok (.iload_n 1, 1) := by decide +kernel
theorem dX7_canFillAny_21 : decode cX7_canFillAny 21 = .ok (.iaload, 1) := by decide +kernel
theorem dX7_canFillAny_22 : decode cX7_canFillAny 22 = .ok (.aload_n 0, 1) := by decide +kernel
theorem dX7_canFillAny_23 : decode cX7_canFillAny 23 = .ok (.aload_n 0, 1) := by decide +kernel
theorem dX7_canFillAny_24 : decode cX7_canFillAny 24 = .ok (.getfield 45, 3) := by decide +kernel
theorem dX7_canFillAny_27 : decode cX7_canFillAny 27 = .ok (.iload_n 2, 1) := by decide +kernel
theorem dX7_canFillAny_28 : decode cX7_canFillAny 28 = .ok (.iload_n 1, 1) := by decide +kernel
theorem dX7_canFillAny_29 : decode cX7_canFillAny 29 = .ok (.invokevirtual 155, 3) := by decide +kernel
theorem dX7_canFillAny_32 : decode cX7_canFillAny 32 = .ok (.if_icmp .ge 5, 3) := by decide +kernel
theorem dX7_canFillAny_35 : decode cX7_canFillAny 35 = .ok (.iconst 0, 1) := by decide +kernel
theorem dX7_canFillAny_36 : decode cX7_canFillAny 36 = .ok (.ireturn, 1) := by decide +kernel
theorem dX7_canFillAny_37 : decode cX7_canFillAny 37 = .ok (.iinc 2 1, 3) := by decide +kernel
theorem dX7_canFillAny_40 : decode cX7_canFillAny 40 = .ok (.goto (-38), 3) := by decide +kernel
theorem dX7_canFillAny_43 : decode cX7_canFillAny 43 = .ok (.iconst 1, 1) := by decide +kernel
theorem dX7_canFillAny_44 : decode cX7_canFillAny 44 = .ok (.ireturn, 1) := by decide +kernel
theorem dX7_beginStep_0 : decode cX7_beginStep 0 = .ok (.aload_n 0, 1) := by decide +kernel
theorem dX7_beginStep_1 : decode cX7_beginStep 1 = .ok (.getfield 49, 3) := by decide +kernel
theorem dX7_beginStep_4 : decode cX7_beginStep 4 = .ok (.aload_n 0, 1) := by decide +kernel
theorem dX7_beginStep_5 : decode cX7_beginStep 5 = .ok (.getfield 74, 3) := by decide +kernel
theorem dX7_beginStep_8 : decode cX7_beginStep 8 = .ok (.aload_n 0, 1) := by decide +kernel
theorem dX7_beginStep_9 : decode cX7_beginStep 9 = .ok (.getfield 77, 3) := by decide +kernel
theorem dX7_beginStep_12 : decode cX7_beginStep 12 = .ok (.iadd, 1) := by decide +kernel
theorem dX7_beginStep_13 : decode cX7_beginStep 13 = .ok (.bipush 30, 2) := by decide +kernel
theorem dX7_beginStep_15 : decode cX7_beginStep 15 = .ok (.irem, 1) := by decide +kernel
theorem dX7_beginStep_16 : decode cX7_beginStep 16 = .ok (.aaload, 1) := by decide +kernel
theorem dX7_beginStep_17 : decode cX7_beginStep 17 = .ok (.aload_n 0, 1) := by decide +kernel
theorem dX7_beginStep_18 : decode cX7_beginStep 18 = .ok (.getfield 12, 3) := by decide +kernel
theorem dX7_beginStep_21 : decode cX7_beginStep 21 = .ok (.invokevirtual 61, 3) := by decide +kernel
theorem dX7_beginStep_24 : decode cX7_beginStep 24 = .ok (.aload_n 0, 1) := by decide +kernel
theorem dX7_beginStep_25 : decode cX7_beginStep 25 = .ok (.getfield 77, 3) := by decide +kernel
theorem dX7_beginStep_28 : decode cX7_beginStep 28 = .ok (.bipush 30, 2) := by decide +kernel
theorem dX7_beginStep_30 : decode cX7_beginStep 30 = .ok (.if_icmp .ge 16, 3) := by decide +kernel
theorem dX7_beginStep_33 : decode cX7_beginStep 33 = .ok (.aload_n 0, 1) := by decide +kernel
theorem dX7_beginStep_34 : decode cX7_beginStep 34 = .ok (.dup, 1) := by decide +kernel
theorem dX7_beginStep_35 : decode cX7_beginStep 35 = .ok (.getfield 77, 3) := by decide +kernel
theorem dX7_beginStep_38 : decode cX7_beginStep 38 = .ok (.iconst 1, 1) := by decide +kernel
theorem dX7_beginStep_39 : decode cX7_beginStep 39 = .ok (.iadd, 1) := by decide +kernel
theorem dX7_beginStep_40 : decode cX7_beginStep 40 = .ok (.putfield 77, 3) := by decide +kernel
theorem dX7_beginStep_43 : decode cX7_beginStep 43 = .ok (.goto 16, 3) := by decide +kernel
theorem dX7_beginStep_46 : decode cX7_beginStep 46 = .ok (.aload_n 0, 1) := by decide +kernel
theorem dX7_beginStep_47 : decode cX7_beginStep 47 = .ok (.aload_n 0, 1) := by decide +kernel
theorem dX7_beginStep_48 : decode cX7_beginStep 48 = .ok (.getfield 74, 3) := by decide +kernel
theorem dX7_beginStep_51 : decode cX7_beginStep 51 = .ok (.iconst 1, 1) := by decide +kernel
theorem dX7_beginStep_52 : decode cX7_beginStep 52 = .ok (.iadd, 1) := by decide +kernel
theorem dX7_beginStep_53 : decode cX7_beginStep 53 = .ok (.bipush 30, 2) := by decide +kernel
theorem dX7_beginStep_55 : decode cX7_beginStep 55 = .ok (.irem, 1) := by decide +kernel
theorem dX7_beginStep_56 : decode cX7_beginStep 56 = .ok (.putfield 74, 3) := by decide +kernel
theorem dX7_beginStep_59 : decode cX7_beginStep 59 = .ok (.return_, 1) := by decide +kernel
theorem dX7_takeBack_0 : decode cX7_takeBack 0 = .ok (.aload_n 0, 1) := by decide +kernel
theorem dX7_takeBack_1 : decode cX7_takeBack 1 = .ok (.getfield 77, 3) := by decide +kernel
theorem dX7_takeBack_4 : decode cX7_takeBack 4 = .ok (.ifCond .ne 5, 3) := by decide +kernel
theorem dX7_takeBack_7 : decode cX7_takeBack 7 = .ok (.iconst (-1), 1) := by decide +kernel
theorem dX7_takeBack_8 : decode cX7_takeBack 8 = .ok (.ireturn, 1) := by decide +kernel
theorem dX7_takeBack_9 : decode cX7_takeBack 9 = .ok (.aload_n 0, 1) := by decide +kernel
theorem dX7_takeBack_10 : decode cX7_takeBack 10 = .ok (.dup, 1) := by decide +kernel
theorem dX7_takeBack_11 : decode cX7_takeBack 11 = .ok (.getfield 77, 3) := by decide +kernel
theorem dX7_takeBack_14 : decode cX7_takeBack 14 = .ok (.iconst 1, 1) := by decide +kernel
theorem dX7_takeBack_15 : decode cX7_takeBack 15 = .ok (.isub, 1) := by decide +kernel
theorem dX7_takeBack_16 : decode cX7_takeBack 16 = .ok (.putfield 77, 3) := by decide +kernel
theorem dX7_takeBack_19 : decode cX7_takeBack 19 = .ok (.aload_n 0, 1) := by decide +kernel
theorem dX7_takeBack_20 : decode cX7_takeBack 20 = .ok (.getfield 12, 3) := by decide +kernel
theorem dX7_takeBack_23 : decode cX7_takeBack 23 = .ok (.aload_n 0, 1) := by decide +kernel
theorem dX7_takeBack_24 : decode cX7_takeBack 24 = .ok (.getfield 49, 3) := by decide +kernel
theorem dX7_takeBack_27 : decode cX7_takeBack 27 = .ok (.aload_n 0, 1) := by decide +kernel
theorem dX7_takeBack_28 : decode cX7_takeBack 28 = .ok (.getfield 74, 3) := by decide +kernel
theorem dX7_takeBack_31 : decode cX7_takeBack 31 = .ok (.aload_n 0, 1) := by decide +kernel
theorem dX7_takeBack_32 : decode cX7_takeBack 32 = .ok (.getfield 77, 3) := by decide +kernel
theorem dX7_takeBack_35 : decode cX7_takeBack 35 = .ok (.iadd, 1) := by decide +kernel
theorem dX7_takeBack_36 : decode cX7_takeBack 36 = .ok (.bipush 30, 2) := by decide +kernel
theorem dX7_takeBack_38 : decode cX7_takeBack 38 = .ok (.irem, 1) := by decide +kernel
theorem dX7_takeBack_39 : decode cX7_takeBack 39 = .ok (.aaload, 1) := by decide +kernel
theorem dX7_takeBack_40 : decode cX7_takeBack 40 = .ok (.invokevirtual 158, 3) := by decide +kernel
theorem dX7_takeBack_43 : decode cX7_takeBack 43 = .ok (.aload_n 0, 1) := by decide +kernel
theorem dX7_takeBack_44 : decode cX7_takeBack 44 = .ok (.getfield 77, 3) := by decide +kernel
theorem dX7_takeBack_47 : decode cX7_takeBack 47 = .ok (.ireturn, 1) := by decide +kernel
theorem dX7_argueByHand_0 : decode cX7_argueByHand 0 = .ok (.aload_n 0, 1) := by decide +kernel
theorem dX7_argueByHand_1 : decode cX7_argueByHand 1 = .ok (.iload_n 1, 1) := by decide +kernel
theorem dX7_argueByHand_2 : decode cX7_argueByHand 2 = .ok (.iload_n 2, 1) := by decide +kernel
theorem dX7_argueByHand_3 : decode cX7_argueByHand 3 = .ok (.iload_n 3, 1) := by decide +kernel
theorem dX7_argueByHand_4 : decode cX7_argueByHand 4 = .ok (.invokevirtual 161, 3) := by decide +kernel
theorem dX7_argueByHand_7 : decode cX7_argueByHand 7 = .ok (.ifCond .ne 5, 3) := by decide +kernel
theorem dX7_argueByHand_10 : decode cX7_argueByHand 10 = .ok (.iconst (-1), 1) := by decide +kernel
theorem dX7_argueByHand_11 : decode cX7_argueByHand 11 = .ok (.ireturn, 1) := by decide +kernel
theorem dX7_argueByHand_12 : decode cX7_argueByHand 12 = .ok (.aload_n 0, 1) := by decide +kernel
theorem dX7_argueByHand_13 : decode cX7_argueByHand 13 = .ok (.invokevirtual 165, 3) := by decide +kernel
theorem dX7_argueByHand_16 : decode cX7_argueByHand 16 = .ok (.aload_n 0, 1) := by decide +kernel
theorem dX7_argueByHand_17 : decode cX7_argueByHand 17 = .ok (.iload_n 1, 1) := by decide +kernel
theorem dX7_argueByHand_18 : decode cX7_argueByHand 18 = .ok (.iload_n 2, 1) := by decide +kernel
theorem dX7_argueByHand_19 : decode cX7_argueByHand 19 = .ok (.iload_n 3, 1) := by decide +kernel
theorem dX7_argueByHand_20 : decode cX7_argueByHand 20 = .ok (.invokevirtual 168, 3) := by decide +kernel
theorem dX7_argueByHand_23 : decode cX7_argueByHand 23 = .ok (.ireturn, 1) := by decide +kernel
theorem dX7_pourByHand_0 : decode cX7_pourByHand 0 = .ok (.iload_n 2, 1) := by decide +kernel
theorem dX7_pourByHand_1 : decode cX7_pourByHand 1 = .ok (.ifCond .eq 24, 3) := by decide +kernel
theorem dX7_pourByHand_4 : decode cX7_pourByHand 4 = .ok (.iload_n 2, 1) := by decide +kernel
theorem dX7_pourByHand_5 : decode cX7_pourByHand 5 = .ok (.bipush (-99), 2) := by decide +kernel
theorem dX7_pourByHand_7 : decode cX7_pourByHand 7 = .ok (.if_icmp .lt 18, 3) := by decide +kernel
theorem dX7_pourByHand_10 : decode cX7_pourByHand 10 = .ok (.iload_n 2, 1) := by decide +kernel
theorem dX7_pourByHand_11 : decode cX7_pourByHand 11 = .ok (.bipush 99, 2) := by decide +kernel
theorem dX7_pourByHand_13 : decode cX7_pourByHand 13 = .ok (.if_icmp .gt 12, 3) := by decide +kernel
theorem dX7_pourByHand_16 : decode cX7_pourByHand 16 = .ok (.aload_n 0, 1) := by decide +kernel
theorem dX7_pourByHand_17 : decode cX7_pourByHand 17 = .ok (.iload_n 1, 1) := by decide +kernel
theorem dX7_pourByHand_18 : decode cX7_pourByHand 18 = .ok (.iload_n 2, 1) := by decide +kernel
theorem dX7_pourByHand_19 : decode cX7_pourByHand 19 = .ok (.invokevirtual 171, 3) := by decide +kernel
theorem dX7_pourByHand_22 : decode cX7_pourByHand 22 = .ok (.ifCond .ne 5, 3) := by decide +kernel
theorem dX7_pourByHand_25 : decode cX7_pourByHand 25 = .ok (.iconst 0, 1) := by decide +kernel
theorem dX7_pourByHand_26 : decode cX7_pourByHand 26 = .ok (.ireturn, 1) := by decide +kernel
theorem dX7_pourByHand_27 : decode cX7_pourByHand 27 = .ok (.aload_n 0, 1) := by decide +kernel
theorem dX7_pourByHand_28 : decode cX7_pourByHand 28 = .ok (.invokevirtual 165, 3) := by decide +kernel
theorem dX7_pourByHand_31 : decode cX7_pourByHand 31 = .ok (.aload_n 0, 1) := by decide +kernel
theorem dX7_pourByHand_32 : decode cX7_pourByHand 32 = .ok (.getfield 12, 3) := by decide +kernel
theorem dX7_pourByHand_35 : decode cX7_pourByHand 35 = .ok (.getfield 100, 3) := by decide +kernel
theorem dX7_pourByHand_38 : decode cX7_pourByHand 38 = .ok (.iload_n 1, 1) := by decide +kernel
theorem dX7_pourByHand_39 : decode cX7_pourByHand 39 = .ok (.dup2, 1) := by decide +kernel
theorem dX7_pourByHand_40 : decode cX7_pourByHand 40 = .ok (.iaload, 1) := by decide +kernel
theorem dX7_pourByHand_41 : decode cX7_pourByHand 41 = .ok (.iload_n 2, 1) := by decide +kernel
theorem dX7_pourByHand_42 : decode cX7_pourByHand 42 = .ok (.iadd, 1) := by decide +kernel
theorem dX7_pourByHand_43 : decode cX7_pourByHand 43 = .ok (.iastore, 1) := by decide +kernel
theorem dX7_pourByHand_44 : decode cX7_pourByHand 44 = .ok (.iconst 1, 1) := by decide +kernel
theorem dX7_pourByHand_45 : decode cX7_pourByHand 45 = .ok (.ireturn, 1) := by decide +kernel
theorem dX7_snuffByHand_0 : decode cX7_snuffByHand 0 = .ok (.iload_n 1, 1) := by decide +kernel
theorem dX7_snuffByHand_1 : decode cX7_snuffByHand 1 = .ok (.invokestatic 174, 3) := by decide +kernel
theorem dX7_snuffByHand_4 : decode cX7_snuffByHand 4 = .ok (.ifCond .eq 17, 3) := by decide +kernel
theorem dX7_snuffByHand_7 : decode cX7_snuffByHand 7 = .ok (.aload_n 0, 1) := by decide +kernel
theorem dX7_snuffByHand_8 : decode cX7_snuffByHand 8 = .ok (.getfield 12, 3) := by decide +kernel
theorem dX7_snuffByHand_11 : decode cX7_snuffByHand 11 = .ok (.getfield 127, 3) := by decide +kernel
theorem dX7_snuffByHand_14 : decode cX7_snuffByHand 14 = .ok (.iload_n 1, 1) := by decide +kernel
theorem dX7_snuffByHand_15 : decode cX7_snuffByHand 15 = .ok (.ishr, 1) := by decide +kernel
theorem dX7_snuffByHand_16 : decode cX7_snuffByHand 16 = .ok (.iconst 1, 1) := by decide +kernel
theorem dX7_snuffByHand_17 : decode cX7_snuffByHand 17 = .ok (.iand, 1) := by decide +kernel
theorem dX7_snuffByHand_18 : decode cX7_snuffByHand 18 = .ok (.ifCond .ne 5, 3) := by decide +kernel
theorem dX7_snuffByHand_21 : decode cX7_snuffByHand 21 = .ok (.iconst 0, 1) := by decide +kernel
theorem dX7_snuffByHand_22 : decode cX7_snuffByHand 22 = .ok (.ireturn, 1) := by decide +kernel
theorem dX7_snuffByHand_23 : decode cX7_snuffByHand 23 = .ok (.aload_n 0, 1) := by decide +kernel
theorem dX7_snuffByHand_24 : decode cX7_snuffByHand 24 = .ok (.invokevirtual 165, 3) := by decide +kernel
theorem dX7_snuffByHand_27 : decode cX7_snuffByHand 27 = .ok (.aload_n 0, 1) := by decide +kernel
theorem dX7_snuffByHand_28 : decode cX7_snuffByHand 28 = .ok (.getfield 12, 3) := by decide +kernel
theorem dX7_snuffByHand_31 : decode cX7_snuffByHand 31 = .ok (.dup, 1) := by decide +kernel
theorem dX7_snuffByHand_32 : decode cX7_snuffByHand 32 = .ok (.getfield 127, 3) := by decide +kernel
theorem dX7_snuffByHand_35 : decode cX7_snuffByHand 35 = .ok (.iconst 1, 1) := by decide +kernel
theorem dX7_snuffByHand_36 : decode cX7_snuffByHand 36 = .ok (.iload_n 1, 1) := by decide +kernel
theorem dX7_snuffByHand_37 : decode cX7_snuffByHand 37 = .ok (.ishl, 1) := by decide +kernel
theorem dX7_snuffByHand_38 : decode cX7_snuffByHand 38 = .ok (.iconst (-1), 1) := by decide +kernel
theorem dX7_snuffByHand_39 : decode cX7_snuffByHand 39 = .ok (.ixor, 1) := by decide +kernel
theorem dX7_snuffByHand_40 : decode cX7_snuffByHand 40 = .ok (.iand, 1) := by decide +kernel
theorem dX7_snuffByHand_41 : decode cX7_snuffByHand 41 = .ok (.putfield 127, 3) := by decide +kernel
theorem dX7_snuffByHand_44 : decode cX7_snuffByHand 44 = .ok (.iconst 1, 1) := by decide +kernel
theorem dX7_snuffByHand_45 : decode cX7_snuffByHand 45 = .ok (.ireturn, 1) := by decide +kernel
theorem dX7_passNights_0 : decode cX7_passNights 0 = .ok (.iconst 0, 1) := by decide +kernel
theorem dX7_passNights_1 : decode cX7_passNights 1 = .ok (.istore_n 3, 1) := by decide +kernel
theorem dX7_passNights_2 : decode cX7_passNights 2 = .ok (.iconst 0, 1) := by decide +kernel
theorem dX7_passNights_3 : decode cX7_passNights 3 = .ok (.istore 4, 2) := by decide +kernel
theorem dX7_passNights_5 : decode cX7_passNights 5 = .ok (.iload 4, 2) := by decide +kernel
theorem dX7_passNights_7 : decode cX7_passNights 7 = .ok (.iload_n 1, 1) := by decide +kernel
theorem dX7_passNights_8 : decode cX7_passNights 8 = .ok (.if_icmp .ge 193, 3) := by decide +kernel
theorem dX7_passNights_11 : decode cX7_passNights 11 = .ok (.aload_n 0, 1) := by decide +kernel
theorem dX7_passNights_12 : decode cX7_passNights 12 = .ok (.getfield 12, 3) := by decide +kernel
theorem dX7_passNights_15 : decode cX7_passNights 15 = .ok (.getfield 152, 3) := by decide +kernel
theorem dX7_passNights_18 : decode cX7_passNights 18 = .ok (.sipush 9999, 3) := by decide +kernel
theorem dX7_passNights_21 : decode cX7_passNights 21 = .ok (.if_icmp .ge 180, 3) := by decide +kernel
theorem dX7_passNights_24 : decode cX7_passNights 24 = .ok (.iload_n 2, 1) := by decide +kernel
theorem dX7_passNights_25 : decode cX7_passNights 25 = .ok (.ifCond .eq 7, 3) := by decide +kernel
theorem dX7_passNights_28 : decode cX7_passNights 28 = .ok (.aload_n 0, 1) := by decide +kernel
theorem dX7_passNights_29 : decode cX7_passNights 29 = .ok (.invokevirtual 165, 3) := by decide +kernel
theorem dX7_passNights_32 : decode cX7_passNights 32 = .ok (.aload_n 0, 1) := by decide +kernel
theorem dX7_passNights_33 : decode cX7_passNights 33 = .ok (.getfield 12, 3) := by decide +kernel
theorem dX7_passNights_36 : decode cX7_passNights 36 = .ok (.invokevirtual 177, 3) := by decide +kernel
theorem dX7_passNights_39 : decode cX7_passNights 39 = .ok (.istore 5, 2) := by decide +kernel
theorem dX7_passNights_41 : decode cX7_passNights 41 = .ok (.aload_n 0, 1) := by decide +kernel
theorem dX7_passNights_42 : decode cX7_passNights 42 = .ok (.getfield 27, 3) := by decide +kernel
theorem dX7_passNights_45 : decode cX7_passNights 45 = .ok (.getfield 87, 3) := by decide +kernel
theorem dX7_passNights_48 : decode cX7_passNights 48 = .ok (.ifCond .le 89, 3) := by decide +kernel
theorem dX7_passNights_51 : decode cX7_passNights 51 = .ok (.aload_n 0, 1) := by decide +kernel
theorem dX7_passNights_52 : decode cX7_passNights 52 = .ok (.getfield 12, 3) := by decide +kernel
theorem dX7_passNights_55 : decode cX7_passNights 55 = .ok (.getfield 80, 3) := by decide +kernel
theorem dX7_passNights_58 : decode cX7_passNights 58 = .ok (.iconst 1, 1) := by decide +kernel
theorem dX7_passNights_59 : decode cX7_passNights 59 = .ok (.if_icmp .le 78, 3) := by decide +kernel
theorem dX7_passNights_62 : decode cX7_passNights 62 = .ok (.aload_n 0, 1) := by decide +kernel
theorem dX7_passNights_63 : decode cX7_passNights 63 = .ok (.getfield 12, 3) := by decide +kernel
theorem dX7_passNights_66 : decode cX7_passNights 66 = .ok (.aload_n 0, 1) := by decide +kernel
theorem dX7_passNights_67 : decode cX7_passNights 67 = .ok (.getfield 27, 3) := by decide +kernel
theorem dX7_passNights_70 : decode cX7_passNights 70 = .ok (.getfield 87, 3) := by decide +kernel
theorem dX7_passNights_73 : decode cX7_passNights 73 = .ok (.invokevirtual 181, 3) := by decide +kernel
theorem dX7_passNights_76 : decode cX7_passNights 76 = .ok (.istore 6, 2) := by decide +kernel
theorem dX7_passNights_78 : decode cX7_passNights 78 = .ok (.aload_n 0, 1) := by decide +kernel
theorem dX7_passNights_79 : decode cX7_passNights 79 = .ok (.getfield 12, 3) := by decide +kernel
theorem dX7_passNights_82 : decode cX7_passNights 82 = .ok (.aload_n 0, 1) := by decide +kernel
theorem dX7_passNights_83 : decode cX7_passNights 83 = .ok (.getfield 12, 3) := by decide +kernel
theorem dX7_passNights_86 : decode cX7_passNights 86 = .ok (.getfield 80, 3) := by decide +kernel
theorem dX7_passNights_89 : decode cX7_passNights 89 = .ok (.invokevirtual 181, 3) := by decide +kernel
theorem dX7_passNights_92 : decode cX7_passNights 92 = .ok (.istore 7, 2) := by decide +kernel
theorem dX7_passNights_94 : decode cX7_passNights 94 = .ok (.aload_n 0, 1) := by decide +kernel
theorem dX7_passNights_95 : decode cX7_passNights 95 = .ok (.getfield 12, 3) := by decide +kernel
theorem dX7_passNights_98 : decode cX7_passNights 98 = .ok (.aload_n 0, 1) := by decide +kernel
theorem dX7_passNights_99 : decode cX7_passNights 99 = .ok (.getfield 12, 3) := by decide +kernel
theorem dX7_passNights_102 : decode cX7_passNights 102 = .ok (.getfield 80, 3) := by decide +kernel
theorem dX7_passNights_105 : decode cX7_passNights 105 = .ok (.iconst 1, 1) := by decide +kernel
theorem dX7_passNights_106 : decode cX7_passNights 106 = .ok (.isub, 1) := by decide +kernel
theorem dX7_passNights_107 : decode cX7_passNights 107 = .ok (.invokevirtual 181, 3) := by decide +kernel
theorem dX7_passNights_110 : decode cX7_passNights 110 = .ok (.istore 8, 2) := by decide +kernel
theorem dX7_passNights_112 : decode cX7_passNights 112 = .ok (.aload_n 0, 1) := by decide +kernel
theorem dX7_passNights_113 : decode cX7_passNights 113 = .ok (.iload 6, 2) := by decide +kernel
theorem dX7_passNights_115 : decode cX7_passNights 115 = .ok (.iload 7, 2) := by decide +kernel
theorem dX7_passNights_117 : decode cX7_passNights 117 = .ok (.iload 8, 2) := by decide +kernel
theorem dX7_passNights_119 : decode cX7_passNights 119 = .ok (.iload 7, 2) := by decide +kernel
theorem dX7_passNights_121 : decode cX7_passNights 121 = .ok (.if_icmp .ge 8, 3) := by decide +kernel
theorem dX7_passNights_124 : decode cX7_passNights 124 = .ok (.iload 8, 2) := by decide +kernel
theorem dX7_passNights_126 : decode cX7_passNights 126 = .ok (.goto 7, 3) := by decide +kernel
theorem dX7_passNights_129 : decode cX7_passNights 129 = .ok (.iload 8, 2) := by decide +kernel
theorem dX7_passNights_131 : decode cX7_passNights 131 = .ok (.iconst 1, 1) := by decide +kernel
theorem dX7_passNights_132 : decode cX7_passNights 132 = .ok (.iadd, 1) := by decide +kernel
theorem dX7_passNights_133 : decode cX7_passNights 133 = .ok (.invokevirtual 168, 3) := by decide +kernel
theorem dX7_passNights_136 : decode cX7_passNights 136 = .ok (.pop, 1) := by decide +kernel
theorem dX7_passNights_137 : decode cX7_passNights 137 = .ok (.aload_n 0, 1) := by decide +kernel
theorem dX7_passNights_138 : decode cX7_passNights 138 = .ok (.getfield 12, 3) := by decide +kernel
theorem dX7_passNights_141 : decode cX7_passNights 141 = .ok (.dup, 1) := by decide +kernel
theorem dX7_passNights_142 : decode cX7_passNights 142 = .ok (.getfield 127, 3) := by decide +kernel
theorem dX7_passNights_145 : decode cX7_passNights 145 = .ok (.iconst 1, 1) := by decide +kernel
theorem dX7_passNights_146 : decode cX7_passNights 146 = .ok (.aload_n 0, 1) := by decide +kernel
theorem dX7_passNights_147 : decode cX7_passNights 147 = .ok (.getfield 12, 3) := by decide +kernel
theorem dX7_passNights_150 : decode cX7_passNights 150 = .ok (.bipush 10, 2) := by decide +kernel
theorem dX7_passNights_152 : decode cX7_passNights 152 = .ok (.invokevirtual 181, 3) := by decide +kernel
theorem dX7_passNights_155 : decode cX7_passNights 155 = .ok (.ishl, 1) := by decide +kernel
theorem dX7_passNights_156 : decode cX7_passNights 156 = .ok (.iconst (-1), 1) := by decide +kernel
theorem dX7_passNights_157 : decode cX7_passNights 157 = .ok (.ixor, 1) := by decide +kernel
theorem dX7_passNights_158 : decode cX7_passNights 158 = .ok (.iand, 1) := by decide +kernel
theorem dX7_passNights_159 : decode cX7_passNights 159 = .ok (.putfield 127, 3) := by decide +kernel
theorem dX7_passNights_162 : decode cX7_passNights 162 = .ok (.aload_n 0, 1) := by decide +kernel
theorem dX7_passNights_163 : decode cX7_passNights 163 = .ok (.getfield 12, 3) := by decide +kernel
theorem dX7_passNights_166 : decode cX7_passNights 166 = .ok (.iload 5, 2) := by decide +kernel
theorem dX7_passNights_168 : decode cX7_passNights 168 = .ok (.aload_n 0, 1) := by decide +kernel
theorem dX7_passNights_169 : decode cX7_passNights 169 = .ok (.getfield 12, 3) := by decide +kernel
theorem dX7_passNights_172 : decode cX7_passNights 172 = .ok (.invokevirtual 177, 3) := by decide +kernel
theorem dX7_passNights_175 : decode cX7_passNights 175 = .ok (.isub, 1) := by decide +kernel
theorem dX7_passNights_176 : decode cX7_passNights 176 = .ok (.putfield 184, 3) := by decide +kernel
theorem dX7_passNights_179 : decode cX7_passNights 179 = .ok (.aload_n 0, 1) := by decide +kernel
theorem dX7_passNights_180 : decode cX7_passNights 180 = .ok (.getfield 12, 3) := by decide +kernel
theorem dX7_passNights_183 : decode cX7_passNights 183 = .ok (.dup, 1) := by decide +kernel
theorem dX7_passNights_184 : decode cX7_passNights 184 = .ok (.getfield 152, 3) := by decide +kernel
theorem dX7_passNights_187 : decode cX7_passNights 187 = .ok (.iconst 1, 1) := by decide +kernel
theorem dX7_passNights_188 : decode cX7_passNights 188 = .ok (.iadd, 1) := by decide +kernel
theorem dX7_passNights_189 : decode cX7_passNights 189 = .ok (.putfield 152, 3) := by decide +kernel
theorem dX7_passNights_192 : decode cX7_passNights 192 = .ok (.iinc 3 1, 3) := by decide +kernel
theorem dX7_passNights_195 : decode cX7_passNights 195 = .ok (.iinc 4 1, 3) := by decide +kernel
theorem dX7_passNights_198 : decode cX7_passNights 198 = .ok (.goto (-193), 3) := by decide +kernel
theorem dX7_passNights_201 : decode cX7_passNights 201 = .ok (.iload_n 3, 1) := by decide +kernel
theorem dX7_passNights_202 : decode cX7_passNights 202 = .ok (.ireturn, 1) := by decide +kernel
theorem dX7_canPour_0 : decode cX7_canPour 0 = .ok (.aload_n 0, 1) := by decide +kernel
theorem dX7_canPour_1 : decode cX7_canPour 1 = .ok (.iload_n 1, 1) := by decide +kernel
theorem dX7_canPour_2 : decode cX7_canPour 2 = .ok (.invokevirtual 83, 3) := by decide +kernel
theorem dX7_canPour_5 : decode cX7_canPour 5 = .ok (.ifCond .eq 37, 3) := by decide +kernel
theorem dX7_canPour_8 : decode cX7_canPour 8 = .ok (.aload_n 0, 1) := by decide +kernel
theorem dX7_canPour_9 : decode cX7_canPour 9 = .ok (.getfield 12, 3) := by decide +kernel
theorem dX7_canPour_12 : decode cX7_canPour 12 = .ok (.getfield 100, 3) := by decide +kernel
theorem dX7_canPour_15 : decode cX7_canPour 15 = .ok (.iload_n 1, 1) := by decide +kernel
theorem dX7_canPour_16 : decode cX7_canPour 16 = .ok (.iaload, 1) := by decide +kernel
theorem dX7_canPour_17 : decode cX7_canPour 17 = .ok (.iload_n 2, 1) := by decide +kernel
theorem dX7_canPour_18 : decode cX7_canPour 18 = .ok (.iadd, 1) := by decide +kernel
theorem dX7_canPour_19 : decode cX7_canPour 19 = .ok (.ifCond .lt 23, 3) := by decide +kernel
theorem dX7_canPour_22 : decode cX7_canPour 22 = .ok (.aload_n 0, 1) := by decide +kernel
theorem dX7_canPour_23 : decode cX7_canPour 23 = .ok (.getfield 12, 3) := by decide +kernel
theorem dX7_canPour_26 : decode cX7_canPour 26 = .ok (.getfield 100, 3) := by decide +kernel
theorem dX7_canPour_29 : decode cX7_canPour 29 = .ok (.iload_n 1, 1) := by decide +kernel
theorem dX7_canPour_30 : decode cX7_canPour 30 = .ok (.iaload, 1) := by decide +kernel
theorem dX7_canPour_31 : decode cX7_canPour 31 = .ok (.iload_n 2, 1) := by decide +kernel
theorem dX7_canPour_32 : decode cX7_canPour 32 = .ok (.iadd, 1) := by decide +kernel
theorem dX7_canPour_33 : decode cX7_canPour 33 = .ok (.bipush 99, 2) := by decide +kernel
theorem dX7_canPour_35 : decode cX7_canPour 35 = .ok (.if_icmp .gt 7, 3) := by decide +kernel
theorem dX7_canPour_38 : decode cX7_canPour 38 = .ok (.iconst 1, 1) := by decide +kernel
theorem dX7_canPour_39 : decode cX7_canPour 39 = .ok (.goto 4, 3) := by decide +kernel
theorem dX7_canPour_42 : decode cX7_canPour 42 = .ok (.iconst 0, 1) := by decide +kernel
theorem dX7_canPour_43 : decode cX7_canPour 43 = .ok (.ireturn, 1) := by decide +kernel
theorem dX7_argueOut_0 : decode cX7_argueOut 0 = .ok (.aload_n 0, 1) := by decide +kernel
theorem dX7_argueOut_1 : decode cX7_argueOut 1 = .ok (.iload_n 1, 1) := by decide +kernel
theorem dX7_argueOut_2 : decode cX7_argueOut 2 = .ok (.iload_n 2, 1) := by decide +kernel
theorem dX7_argueOut_3 : decode cX7_argueOut 3 = .ok (.iload_n 3, 1) := by decide +kernel
theorem dX7_argueOut_4 : decode cX7_argueOut 4 = .ok (.invokevirtual 187, 3) := by decide +kernel
theorem dX7_argueOut_7 : decode cX7_argueOut 7 = .ok (.istore 4, 2) := by decide +kernel
theorem dX7_argueOut_9 : decode cX7_argueOut 9 = .ok (.aload_n 0, 1) := by decide +kernel
theorem dX7_argueOut_10 : decode cX7_argueOut 10 = .ok (.getfield 12, 3) := by decide +kernel
theorem dX7_argueOut_13 : decode cX7_argueOut 13 = .ok (.bipush 10, 2) := by decide +kernel
theorem dX7_argueOut_15 : decode cX7_argueOut 15 = .ok (.invokevirtual 181, 3) := by decide +kernel
theorem dX7_argueOut_18 : decode cX7_argueOut 18 = .ok (.iload 4, 2) := by decide +kernel
theorem dX7_argueOut_20 : decode cX7_argueOut 20 = .ok (.if_icmp .ge 7, 3) := by decide +kernel
theorem dX7_argueOut_23 : decode cX7_argueOut 23 = .ok (.iload_n 2, 1) := by decide +kernel
theorem dX7_argueOut_24 : decode cX7_argueOut 24 = .ok (.goto 4, 3) := by decide +kernel
theorem dX7_argueOut_27 : decode cX7_argueOut 27 = .ok (.iload_n 3, 1) := by decide +kernel
theorem dX7_argueOut_28 : decode cX7_argueOut 28 = .ok (.istore 5, 2) := by decide +kernel
theorem dX7_argueOut_30 : decode cX7_argueOut 30 = .ok (.aload_n 0, 1) := by decide +kernel
theorem dX7_argueOut_31 : decode cX7_argueOut 31 = .ok (.aload_n 0, 1) := by decide +kernel
theorem dX7_argueOut_32 : decode cX7_argueOut 32 = .ok (.getfield 45, 3) := by decide +kernel
theorem dX7_argueOut_35 : decode cX7_argueOut 35 = .ok (.iload_n 1, 1) := by decide +kernel
theorem dX7_argueOut_36 : decode cX7_argueOut 36 = .ok (.iload 5, 2) := by decide +kernel
theorem dX7_argueOut_38 : decode cX7_argueOut 38 = .ok (.invokevirtual 155, 3) := by decide +kernel
theorem dX7_argueOut_41 : decode cX7_argueOut 41 = .ok (.aload_n 0, 1) := by decide +kernel
theorem dX7_argueOut_42 : decode cX7_argueOut 42 = .ok (.getfield 12, 3) := by decide +kernel
theorem dX7_argueOut_45 : decode cX7_argueOut 45 = .ok (.getfield 100, 3) := by decide +kernel
theorem dX7_argueOut_48 : decode cX7_argueOut 48 = .ok (.iload 5, 2) := by decide +kernel
theorem dX7_argueOut_50 : decode cX7_argueOut 50 = .ok (.iaload, 1) := by decide +kernel
theorem dX7_argueOut_51 : decode cX7_argueOut 51 = .ok (.invokestatic 146, 3) := by decide +kernel
theorem dX7_argueOut_54 : decode cX7_argueOut 54 = .ok (.istore 6, 2) := by decide +kernel
theorem dX7_argueOut_56 : decode cX7_argueOut 56 = .ok (.aload_n 0, 1) := by decide +kernel
theorem dX7_argueOut_57 : decode cX7_argueOut 57 = .ok (.getfield 12, 3) := by decide +kernel
theorem dX7_argueOut_60 : decode cX7_argueOut 60 = .ok (.getfield 104, 3) := by decide +kernel
theorem dX7_argueOut_63 : decode cX7_argueOut 63 = .ok (.iload 5, 2) := by decide +kernel
theorem dX7_argueOut_65 : decode cX7_argueOut 65 = .ok (.aload_n 0, 1) := by decide +kernel
theorem dX7_argueOut_66 : decode cX7_argueOut 66 = .ok (.getfield 12, 3) := by decide +kernel
theorem dX7_argueOut_69 : decode cX7_argueOut 69 = .ok (.getfield 104, 3) := by decide +kernel
theorem dX7_argueOut_72 : decode cX7_argueOut 72 = .ok (.iload 5, 2) := by decide +kernel
theorem dX7_argueOut_74 : decode cX7_argueOut 74 = .ok (.iaload, 1) := by decide +kernel
theorem dX7_argueOut_75 : decode cX7_argueOut 75 = .ok (.iconst 1, 1) := by decide +kernel
theorem dX7_argueOut_76 : decode cX7_argueOut 76 = .ok (.iadd, 1) := by decide +kernel
theorem dX7_argueOut_77 : decode cX7_argueOut 77 = .ok (.sipush 9999, 3) := by decide +kernel
theorem dX7_argueOut_80 : decode cX7_argueOut 80 = .ok (.invokestatic 146, 3) := by decide +kernel
theorem dX7_argueOut_83 : decode cX7_argueOut 83 = .ok (.iastore, 1) := by decide +kernel
theorem dX7_argueOut_84 : decode cX7_argueOut 84 = .ok (.aload_n 0, 1) := by decide +kernel
theorem dX7_argueOut_85 : decode cX7_argueOut 85 = .ok (.getfield 12, 3) := by decide +kernel
theorem dX7_argueOut_88 : decode cX7_argueOut 88 = .ok (.getfield 100, 3) := by decide +kernel
theorem dX7_argueOut_91 : decode cX7_argueOut 91 = .ok (.iload 5, 2) := by decide +kernel
theorem dX7_argueOut_93 : decode cX7_argueOut 93 = .ok (.dup2, 1) := by decide +kernel
theorem dX7_argueOut_94 : decode cX7_argueOut 94 = .ok (.iaload, 1) := by decide +kernel
theorem dX7_argueOut_95 : decode cX7_argueOut 95 = .ok (.iload 6, 2) := by decide +kernel
theorem dX7_argueOut_97 : decode cX7_argueOut 97 = .ok (.isub, 1) := by decide +kernel
theorem dX7_argueOut_98 : decode cX7_argueOut 98 = .ok (.iastore, 1) := by decide +kernel
theorem dX7_argueOut_99 : decode cX7_argueOut 99 = .ok (.aload_n 0, 1) := by decide +kernel
theorem dX7_argueOut_100 : decode cX7_argueOut 100 = .ok (.getfield 12, 3) := by decide +kernel
theorem dX7_argueOut_103 : decode cX7_argueOut 103 = .ok (.dup, 1) := by decide +kernel
theorem dX7_argueOut_104 : decode cX7_argueOut 104 = .ok (.getfield 127, 3) := by decide +kernel
theorem dX7_argueOut_107 : decode cX7_argueOut 107 = .ok (.aload_n 0, 1) := by decide +kernel
theorem dX7_argueOut_108 : decode cX7_argueOut 108 = .ok (.getfield 27, 3) := by decide +kernel
theorem dX7_argueOut_111 : decode cX7_argueOut 111 = .ok (.iload_n 1, 1) := by decide +kernel
theorem dX7_argueOut_112 : decode cX7_argueOut 112 = .ok (.invokevirtual 116, 3) := by decide +kernel
theorem dX7_argueOut_115 : decode cX7_argueOut 115 = .ok (.ixor, 1) := by decide +kernel
theorem dX7_argueOut_116 : decode cX7_argueOut 116 = .ok (.putfield 127, 3) := by decide +kernel
theorem dX7_argueOut_119 : decode cX7_argueOut 119 = .ok (.aload_n 0, 1) := by decide +kernel
theorem dX7_argueOut_120 : decode cX7_argueOut 120 = .ok (.getfield 12, 3) := by decide +kernel
theorem dX7_argueOut_123 : decode cX7_argueOut 123 = .ok (.iload_n 1, 1) := by decide +kernel
theorem dX7_argueOut_124 : decode cX7_argueOut 124 = .ok (.iload 5, 2) := by decide +kernel
theorem dX7_argueOut_126 : decode cX7_argueOut 126 = .ok (.invokevirtual 190, 3) := by decide +kernel
theorem dX7_argueOut_129 : decode cX7_argueOut 129 = .ok (.iload 5, 2) := by decide +kernel
theorem dX7_argueOut_131 : decode cX7_argueOut 131 = .ok (.ireturn, 1) := by decide +kernel
theorem dX7_drawYear_0 : decode cX7_drawYear 0 = .ok (.aload_n 0, 1) := by decide +kernel
theorem dX7_drawYear_1 : decode cX7_drawYear 1 = .ok (.getfield 12, 3) := by decide +kernel
theorem dX7_drawYear_4 : decode cX7_drawYear 4 = .ok (.getfield 193, 3) := by decide +kernel
theorem dX7_drawYear_7 : decode cX7_drawYear 7 = .ok (.istore_n 1, 1) := by decide +kernel
theorem dX7_drawYear_8 : decode cX7_drawYear 8 = .ok (.aload_n 0, 1) := by decide +kernel
theorem dX7_drawYear_9 : decode cX7_drawYear 9 = .ok (.getfield 12, 3) := by decide +kernel
theorem dX7_drawYear_12 : decode cX7_drawYear 12 = .ok (.iconst 2, 1) := by decide +kernel
theorem dX7_drawYear_13 : decode cX7_drawYear 13 = .ok (.invokevirtual 181, 3) := by decide +kernel
theorem dX7_drawYear_16 : decode cX7_drawYear 16 = .ok (.pop, 1) := by decide +kernel
theorem dX7_drawYear_17 : decode cX7_drawYear 17 = .ok (.iload_n 1, 1) := by decide +kernel
theorem dX7_drawYear_18 : decode cX7_drawYear 18 = .ok (.bipush 6, 2) := by decide +kernel
theorem dX7_drawYear_20 : decode cX7_drawYear 20 = .ok (.idiv, 1) := by decide +kernel
theorem dX7_drawYear_21 : decode cX7_drawYear 21 = .ok (.istore_n 2, 1) := by decide +kernel
theorem dX7_drawYear_22 : decode cX7_drawYear 22 = .ok (.iload_n 1, 1) := by decide +kernel
theorem dX7_drawYear_23 : decode cX7_drawYear 23 = .ok (.bipush 6, 2) := by decide +kernel
theorem dX7_drawYear_25 : decode cX7_drawYear 25 = .ok (.irem, 1) := by decide +kernel
theorem dX7_drawYear_26 : decode cX7_drawYear 26 = .ok (.tableswitch 116 0 3 #[30, 30, 70, 93], 30) := by decide +kernel
theorem dX7_drawYear_56 : decode cX7_drawYear 56 = .ok (.aload_n 0, 1) := by decide +kernel
theorem dX7_drawYear_57 : decode cX7_drawYear 57 = .ok (.iload_n 2, 1) := by decide +kernel
theorem dX7_drawYear_58 : decode cX7_drawYear 58 = .ok (.aload_n 0, 1) := by decide +kernel
theorem dX7_drawYear_59 : decode cX7_drawYear 59 = .ok (.getfield 27, 3) := by decide +kernel
theorem dX7_drawYear_62 : decode cX7_drawYear 62 = .ok (.getfield 87, 3) := by decide +kernel
theorem dX7_drawYear_65 : decode cX7_drawYear 65 = .ok (.invokestatic 196, 3) := by decide +kernel
theorem dX7_drawYear_68 : decode cX7_drawYear 68 = .ok (.iload_n 1, 1) := by decide +kernel
theorem dX7_drawYear_69 : decode cX7_drawYear 69 = .ok (.aload_n 0, 1) := by decide +kernel
theorem dX7_drawYear_70 : decode cX7_drawYear 70 = .ok (.getfield 12, 3) := by decide +kernel
theorem dX7_drawYear_73 : decode cX7_drawYear 73 = .ok (.getfield 80, 3) := by decide +kernel
theorem dX7_drawYear_76 : decode cX7_drawYear 76 = .ok (.invokestatic 196, 3) := by decide +kernel
theorem dX7_drawYear_79 : decode cX7_drawYear 79 = .ok (.iload_n 2, 1) := by decide +kernel
theorem dX7_drawYear_80 : decode cX7_drawYear 80 = .ok (.aload_n 0, 1) := by decide +kernel
theorem dX7_drawYear_81 : decode cX7_drawYear 81 = .ok (.getfield 12, 3) := by decide +kernel
theorem dX7_drawYear_84 : decode cX7_drawYear 84 = .ok (.getfield 80, 3) := by decide +kernel
theorem dX7_drawYear_87 : decode cX7_drawYear 87 = .ok (.invokestatic 196, 3) := by decide +kernel
theorem dX7_drawYear_90 : decode cX7_drawYear 90 = .ok (.invokevirtual 199, 3) := by decide +kernel
theorem dX7_drawYear_93 : decode cX7_drawYear 93 = .ok (.goto 56, 3) := by decide +kernel
theorem dX7_drawYear_96 : decode cX7_drawYear 96 = .ok (.aload_n 0, 1) := by decide +kernel
theorem dX7_drawYear_97 : decode cX7_drawYear 97 = .ok (.getfield 12, 3) := by decide +kernel
theorem dX7_drawYear_100 : decode cX7_drawYear 100 = .ok (.dup, 1) := by decide +kernel
theorem dX7_drawYear_101 : decode cX7_drawYear 101 = .ok (.getfield 127, 3) := by decide +kernel
theorem dX7_drawYear_104 : decode cX7_drawYear 104 = .ok (.iconst 1, 1) := by decide +kernel
theorem dX7_drawYear_105 : decode cX7_drawYear 105 = .ok (.iload_n 2, 1) := by decide +kernel
theorem dX7_drawYear_106 : decode cX7_drawYear 106 = .ok (.bipush 10, 2) := by decide +kernel
theorem dX7_drawYear_108 : decode cX7_drawYear 108 = .ok (.irem, 1) := by decide +kernel
theorem dX7_drawYear_109 : decode cX7_drawYear 109 = .ok (.ishl, 1) := by decide +kernel
theorem dX7_drawYear_110 : decode cX7_drawYear 110 = .ok (.iconst (-1), 1) := by decide +kernel
theorem dX7_drawYear_111 : decode cX7_drawYear 111 = .ok (.ixor, 1) := by decide +kernel
theorem dX7_drawYear_112 : decode cX7_drawYear 112 = .ok (.iand, 1) := by decide +kernel
theorem dX7_drawYear_113 : decode cX7_drawYear 113 = .ok (.putfield 127, 3) := by decide +kernel
theorem dX7_drawYear_116 : decode cX7_drawYear 116 = .ok (.goto 33, 3) := by decide +kernel
theorem dX7_drawYear_119 : decode cX7_drawYear 119 = .ok (.aload_n 0, 1) := by decide +kernel
theorem dX7_drawYear_120 : decode cX7_drawYear 120 = .ok (.iload_n 1, 1) := by decide +kernel
theorem dX7_drawYear_121 : decode cX7_drawYear 121 = .ok (.aload_n 0, 1) := by decide +kernel
theorem dX7_drawYear_122 : decode cX7_drawYear 122 = .ok (.getfield 12, 3) := by decide +kernel
theorem dX7_drawYear_125 : decode cX7_drawYear 125 = .ok (.getfield 80, 3) := by decide +kernel
theorem dX7_drawYear_128 : decode cX7_drawYear 128 = .ok (.invokestatic 196, 3) := by decide +kernel
theorem dX7_drawYear_131 : decode cX7_drawYear 131 = .ok (.iconst 1, 1) := by decide +kernel
theorem dX7_drawYear_132 : decode cX7_drawYear 132 = .ok (.iload_n 2, 1) := by decide +kernel
theorem dX7_drawYear_133 : decode cX7_drawYear 133 = .ok (.iconst 5, 1) := by decide +kernel
theorem dX7_drawYear_134 : decode cX7_drawYear 134 = .ok (.irem, 1) := by decide +kernel
theorem dX7_drawYear_135 : decode cX7_drawYear 135 = .ok (.iadd, 1) := by decide +kernel
theorem dX7_drawYear_136 : decode cX7_drawYear 136 = .ok (.invokevirtual 203, 3) := by decide +kernel
theorem dX7_drawYear_139 : decode cX7_drawYear 139 = .ok (.goto 10, 3) := by decide +kernel
theorem dX7_drawYear_142 : decode cX7_drawYear 142 = .ok (.aload_n 0, 1) := by decide +kernel
theorem dX7_drawYear_143 : decode cX7_drawYear 143 = .ok (.iconst 1, 1) := by decide +kernel
theorem dX7_drawYear_144 : decode cX7_drawYear 144 = .ok (.iconst 0, 1) := by decide +kernel
theorem dX7_drawYear_145 : decode cX7_drawYear 145 = .ok (.invokevirtual 206, 3) := by decide +kernel
theorem dX7_drawYear_148 : decode cX7_drawYear 148 = .ok (.pop, 1) := by decide +kernel
theorem dX7_drawYear_149 : decode cX7_drawYear 149 = .ok (.return_, 1) := by decide +kernel
theorem dX7_argueInYear_0 : decode cX7_argueInYear 0 = .ok (.aload_n 0, 1) := by decide +kernel
theorem dX7_argueInYear_1 : decode cX7_argueInYear 1 = .ok (.iload_n 1, 1) := by decide +kernel
theorem dX7_argueInYear_2 : decode cX7_argueInYear 2 = .ok (.iload_n 2, 1) := by decide +kernel
theorem dX7_argueInYear_3 : decode cX7_argueInYear 3 = .ok (.iload_n 3, 1) := by decide +kernel
theorem dX7_argueInYear_4 : decode cX7_argueInYear 4 = .ok (.invokevirtual 161, 3) := by decide +kernel
theorem dX7_argueInYear_7 : decode cX7_argueInYear 7 = .ok (.ifCond .eq 11, 3) := by decide +kernel
theorem dX7_argueInYear_10 : decode cX7_argueInYear 10 = .ok (.aload_n 0, 1) := by decide +kernel
theorem dX7_argueInYear_11 : decode cX7_argueInYear 11 = .ok (.iload_n 1, 1) := by decide +kernel
theorem dX7_argueInYear_12 : decode cX7_argueInYear 12 = .ok (.iload_n 2, 1) := by decide +kernel
theorem dX7_argueInYear_13 : decode cX7_argueInYear 13 = .ok (.iload_n 3, 1) := by decide +kernel
theorem dX7_argueInYear_14 : decode cX7_argueInYear 14 = .ok (.invokevirtual 168, 3) := by decide +kernel
theorem dX7_argueInYear_17 : decode cX7_argueInYear 17 = .ok (.pop, 1) := by decide +kernel
theorem dX7_argueInYear_18 : decode cX7_argueInYear 18 = .ok (.return_, 1) := by decide +kernel
theorem dX7_pourInYear_0 : decode cX7_pourInYear 0 = .ok (.aload_n 0, 1) := by decide +kernel
theorem dX7_pourInYear_1 : decode cX7_pourInYear 1 = .ok (.iload_n 1, 1) := by decide +kernel
theorem dX7_pourInYear_2 : decode cX7_pourInYear 2 = .ok (.iload_n 2, 1) := by decide +kernel
theorem dX7_pourInYear_3 : decode cX7_pourInYear 3 = .ok (.invokevirtual 171, 3) := by decide +kernel
theorem dX7_pourInYear_6 : decode cX7_pourInYear 6 = .ok (.ifCond .eq 16, 3) := by decide +kernel
theorem dX7_pourInYear_9 : decode cX7_pourInYear 9 = .ok (.aload_n 0, 1) := by decide +kernel
theorem dX7_pourInYear_10 : decode cX7_pourInYear 10 = .ok (.getfield 12, 3) := by decide +kernel
theorem dX7_pourInYear_13 : decode cX7_pourInYear 13 = .ok (.getfield 100, 3) := by decide +kernel
theorem dX7_pourInYear_16 : decode cX7_pourInYear 16 = .ok (.iload_n 1, 1) := by decide +kernel
theorem dX7_pourInYear_17 : decode cX7_pourInYear 17 = .ok (.dup2, 1) := by decide +kernel
theorem dX7_pourInYear_18 : decode cX7_pourInYear 18 = .ok (.iaload, 1) := by decide +kernel
theorem dX7_pourInYear_19 : decode cX7_pourInYear 19 = .ok (.iload_n 2, 1) := by decide +kernel
theorem dX7_pourInYear_20 : decode cX7_pourInYear 20 = .ok (.iadd, 1) := by decide +kernel
theorem dX7_pourInYear_21 : decode cX7_pourInYear 21 = .ok (.iastore, 1) := by decide +kernel
theorem dX7_pourInYear_22 : decode cX7_pourInYear 22 = .ok (.return_, 1) := by decide +kernel
theorem dX7_among_0 : decode cX7_among 0 = .ok (.iload_n 1, 1) := by decide +kernel
theorem dX7_among_1 : decode cX7_among 1 = .ok (.ifCond .le 9, 3) := by decide +kernel
theorem dX7_among_4 : decode cX7_among 4 = .ok (.iload_n 0, 1) := by decide +kernel
theorem dX7_among_5 : decode cX7_among 5 = .ok (.iload_n 1, 1) := by decide +kernel
theorem dX7_among_6 : decode cX7_among 6 = .ok (.irem, 1) := by decide +kernel
theorem dX7_among_7 : decode cX7_among 7 = .ok (.goto 4, 3) := by decide +kernel
theorem dX7_among_10 : decode cX7_among 10 = .ok (.iconst (-1), 1) := by decide +kernel
theorem dX7_among_11 : decode cX7_among 11 = .ok (.ireturn, 1) := by decide +kernel
theorem dX7_play_0 : decode cX7_play 0 = .ok (.aload_n 1, 1) := by decide +kernel
theorem dX7_play_1 : decode cX7_play 1 = .ok (.iload_n 2, 1) := by decide +kernel
theorem dX7_play_2 : decode cX7_play 2 = .ok (.iconst 0, 1) := by decide +kernel
theorem dX7_play_3 : decode cX7_play 3 = .ok (.invokevirtual 210, 3) := by decide +kernel
theorem dX7_play_6 : decode cX7_play 6 = .ok (.istore_n 3, 1) := by decide +kernel
theorem dX7_play_7 : decode cX7_play 7 = .ok (.aload_n 1, 1) := by decide +kernel
theorem dX7_play_8 : decode cX7_play 8 = .ok (.iload_n 2, 1) := by decide +kernel
theorem dX7_play_9 : decode cX7_play 9 = .ok (.iconst 1, 1) := by decide +kernel
theorem dX7_play_10 : decode cX7_play 10 = .ok (.invokevirtual 210, 3) := by decide +kernel
theorem dX7_play_13 : decode cX7_play 13 = .ok (.istore 4, 2) := by decide +kernel
theorem dX7_play_15 : decode cX7_play 15 = .ok (.aload_n 1, 1) := by decide +kernel
theorem dX7_play_16 : decode cX7_play 16 = .ok (.iload_n 2, 1) := by decide +kernel
theorem dX7_play_17 : decode cX7_play 17 = .ok (.iconst 2, 1) := by decide +kernel
theorem dX7_play_18 : decode cX7_play 18 = .ok (.invokevirtual 210, 3) := by decide +kernel
theorem dX7_play_21 : decode cX7_play 21 = .ok (.istore 5, 2) := by decide +kernel
theorem dX7_play_23 : decode cX7_play 23 = .ok (.aload_n 1, 1) := by decide +kernel
theorem dX7_play_24 : decode cX7_play 24 = .ok (.iload_n 2, 1) := by decide +kernel
theorem dX7_play_25 : decode cX7_play 25 = .ok (.invokevirtual 213, 3) := by decide +kernel
theorem dX7_play_28 : decode cX7_play 28 = .ok (.tableswitch 170 0 16 #[154, 170, 170, 170, 170, 170, 170, 170, 170, 170, 170, 170, 84, 101, 121, 140, 148], 84) := by decide +kernel
theorem dX7_play_112 : decode cX7_play 112 = .ok (.aload_n 0, 1) := by decide +kernel
theorem dX7_play_113 : decode cX7_play 113 = .ok (.iload_n 3, 1) := by decide +kernel
theorem dX7_play_114 : decode cX7_play 114 = .ok (.iload 4, 2) := by decide +kernel
theorem dX7_play_116 : decode cX7_play 116 = .ok (.invokevirtual 216, 3) := by decide +kernel
theorem dX7_play_119 : decode cX7_play 119 = .ok (.iconst (-1), 1) := by decide +kernel
theorem dX7_play_120 : decode cX7_play 120 = .ok (.if_icmp .eq 7, 3) := by decide +kernel
theorem dX7_play_123 : decode cX7_play 123 = .ok (.iconst 1, 1) := by decide +kernel
theorem dX7_play_124 : decode cX7_play 124 = .ok (.goto 4, 3) := by decide +kernel
theorem dX7_play_127 : decode cX7_play 127 = .ok (.iconst 0, 1) := by decide +kernel
theorem dX7_play_128 : decode cX7_play 128 = .ok (.ireturn, 1) := by decide +kernel
theorem dX7_play_129 : decode cX7_play 129 = .ok (.aload_n 0, 1) := by decide +kernel
theorem dX7_play_130 : decode cX7_play 130 = .ok (.iload_n 3, 1) := by decide +kernel
theorem dX7_play_131 : decode cX7_play 131 = .ok (.iload 4, 2) := by decide +kernel
theorem dX7_play_133 : decode cX7_play 133 = .ok (.invokestatic 219, 3) := by decide +kernel
theorem dX7_play_136 : decode cX7_play 136 = .ok (.invokevirtual 222, 3) := by decide +kernel
theorem dX7_play_139 : decode cX7_play 139 = .ok (.iconst (-1), 1) := by decide +kernel
theorem dX7_play_140 : decode cX7_play 140 = .ok (.if_icmp .eq 7, 3) := by decide +kernel
theorem dX7_play_143 : decode cX7_play 143 = .ok (.iconst 1, 1) := by decide +kernel
theorem dX7_play_144 : decode cX7_play 144 = .ok (.goto 4, 3) := by decide +kernel
theorem dX7_play_147 : decode cX7_play 147 = .ok (.iconst 0, 1) := by decide +kernel
theorem dX7_play_148 : decode cX7_play 148 = .ok (.ireturn, 1) := by decide +kernel
theorem dX7_play_149 : decode cX7_play 149 = .ok (.aload_n 0, 1) := by decide +kernel
theorem dX7_play_150 : decode cX7_play 150 = .ok (.iload_n 3, 1) := by decide +kernel
theorem dX7_play_151 : decode cX7_play 151 = .ok (.iload 4, 2) := by decide +kernel
theorem dX7_play_153 : decode cX7_play 153 = .ok (.iload 5, 2) := by decide +kernel
theorem dX7_play_155 : decode cX7_play 155 = .ok (.invokevirtual 225, 3) := by decide +kernel
theorem dX7_play_158 : decode cX7_play 158 = .ok (.iconst (-1), 1) := by decide +kernel
theorem dX7_play_159 : decode cX7_play 159 = .ok (.if_icmp .eq 7, 3) := by decide +kernel
theorem dX7_play_162 : decode cX7_play 162 = .ok (.iconst 1, 1) := by decide +kernel
theorem dX7_play_163 : decode cX7_play 163 = .ok (.goto 4, 3) := by decide +kernel
theorem dX7_play_166 : decode cX7_play 166 = .ok (.iconst 0, 1) := by decide +kernel
theorem dX7_play_167 : decode cX7_play 167 = .ok (.ireturn, 1) := by decide +kernel
theorem dX7_play_168 : decode cX7_play 168 = .ok (.aload_n 0, 1) := by decide +kernel
theorem dX7_play_169 : decode cX7_play 169 = .ok (.iload 4, 2) := by decide +kernel
theorem dX7_play_171 : decode cX7_play 171 = .ok (.iload_n 3, 1) := by decide +kernel
theorem dX7_play_172 : decode cX7_play 172 = .ok (.invokevirtual 228, 3) := by decide +kernel
theorem dX7_play_175 : decode cX7_play 175 = .ok (.ireturn, 1) := by decide +kernel
theorem dX7_play_176 : decode cX7_play 176 = .ok (.aload_n 0, 1) := by decide +kernel
theorem dX7_play_177 : decode cX7_play 177 = .ok (.iload_n 3, 1) := by decide +kernel
theorem dX7_play_178 : decode cX7_play 178 = .ok (.invokevirtual 231, 3) := by decide +kernel
theorem dX7_play_181 : decode cX7_play 181 = .ok (.ireturn, 1) := by decide +kernel
theorem dX7_play_182 : decode cX7_play 182 = .ok (.aload_n 0, 1) := by decide +kernel
theorem dX7_play_183 : decode cX7_play 183 = .ok (.iload_n 3, 1) := by decide +kernel
theorem dX7_play_184 : decode cX7_play 184 = .ok (.iconst 1, 1) := by decide +kernel
theorem dX7_play_185 : decode cX7_play 185 = .ok (.invokevirtual 206, 3) := by decide +kernel
theorem dX7_play_188 : decode cX7_play 188 = .ok (.iload_n 3, 1) := by decide +kernel
theorem dX7_play_189 : decode cX7_play 189 = .ok (.if_icmp .ne 7, 3) := by decide +kernel
theorem dX7_play_192 : decode cX7_play 192 = .ok (.iconst 1, 1) := by decide +kernel
theorem dX7_play_193 : decode cX7_play 193 = .ok (.goto 4, 3) := by decide +kernel
theorem dX7_play_196 : decode cX7_play 196 = .ok (.iconst 0, 1) := by decide +kernel
theorem dX7_play_197 : decode cX7_play 197 = .ok (.ireturn, 1) := by decide +kernel
theorem dX7_play_198 : decode cX7_play 198 = .ok (.iconst 1, 1) := by decide +kernel
theorem dX7_play_199 : decode cX7_play 199 = .ok (.ireturn, 1) := by decide +kernel
theorem dX7_lampsFrom_0 : decode cX7_lampsFrom 0 = .ok (.iconst 0, 1) := by decide +kernel
theorem dX7_lampsFrom_1 : decode cX7_lampsFrom 1 = .ok (.istore_n 2, 1) := by decide +kernel
theorem dX7_lampsFrom_2 : decode cX7_lampsFrom 2 = .ok (.iconst 0, 1) := by decide +kernel
theorem dX7_lampsFrom_3 : decode cX7_lampsFrom 3 = .ok (.istore_n 3, 1) := by decide +kernel
theorem dX7_lampsFrom_4 : decode cX7_lampsFrom 4 = .ok (.iload_n 3, 1) := by decide +kernel
theorem dX7_lampsFrom_5 : decode cX7_lampsFrom 5 = .ok (.iload_n 1, 1) := by decide +kernel
theorem dX7_lampsFrom_6 : decode cX7_lampsFrom 6 = .ok (.if_icmp .gt 26, 3) := by decide +kernel
theorem dX7_lampsFrom_9 : decode cX7_lampsFrom 9 = .ok (.iload_n 3, 1) := by decide +kernel
theorem dX7_lampsFrom_10 : decode cX7_lampsFrom 10 = .ok (.bipush 10, 2) := by decide +kernel
theorem dX7_lampsFrom_12 : decode cX7_lampsFrom 12 = .ok (.if_icmp .ge 20, 3) := by decide +kernel
theorem dX7_lampsFrom_15 : decode cX7_lampsFrom 15 = .ok (.iload_n 2, 1) := by decide +kernel
theorem dX7_lampsFrom_16 : decode cX7_lampsFrom 16 = .ok (.iconst 1, 1) := by decide +kernel
theorem dX7_lampsFrom_17 : decode cX7_lampsFrom 17 = .ok (.iload_n 0, 1) := by decide +kernel
theorem dX7_lampsFrom_18 : decode cX7_lampsFrom 18 = .ok (.iload_n 3, 1) := by decide +kernel
theorem dX7_lampsFrom_19 : decode cX7_lampsFrom 19 = .ok (.iadd, 1) := by decide +kernel
theorem dX7_lampsFrom_20 : decode cX7_lampsFrom 20 = .ok (.bipush 10, 2) := by decide +kernel
theorem dX7_lampsFrom_22 : decode cX7_lampsFrom 22 = .ok (.irem, 1) := by decide +kernel
theorem dX7_lampsFrom_23 : decode cX7_lampsFrom 23 = .ok (.ishl, 1) := by decide +kernel
theorem dX7_lampsFrom_24 : decode cX7_lampsFrom 24 = .ok (.ior, 1) := by decide +kernel
theorem dX7_lampsFrom_25 : decode cX7_lampsFrom 25 = .ok (.istore_n 2, 1) := by decide +kernel
theorem dX7_lampsFrom_26 : decode cX7_lampsFrom 26 = .ok (.iinc 3 1, 3) := by decide +kernel
theorem dX7_lampsFrom_29 : decode cX7_lampsFrom 29 = .ok (.goto (-25), 3) := by decide +kernel
theorem dX7_lampsFrom_32 : decode cX7_lampsFrom 32 = .ok (.iload_n 2, 1) := by decide +kernel
theorem dX7_lampsFrom_33 : decode cX7_lampsFrom 33 = .ok (.ireturn, 1) := by decide +kernel
theorem dJ6_bitCount_0f7a4_0 : decode cJ6_bitCount_0f7a4 0 = .ok (.iload_n 0, 1) := by decide +kernel
theorem dJ6_bitCount_0f7a4_1 : decode cJ6_bitCount_0f7a4 1 = .ok (.iload_n 0, 1) := by decide +kernel
theorem dJ6_bitCount_0f7a4_2 : decode cJ6_bitCount_0f7a4 2 = .ok (.iconst 1, 1) := by decide +kernel
theorem dJ6_bitCount_0f7a4_3 : decode cJ6_bitCount_0f7a4 3 = .ok (.iushr, 1) := by decide +kernel
theorem dJ6_bitCount_0f7a4_4 : decode cJ6_bitCount_0f7a4 4 = .ok (.ldc_w 265, 3) := by decide +kernel
theorem dJ6_bitCount_0f7a4_7 : decode cJ6_bitCount_0f7a4 7 = .ok (.iand, 1) := by decide +kernel
theorem dJ6_bitCount_0f7a4_8 : decode cJ6_bitCount_0f7a4 8 = .ok (.isub, 1) := by decide +kernel
theorem dJ6_bitCount_0f7a4_9 : decode cJ6_bitCount_0f7a4 9 = .ok (.istore_n 0, 1) := by decide +kernel
theorem dJ6_bitCount_0f7a4_10 : decode cJ6_bitCount_0f7a4 10 = .ok (.iload_n 0, 1) := by decide +kernel
theorem dJ6_bitCount_0f7a4_11 : decode cJ6_bitCount_0f7a4 11 = .ok (.ldc_w 266, 3) := by decide +kernel
theorem dJ6_bitCount_0f7a4_14 : decode cJ6_bitCount_0f7a4 14 = .ok (.iand, 1) := by decide +kernel
theorem dJ6_bitCount_0f7a4_15 : decode cJ6_bitCount_0f7a4 15 = .ok (.iload_n 0, 1) := by decide +kernel
theorem dJ6_bitCount_0f7a4_16 : decode cJ6_bitCount_0f7a4 16 = .ok (.iconst 2, 1) := by decide +kernel
theorem dJ6_bitCount_0f7a4_17 : decode cJ6_bitCount_0f7a4 17 = .ok (.iushr, 1) := by decide +kernel
theorem dJ6_bitCount_0f7a4_18 : decode cJ6_bitCount_0f7a4 18 = .ok (.ldc_w 266, 3) := by decide +kernel
theorem dJ6_bitCount_0f7a4_21 : decode cJ6_bitCount_0f7a4 21 = .ok (.iand, 1) := by decide +kernel
theorem dJ6_bitCount_0f7a4_22 : decode cJ6_bitCount_0f7a4 22 = .ok (.iadd, 1) := by decide +kernel
theorem dJ6_bitCount_0f7a4_23 : decode cJ6_bitCount_0f7a4 23 = .ok (.istore_n 0, 1) := by decide +kernel
theorem dJ6_bitCount_0f7a4_24 : decode cJ6_bitCount_0f7a4 24 = .ok (.iload_n 0, 1) := by decide +kernel
theorem dJ6_bitCount_0f7a4_25 : decode cJ6_bitCount_0f7a4 25 = .ok (.iload_n 0, 1) := by decide +kernel
theorem dJ6_bitCount_0f7a4_26 : decode cJ6_bitCount_0f7a4 26 = .ok (.iconst 4, 1) := by decide +kernel
theorem dJ6_bitCount_0f7a4_27 : decode cJ6_bitCount_0f7a4 27 = .ok (.iushr, 1) := by decide +kernel
theorem dJ6_bitCount_0f7a4_28 : decode cJ6_bitCount_0f7a4 28 = .ok (.iadd, 1) := by decide +kernel
theorem dJ6_bitCount_0f7a4_29 : decode cJ6_bitCount_0f7a4 29 = .ok (.ldc_w 267, 3) := by decide +kernel
theorem dJ6_bitCount_0f7a4_32 : decode cJ6_bitCount_0f7a4 32 = .ok (.iand, 1) := by decide +kernel
theorem dJ6_bitCount_0f7a4_33 : decode cJ6_bitCount_0f7a4 33 = .ok (.istore_n 0, 1) := by decide +kernel
theorem dJ6_bitCount_0f7a4_34 : decode cJ6_bitCount_0f7a4 34 = .ok (.iload_n 0, 1) := by decide +kernel
theorem dJ6_bitCount_0f7a4_35 : decode cJ6_bitCount_0f7a4 35 = .ok (.iload_n 0, 1) := by decide +kernel
theorem dJ6_bitCount_0f7a4_36 : decode cJ6_bitCount_0f7a4 36 = .ok (.bipush 8, 2) := by decide +kernel
theorem dJ6_bitCount_0f7a4_38 : decode cJ6_bitCount_0f7a4 38 = .ok (.iushr, 1) := by decide +kernel
theorem dJ6_bitCount_0f7a4_39 : decode cJ6_bitCount_0f7a4 39 = .ok (.iadd, 1) := by decide +kernel
theorem dJ6_bitCount_0f7a4_40 : decode cJ6_bitCount_0f7a4 40 = .ok (.istore_n 0, 1) := by decide +kernel
theorem dJ6_bitCount_0f7a4_41 : decode cJ6_bitCount_0f7a4 41 = .ok (.iload_n 0, 1) := by decide +kernel
theorem dJ6_bitCount_0f7a4_42 : decode cJ6_bitCount_0f7a4 42 = .ok (.iload_n 0, 1) := by decide +kernel
theorem dJ6_bitCount_0f7a4_43 : decode cJ6_bitCount_0f7a4 43 = .ok (.bipush 16, 2) := by decide +kernel
theorem dJ6_bitCount_0f7a4_45 : decode cJ6_bitCount_0f7a4 45 = .ok (.iushr, 1) := by decide +kernel
theorem dJ6_bitCount_0f7a4_46 : decode cJ6_bitCount_0f7a4 46 = .ok (.iadd, 1) := by decide +kernel
theorem dJ6_bitCount_0f7a4_47 : decode cJ6_bitCount_0f7a4 47 = .ok (.istore_n 0, 1) := by decide +kernel
theorem dJ6_bitCount_0f7a4_48 : decode cJ6_bitCount_0f7a4 48 = .ok (.iload_n 0, 1) := by decide +kernel
theorem dJ6_bitCount_0f7a4_49 : decode cJ6_bitCount_0f7a4 49 = .ok (.bipush 63, 2) := by decide +kernel
theorem dJ6_bitCount_0f7a4_51 : decode cJ6_bitCount_0f7a4 51 = .ok (.iand, 1) := by decide +kernel
theorem dJ6_bitCount_0f7a4_52 : decode cJ6_bitCount_0f7a4 52 = .ok (.ireturn, 1) := by decide +kernel
theorem dJ9_max_7cf53_0 : decode cJ9_max_7cf53 0 = .ok (.iload_n 0, 1) := by decide +kernel
theorem dJ9_max_7cf53_1 : decode cJ9_max_7cf53 1 = .ok (.iload_n 1, 1) := by decide +kernel
theorem dJ9_max_7cf53_2 : decode cJ9_max_7cf53 2 = .ok (.if_icmp .lt 7, 3) := by decide +kernel
theorem dJ9_max_7cf53_5 : decode cJ9_max_7cf53 5 = .ok (.iload_n 0, 1) := by decide +kernel
theorem dJ9_max_7cf53_6 : decode cJ9_max_7cf53 6 = .ok (.goto 4, 3) := by decide +kernel
theorem dJ9_max_7cf53_9 : decode cJ9_max_7cf53 9 = .ok (.iload_n 1, 1) := by decide +kernel
theorem dJ9_max_7cf53_10 : decode cJ9_max_7cf53 10 = .ok (.ireturn, 1) := by decide +kernel
theorem dJ9_min_7cf53_0 : decode cJ9_min_7cf53 0 = .ok (.iload_n 0, 1) := by decide +kernel
theorem dJ9_min_7cf53_1 : decode cJ9_min_7cf53 1 = .ok (.iload_n 1, 1) := by decide +kernel
theorem dJ9_min_7cf53_2 : decode cJ9_min_7cf53 2 = .ok (.if_icmp .gt 7, 3) := by decide +kernel
theorem dJ9_min_7cf53_5 : decode cJ9_min_7cf53 5 = .ok (.iload_n 0, 1) := by decide +kernel
theorem dJ9_min_7cf53_6 : decode cJ9_min_7cf53 6 = .ok (.goto 4, 3) := by decide +kernel
theorem dJ9_min_7cf53_9 : decode cJ9_min_7cf53 9 = .ok (.iload_n 1, 1) := by decide +kernel
theorem dJ9_min_7cf53_10 : decode cJ9_min_7cf53 10 = .ok (.ireturn, 1) := by decide +kernel
theorem dJ0_length_8abf5_0 : decode cJ0_length_8abf5 0 = .ok (.aload_n 0, 1) := by decide +kernel
theorem dJ0_length_8abf5_1 : decode cJ0_length_8abf5 1 = .ok (.getfield 9, 3) := by decide +kernel
theorem dJ0_length_8abf5_4 : decode cJ0_length_8abf5 4 = .ok (.arraylength, 1) := by decide +kernel
theorem dJ0_length_8abf5_5 : decode cJ0_length_8abf5 5 = .ok (.aload_n 0, 1) := by decide +kernel
theorem dJ0_length_8abf5_6 : decode cJ0_length_8abf5 6 = .ok (.invokevirtual 335, 3) := by decide +kernel
theorem dJ0_length_8abf5_9 : decode cJ0_length_8abf5 9 = .ok (.ishr, 1) := by decide +kernel
theorem dJ0_length_8abf5_10 : decode cJ0_length_8abf5 10 = .ok (.ireturn, 1) := by decide +kernel
theorem dJ0_charAt_5068e_0 : decode cJ0_charAt_5068e 0 = .ok (.aload_n 0, 1) := by decide +kernel
theorem dJ0_charAt_5068e_1 : decode cJ0_charAt_5068e 1 = .ok (.invokevirtual 492, 3) := by decide +kernel
theorem dJ0_charAt_5068e_4 : decode cJ0_charAt_5068e 4 = .ok (.ifCond .eq 12, 3) := by decide +kernel
theorem dJ0_charAt_5068e_7 : decode cJ0_charAt_5068e 7 = .ok (.aload_n 0, 1) := by decide +kernel
theorem dJ0_charAt_5068e_8 : decode cJ0_charAt_5068e 8 = .ok (.getfield 9, 3) := by decide +kernel
theorem dJ0_charAt_5068e_11 : decode cJ0_charAt_5068e 11 = .ok (.iload_n 1, 1) := by decide +kernel
theorem dJ0_charAt_5068e_12 : decode cJ0_charAt_5068e 12 = .ok (.invokestatic 495, 3) := by decide +kernel
theorem dJ0_charAt_5068e_15 : decode cJ0_charAt_5068e 15 = .ok (.ireturn, 1) := by decide +kernel
theorem dJ0_charAt_5068e_16 : decode cJ0_charAt_5068e 16 = .ok (.aload_n 0, 1) := by decide +kernel
theorem dJ0_charAt_5068e_17 : decode cJ0_charAt_5068e 17 = .ok (.getfield 9, 3) := by decide +kernel
theorem dJ0_charAt_5068e_20 : decode cJ0_charAt_5068e 20 = .ok (.iload_n 1, 1) := by decide +kernel
theorem dJ0_charAt_5068e_21 : decode cJ0_charAt_5068e 21 = .ok (.invokestatic 498, 3) := by decide +kernel
theorem dJ0_charAt_5068e_24 : decode cJ0_charAt_5068e 24 = .ok (.ireturn, 1) := by decide +kernel
theorem dJ0_coder_7d493_0 : decode cJ0_coder_7d493 0 = .ok (.getstatic 38, 3) := by decide +kernel
theorem dJ0_coder_7d493_3 : decode cJ0_coder_7d493 3 = .ok (.ifCond .eq 10, 3) := by decide +kernel
theorem dJ0_coder_7d493_6 : decode cJ0_coder_7d493 6 = .ok (.aload_n 0, 1) := by decide +kernel
theorem dJ0_coder_7d493_7 : decode cJ0_coder_7d493 7 = .ok (.getfield 15, 3) := by decide +kernel
theorem dJ0_coder_7d493_10 : decode cJ0_coder_7d493 10 = .ok (.goto 4, 3) := by decide +kernel
theorem dJ0_coder_7d493_13 : decode cJ0_coder_7d493 13 = .ok (.iconst 1, 1) := by decide +kernel
theorem dJ0_coder_7d493_14 : decode cJ0_coder_7d493 14 = .ok (.ireturn, 1) := by decide +kernel
theorem dJ0_isLatin1_aae02_0 : decode cJ0_isLatin1_aae02 0 = .ok (.getstatic 38, 3) := by decide +kernel
theorem dJ0_isLatin1_aae02_3 : decode cJ0_isLatin1_aae02 3 = .ok (.ifCond .eq 14, 3) := by decide +kernel
theorem dJ0_isLatin1_aae02_6 : decode cJ0_isLatin1_aae02 6 = .ok (.aload_n 0, 1) := by decide +kernel
theorem dJ0_isLatin1_aae02_7 : decode cJ0_isLatin1_aae02 7 = .ok (.getfield 15, 3) := by decide +kernel
theorem dJ0_isLatin1_aae02_10 : decode cJ0_isLatin1_aae02 10 = .ok (.ifCond .ne 7, 3) := by decide +kernel
theorem dJ0_isLatin1_aae02_13 : decode cJ0_isLatin1_aae02 13 = .ok (.iconst 1, 1) := by decide +kernel
theorem dJ0_isLatin1_aae02_14 : decode cJ0_isLatin1_aae02 14 = .ok (.goto 4, 3) := by decide +kernel
theorem dJ0_isLatin1_aae02_17 : decode cJ0_isLatin1_aae02 17 = .ok (.iconst 0, 1) := by decide +kernel
theorem dJ0_isLatin1_aae02_18 : decode cJ0_isLatin1_aae02 18 = .ok (.ireturn, 1) := by decide +kernel
theorem dJ0_checkIndex_df160_0 : decode cJ0_checkIndex_df160 0 = .ok (.iload_n 0, 1) := by decide +kernel
theorem dJ0_checkIndex_df160_1 : decode cJ0_checkIndex_df160 1 = .ok (.iload_n 1, 1) := by decide +kernel
theorem dJ0_checkIndex_df160_2 : decode cJ0_checkIndex_df160 2 = .ok (.getstatic 1053, 3) := by decide +kernel
theorem dJ0_checkIndex_df160_5 : decode cJ0_checkIndex_df160 5 = .ok (.invokestatic 1059, 3) := by decide +kernel
theorem dJ0_checkIndex_df160_8 : decode cJ0_checkIndex_df160 8 = .ok (.pop, 1) := by decide +kernel
theorem dJ0_checkIndex_df160_9 : decode cJ0_checkIndex_df160 9 = .ok (.return_, 1) := by decide +kernel
theorem dJ1_charAt_3b067_0 : decode cJ1_charAt_3b067 0 = .ok (.iload_n 1, 1) := by decide +kernel
theorem dJ1_charAt_3b067_1 : decode cJ1_charAt_3b067 1 = .ok (.aload_n 0, 1) := by decide +kernel
theorem dJ1_charAt_3b067_2 : decode cJ1_charAt_3b067 2 = .ok (.arraylength, 1) := by decide +kernel
theorem dJ1_charAt_3b067_3 : decode cJ1_charAt_3b067 3 = .ok (.invokestatic 9, 3) := by decide +kernel
theorem dJ1_charAt_3b067_6 : decode cJ1_charAt_3b067 6 = .ok (.aload_n 0, 1) := by decide +kernel
theorem dJ1_charAt_3b067_7 : decode cJ1_charAt_3b067 7 = .ok (.iload_n 1, 1) := by decide +kernel
theorem dJ1_charAt_3b067_8 : decode cJ1_charAt_3b067 8 = .ok (.baload, 1) := by decide +kernel
theorem dJ1_charAt_3b067_9 : decode cJ1_charAt_3b067 9 = .ok (.sipush 255, 3) := by decide +kernel
theorem dJ1_charAt_3b067_12 : decode cJ1_charAt_3b067 12 = .ok (.iand, 1) := by decide +kernel
theorem dJ1_charAt_3b067_13 : decode cJ1_charAt_3b067 13 = .ok (.i2c, 1) := by decide +kernel
theorem dJ1_charAt_3b067_14 : decode cJ1_charAt_3b067 14 = .ok (.ireturn, 1) := by decide +kernel
theorem dJ2_getChar_3b067_0 : decode cJ2_getChar_3b067 0 = .ok (.getstatic 44, 3) := by decide +kernel
theorem dJ2_getChar_3b067_3 : decode cJ2_getChar_3b067 3 = .ok (.ifCond .ne 25, 3) := by decide +kernel
theorem dJ2_getChar_3b067_6 : decode cJ2_getChar_3b067 6 = .ok (.iload_n 1, 1) := by decide +kernel
theorem dJ2_getChar_3b067_7 : decode cJ2_getChar_3b067 7 = .ok (.ifCond .lt 11, 3) := by decide +kernel
theorem dJ2_getChar_3b067_10 : decode cJ2_getChar_3b067 10 = .ok (.iload_n 1, 1) := by decide +kernel
theorem dJ2_getChar_3b067_11 : decode cJ2_getChar_3b067 11 = .ok (.aload_n 0, 1) := by decide +kernel
theorem dJ2_getChar_3b067_12 : decode cJ2_getChar_3b067 12 = .ok (.invokestatic 48, 3) := by decide +kernel
theorem dJ2_getChar_3b067_15 : decode cJ2_getChar_3b067 15 = .ok (.if_icmp .lt 13, 3) := by decide +kernel
theorem dJ2_getChar_3b067_18 : decode cJ2_getChar_3b067 18 = .ok (.new 52, 3) := by decide +kernel
theorem dJ2_getChar_3b067_21 : decode cJ2_getChar_3b067 21 = .ok (.dup, 1) := by decide +kernel
theorem dJ2_getChar_3b067_22 : decode cJ2_getChar_3b067 22 = .ok (.ldc 54, 2) := by decide +kernel
theorem dJ2_getChar_3b067_24 : decode cJ2_getChar_3b067 24 = .ok (.invokespecial 56, 3) := by decide +kernel
theorem dJ2_getChar_3b067_27 : decode cJ2_getChar_3b067 27 = .ok (.athrow, 1) := by decide +kernel
theorem dJ2_getChar_3b067_28 : decode cJ2_getChar_3b067 28 = .ok (.iload_n 1, 1) := by decide +kernel
theorem dJ2_getChar_3b067_29 : decode cJ2_getChar_3b067 29 = .ok (.iconst 1, 1) := by decide +kernel
theorem dJ2_getChar_3b067_30 : decode cJ2_getChar_3b067 30 = .ok (.ishl, 1) := by decide +kernel
theorem dJ2_getChar_3b067_31 : decode cJ2_getChar_3b067 31 = .ok (.istore_n 1, 1) := by decide +kernel
theorem dJ2_getChar_3b067_32 : decode cJ2_getChar_3b067 32 = .ok (.aload_n 0, 1) := by decide +kernel
theorem dJ2_getChar_3b067_33 : decode cJ2_getChar_3b067 33 = .ok (.iload_n 1, 1) := by decide +kernel
theorem dJ2_getChar_3b067_34 : decode cJ2_getChar_3b067 34 = .ok (.iinc 1 1, 3) := by decide +kernel
theorem dJ2_getChar_3b067_37 : decode cJ2_getChar_3b067 37 = .ok (.baload, 1) := by decide +kernel
theorem dJ2_getChar_3b067_38 : decode cJ2_getChar_3b067 38 = .ok (.sipush 255, 3) := by decide +kernel
theorem dJ2_getChar_3b067_41 : decode cJ2_getChar_3b067 41 = .ok (.iand, 1) := by decide +kernel
theorem dJ2_getChar_3b067_42 : decode cJ2_getChar_3b067 42 = .ok (.getstatic 59, 3) := by decide +kernel
theorem dJ2_getChar_3b067_45 : decode cJ2_getChar_3b067 45 = .ok (.ishl, 1) := by decide +kernel
theorem dJ2_getChar_3b067_46 : decode cJ2_getChar_3b067 46 = .ok (.aload_n 0, 1) := by decide +kernel
theorem dJ2_getChar_3b067_47 : decode cJ2_getChar_3b067 47 = .ok (.iload_n 1, 1) := by decide +kernel
theorem dJ2_getChar_3b067_48 : decode cJ2_getChar_3b067 48 = .ok (.baload, 1) := by decide +kernel
theorem dJ2_getChar_3b067_49 : decode cJ2_getChar_3b067 49 = .ok (.sipush 255, 3) := by decide +kernel
theorem dJ2_getChar_3b067_52 : decode cJ2_getChar_3b067 52 = .ok (.iand, 1) := by decide +kernel
theorem dJ2_getChar_3b067_53 : decode cJ2_getChar_3b067 53 = .ok (.getstatic 63, 3) := by decide +kernel
theorem dJ2_getChar_3b067_56 : decode cJ2_getChar_3b067 56 = .ok (.ishl, 1) := by decide +kernel
theorem dJ2_getChar_3b067_57 : decode cJ2_getChar_3b067 57 = .ok (.ior, 1) := by decide +kernel
theorem dJ2_getChar_3b067_58 : decode cJ2_getChar_3b067 58 = .ok (.i2c, 1) := by decide +kernel
theorem dJ2_getChar_3b067_59 : decode cJ2_getChar_3b067 59 = .ok (.ireturn, 1) := by decide +kernel
theorem dJ2_length_9d52b_0 : decode cJ2_length_9d52b 0 = .ok (.aload_n 0, 1) := by decide +kernel
theorem dJ2_length_9d52b_1 : decode cJ2_length_9d52b 1 = .ok (.arraylength, 1) := by decide +kernel
theorem dJ2_length_9d52b_2 : decode cJ2_length_9d52b 2 = .ok (.iconst 1, 1) := by decide +kernel
theorem dJ2_length_9d52b_3 : decode cJ2_length_9d52b 3 = .ok (.ishr, 1) := by decide +kernel
theorem dJ2_length_9d52b_4 : decode cJ2_length_9d52b 4 = .ok (.ireturn, 1) := by decide +kernel
theorem dJ2_charAt_3b067_0 : decode cJ2_charAt_3b067 0 = .ok (.iload_n 1, 1) := by decide +kernel
theorem dJ2_charAt_3b067_1 : decode cJ2_charAt_3b067 1 = .ok (.aload_n 0, 1) := by decide +kernel
theorem dJ2_charAt_3b067_2 : decode cJ2_charAt_3b067 2 = .ok (.invokestatic 67, 3) := by decide +kernel
theorem dJ2_charAt_3b067_5 : decode cJ2_charAt_3b067 5 = .ok (.aload_n 0, 1) := by decide +kernel
theorem dJ2_charAt_3b067_6 : decode cJ2_charAt_3b067 6 = .ok (.iload_n 1, 1) := by decide +kernel
theorem dJ2_charAt_3b067_7 : decode cJ2_charAt_3b067 7 = .ok (.invokestatic 71, 3) := by decide +kernel
theorem dJ2_charAt_3b067_10 : decode cJ2_charAt_3b067 10 = .ok (.ireturn, 1) := by decide +kernel
theorem dJ2_checkIndex_2214a_0 : decode cJ2_checkIndex_2214a 0 = .ok (.iload_n 0, 1) := by decide +kernel
theorem dJ2_checkIndex_2214a_1 : decode cJ2_checkIndex_2214a 1 = .ok (.aload_n 1, 1) := by decide +kernel
theorem dJ2_checkIndex_2214a_2 : decode cJ2_checkIndex_2214a 2 = .ok (.invokestatic 48, 3) := by decide +kernel
theorem dJ2_checkIndex_2214a_5 : decode cJ2_checkIndex_2214a 5 = .ok (.invokestatic 414, 3) := by decide +kernel
theorem dJ2_checkIndex_2214a_8 : decode cJ2_checkIndex_2214a 8 = .ok (.return_, 1) := by decide +kernel
theorem dJ3_checkIndex_8e157_0 : decode cJ3_checkIndex_8e157 0 = .ok (.iload_n 0, 1) := by decide +kernel
theorem dJ3_checkIndex_8e157_1 : decode cJ3_checkIndex_8e157 1 = .ok (.ifCond .lt 8, 3) := by decide +kernel
theorem dJ3_checkIndex_8e157_4 : decode cJ3_checkIndex_8e157 4 = .ok (.iload_n 0, 1) := by decide +kernel
theorem dJ3_checkIndex_8e157_5 : decode cJ3_checkIndex_8e157 5 = .ok (.iload_n 1, 1) := by decide +kernel
theorem dJ3_checkIndex_8e157_6 : decode cJ3_checkIndex_8e157 6 = .ok (.if_icmp .lt 10, 3) := by decide +kernel
theorem dJ3_checkIndex_8e157_9 : decode cJ3_checkIndex_8e157 9 = .ok (.aload_n 2, 1) := by decide +kernel
theorem dJ3_checkIndex_8e157_10 : decode cJ3_checkIndex_8e157 10 = .ok (.iload_n 0, 1) := by decide +kernel
theorem dJ3_checkIndex_8e157_11 : decode cJ3_checkIndex_8e157 11 = .ok (.iload_n 1, 1) := by decide +kernel
theorem dJ3_checkIndex_8e157_12 : decode cJ3_checkIndex_8e157 12 = .ok (.invokestatic 95, 3) := by decide +kernel
theorem dJ3_checkIndex_8e157_15 : decode cJ3_checkIndex_8e157 15 = .ok (.athrow, 1) := by decide +kernel
theorem dJ3_checkIndex_8e157_16 : decode cJ3_checkIndex_8e157 16 = .ok (.iload_n 0, 1) := by decide +kernel
theorem dJ3_checkIndex_8e157_17 : decode cJ3_checkIndex_8e157 17 = .ok (.ireturn, 1) := by decide +kernel
