theorem dX9_init_0 : decode cX9_init 0 = .ok (.aload_n 0, 1) := by decide +kernel
theorem dX9_init_1 : decode cX9_init 1 = .ok (.invokespecial 1, 3) := by decide +kernel
theorem dX9_init_4 : decode cX9_init 4 = .ok (.aload_n 0, 1) := by decide +kernel
theorem dX9_init_5 : decode cX9_init 5 = .ok (.sipush 1278, 3) := by decide +kernel
theorem dX9_init_8 : decode cX9_init 8 = .ok (.newarray .int, 2) := by decide +kernel
theorem dX9_init_10 : decode cX9_init 10 = .ok (.putfield 7, 3) := by decide +kernel
theorem dX9_init_13 : decode cX9_init 13 = .ok (.aload_n 0, 1) := by decide +kernel
theorem dX9_init_14 : decode cX9_init 14 = .ok (.sipush 1278, 3) := by decide +kernel
theorem dX9_init_17 : decode cX9_init 17 = .ok (.newarray .int, 2) := by decide +kernel
theorem dX9_init_19 : decode cX9_init 19 = .ok (.putfield 13, 3) := by decide +kernel
theorem dX9_init_22 : decode cX9_init 22 = .ok (.aload_n 0, 1) := by decide +kernel
theorem dX9_init_23 : decode cX9_init 23 = .ok (.sipush 2820, 3) := by decide +kernel
theorem dX9_init_26 : decode cX9_init 26 = .ok (.newarray .int, 2) := by decide +kernel
theorem dX9_init_28 : decode cX9_init 28 = .ok (.putfield 16, 3) := by decide +kernel
theorem dX9_init_31 : decode cX9_init 31 = .ok (.aload_n 0, 1) := by decide +kernel
theorem dX9_init_32 : decode cX9_init 32 = .ok (.sipush 300, 3) := by decide +kernel
theorem dX9_init_35 : decode cX9_init 35 = .ok (.newarray .int, 2) := by decide +kernel
theorem dX9_init_37 : decode cX9_init 37 = .ok (.putfield 19, 3) := by decide +kernel
theorem dX9_init_40 : decode cX9_init 40 = .ok (.aload_n 0, 1) := by decide +kernel
theorem dX9_init_41 : decode cX9_init 41 = .ok (.iconst (-1), 1) := by decide +kernel
theorem dX9_init_42 : decode cX9_init 42 = .ok (.putfield 22, 3) := by decide +kernel
theorem dX9_init_45 : decode cX9_init 45 = .ok (.aload_n 0, 1) := by decide +kernel
theorem dX9_init_46 : decode cX9_init 46 = .ok (.iconst (-1), 1) := by decide +kernel
theorem dX9_init_47 : decode cX9_init 47 = .ok (.putfield 26, 3) := by decide +kernel
theorem dX9_init_50 : decode cX9_init 50 = .ok (.aload_n 0, 1) := by decide +kernel
theorem dX9_init_51 : decode cX9_init 51 = .ok (.sipush 160, 3) := by decide +kernel
theorem dX9_init_54 : decode cX9_init 54 = .ok (.newarray .int, 2) := by decide +kernel
theorem dX9_init_56 : decode cX9_init 56 = .ok (.putfield 29, 3) := by decide +kernel
theorem dX9_init_59 : decode cX9_init 59 = .ok (.aload_n 0, 1) := by decide +kernel
theorem dX9_init_60 : decode cX9_init 60 = .ok (.bipush 10, 2) := by decide +kernel
theorem dX9_init_62 : decode cX9_init 62 = .ok (.newarray .int, 2) := by decide +kernel
theorem dX9_init_64 : decode cX9_init 64 = .ok (.putfield 32, 3) := by decide +kernel
theorem dX9_init_67 : decode cX9_init 67 = .ok (.aload_n 0, 1) := by decide +kernel
theorem dX9_init_68 : decode cX9_init 68 = .ok (.sipush 330, 3) := by decide +kernel
theorem dX9_init_71 : decode cX9_init 71 = .ok (.newarray .long, 2) := by decide +kernel
theorem dX9_init_73 : decode cX9_init 73 = .ok (.putfield 35, 3) := by decide +kernel
theorem dX9_init_76 : decode cX9_init 76 = .ok (.aload_n 0, 1) := by decide +kernel
theorem dX9_init_77 : decode cX9_init 77 = .ok (.sipush 330, 3) := by decide +kernel
theorem dX9_init_80 : decode cX9_init 80 = .ok (.newarray .boolean, 2) := by decide +kernel
theorem dX9_init_82 : decode cX9_init 82 = .ok (.putfield 39, 3) := by decide +kernel
theorem dX9_init_85 : decode cX9_init 85 = .ok (.aload_n 0, 1) := by decide +kernel
theorem dX9_init_86 : decode cX9_init 86 = .ok (.iconst 1, 1) := by decide +kernel
theorem dX9_init_87 : decode cX9_init 87 = .ok (.putfield 43, 3) := by decide +kernel
theorem dX9_init_90 : decode cX9_init 90 = .ok (.aload_n 0, 1) := by decide +kernel
theorem dX9_init_91 : decode cX9_init 91 = .ok (.bipush 21, 2) := by decide +kernel
theorem dX9_init_93 : decode cX9_init 93 = .ok (.newarray .int, 2) := by decide +kernel
theorem dX9_init_95 : decode cX9_init 95 = .ok (.putfield 47, 3) := by decide +kernel
theorem dX9_init_98 : decode cX9_init 98 = .ok (.aload_n 0, 1) := by decide +kernel
theorem dX9_init_99 : decode cX9_init 99 = .ok (.sipush 1024, 3) := by decide +kernel
theorem dX9_init_102 : decode cX9_init 102 = .ok (.newarray .boolean, 2) := by decide +kernel
theorem dX9_init_104 : decode cX9_init 104 = .ok (.putfield 50, 3) := by decide +kernel
theorem dX9_init_107 : decode cX9_init 107 = .ok (.aload_n 0, 1) := by decide +kernel
theorem dX9_init_108 : decode cX9_init 108 = .ok (.iconst 4, 1) := by decide +kernel
theorem dX9_init_109 : decode cX9_init 109 = .ok (.newarray .int, 2) := by decide +kernel
theorem dX9_init_111 : decode cX9_init 111 = .ok (.putfield 53, 3) := by decide +kernel
theorem dX9_init_114 : decode cX9_init 114 = .ok (.aload_n 0, 1) := by decide +kernel
theorem dX9_init_115 : decode cX9_init 115 = .ok (.sipush 256, 3) := by decide +kernel
theorem dX9_init_118 : decode cX9_init 118 = .ok (.newarray .int, 2) := by decide +kernel
theorem dX9_init_120 : decode cX9_init 120 = .ok (.putfield 56, 3) := by decide +kernel
theorem dX9_init_123 : decode cX9_init 123 = .ok (.aload_n 0, 1) := by decide +kernel
theorem dX9_init_124 : decode cX9_init 124 = .ok (.sipush 1024, 3) := by decide +kernel
theorem dX9_init_127 : decode cX9_init 127 = .ok (.newarray .long, 2) := by decide +kernel
theorem dX9_init_129 : decode cX9_init 129 = .ok (.putfield 59, 3) := by decide +kernel
theorem dX9_init_132 : decode cX9_init 132 = .ok (.aload_n 0, 1) := by decide +kernel
theorem dX9_init_133 : decode cX9_init 133 = .ok (.sipush 1024, 3) := by decide +kernel
theorem dX9_init_136 : decode cX9_init 136 = .ok (.newarray .long, 2) := by decide +kernel
theorem dX9_init_138 : decode cX9_init 138 = .ok (.putfield 62, 3) := by decide +kernel
theorem dX9_init_141 : decode cX9_init 141 = .ok (.aload_n 0, 1) := by decide +kernel
theorem dX9_init_142 : decode cX9_init 142 = .ok (.getfield 7, 3) := by decide +kernel
theorem dX9_init_145 : decode cX9_init 145 = .ok (.bipush 9, 2) := by decide +kernel
theorem dX9_init_147 : decode cX9_init 147 = .ok (.sipush 367, 3) := by decide +kernel
theorem dX9_init_150 : decode cX9_init 150 = .ok (.iastore, 1) := by decide +kernel
theorem dX9_init_151 : decode cX9_init 151 = .ok (.aload_n 0, 1) := by decide +kernel
theorem dX9_init_152 : decode cX9_init 152 = .ok (.getfield 7, 3) := by decide +kernel
theorem dX9_init_155 : decode cX9_init 155 = .ok (.iconst 3, 1) := by decide +kernel
theorem dX9_init_156 : decode cX9_init 156 = .ok (.iconst (-1), 1) := by decide +kernel
theorem dX9_init_157 : decode cX9_init 157 = .ok (.iastore, 1) := by decide +kernel
theorem dX9_init_158 : decode cX9_init 158 = .ok (.aload_n 0, 1) := by decide +kernel
theorem dX9_init_159 : decode cX9_init 159 = .ok (.getfield 7, 3) := by decide +kernel
theorem dX9_init_162 : decode cX9_init 162 = .ok (.aload_n 0, 1) := by decide +kernel
theorem dX9_init_163 : decode cX9_init 163 = .ok (.getfield 13, 3) := by decide +kernel
theorem dX9_init_166 : decode cX9_init 166 = .ok (.invokestatic 65, 3) := by decide +kernel
theorem dX9_init_169 : decode cX9_init 169 = .ok (.return_, 1) := by decide +kernel
theorem dX9_copy_0 : decode cX9_copy 0 = .ok (.iconst 0, 1) := by decide +kernel
theorem dX9_copy_1 : decode cX9_copy 1 = .ok (.istore_n 2, 1) := by decide +kernel
theorem dX9_copy_2 : decode cX9_copy 2 = .ok (.iload_n 2, 1) := by decide +kernel
theorem dX9_copy_3 : decode cX9_copy 3 = .ok (.sipush 1278, 3) := by decide +kernel
theorem dX9_copy_6 : decode cX9_copy 6 = .ok (.if_icmp .ge 15, 3) := by decide +kernel
theorem dX9_copy_9 : decode cX9_copy 9 = .ok (.aload_n 1, 1) := by decide +kernel
theorem dX9_copy_10 : decode cX9_copy 10 = .ok (.iload_n 2, 1) := by decide +kernel
theorem dX9_copy_11 : decode cX9_copy 11 = .ok (.aload_n 0, 1) := by decide +kernel
theorem dX9_copy_12 : decode cX9_copy 12 = .ok (.iload_n 2, 1) := by decide +kernel
theorem dX9_copy_13 : decode cX9_copy 13 = .ok (.iaload, 1) := by decide +kernel
theorem dX9_copy_14 : decode cX9_copy 14 = .ok (.iastore, 1) := by decide +kernel
theorem dX9_copy_15 : decode cX9_copy 15 = .ok (.iinc 2 1, 3) := by decide +kernel
theorem dX9_copy_18 : decode cX9_copy 18 = .ok (.goto (-16), 3) := by decide +kernel
theorem dX9_copy_21 : decode cX9_copy 21 = .ok (.return_, 1) := by decide +kernel
theorem dX9_isIn_0 : decode cX9_isIn 0 = .ok (.iload_n 0, 1) := by decide +kernel
theorem dX9_isIn_1 : decode cX9_isIn 1 = .ok (.iload_n 1, 1) := by decide +kernel
theorem dX9_isIn_2 : decode cX9_isIn 2 = .ok (.if_icmp .lt 12, 3) := by decide +kernel
theorem dX9_isIn_5 : decode cX9_isIn 5 = .ok (.iload_n 0, 1) := by decide +kernel
theorem dX9_isIn_6 : decode cX9_isIn 6 = .ok (.iload_n 2, 1) := by decide +kernel
theorem dX9_isIn_7 : decode cX9_isIn 7 = .ok (.if_icmp .gt 7, 3) := by decide +kernel
theorem dX9_isIn_10 : decode cX9_isIn 10 = .ok (.iconst 1, 1) := by decide +kernel
theorem dX9_isIn_11 : decode cX9_isIn 11 = .ok (.goto 4, 3) := by decide +kernel
theorem dX9_isIn_14 : decode cX9_isIn 14 = .ok (.iconst 0, 1) := by decide +kernel
theorem dX9_isIn_15 : decode cX9_isIn 15 = .ok (.ireturn, 1) := by decide +kernel
theorem dX9_cut_0 : decode cX9_cut 0 = .ok (.lload_n 0, 1) := by decide +kernel
theorem dX9_cut_1 : decode cX9_cut 1 = .ok (.iload_n 2, 1) := by decide +kernel
theorem dX9_cut_2 : decode cX9_cut 2 = .ok (.i2l, 1) := by decide +kernel
theorem dX9_cut_3 : decode cX9_cut 3 = .ok (.lcmp, 1) := by decide +kernel
theorem dX9_cut_4 : decode cX9_cut 4 = .ok (.ifCond .ge 7, 3) := by decide +kernel
theorem dX9_cut_7 : decode cX9_cut 7 = .ok (.iload_n 2, 1) := by decide +kernel
theorem dX9_cut_8 : decode cX9_cut 8 = .ok (.goto 16, 3) := by decide +kernel
theorem dX9_cut_11 : decode cX9_cut 11 = .ok (.lload_n 0, 1) := by decide +kernel
theorem dX9_cut_12 : decode cX9_cut 12 = .ok (.iload_n 3, 1) := by decide +kernel
theorem dX9_cut_13 : decode cX9_cut 13 = .ok (.i2l, 1) := by decide +kernel
theorem dX9_cut_14 : decode cX9_cut 14 = .ok (.lcmp, 1) := by decide +kernel
theorem dX9_cut_15 : decode cX9_cut 15 = .ok (.ifCond .le 7, 3) := by decide +kernel
theorem dX9_cut_18 : decode cX9_cut 18 = .ok (.iload_n 3, 1) := by decide +kernel
theorem dX9_cut_19 : decode cX9_cut 19 = .ok (.goto 5, 3) := by decide +kernel
theorem dX9_cut_22 : decode cX9_cut 22 = .ok (.lload_n 0, 1) := by decide +kernel
theorem dX9_cut_23 : decode cX9_cut 23 = .ok (.l2i, 1) := by decide +kernel
theorem dX9_cut_24 : decode cX9_cut 24 = .ok (.ireturn, 1) := by decide +kernel
theorem dX9_has_0 : decode cX9_has 0 = .ok (.iload_n 0, 1) := by decide +kernel
theorem dX9_has_1 : decode cX9_has 1 = .ok (.iload_n 1, 1) := by decide +kernel
theorem dX9_has_2 : decode cX9_has 2 = .ok (.ishr, 1) := by decide +kernel
theorem dX9_has_3 : decode cX9_has 3 = .ok (.iconst 1, 1) := by decide +kernel
theorem dX9_has_4 : decode cX9_has 4 = .ok (.iand, 1) := by decide +kernel
theorem dX9_has_5 : decode cX9_has 5 = .ok (.iconst 1, 1) := by decide +kernel
theorem dX9_has_6 : decode cX9_has 6 = .ok (.if_icmp .ne 7, 3) := by decide +kernel
theorem dX9_has_9 : decode cX9_has 9 = .ok (.iconst 1, 1) := by decide +kernel
theorem dX9_has_10 : decode cX9_has 10 = .ok (.goto 4, 3) := by decide +kernel
theorem dX9_has_13 : decode cX9_has 13 = .ok (.iconst 0, 1) := by decide +kernel
theorem dX9_has_14 : decode cX9_has 14 = .ok (.ireturn, 1) := by decide +kernel
theorem dX9_bits_0 : decode cX9_bits 0 = .ok (.iconst 0, 1) := by decide +kernel
theorem dX9_bits_1 : decode cX9_bits 1 = .ok (.istore_n 1, 1) := by decide +kernel
theorem dX9_bits_2 : decode cX9_bits 2 = .ok (.iload_n 0, 1) := by decide +kernel
theorem dX9_bits_3 : decode cX9_bits 3 = .ok (.istore_n 2, 1) := by decide +kernel
theorem dX9_bits_4 : decode cX9_bits 4 = .ok (.iload_n 2, 1) := by decide +kernel
theorem dX9_bits_5 : decode cX9_bits 5 = .ok (.ifCond .eq 15, 3) := by decide +kernel
theorem dX9_bits_8 : decode cX9_bits 8 = .ok (.iinc 1 1, 3) := by decide +kernel
theorem dX9_bits_11 : decode cX9_bits 11 = .ok (.iload_n 2, 1) := by decide +kernel
theorem dX9_bits_12 : decode cX9_bits 12 = .ok (.iload_n 2, 1) := by decide +kernel
theorem dX9_bits_13 : decode cX9_bits 13 = .ok (.iconst 1, 1) := by decide +kernel
theorem dX9_bits_14 : decode cX9_bits 14 = .ok (.isub, 1) := by decide +kernel
theorem dX9_bits_15 : decode cX9_bits 15 = .ok (.iand, 1) := by decide +kernel
theorem dX9_bits_16 : decode cX9_bits 16 = .ok (.istore_n 2, 1) := by decide +kernel
theorem dX9_bits_17 : decode cX9_bits 17 = .ok (.goto (-13), 3) := by decide +kernel
theorem dX9_bits_20 : decode cX9_bits 20 = .ok (.iload_n 1, 1) := by decide +kernel
theorem dX9_bits_21 : decode cX9_bits 21 = .ok (.ireturn, 1) := by decide +kernel
theorem dX9_isPerson_0 : decode cX9_isPerson 0 = .ok (.iload_n 1, 1) := by decide +kernel
theorem dX9_isPerson_1 : decode cX9_isPerson 1 = .ok (.iconst 0, 1) := by decide +kernel
theorem dX9_isPerson_2 : decode cX9_isPerson 2 = .ok (.aload_n 0, 1) := by decide +kernel
theorem dX9_isPerson_3 : decode cX9_isPerson 3 = .ok (.getfield 7, 3) := by decide +kernel
theorem dX9_isPerson_6 : decode cX9_isPerson 6 = .ok (.iconst 0, 1) := by decide +kernel
theorem dX9_isPerson_7 : decode cX9_isPerson 7 = .ok (.iaload, 1) := by decide +kernel
theorem dX9_isPerson_8 : decode cX9_isPerson 8 = .ok (.iconst 1, 1) := by decide +kernel
theorem dX9_isPerson_9 : decode cX9_isPerson 9 = .ok (.isub, 1) := by decide +kernel
theorem dX9_isPerson_10 : decode cX9_isPerson 10 = .ok (.invokestatic 69, 3) := by decide +kernel
theorem dX9_isPerson_13 : decode cX9_isPerson 13 = .ok (.ireturn, 1) := by decide +kernel
theorem dX9_isDispute_0 : decode cX9_isDispute 0 = .ok (.iload_n 1, 1) := by decide +kernel
theorem dX9_isDispute_1 : decode cX9_isDispute 1 = .ok (.iconst 0, 1) := by decide +kernel
theorem dX9_isDispute_2 : decode cX9_isDispute 2 = .ok (.aload_n 0, 1) := by decide +kernel
theorem dX9_isDispute_3 : decode cX9_isDispute 3 = .ok (.getfield 7, 3) := by decide +kernel
theorem dX9_isDispute_6 : decode cX9_isDispute 6 = .ok (.iconst 1, 1) := by decide +kernel
theorem dX9_isDispute_7 : decode cX9_isDispute 7 = .ok (.iaload, 1) := by decide +kernel
theorem dX9_isDispute_8 : decode cX9_isDispute 8 = .ok (.iconst 1, 1) := by decide +kernel
theorem dX9_isDispute_9 : decode cX9_isDispute 9 = .ok (.isub, 1) := by decide +kernel
theorem dX9_isDispute_10 : decode cX9_isDispute 10 = .ok (.invokestatic 69, 3) := by decide +kernel
theorem dX9_isDispute_13 : decode cX9_isDispute 13 = .ok (.ireturn, 1) := by decide +kernel
theorem dX9_isLamp_0 : decode cX9_isLamp 0 = .ok (.iload_n 0, 1) := by decide +kernel
theorem dX9_isLamp_1 : decode cX9_isLamp 1 = .ok (.iconst 0, 1) := by decide +kernel
theorem dX9_isLamp_2 : decode cX9_isLamp 2 = .ok (.bipush 9, 2) := by decide +kernel
theorem dX9_isLamp_4 : decode cX9_isLamp 4 = .ok (.invokestatic 69, 3) := by decide +kernel
theorem dX9_isLamp_7 : decode cX9_isLamp 7 = .ok (.ireturn, 1) := by decide +kernel
theorem dX9_isPattern_0 : decode cX9_isPattern 0 = .ok (.iload_n 0, 1) := by decide +kernel
theorem dX9_isPattern_1 : decode cX9_isPattern 1 = .ok (.iconst 0, 1) := by decide +kernel
theorem dX9_isPattern_2 : decode cX9_isPattern 2 = .ok (.sipush 1023, 3) := by decide +kernel
theorem dX9_isPattern_5 : decode cX9_isPattern 5 = .ok (.invokestatic 69, 3) := by decide +kernel
theorem dX9_isPattern_8 : decode cX9_isPattern 8 = .ok (.ireturn, 1) := by decide +kernel
theorem dX9_oilOf_0 : decode cX9_oilOf 0 = .ok (.aload_n 0, 1) := by decide +kernel
theorem dX9_oilOf_1 : decode cX9_oilOf 1 = .ok (.getfield 7, 3) := by decide +kernel
theorem dX9_oilOf_4 : decode cX9_oilOf 4 = .ok (.bipush 13, 2) := by decide +kernel
theorem dX9_oilOf_6 : decode cX9_oilOf 6 = .ok (.iconst 2, 1) := by decide +kernel
theorem dX9_oilOf_7 : decode cX9_oilOf 7 = .ok (.iload_n 1, 1) := by decide +kernel
theorem dX9_oilOf_8 : decode cX9_oilOf 8 = .ok (.imul, 1) := by decide +kernel
theorem dX9_oilOf_9 : decode cX9_oilOf 9 = .ok (.iadd, 1) := by decide +kernel
theorem dX9_oilOf_10 : decode cX9_oilOf 10 = .ok (.iaload, 1) := by decide +kernel
theorem dX9_oilOf_11 : decode cX9_oilOf 11 = .ok (.ireturn, 1) := by decide +kernel
theorem dX9_wrongOf_0 : decode cX9_wrongOf 0 = .ok (.aload_n 0, 1) := by decide +kernel
theorem dX9_wrongOf_1 : decode cX9_wrongOf 1 = .ok (.getfield 7, 3) := by decide +kernel
theorem dX9_wrongOf_4 : decode cX9_wrongOf 4 = .ok (.bipush 13, 2) := by decide +kernel
theorem dX9_wrongOf_6 : decode cX9_wrongOf 6 = .ok (.iconst 2, 1) := by decide +kernel
theorem dX9_wrongOf_7 : decode cX9_wrongOf 7 = .ok (.iload_n 1, 1) := by decide +kernel
theorem dX9_wrongOf_8 : decode cX9_wrongOf 8 = .ok (.imul, 1) := by decide +kernel
theorem dX9_wrongOf_9 : decode cX9_wrongOf 9 = .ok (.iadd, 1) := by decide +kernel
theorem dX9_wrongOf_10 : decode cX9_wrongOf 10 = .ok (.iconst 1, 1) := by decide +kernel
theorem dX9_wrongOf_11 : decode cX9_wrongOf 11 = .ok (.iadd, 1) := by decide +kernel
theorem dX9_wrongOf_12 : decode cX9_wrongOf 12 = .ok (.iaload, 1) := by decide +kernel
theorem dX9_wrongOf_13 : decode cX9_wrongOf 13 = .ok (.ireturn, 1) := by decide +kernel
theorem dX9_allOil_0 : decode cX9_allOil 0 = .ok (.iconst 0, 1) := by decide +kernel
theorem dX9_allOil_1 : decode cX9_allOil 1 = .ok (.istore_n 1, 1) := by decide +kernel
theorem dX9_allOil_2 : decode cX9_allOil 2 = .ok (.iconst 0, 1) := by decide +kernel
theorem dX9_allOil_3 : decode cX9_allOil 3 = .ok (.istore_n 2, 1) := by decide +kernel
theorem dX9_allOil_4 : decode cX9_allOil 4 = .ok (.iload_n 2, 1) := by decide +kernel
theorem dX9_allOil_5 : decode cX9_allOil 5 = .ok (.aload_n 0, 1) := by decide +kernel
theorem dX9_allOil_6 : decode cX9_allOil 6 = .ok (.getfield 7, 3) := by decide +kernel
theorem dX9_allOil_9 : decode cX9_allOil 9 = .ok (.iconst 0, 1) := by decide +kernel
theorem dX9_allOil_10 : decode cX9_allOil 10 = .ok (.iaload, 1) := by decide +kernel
theorem dX9_allOil_11 : decode cX9_allOil 11 = .ok (.if_icmp .ge 17, 3) := by decide +kernel
theorem dX9_allOil_14 : decode cX9_allOil 14 = .ok (.iload_n 1, 1) := by decide +kernel
theorem dX9_allOil_15 : decode cX9_allOil 15 = .ok (.aload_n 0, 1) := by decide +kernel
theorem dX9_allOil_16 : decode cX9_allOil 16 = .ok (.iload_n 2, 1) := by decide +kernel
theorem dX9_allOil_17 : decode cX9_allOil 17 = .ok (.invokevirtual 73, 3) := by decide +kernel
theorem dX9_allOil_20 : decode cX9_allOil 20 = .ok (.iadd, 1) := by decide +kernel
theorem dX9_allOil_21 : decode cX9_allOil 21 = .ok (.istore_n 1, 1) := by decide +kernel
theorem dX9_allOil_22 : decode cX9_allOil 22 = .ok (.iinc 2 1, 3) := by decide +kernel
theorem dX9_allOil_25 : decode cX9_allOil 25 = .ok (.goto (-21), 3) := by decide +kernel
theorem dX9_allOil_28 : decode cX9_allOil 28 = .ok (.iload_n 1, 1) := by decide +kernel
theorem dX9_allOil_29 : decode cX9_allOil 29 = .ok (.ireturn, 1) := by decide +kernel
theorem dX9_person_0 : decode cX9_person 0 = .ok (.iload_n 1, 1) := by decide +kernel
theorem dX9_person_1 : decode cX9_person 1 = .ok (.iconst 0, 1) := by decide +kernel
theorem dX9_person_2 : decode cX9_person 2 = .ok (.bipush 99, 2) := by decide +kernel
theorem dX9_person_4 : decode cX9_person 4 = .ok (.invokestatic 69, 3) := by decide +kernel
theorem dX9_person_7 : decode cX9_person 7 = .ok (.ifCond .eq 23, 3) := by decide +kernel
theorem dX9_person_10 : decode cX9_person 10 = .ok (.iload_n 2, 1) := by decide +kernel
theorem dX9_person_11 : decode cX9_person 11 = .ok (.iconst 0, 1) := by decide +kernel
theorem dX9_person_12 : decode cX9_person 12 = .ok (.bipush 10, 2) := by decide +kernel
theorem dX9_person_14 : decode cX9_person 14 = .ok (.invokestatic 69, 3) := by decide +kernel
theorem dX9_person_17 : decode cX9_person 17 = .ok (.ifCond .eq 13, 3) := by decide +kernel
theorem dX9_person_20 : decode cX9_person 20 = .ok (.aload_n 0, 1) := by decide +kernel
theorem dX9_person_21 : decode cX9_person 21 = .ok (.getfield 7, 3) := by decide +kernel
theorem dX9_person_24 : decode cX9_person 24 = .ok (.iconst 0, 1) := by decide +kernel
theorem dX9_person_25 : decode cX9_person 25 = .ok (.iaload, 1) := by decide +kernel
theorem dX9_person_26 : decode cX9_person 26 = .ok (.iconst 4, 1) := by decide +kernel
theorem dX9_person_27 : decode cX9_person 27 = .ok (.if_icmp .ne 5, 3) := by decide +kernel
theorem dX9_person_30 : decode cX9_person 30 = .ok (.iconst (-1), 1) := by decide +kernel
theorem dX9_person_31 : decode cX9_person 31 = .ok (.ireturn, 1) := by decide +kernel
theorem dX9_person_32 : decode cX9_person 32 = .ok (.aload_n 0, 1) := by decide +kernel
theorem dX9_person_33 : decode cX9_person 33 = .ok (.getfield 7, 3) := by decide +kernel
theorem dX9_person_36 : decode cX9_person 36 = .ok (.iconst 0, 1) := by decide +kernel
theorem dX9_person_37 : decode cX9_person 37 = .ok (.iaload, 1) := by decide +kernel
theorem dX9_person_38 : decode cX9_person 38 = .ok (.istore_n 3, 1) := by decide +kernel
theorem dX9_person_39 : decode cX9_person 39 = .ok (.aload_n 0, 1) := by decide +kernel
theorem dX9_person_40 : decode cX9_person 40 = .ok (.getfield 7, 3) := by decide +kernel
theorem dX9_person_43 : decode cX9_person 43 = .ok (.bipush 25, 2) := by decide +kernel
theorem dX9_person_45 : decode cX9_person 45 = .ok (.iload_n 3, 1) := by decide +kernel
theorem dX9_person_46 : decode cX9_person 46 = .ok (.iadd, 1) := by decide +kernel
theorem dX9_person_47 : decode cX9_person 47 = .ok (.iload_n 1, 1) := by decide +kernel
theorem dX9_person_48 : decode cX9_person 48 = .ok (.iastore, 1) := by decide +kernel
theorem dX9_person_49 : decode cX9_person 49 = .ok (.aload_n 0, 1) := by decide +kernel
theorem dX9_person_50 : decode cX9_person 50 = .ok (.getfield 7, 3) := by decide +kernel
theorem dX9_person_53 : decode cX9_person 53 = .ok (.bipush 21, 2) := by decide +kernel
theorem dX9_person_55 : decode cX9_person 55 = .ok (.iload_n 3, 1) := by decide +kernel
theorem dX9_person_56 : decode cX9_person 56 = .ok (.iadd, 1) := by decide +kernel
theorem dX9_person_57 : decode cX9_person 57 = .ok (.iload_n 2, 1) := by decide +kernel
theorem dX9_person_58 : decode cX9_person 58 = .ok (.iastore, 1) := by decide +kernel
theorem dX9_person_59 : decode cX9_person 59 = .ok (.aload_n 0, 1) := by decide +kernel
theorem dX9_person_60 : decode cX9_person 60 = .ok (.iload_n 3, 1) := by decide +kernel
theorem dX9_person_61 : decode cX9_person 61 = .ok (.invokevirtual 77, 3) := by decide +kernel
theorem dX9_person_64 : decode cX9_person 64 = .ok (.aload_n 0, 1) := by decide +kernel
theorem dX9_person_65 : decode cX9_person 65 = .ok (.getfield 7, 3) := by decide +kernel
theorem dX9_person_68 : decode cX9_person 68 = .ok (.iconst 0, 1) := by decide +kernel
theorem dX9_person_69 : decode cX9_person 69 = .ok (.dup2, 1) := by decide +kernel
theorem dX9_person_70 : decode cX9_person 70 = .ok (.iaload, 1) := by decide +kernel
theorem dX9_person_71 : decode cX9_person 71 = .ok (.iconst 1, 1) := by decide +kernel
theorem dX9_person_72 : decode cX9_person 72 = .ok (.iadd, 1) := by decide +kernel
theorem dX9_person_73 : decode cX9_person 73 = .ok (.iastore, 1) := by decide +kernel
theorem dX9_person_74 : decode cX9_person 74 = .ok (.iload_n 3, 1) := by decide +kernel
theorem dX9_person_75 : decode cX9_person 75 = .ok (.ireturn, 1) := by decide +kernel
theorem dX9_begin_0 : decode cX9_begin 0 = .ok (.aload_n 0, 1) := by decide +kernel
theorem dX9_begin_1 : decode cX9_begin 1 = .ok (.getfield 7, 3) := by decide +kernel
theorem dX9_begin_4 : decode cX9_begin 4 = .ok (.bipush 13, 2) := by decide +kernel
theorem dX9_begin_6 : decode cX9_begin 6 = .ok (.iconst 2, 1) := by decide +kernel
theorem dX9_begin_7 : decode cX9_begin 7 = .ok (.iload_n 1, 1) := by decide +kernel
theorem dX9_begin_8 : decode cX9_begin 8 = .ok (.imul, 1) := by decide +kernel
theorem dX9_begin_9 : decode cX9_begin 9 = .ok (.iadd, 1) := by decide +kernel
theorem dX9_begin_10 : decode cX9_begin 10 = .ok (.aload_n 0, 1) := by decide +kernel
theorem dX9_begin_11 : decode cX9_begin 11 = .ok (.getfield 7, 3) := by decide +kernel
theorem dX9_begin_14 : decode cX9_begin 14 = .ok (.bipush 25, 2) := by decide +kernel
theorem dX9_begin_16 : decode cX9_begin 16 = .ok (.iload_n 1, 1) := by decide +kernel
theorem dX9_begin_17 : decode cX9_begin 17 = .ok (.iadd, 1) := by decide +kernel
theorem dX9_begin_18 : decode cX9_begin 18 = .ok (.iaload, 1) := by decide +kernel
theorem dX9_begin_19 : decode cX9_begin 19 = .ok (.iastore, 1) := by decide +kernel
theorem dX9_begin_20 : decode cX9_begin 20 = .ok (.aload_n 0, 1) := by decide +kernel
theorem dX9_begin_21 : decode cX9_begin 21 = .ok (.getfield 7, 3) := by decide +kernel
theorem dX9_begin_24 : decode cX9_begin 24 = .ok (.bipush 13, 2) := by decide +kernel
theorem dX9_begin_26 : decode cX9_begin 26 = .ok (.iconst 2, 1) := by decide +kernel
theorem dX9_begin_27 : decode cX9_begin 27 = .ok (.iload_n 1, 1) := by decide +kernel
theorem dX9_begin_28 : decode cX9_begin 28 = .ok (.imul, 1) := by decide +kernel
theorem dX9_begin_29 : decode cX9_begin 29 = .ok (.iadd, 1) := by decide +kernel
theorem dX9_begin_30 : decode cX9_begin 30 = .ok (.iconst 1, 1) := by decide +kernel
theorem dX9_begin_31 : decode cX9_begin 31 = .ok (.iadd, 1) := by decide +kernel
theorem dX9_begin_32 : decode cX9_begin 32 = .ok (.iconst 0, 1) := by decide +kernel
theorem dX9_begin_33 : decode cX9_begin 33 = .ok (.iastore, 1) := by decide +kernel
theorem dX9_begin_34 : decode cX9_begin 34 = .ok (.return_, 1) := by decide +kernel
theorem dX9_dispute_0 : decode cX9_dispute 0 = .ok (.iload_n 1, 1) := by decide +kernel
theorem dX9_dispute_1 : decode cX9_dispute 1 = .ok (.invokestatic 81, 3) := by decide +kernel
theorem dX9_dispute_4 : decode cX9_dispute 4 = .ok (.ifCond .eq 14, 3) := by decide +kernel
theorem dX9_dispute_7 : decode cX9_dispute 7 = .ok (.aload_n 0, 1) := by decide +kernel
theorem dX9_dispute_8 : decode cX9_dispute 8 = .ok (.getfield 7, 3) := by decide +kernel
theorem dX9_dispute_11 : decode cX9_dispute 11 = .ok (.iconst 1, 1) := by decide +kernel
theorem dX9_dispute_12 : decode cX9_dispute 12 = .ok (.iaload, 1) := by decide +kernel
theorem dX9_dispute_13 : decode cX9_dispute 13 = .ok (.bipush 8, 2) := by decide +kernel
theorem dX9_dispute_15 : decode cX9_dispute 15 = .ok (.if_icmp .ne 5, 3) := by decide +kernel
theorem dX9_dispute_18 : decode cX9_dispute 18 = .ok (.iconst (-1), 1) := by decide +kernel
theorem dX9_dispute_19 : decode cX9_dispute 19 = .ok (.ireturn, 1) := by decide +kernel
theorem dX9_dispute_20 : decode cX9_dispute 20 = .ok (.aload_n 0, 1) := by decide +kernel
theorem dX9_dispute_21 : decode cX9_dispute 21 = .ok (.getfield 7, 3) := by decide +kernel
theorem dX9_dispute_24 : decode cX9_dispute 24 = .ok (.bipush 29, 2) := by decide +kernel
theorem dX9_dispute_26 : decode cX9_dispute 26 = .ok (.aload_n 0, 1) := by decide +kernel
theorem dX9_dispute_27 : decode cX9_dispute 27 = .ok (.getfield 7, 3) := by decide +kernel
theorem dX9_dispute_30 : decode cX9_dispute 30 = .ok (.iconst 1, 1) := by decide +kernel
theorem dX9_dispute_31 : decode cX9_dispute 31 = .ok (.iaload, 1) := by decide +kernel
theorem dX9_dispute_32 : decode cX9_dispute 32 = .ok (.iadd, 1) := by decide +kernel
theorem dX9_dispute_33 : decode cX9_dispute 33 = .ok (.iload_n 1, 1) := by decide +kernel
theorem dX9_dispute_34 : decode cX9_dispute 34 = .ok (.iastore, 1) := by decide +kernel
theorem dX9_dispute_35 : decode cX9_dispute 35 = .ok (.aload_n 0, 1) := by decide +kernel
theorem dX9_dispute_36 : decode cX9_dispute 36 = .ok (.getfield 7, 3) := by decide +kernel
theorem dX9_dispute_39 : decode cX9_dispute 39 = .ok (.iconst 1, 1) := by decide +kernel
theorem dX9_dispute_40 : decode cX9_dispute 40 = .ok (.dup2, 1) := by decide +kernel
theorem dX9_dispute_41 : decode cX9_dispute 41 = .ok (.iaload, 1) := by decide +kernel
theorem dX9_dispute_42 : decode cX9_dispute 42 = .ok (.iconst 1, 1) := by decide +kernel
theorem dX9_dispute_43 : decode cX9_dispute 43 = .ok (.iadd, 1) := by decide +kernel
theorem dX9_dispute_44 : decode cX9_dispute 44 = .ok (.iastore, 1) := by decide +kernel
theorem dX9_dispute_45 : decode cX9_dispute 45 = .ok (.aload_n 0, 1) := by decide +kernel
theorem dX9_dispute_46 : decode cX9_dispute 46 = .ok (.getfield 7, 3) := by decide +kernel
theorem dX9_dispute_49 : decode cX9_dispute 49 = .ok (.iconst 1, 1) := by decide +kernel
theorem dX9_dispute_50 : decode cX9_dispute 50 = .ok (.iaload, 1) := by decide +kernel
theorem dX9_dispute_51 : decode cX9_dispute 51 = .ok (.iconst 1, 1) := by decide +kernel
theorem dX9_dispute_52 : decode cX9_dispute 52 = .ok (.isub, 1) := by decide +kernel
theorem dX9_dispute_53 : decode cX9_dispute 53 = .ok (.ireturn, 1) := by decide +kernel
theorem dX9_four_0 : decode cX9_four 0 = .ok (.bipush 24, 2) := by decide +kernel
theorem dX9_four_2 : decode cX9_four 2 = .ok (.istore_n 2, 1) := by decide +kernel
theorem dX9_four_3 : decode cX9_four 3 = .ok (.iload_n 2, 1) := by decide +kernel
theorem dX9_four_4 : decode cX9_four 4 = .ok (.ifCond .lt 35, 3) := by decide +kernel
theorem dX9_four_7 : decode cX9_four 7 = .ok (.aload_n 0, 1) := by decide +kernel
theorem dX9_four_8 : decode cX9_four 8 = .ok (.getfield 19, 3) := by decide +kernel
theorem dX9_four_11 : decode cX9_four 11 = .ok (.aload_n 0, 1) := by decide +kernel
theorem dX9_four_12 : decode cX9_four 12 = .ok (.getfield 85, 3) := by decide +kernel
theorem dX9_four_15 : decode cX9_four 15 = .ok (.iload_n 1, 1) := by decide +kernel
theorem dX9_four_16 : decode cX9_four 16 = .ok (.iload_n 2, 1) := by decide +kernel
theorem dX9_four_17 : decode cX9_four 17 = .ok (.ishr, 1) := by decide +kernel
theorem dX9_four_18 : decode cX9_four 18 = .ok (.sipush 255, 3) := by decide +kernel
theorem dX9_four_21 : decode cX9_four 21 = .ok (.iand, 1) := by decide +kernel
theorem dX9_four_22 : decode cX9_four 22 = .ok (.iastore, 1) := by decide +kernel
theorem dX9_four_23 : decode cX9_four 23 = .ok (.aload_n 0, 1) := by decide +kernel
theorem dX9_four_24 : decode cX9_four 24 = .ok (.dup, 1) := by decide +kernel
theorem dX9_four_25 : decode cX9_four 25 = .ok (.getfield 85, 3) := by decide +kernel
theorem dX9_four_28 : decode cX9_four 28 = .ok (.iconst 1, 1) := by decide +kernel
theorem dX9_four_29 : decode cX9_four 29 = .ok (.iadd, 1) := by decide +kernel
theorem dX9_four_30 : decode cX9_four 30 = .ok (.putfield 85, 3) := by decide +kernel
theorem dX9_four_33 : decode cX9_four 33 = .ok (.iinc 2 (-8), 3) := by decide +kernel
theorem dX9_four_36 : decode cX9_four 36 = .ok (.goto (-33), 3) := by decide +kernel
theorem dX9_four_39 : decode cX9_four 39 = .ok (.return_, 1) := by decide +kernel
theorem dX9_feed_0 : decode cX9_feed 0 = .ok (.aload_n 0, 1) := by decide +kernel
theorem dX9_feed_1 : decode cX9_feed 1 = .ok (.getfield 85, 3) := by decide +kernel
theorem dX9_feed_4 : decode cX9_feed 4 = .ok (.bipush 20, 2) := by decide +kernel
theorem dX9_feed_6 : decode cX9_feed 6 = .ok (.iadd, 1) := by decide +kernel
theorem dX9_feed_7 : decode cX9_feed 7 = .ok (.sipush 300, 3) := by decide +kernel
theorem dX9_feed_10 : decode cX9_feed 10 = .ok (.if_icmp .le 5, 3) := by decide +kernel
theorem dX9_feed_13 : decode cX9_feed 13 = .ok (.iconst (-1), 1) := by decide +kernel
theorem dX9_feed_14 : decode cX9_feed 14 = .ok (.ireturn, 1) := by decide +kernel
theorem dX9_feed_15 : decode cX9_feed 15 = .ok (.aload_n 0, 1) := by decide +kernel
theorem dX9_feed_16 : decode cX9_feed 16 = .ok (.iload_n 1, 1) := by decide +kernel
theorem dX9_feed_17 : decode cX9_feed 17 = .ok (.invokevirtual 88, 3) := by decide +kernel
theorem dX9_feed_20 : decode cX9_feed 20 = .ok (.aload_n 0, 1) := by decide +kernel
theorem dX9_feed_21 : decode cX9_feed 21 = .ok (.iload_n 2, 1) := by decide +kernel
theorem dX9_feed_22 : decode cX9_feed 22 = .ok (.invokevirtual 88, 3) := by decide +kernel
theorem dX9_feed_25 : decode cX9_feed 25 = .ok (.aload_n 0, 1) := by decide +kernel
theorem dX9_feed_26 : decode cX9_feed 26 = .ok (.iload_n 3, 1) := by decide +kernel
theorem dX9_feed_27 : decode cX9_feed 27 = .ok (.invokevirtual 88, 3) := by decide +kernel
theorem dX9_feed_30 : decode cX9_feed 30 = .ok (.aload_n 0, 1) := by decide +kernel
theorem dX9_feed_31 : decode cX9_feed 31 = .ok (.iload 4, 2) := by decide +kernel
theorem dX9_feed_33 : decode cX9_feed 33 = .ok (.invokevirtual 88, 3) := by decide +kernel
theorem dX9_feed_36 : decode cX9_feed 36 = .ok (.aload_n 0, 1) := by decide +kernel
theorem dX9_feed_37 : decode cX9_feed 37 = .ok (.iload 5, 2) := by decide +kernel
theorem dX9_feed_39 : decode cX9_feed 39 = .ok (.invokevirtual 88, 3) := by decide +kernel
theorem dX9_feed_42 : decode cX9_feed 42 = .ok (.aload_n 0, 1) := by decide +kernel
theorem dX9_feed_43 : decode cX9_feed 43 = .ok (.getfield 85, 3) := by decide +kernel
theorem dX9_feed_46 : decode cX9_feed 46 = .ok (.ireturn, 1) := by decide +kernel
theorem dX9_end_0 : decode cX9_end 0 = .ok (.iload_n 1, 1) := by decide +kernel
theorem dX9_end_1 : decode cX9_end 1 = .ok (.iconst 0, 1) := by decide +kernel
theorem dX9_end_2 : decode cX9_end 2 = .ok (.aload_n 0, 1) := by decide +kernel
theorem dX9_end_3 : decode cX9_end 3 = .ok (.getfield 85, 3) := by decide +kernel
theorem dX9_end_6 : decode cX9_end 6 = .ok (.invokestatic 69, 3) := by decide +kernel
theorem dX9_end_9 : decode cX9_end 9 = .ok (.ifCond .ne 5, 3) := by decide +kernel
theorem dX9_end_12 : decode cX9_end 12 = .ok (.iconst (-1), 1) := by decide +kernel
theorem dX9_end_13 : decode cX9_end 13 = .ok (.ireturn, 1) := by decide +kernel
theorem dX9_end_14 : decode cX9_end 14 = .ok (.aload_n 0, 1) := by decide +kernel
theorem dX9_end_15 : decode cX9_end 15 = .ok (.iload_n 1, 1) := by decide +kernel
theorem dX9_end_16 : decode cX9_end 16 = .ok (.putfield 85, 3) := by decide +kernel
theorem dX9_end_19 : decode cX9_end 19 = .ok (.iload_n 1, 1) := by decide +kernel
theorem dX9_end_20 : decode cX9_end 20 = .ok (.ireturn, 1) := by decide +kernel
theorem dX9_byteAt_0 : decode cX9_byteAt 0 = .ok (.iload_n 1, 1) := by decide +kernel
theorem dX9_byteAt_1 : decode cX9_byteAt 1 = .ok (.aload_n 0, 1) := by decide +kernel
theorem dX9_byteAt_2 : decode cX9_byteAt 2 = .ok (.getfield 85, 3) := by decide +kernel
theorem dX9_byteAt_5 : decode cX9_byteAt 5 = .ok (.if_icmp .ge 12, 3) := by decide +kernel
theorem dX9_byteAt_8 : decode cX9_byteAt 8 = .ok (.aload_n 0, 1) := by decide +kernel
theorem dX9_byteAt_9 : decode cX9_byteAt 9 = .ok (.getfield 19, 3) := by decide +kernel
theorem dX9_byteAt_12 : decode cX9_byteAt 12 = .ok (.iload_n 1, 1) := by decide +kernel
theorem dX9_byteAt_13 : decode cX9_byteAt 13 = .ok (.iaload, 1) := by decide +kernel
theorem dX9_byteAt_14 : decode cX9_byteAt 14 = .ok (.goto 4, 3) := by decide +kernel
theorem dX9_byteAt_17 : decode cX9_byteAt 17 = .ok (.iconst (-1), 1) := by decide +kernel
theorem dX9_byteAt_18 : decode cX9_byteAt 18 = .ok (.ireturn, 1) := by decide +kernel
theorem dX9_isLetterByte_0 : decode cX9_isLetterByte 0 = .ok (.iload_n 0, 1) := by decide +kernel
theorem dX9_isLetterByte_1 : decode cX9_isLetterByte 1 = .ok (.bipush 97, 2) := by decide +kernel
theorem dX9_isLetterByte_3 : decode cX9_isLetterByte 3 = .ok (.if_icmp .lt 9, 3) := by decide +kernel
theorem dX9_isLetterByte_6 : decode cX9_isLetterByte 6 = .ok (.iload_n 0, 1) := by decide +kernel
theorem dX9_isLetterByte_7 : decode cX9_isLetterByte 7 = .ok (.bipush 122, 2) := by decide +kernel
theorem dX9_isLetterByte_9 : decode cX9_isLetterByte 9 = .ok (.if_icmp .le 15, 3) := by decide +kernel
theorem dX9_isLetterByte_12 : decode cX9_isLetterByte 12 = .ok (.iload_n 0, 1) := by decide +kernel
theorem dX9_isLetterByte_13 : decode cX9_isLetterByte 13 = .ok (.bipush 65, 2) := by decide +kernel
theorem dX9_isLetterByte_15 : decode cX9_isLetterByte 15 = .ok (.if_icmp .lt 13, 3) := by decide +kernel
theorem dX9_isLetterByte_18 : decode cX9_isLetterByte 18 = .ok (.iload_n 0, 1) := by decide +kernel
theorem dX9_isLetterByte_19 : decode cX9_isLetterByte 19 = .ok (.bipush 90, 2) := by decide +kernel
theorem dX9_isLetterByte_21 : decode cX9_isLetterByte 21 = .ok (.if_icmp .gt 7, 3) := by decide +kernel
theorem dX9_isLetterByte_24 : decode cX9_isLetterByte 24 = .ok (.iconst 1, 1) := by decide +kernel
theorem dX9_isLetterByte_25 : decode cX9_isLetterByte 25 = .ok (.goto 4, 3) := by decide +kernel
theorem dX9_isLetterByte_28 : decode cX9_isLetterByte 28 = .ok (.iconst 0, 1) := by decide +kernel
theorem dX9_isLetterByte_29 : decode cX9_isLetterByte 29 = .ok (.ireturn, 1) := by decide +kernel
theorem dX9_isFigure_0 : decode cX9_isFigure 0 = .ok (.iload_n 0, 1) := by decide +kernel
theorem dX9_isFigure_1 : decode cX9_isFigure 1 = .ok (.bipush 48, 2) := by decide +kernel
theorem dX9_isFigure_3 : decode cX9_isFigure 3 = .ok (.if_icmp .lt 13, 3) := by decide +kernel
theorem dX9_isFigure_6 : decode cX9_isFigure 6 = .ok (.iload_n 0, 1) := by decide +kernel
theorem dX9_isFigure_7 : decode cX9_isFigure 7 = .ok (.bipush 57, 2) := by decide +kernel
theorem dX9_isFigure_9 : decode cX9_isFigure 9 = .ok (.if_icmp .gt 7, 3) := by decide +kernel
theorem dX9_isFigure_12 : decode cX9_isFigure 12 = .ok (.iconst 1, 1) := by decide +kernel
theorem dX9_isFigure_13 : decode cX9_isFigure 13 = .ok (.goto 4, 3) := by decide +kernel
theorem dX9_isFigure_16 : decode cX9_isFigure 16 = .ok (.iconst 0, 1) := by decide +kernel
theorem dX9_isFigure_17 : decode cX9_isFigure 17 = .ok (.ireturn, 1) := by decide +kernel
theorem dX9_isSign_0 : decode cX9_isSign 0 = .ok (.iload_n 0, 1) := by decide +kernel
theorem dX9_isSign_1 : decode cX9_isSign 1 = .ok (.tableswitch 129 35 62 #[127, 129, 129, 129, 129, 127, 127, 127, 127, 129, 127, 129, 127, 129, 129, 129, 129, 129, 129, 129, 129, 129, 129, 127, 127, 127, 127, 127], 127) := by decide +kernel
theorem dX9_isSign_128 : decode cX9_isSign 128 = .ok (.iconst 1, 1) := by decide +kernel
theorem dX9_isSign_129 : decode cX9_isSign 129 = .ok (.ireturn, 1) := by decide +kernel
theorem dX9_isSign_130 : decode cX9_isSign 130 = .ok (.iconst 0, 1) := by decide +kernel
theorem dX9_isSign_131 : decode cX9_isSign 131 = .ok (.ireturn, 1) := by decide +kernel
theorem dX9_nextToken_0 : decode cX9_nextToken 0 = .ok (.aload_n 0, 1) := by decide +kernel
theorem dX9_nextToken_1 : decode cX9_nextToken 1 = .ok (.aload_n 0, 1) := by decide +kernel
theorem dX9_nextToken_2 : decode cX9_nextToken 2 = .ok (.getfield 91, 3) := by decide +kernel
theorem dX9_nextToken_5 : decode cX9_nextToken 5 = .ok (.invokevirtual 94, 3) := by decide +kernel
theorem dX9_nextToken_8 : decode cX9_nextToken 8 = .ok (.bipush 32, 2) := by decide +kernel
theorem dX9_nextToken_10 : decode cX9_nextToken 10 = .ok (.if_icmp .eq 16, 3) := by decide +kernel
theorem dX9_nextToken_13 : decode cX9_nextToken 13 = .ok (.aload_n 0, 1) := by decide +kernel
theorem dX9_nextToken_14 : decode cX9_nextToken 14 = .ok (.aload_n 0, 1) := by decide +kernel
theorem dX9_nextToken_15 : decode cX9_nextToken 15 = .ok (.getfield 91, 3) := by decide +kernel
theorem dX9_nextToken_18 : decode cX9_nextToken 18 = .ok (.invokevirtual 94, 3) := by decide +kernel
theorem dX9_nextToken_21 : decode cX9_nextToken 21 = .ok (.bipush 10, 2) := by decide +kernel
theorem dX9_nextToken_23 : decode cX9_nextToken 23 = .ok (.if_icmp .ne 16, 3) := by decide +kernel
theorem dX9_nextToken_26 : decode cX9_nextToken 26 = .ok (.aload_n 0, 1) := by decide +kernel
theorem dX9_nextToken_27 : decode cX9_nextToken 27 = .ok (.dup, 1) := by decide +kernel
theorem dX9_nextToken_28 : decode cX9_nextToken 28 = .ok (.getfield 91, 3) := by decide +kernel
theorem dX9_nextToken_31 : decode cX9_nextToken 31 = .ok (.iconst 1, 1) := by decide +kernel
theorem dX9_nextToken_32 : decode cX9_nextToken 32 = .ok (.iadd, 1) := by decide +kernel
theorem dX9_nextToken_33 : decode cX9_nextToken 33 = .ok (.putfield 91, 3) := by decide +kernel
theorem dX9_nextToken_36 : decode cX9_nextToken 36 = .ok (.goto (-36), 3) := by decide +kernel
theorem dX9_nextToken_39 : decode cX9_nextToken 39 = .ok (.aload_n 0, 1) := by decide +kernel
theorem dX9_nextToken_40 : decode cX9_nextToken 40 = .ok (.aload_n 0, 1) := by decide +kernel
theorem dX9_nextToken_41 : decode cX9_nextToken 41 = .ok (.getfield 91, 3) := by decide +kernel
theorem dX9_nextToken_44 : decode cX9_nextToken 44 = .ok (.putfield 97, 3) := by decide +kernel
theorem dX9_nextToken_47 : decode cX9_nextToken 47 = .ok (.aload_n 0, 1) := by decide +kernel
theorem dX9_nextToken_48 : decode cX9_nextToken 48 = .ok (.aload_n 0, 1) := by decide +kernel
theorem dX9_nextToken_49 : decode cX9_nextToken 49 = .ok (.getfield 91, 3) := by decide +kernel
theorem dX9_nextToken_52 : decode cX9_nextToken 52 = .ok (.invokevirtual 94, 3) := by decide +kernel
theorem dX9_nextToken_55 : decode cX9_nextToken 55 = .ok (.istore_n 1, 1) := by decide +kernel
theorem dX9_nextToken_56 : decode cX9_nextToken 56 = .ok (.iload_n 1, 1) := by decide +kernel
theorem dX9_nextToken_57 : decode cX9_nextToken 57 = .ok (.ifCond .ge 11, 3) := by decide +kernel
theorem dX9_nextToken_60 : decode cX9_nextToken 60 = .ok (.aload_n 0, 1) := by decide +kernel
theorem dX9_nextToken_61 : decode cX9_nextToken 61 = .ok (.iconst 0, 1) := by decide +kernel
theorem dX9_nextToken_62 : decode cX9_nextToken 62 = .ok (.putfield 100, 3) := by decide +kernel
theorem dX9_nextToken_65 : decode cX9_nextToken 65 = .ok (.goto 245, 3) := by decide +kernel
theorem dX9_nextToken_68 : decode cX9_nextToken 68 = .ok (.iload_n 1, 1) := by decide +kernel
theorem dX9_nextToken_69 : decode cX9_nextToken 69 = .ok (.invokestatic 103, 3) := by decide +kernel
theorem dX9_nextToken_72 : decode cX9_nextToken 72 = .ok (.ifCond .eq 79, 3) := by decide +kernel
theorem dX9_nextToken_75 : decode cX9_nextToken 75 = .ok (.aload_n 0, 1) := by decide +kernel
theorem dX9_nextToken_76 : decode cX9_nextToken 76 = .ok (.iconst 1, 1) := by decide +kernel
theorem dX9_nextToken_77 : decode cX9_nextToken 77 = .ok (.putfield 100, 3) := by decide +kernel
theorem dX9_nextToken_80 : decode cX9_nextToken 80 = .ok (.aload_n 0, 1) := by decide +kernel
theorem dX9_nextToken_81 : decode cX9_nextToken 81 = .ok (.iconst 0, 1) := by decide +kernel
theorem dX9_nextToken_82 : decode cX9_nextToken 82 = .ok (.putfield 106, 3) := by decide +kernel
theorem dX9_nextToken_85 : decode cX9_nextToken 85 = .ok (.aload_n 0, 1) := by decide +kernel
theorem dX9_nextToken_86 : decode cX9_nextToken 86 = .ok (.aload_n 0, 1) := by decide +kernel
theorem dX9_nextToken_87 : decode cX9_nextToken 87 = .ok (.getfield 91, 3) := by decide +kernel
theorem dX9_nextToken_90 : decode cX9_nextToken 90 = .ok (.invokevirtual 94, 3) := by decide +kernel
theorem dX9_nextToken_93 : decode cX9_nextToken 93 = .ok (.invokestatic 103, 3) := by decide +kernel
theorem dX9_nextToken_96 : decode cX9_nextToken 96 = .ok (.ifCond .eq 214, 3) := by decide +kernel
theorem dX9_nextToken_99 : decode cX9_nextToken 99 = .ok (.aload_n 0, 1) := by decide +kernel
theorem dX9_nextToken_100 : decode cX9_nextToken 100 = .ok (.aload_n 0, 1) := by decide +kernel
theorem dX9_nextToken_101 : decode cX9_nextToken 101 = .ok (.getfield 106, 3) := by decide +kernel
theorem dX9_nextToken_104 : decode cX9_nextToken 104 = .ok (.ldc 109, 2) := by decide +kernel
theorem dX9_nextToken_106 : decode cX9_nextToken 106 = .ok (.if_icmp .le 10, 3) := by decide +kernel
theorem dX9_nextToken_109 : decode cX9_nextToken 109 = .ok (.aload_n 0, 1) := by decide +kernel
theorem dX9_nextToken_110 : decode cX9_nextToken 110 = .ok (.getfield 106, 3) := by decide +kernel
theorem dX9_nextToken_113 : decode cX9_nextToken 113 = .ok (.goto 22, 3) := by decide +kernel
theorem dX9_nextToken_116 : decode cX9_nextToken 116 = .ok (.bipush 10, 2) := by decide +kernel
theorem dX9_nextToken_118 : decode cX9_nextToken 118 = .ok (.aload_n 0, 1) := by decide +kernel
theorem dX9_nextToken_119 : decode cX9_nextToken 119 = .ok (.getfield 106, 3) := by decide +kernel
theorem dX9_nextToken_122 : decode cX9_nextToken 122 = .ok (.imul, 1) := by decide +kernel
theorem dX9_nextToken_123 : decode cX9_nextToken 123 = .ok (.aload_n 0, 1) := by decide +kernel
theorem dX9_nextToken_124 : decode cX9_nextToken 124 = .ok (.aload_n 0, 1) := by decide +kernel
theorem dX9_nextToken_125 : decode cX9_nextToken 125 = .ok (.getfield 91, 3) := by decide +kernel
theorem dX9_nextToken_128 : decode cX9_nextToken 128 = .ok (.invokevirtual 94, 3) := by decide +kernel
theorem dX9_nextToken_131 : decode cX9_nextToken 131 = .ok (.iadd, 1) := by decide +kernel
theorem dX9_nextToken_132 : decode cX9_nextToken 132 = .ok (.bipush 48, 2) := by decide +kernel
theorem dX9_nextToken_134 : decode cX9_nextToken 134 = .ok (.isub, 1) := by decide +kernel
theorem dX9_nextToken_135 : decode cX9_nextToken 135 = .ok (.putfield 106, 3) := by decide +kernel
theorem dX9_nextToken_138 : decode cX9_nextToken 138 = .ok (.aload_n 0, 1) := by decide +kernel
theorem dX9_nextToken_139 : decode cX9_nextToken 139 = .ok (.dup, 1) := by decide +kernel
theorem dX9_nextToken_140 : decode cX9_nextToken 140 = .ok (.getfield 91, 3) := by decide +kernel
theorem dX9_nextToken_143 : decode cX9_nextToken 143 = .ok (.iconst 1, 1) := by decide +kernel
theorem dX9_nextToken_144 : decode cX9_nextToken 144 = .ok (.iadd, 1) := by decide +kernel
theorem dX9_nextToken_145 : decode cX9_nextToken 145 = .ok (.putfield 91, 3) := by decide +kernel
theorem dX9_nextToken_148 : decode cX9_nextToken 148 = .ok (.goto (-63), 3) := by decide +kernel
theorem dX9_nextToken_151 : decode cX9_nextToken 151 = .ok (.iload_n 1, 1) := by decide +kernel
theorem dX9_nextToken_152 : decode cX9_nextToken 152 = .ok (.invokestatic 110, 3) := by decide +kernel
theorem dX9_nextToken_155 : decode cX9_nextToken 155 = .ok (.ifCond .eq 79, 3) := by decide +kernel
theorem dX9_nextToken_158 : decode cX9_nextToken 158 = .ok (.aload_n 0, 1) := by decide +kernel
theorem dX9_nextToken_159 : decode cX9_nextToken 159 = .ok (.iconst 2, 1) := by decide +kernel
theorem dX9_nextToken_160 : decode cX9_nextToken 160 = .ok (.putfield 100, 3) := by decide +kernel
theorem dX9_nextToken_163 : decode cX9_nextToken 163 = .ok (.aload_n 0, 1) := by decide +kernel
theorem dX9_nextToken_164 : decode cX9_nextToken 164 = .ok (.lconst 0, 1) := by decide +kernel
theorem dX9_nextToken_165 : decode cX9_nextToken 165 = .ok (.putfield 113, 3) := by decide +kernel
theorem dX9_nextToken_168 : decode cX9_nextToken 168 = .ok (.aload_n 0, 1) := by decide +kernel
theorem dX9_nextToken_169 : decode cX9_nextToken 169 = .ok (.aload_n 0, 1) := by decide +kernel
theorem dX9_nextToken_170 : decode cX9_nextToken 170 = .ok (.getfield 91, 3) := by decide +kernel
theorem dX9_nextToken_173 : decode cX9_nextToken 173 = .ok (.invokevirtual 94, 3) := by decide +kernel
theorem dX9_nextToken_176 : decode cX9_nextToken 176 = .ok (.invokestatic 110, 3) := by decide +kernel
theorem dX9_nextToken_179 : decode cX9_nextToken 179 = .ok (.ifCond .eq 131, 3) := by decide +kernel
theorem dX9_nextToken_182 : decode cX9_nextToken 182 = .ok (.aload_n 0, 1) := by decide +kernel
theorem dX9_nextToken_183 : decode cX9_nextToken 183 = .ok (.aload_n 0, 1) := by decide +kernel
theorem dX9_nextToken_184 : decode cX9_nextToken 184 = .ok (.getfield 113, 3) := by decide +kernel
theorem dX9_nextToken_187 : decode cX9_nextToken 187 = .ok (.bipush 48, 2) := by decide +kernel
theorem dX9_nextToken_189 : decode cX9_nextToken 189 = .ok (.lshr, 1) := by decide +kernel
theorem dX9_nextToken_190 : decode cX9_nextToken 190 = .ok (.lconst 0, 1) := by decide +kernel
theorem dX9_nextToken_191 : decode cX9_nextToken 191 = .ok (.lcmp, 1) := by decide +kernel
theorem dX9_nextToken_192 : decode cX9_nextToken 192 = .ok (.ifCond .eq 9, 3) := by decide +kernel
theorem dX9_nextToken_195 : decode cX9_nextToken 195 = .ok (.ldc2_w 117, 3) := by decide +kernel
theorem dX9_nextToken_198 : decode cX9_nextToken 198 = .ok (.goto 20, 3) := by decide +kernel
theorem dX9_nextToken_201 : decode cX9_nextToken 201 = .ok (.aload_n 0, 1) := by decide +kernel
theorem dX9_nextToken_202 : decode cX9_nextToken 202 = .ok (.getfield 113, 3) := by decide +kernel
theorem dX9_nextToken_205 : decode cX9_nextToken 205 = .ok (.bipush 8, 2) := by decide +kernel
theorem dX9_nextToken_207 : decode cX9_nextToken 207 = .ok (.lshl, 1) := by decide +kernel
theorem dX9_nextToken_208 : decode cX9_nextToken 208 = .ok (.aload_n 0, 1) := by decide +kernel
theorem dX9_nextToken_209 : decode cX9_nextToken 209 = .ok (.aload_n 0, 1) := by decide +kernel
theorem dX9_nextToken_210 : decode cX9_nextToken 210 = .ok (.getfield 91, 3) := by decide +kernel
theorem dX9_nextToken_213 : decode cX9_nextToken 213 = .ok (.invokevirtual 94, 3) := by decide +kernel
theorem dX9_nextToken_216 : decode cX9_nextToken 216 = .ok (.i2l, 1) := by decide +kernel
theorem dX9_nextToken_217 : decode cX9_nextToken 217 = .ok (.lor, 1) := by decide +kernel
theorem dX9_nextToken_218 : decode cX9_nextToken 218 = .ok (.putfield 113, 3) := by decide +kernel
theorem dX9_nextToken_221 : decode cX9_nextToken 221 = .ok (.aload_n 0, 1) := by decide +kernel
theorem dX9_nextToken_222 : decode cX9_nextToken 222 = .ok (.dup, 1) := by decide +kernel
theorem dX9_nextToken_223 : decode cX9_nextToken 223 = .ok (.getfield 91, 3) := by decide +kernel
theorem dX9_nextToken_226 : decode cX9_nextToken 226 = .ok (.iconst 1, 1) := by decide +kernel
theorem dX9_nextToken_227 : decode cX9_nextToken 227 = .ok (.iadd, 1) := by decide +kernel
theorem dX9_nextToken_228 : decode cX9_nextToken 228 = .ok (.putfield 91, 3) := by decide +kernel
theorem dX9_nextToken_231 : decode cX9_nextToken 231 = .ok (.goto (-63), 3) := by decide +kernel
theorem dX9_nextToken_234 : decode cX9_nextToken 234 = .ok (.aload_n 0, 1) := by decide +kernel
theorem dX9_nextToken_235 : decode cX9_nextToken 235 = .ok (.iload_n 1, 1) := by decide +kernel
theorem dX9_nextToken_236 : decode cX9_nextToken 236 = .ok (.invokestatic 119, 3) := by decide +kernel
theorem dX9_nextToken_239 : decode cX9_nextToken 239 = .ok (.ifCond .eq 7, 3) := by decide +kernel
theorem dX9_nextToken_242 : decode cX9_nextToken 242 = .ok (.iload_n 1, 1) := by decide +kernel
theorem dX9_nextToken_243 : decode cX9_nextToken 243 = .ok (.goto 4, 3) := by decide +kernel
theorem dX9_nextToken_246 : decode cX9_nextToken 246 = .ok (.iconst 3, 1) := by decide +kernel
theorem dX9_nextToken_247 : decode cX9_nextToken 247 = .ok (.putfield 100, 3) := by decide +kernel
theorem dX9_nextToken_250 : decode cX9_nextToken 250 = .ok (.aload_n 0, 1) := by decide +kernel
theorem dX9_nextToken_251 : decode cX9_nextToken 251 = .ok (.dup, 1) := by decide +kernel
theorem dX9_nextToken_252 : decode cX9_nextToken 252 = .ok (.getfield 91, 3) := by decide +kernel
theorem dX9_nextToken_255 : decode cX9_nextToken 255 = .ok (.iconst 1, 1) := by decide +kernel
theorem dX9_nextToken_256 : decode cX9_nextToken 256 = .ok (.iadd, 1) := by decide +kernel
theorem dX9_nextToken_257 : decode cX9_nextToken 257 = .ok (.putfield 91, 3) := by decide +kernel
theorem dX9_nextToken_260 : decode cX9_nextToken 260 = .ok (.iload_n 1, 1) := by decide +kernel
theorem dX9_nextToken_261 : decode cX9_nextToken 261 = .ok (.bipush 60, 2) := by decide +kernel
theorem dX9_nextToken_263 : decode cX9_nextToken 263 = .ok (.if_icmp .eq 9, 3) := by decide +kernel
theorem dX9_nextToken_266 : decode cX9_nextToken 266 = .ok (.iload_n 1, 1) := by decide +kernel
theorem dX9_nextToken_267 : decode cX9_nextToken 267 = .ok (.bipush 62, 2) := by decide +kernel
theorem dX9_nextToken_269 : decode cX9_nextToken 269 = .ok (.if_icmp .ne 41, 3) := by decide +kernel
theorem dX9_nextToken_272 : decode cX9_nextToken 272 = .ok (.aload_n 0, 1) := by decide +kernel
theorem dX9_nextToken_273 : decode cX9_nextToken 273 = .ok (.aload_n 0, 1) := by decide +kernel
theorem dX9_nextToken_274 : decode cX9_nextToken 274 = .ok (.getfield 91, 3) := by decide +kernel
theorem dX9_nextToken_277 : decode cX9_nextToken 277 = .ok (.invokevirtual 94, 3) := by decide +kernel
theorem dX9_nextToken_280 : decode cX9_nextToken 280 = .ok (.bipush 61, 2) := by decide +kernel
theorem dX9_nextToken_282 : decode cX9_nextToken 282 = .ok (.if_icmp .ne 28, 3) := by decide +kernel
theorem dX9_nextToken_285 : decode cX9_nextToken 285 = .ok (.aload_n 0, 1) := by decide +kernel
theorem dX9_nextToken_286 : decode cX9_nextToken 286 = .ok (.iload_n 1, 1) := by decide +kernel
theorem dX9_nextToken_287 : decode cX9_nextToken 287 = .ok (.bipush 60, 2) := by decide +kernel
theorem dX9_nextToken_289 : decode cX9_nextToken 289 = .ok (.if_icmp .ne 7, 3) := by decide +kernel
theorem dX9_nextToken_292 : decode cX9_nextToken 292 = .ok (.iconst 4, 1) := by decide +kernel
theorem dX9_nextToken_293 : decode cX9_nextToken 293 = .ok (.goto 4, 3) := by decide +kernel
theorem dX9_nextToken_296 : decode cX9_nextToken 296 = .ok (.iconst 5, 1) := by decide +kernel
theorem dX9_nextToken_297 : decode cX9_nextToken 297 = .ok (.putfield 100, 3) := by decide +kernel
theorem dX9_nextToken_300 : decode cX9_nextToken 300 = .ok (.aload_n 0, 1) := by decide +kernel
theorem dX9_nextToken_301 : decode cX9_nextToken 301 = .ok (.dup, 1) := by decide +kernel
theorem dX9_nextToken_302 : decode cX9_nextToken 302 = .ok (.getfield 91, 3) := by decide +kernel
theorem dX9_nextToken_305 : decode cX9_nextToken 305 = .ok (.iconst 1, 1) := by decide +kernel
theorem dX9_nextToken_306 : decode cX9_nextToken 306 = .ok (.iadd, 1) := by decide +kernel
theorem dX9_nextToken_307 : decode cX9_nextToken 307 = .ok (.putfield 91, 3) := by decide +kernel
theorem dX9_nextToken_310 : decode cX9_nextToken 310 = .ok (.return_, 1) := by decide +kernel
theorem dX9_w2_0 : decode cX9_w2 0 = .ok (.iload_n 0, 1) := by decide +kernel
theorem dX9_w2_1 : decode cX9_w2 1 = .ok (.i2l, 1) := by decide +kernel
theorem dX9_w2_2 : decode cX9_w2 2 = .ok (.bipush 8, 2) := by decide +kernel
theorem dX9_w2_4 : decode cX9_w2 4 = .ok (.lshl, 1) := by decide +kernel
theorem dX9_w2_5 : decode cX9_w2 5 = .ok (.iload_n 1, 1) := by decide +kernel
theorem dX9_w2_6 : decode cX9_w2 6 = .ok (.i2l, 1) := by decide +kernel
theorem dX9_w2_7 : decode cX9_w2 7 = .ok (.lor, 1) := by decide +kernel
theorem dX9_w2_8 : decode cX9_w2 8 = .ok (.lreturn, 1) := by decide +kernel
theorem dX9_w3_0 : decode cX9_w3 0 = .ok (.iload_n 0, 1) := by decide +kernel
theorem dX9_w3_1 : decode cX9_w3 1 = .ok (.iload_n 1, 1) := by decide +kernel
theorem dX9_w3_2 : decode cX9_w3 2 = .ok (.invokestatic 122, 3) := by decide +kernel
theorem dX9_w3_5 : decode cX9_w3 5 = .ok (.bipush 8, 2) := by decide +kernel
theorem dX9_w3_7 : decode cX9_w3 7 = .ok (.lshl, 1) := by decide +kernel
theorem dX9_w3_8 : decode cX9_w3 8 = .ok (.iload_n 2, 1) := by decide +kernel
theorem dX9_w3_9 : decode cX9_w3 9 = .ok (.i2l, 1) := by decide +kernel
theorem dX9_w3_10 : decode cX9_w3 10 = .ok (.lor, 1) := by decide +kernel
theorem dX9_w3_11 : decode cX9_w3 11 = .ok (.lreturn, 1) := by decide +kernel
theorem dX9_w4_0 : decode cX9_w4 0 = .ok (.iload_n 0, 1) := by decide +kernel
theorem dX9_w4_1 : decode cX9_w4 1 = .ok (.iload_n 1, 1) := by decide +kernel
theorem dX9_w4_2 : decode cX9_w4 2 = .ok (.iload_n 2, 1) := by decide +kernel
theorem dX9_w4_3 : decode cX9_w4 3 = .ok (.invokestatic 126, 3) := by decide +kernel
theorem dX9_w4_6 : decode cX9_w4 6 = .ok (.bipush 8, 2) := by decide +kernel
theorem dX9_w4_8 : decode cX9_w4 8 = .ok (.lshl, 1) := by decide +kernel
theorem dX9_w4_9 : decode cX9_w4 9 = .ok (.iload_n 3, 1) := by decide +kernel
theorem dX9_w4_10 : decode cX9_w4 10 = .ok (.i2l, 1) := by decide +kernel
theorem dX9_w4_11 : decode cX9_w4 11 = .ok (.lor, 1) := by decide +kernel
theorem dX9_w4_12 : decode cX9_w4 12 = .ok (.lreturn, 1) := by decide +kernel
theorem dX9_w5_0 : decode cX9_w5 0 = .ok (.iload_n 0, 1) := by decide +kernel
theorem dX9_w5_1 : decode cX9_w5 1 = .ok (.iload_n 1, 1) := by decide +kernel
theorem dX9_w5_2 : decode cX9_w5 2 = .ok (.iload_n 2, 1) := by decide +kernel
theorem dX9_w5_3 : decode cX9_w5 3 = .ok (.iload_n 3, 1) := by decide +kernel
theorem dX9_w5_4 : decode cX9_w5 4 = .ok (.invokestatic 130, 3) := by decide +kernel
theorem dX9_w5_7 : decode cX9_w5 7 = .ok (.bipush 8, 2) := by decide +kernel
theorem dX9_w5_9 : decode cX9_w5 9 = .ok (.lshl, 1) := by decide +kernel
theorem dX9_w5_10 : decode cX9_w5 10 = .ok (.iload 4, 2) := by decide +kernel
theorem dX9_w5_12 : decode cX9_w5 12 = .ok (.i2l, 1) := by decide +kernel
theorem dX9_w5_13 : decode cX9_w5 13 = .ok (.lor, 1) := by decide +kernel
theorem dX9_w5_14 : decode cX9_w5 14 = .ok (.lreturn, 1) := by decide +kernel
theorem dX9_w6_0 : decode cX9_w6 0 = .ok (.iload_n 0, 1) := by decide +kernel
theorem dX9_w6_1 : decode cX9_w6 1 = .ok (.iload_n 1, 1) := by decide +kernel
theorem dX9_w6_2 : decode cX9_w6 2 = .ok (.iload_n 2, 1) := by decide +kernel
theorem dX9_w6_3 : decode cX9_w6 3 = .ok (.iload_n 3, 1) := by decide +kernel
theorem dX9_w6_4 : decode cX9_w6 4 = .ok (.iload 4, 2) := by decide +kernel
theorem dX9_w6_6 : decode cX9_w6 6 = .ok (.invokestatic 134, 3) := by decide +kernel
theorem dX9_w6_9 : decode cX9_w6 9 = .ok (.bipush 8, 2) := by decide +kernel
theorem dX9_w6_11 : decode cX9_w6 11 = .ok (.lshl, 1) := by decide +kernel
theorem dX9_w6_12 : decode cX9_w6 12 = .ok (.iload 5, 2) := by decide +kernel
theorem dX9_w6_14 : decode cX9_w6 14 = .ok (.i2l, 1) := by decide +kernel
theorem dX9_w6_15 : decode cX9_w6 15 = .ok (.lor, 1) := by decide +kernel
theorem dX9_w6_16 : decode cX9_w6 16 = .ok (.lreturn, 1) := by decide +kernel
theorem dX9_isWord_0 : decode cX9_isWord 0 = .ok (.aload_n 0, 1) := by decide +kernel
theorem dX9_isWord_1 : decode cX9_isWord 1 = .ok (.getfield 100, 3) := by decide +kernel
theorem dX9_isWord_4 : decode cX9_isWord 4 = .ok (.iconst 2, 1) := by decide +kernel
theorem dX9_isWord_5 : decode cX9_isWord 5 = .ok (.if_icmp .ne 16, 3) := by decide +kernel
theorem dX9_isWord_8 : decode cX9_isWord 8 = .ok (.aload_n 0, 1) := by decide +kernel
theorem dX9_isWord_9 : decode cX9_isWord 9 = .ok (.getfield 113, 3) := by decide +kernel
theorem dX9_isWord_12 : decode cX9_isWord 12 = .ok (.lload_n 1, 1) := by decide +kernel
theorem dX9_isWord_13 : decode cX9_isWord 13 = .ok (.lcmp, 1) := by decide +kernel
theorem dX9_isWord_14 : decode cX9_isWord 14 = .ok (.ifCond .ne 7, 3) := by decide +kernel
theorem dX9_isWord_17 : decode cX9_isWord 17 = .ok (.iconst 1, 1) := by decide +kernel
theorem dX9_isWord_18 : decode cX9_isWord 18 = .ok (.goto 4, 3) := by decide +kernel
theorem dX9_isWord_21 : decode cX9_isWord 21 = .ok (.iconst 0, 1) := by decide +kernel
theorem dX9_isWord_22 : decode cX9_isWord 22 = .ok (.ireturn, 1) := by decide +kernel
theorem dX9_emit_0 : decode cX9_emit 0 = .ok (.aload_n 0, 1) := by decide +kernel
theorem dX9_emit_1 : decode cX9_emit 1 = .ok (.getfield 16, 3) := by decide +kernel
theorem dX9_emit_4 : decode cX9_emit 4 = .ok (.aload_n 0, 1) := by decide +kernel
theorem dX9_emit_5 : decode cX9_emit 5 = .ok (.getfield 138, 3) := by decide +kernel
theorem dX9_emit_8 : decode cX9_emit 8 = .ok (.bipush 97, 2) := by decide +kernel
theorem dX9_emit_10 : decode cX9_emit 10 = .ok (.iadd, 1) := by decide +kernel
theorem dX9_emit_11 : decode cX9_emit 11 = .ok (.iconst 2, 1) := by decide +kernel
theorem dX9_emit_12 : decode cX9_emit 12 = .ok (.aload_n 0, 1) := by decide +kernel
theorem dX9_emit_13 : decode cX9_emit 13 = .ok (.getfield 141, 3) := by decide +kernel
theorem dX9_emit_16 : decode cX9_emit 16 = .ok (.imul, 1) := by decide +kernel
theorem dX9_emit_17 : decode cX9_emit 17 = .ok (.iadd, 1) := by decide +kernel
theorem dX9_emit_18 : decode cX9_emit 18 = .ok (.iload_n 1, 1) := by decide +kernel
theorem dX9_emit_19 : decode cX9_emit 19 = .ok (.iastore, 1) := by decide +kernel
theorem dX9_emit_20 : decode cX9_emit 20 = .ok (.aload_n 0, 1) := by decide +kernel
theorem dX9_emit_21 : decode cX9_emit 21 = .ok (.getfield 16, 3) := by decide +kernel
theorem dX9_emit_24 : decode cX9_emit 24 = .ok (.aload_n 0, 1) := by decide +kernel
theorem dX9_emit_25 : decode cX9_emit 25 = .ok (.getfield 138, 3) := by decide +kernel
theorem dX9_emit_28 : decode cX9_emit 28 = .ok (.bipush 97, 2) := by decide +kernel
theorem dX9_emit_30 : decode cX9_emit 30 = .ok (.iadd, 1) := by decide +kernel
theorem dX9_emit_31 : decode cX9_emit 31 = .ok (.iconst 2, 1) := by decide +kernel
theorem dX9_emit_32 : decode cX9_emit 32 = .ok (.aload_n 0, 1) := by decide +kernel
theorem dX9_emit_33 : decode cX9_emit 33 = .ok (.getfield 141, 3) := by decide +kernel
theorem dX9_emit_36 : decode cX9_emit 36 = .ok (.imul, 1) := by decide +kernel
theorem dX9_emit_37 : decode cX9_emit 37 = .ok (.iadd, 1) := by decide +kernel
theorem dX9_emit_38 : decode cX9_emit 38 = .ok (.iconst 1, 1) := by decide +kernel
theorem dX9_emit_39 : decode cX9_emit 39 = .ok (.iadd, 1) := by decide +kernel
theorem dX9_emit_40 : decode cX9_emit 40 = .ok (.iload_n 2, 1) := by decide +kernel
theorem dX9_emit_41 : decode cX9_emit 41 = .ok (.iastore, 1) := by decide +kernel
theorem dX9_emit_42 : decode cX9_emit 42 = .ok (.aload_n 0, 1) := by decide +kernel
theorem dX9_emit_43 : decode cX9_emit 43 = .ok (.dup, 1) := by decide +kernel
theorem dX9_emit_44 : decode cX9_emit 44 = .ok (.getfield 141, 3) := by decide +kernel
theorem dX9_emit_47 : decode cX9_emit 47 = .ok (.iconst 1, 1) := by decide +kernel
theorem dX9_emit_48 : decode cX9_emit 48 = .ok (.iadd, 1) := by decide +kernel
theorem dX9_emit_49 : decode cX9_emit 49 = .ok (.putfield 141, 3) := by decide +kernel
theorem dX9_emit_52 : decode cX9_emit 52 = .ok (.return_, 1) := by decide +kernel
theorem dX9_isAgainst_0 : decode cX9_isAgainst 0 = .ok (.aload_n 0, 1) := by decide +kernel
theorem dX9_isAgainst_1 : decode cX9_isAgainst 1 = .ok (.getfield 100, 3) := by decide +kernel
theorem dX9_isAgainst_4 : decode cX9_isAgainst 4 = .ok (.iconst 2, 1) := by decide +kernel
theorem dX9_isAgainst_5 : decode cX9_isAgainst 5 = .ok (.if_icmp .ne 124, 3) := by decide +kernel
theorem dX9_isAgainst_8 : decode cX9_isAgainst 8 = .ok (.aload_n 0, 1) := by decide +kernel
theorem dX9_isAgainst_9 : decode cX9_isAgainst 9 = .ok (.getfield 91, 3) := by decide +kernel
theorem dX9_isAgainst_12 : decode cX9_isAgainst 12 = .ok (.aload_n 0, 1) := by decide +kernel
theorem dX9_isAgainst_13 : decode cX9_isAgainst 13 = .ok (.getfield 97, 3) := by decide +kernel
theorem dX9_isAgainst_16 : decode cX9_isAgainst 16 = .ok (.isub, 1) := by decide +kernel
theorem dX9_isAgainst_17 : decode cX9_isAgainst 17 = .ok (.bipush 7, 2) := by decide +kernel
theorem dX9_isAgainst_19 : decode cX9_isAgainst 19 = .ok (.if_icmp .ne 110, 3) := by decide +kernel
theorem dX9_isAgainst_22 : decode cX9_isAgainst 22 = .ok (.aload_n 0, 1) := by decide +kernel
theorem dX9_isAgainst_23 : decode cX9_isAgainst 23 = .ok (.aload_n 0, 1) := by decide +kernel
theorem dX9_isAgainst_24 : decode cX9_isAgainst 24 = .ok (.getfield 97, 3) := by decide +kernel
theorem dX9_isAgainst_27 : decode cX9_isAgainst 27 = .ok (.invokevirtual 94, 3) := by decide +kernel
theorem dX9_isAgainst_30 : decode cX9_isAgainst 30 = .ok (.aload_n 0, 1) := by decide +kernel
theorem dX9_isAgainst_31 : decode cX9_isAgainst 31 = .ok (.aload_n 0, 1) := by decide +kernel
theorem dX9_isAgainst_32 : decode cX9_isAgainst 32 = .ok (.getfield 97, 3) := by decide +kernel
theorem dX9_isAgainst_35 : decode cX9_isAgainst 35 = .ok (.iconst 1, 1) := by decide +kernel
theorem dX9_isAgainst_36 : decode cX9_isAgainst 36 = .ok (.iadd, 1) := by decide +kernel
theorem dX9_isAgainst_37 : decode cX9_isAgainst 37 = .ok (.invokevirtual 94, 3) := by decide +kernel
theorem dX9_isAgainst_40 : decode cX9_isAgainst 40 = .ok (.aload_n 0, 1) := by decide +kernel
theorem dX9_isAgainst_41 : decode cX9_isAgainst 41 = .ok (.aload_n 0, 1) := by decide +kernel
theorem dX9_isAgainst_42 : decode cX9_isAgainst 42 = .ok (.getfield 97, 3) := by decide +kernel
theorem dX9_isAgainst_45 : decode cX9_isAgainst 45 = .ok (.iconst 2, 1) := by decide +kernel
theorem dX9_isAgainst_46 : decode cX9_isAgainst 46 = .ok (.iadd, 1) := by decide +kernel
theorem dX9_isAgainst_47 : decode cX9_isAgainst 47 = .ok (.invokevirtual 94, 3) := by decide +kernel
theorem dX9_isAgainst_50 : decode cX9_isAgainst 50 = .ok (.aload_n 0, 1) := by decide +kernel
theorem dX9_isAgainst_51 : decode cX9_isAgainst 51 = .ok (.aload_n 0, 1) := by decide +kernel
theorem dX9_isAgainst_52 : decode cX9_isAgainst 52 = .ok (.getfield 97, 3) := by decide +kernel
theorem dX9_isAgainst_55 : decode cX9_isAgainst 55 = .ok (.iconst 3, 1) := by decide +kernel
theorem dX9_isAgainst_56 : decode cX9_isAgainst 56 = .ok (.iadd, 1) := by decide +kernel
theorem dX9_isAgainst_57 : decode cX9_isAgainst 57 = .ok (.invokevirtual 94, 3) := by decide +kernel
theorem dX9_isAgainst_60 : decode cX9_isAgainst 60 = .ok (.invokestatic 130, 3) := by decide +kernel
theorem dX9_isAgainst_63 : decode cX9_isAgainst 63 = .ok (.bipush 97, 2) := by decide +kernel
theorem dX9_isAgainst_65 : decode cX9_isAgainst 65 = .ok (.bipush 103, 2) := by decide +kernel
theorem dX9_isAgainst_67 : decode cX9_isAgainst 67 = .ok (.bipush 97, 2) := by decide +kernel
theorem dX9_isAgainst_69 : decode cX9_isAgainst 69 = .ok (.bipush 105, 2) := by decide +kernel
theorem dX9_isAgainst_71 : decode cX9_isAgainst 71 = .ok (.invokestatic 130, 3) := by decide +kernel
theorem dX9_isAgainst_74 : decode cX9_isAgainst 74 = .ok (.lcmp, 1) := by decide +kernel
theorem dX9_isAgainst_75 : decode cX9_isAgainst 75 = .ok (.ifCond .ne 54, 3) := by decide +kernel
theorem dX9_isAgainst_78 : decode cX9_isAgainst 78 = .ok (.aload_n 0, 1) := by decide +kernel
theorem dX9_isAgainst_79 : decode cX9_isAgainst 79 = .ok (.aload_n 0, 1) := by decide +kernel
theorem dX9_isAgainst_80 : decode cX9_isAgainst 80 = .ok (.getfield 97, 3) := by decide +kernel
theorem dX9_isAgainst_83 : decode cX9_isAgainst 83 = .ok (.iconst 4, 1) := by decide +kernel
theorem dX9_isAgainst_84 : decode cX9_isAgainst 84 = .ok (.iadd, 1) := by decide +kernel
theorem dX9_isAgainst_85 : decode cX9_isAgainst 85 = .ok (.invokevirtual 94, 3) := by decide +kernel
theorem dX9_isAgainst_88 : decode cX9_isAgainst 88 = .ok (.aload_n 0, 1) := by decide +kernel
theorem dX9_isAgainst_89 : decode cX9_isAgainst 89 = .ok (.aload_n 0, 1) := by decide +kernel
theorem dX9_isAgainst_90 : decode cX9_isAgainst 90 = .ok (.getfield 97, 3) := by decide +kernel
theorem dX9_isAgainst_93 : decode cX9_isAgainst 93 = .ok (.iconst 5, 1) := by decide +kernel
theorem dX9_isAgainst_94 : decode cX9_isAgainst 94 = .ok (.iadd, 1) := by decide +kernel
theorem dX9_isAgainst_95 : decode cX9_isAgainst 95 = .ok (.invokevirtual 94, 3) := by decide +kernel
theorem dX9_isAgainst_98 : decode cX9_isAgainst 98 = .ok (.aload_n 0, 1) := by decide +kernel
theorem dX9_isAgainst_99 : decode cX9_isAgainst 99 = .ok (.aload_n 0, 1) := by decide +kernel
theorem dX9_isAgainst_100 : decode cX9_isAgainst 100 = .ok (.getfield 97, 3) := by decide +kernel
theorem dX9_isAgainst_103 : decode cX9_isAgainst 103 = .ok (.bipush 6, 2) := by decide +kernel
theorem dX9_isAgainst_105 : decode cX9_isAgainst 105 = .ok (.iadd, 1) := by decide +kernel
theorem dX9_isAgainst_106 : decode cX9_isAgainst 106 = .ok (.invokevirtual 94, 3) := by decide +kernel
theorem dX9_isAgainst_109 : decode cX9_isAgainst 109 = .ok (.invokestatic 126, 3) := by decide +kernel
theorem dX9_isAgainst_112 : decode cX9_isAgainst 112 = .ok (.bipush 110, 2) := by decide +kernel
theorem dX9_isAgainst_114 : decode cX9_isAgainst 114 = .ok (.bipush 115, 2) := by decide +kernel
theorem dX9_isAgainst_116 : decode cX9_isAgainst 116 = .ok (.bipush 116, 2) := by decide +kernel
theorem dX9_isAgainst_118 : decode cX9_isAgainst 118 = .ok (.invokestatic 126, 3) := by decide +kernel
theorem dX9_isAgainst_121 : decode cX9_isAgainst 121 = .ok (.lcmp, 1) := by decide +kernel
theorem dX9_isAgainst_122 : decode cX9_isAgainst 122 = .ok (.ifCond .ne 7, 3) := by decide +kernel
theorem dX9_isAgainst_125 : decode cX9_isAgainst 125 = .ok (.iconst 1, 1) := by decide +kernel
theorem dX9_isAgainst_126 : decode cX9_isAgainst 126 = .ok (.goto 4, 3) := by decide +kernel
theorem dX9_isAgainst_129 : decode cX9_isAgainst 129 = .ok (.iconst 0, 1) := by decide +kernel
theorem dX9_isAgainst_130 : decode cX9_isAgainst 130 = .ok (.ireturn, 1) := by decide +kernel
theorem dX9_nameOf_0 : decode cX9_nameOf 0 = .ok (.aload_n 0, 1) := by decide +kernel
theorem dX9_nameOf_1 : decode cX9_nameOf 1 = .ok (.getfield 100, 3) := by decide +kernel
theorem dX9_nameOf_4 : decode cX9_nameOf 4 = .ok (.iconst 2, 1) := by decide +kernel
theorem dX9_nameOf_5 : decode cX9_nameOf 5 = .ok (.if_icmp .eq 5, 3) := by decide +kernel
theorem dX9_nameOf_8 : decode cX9_nameOf 8 = .ok (.iconst (-1), 1) := by decide +kernel
theorem dX9_nameOf_9 : decode cX9_nameOf 9 = .ok (.ireturn, 1) := by decide +kernel
theorem dX9_nameOf_10 : decode cX9_nameOf 10 = .ok (.aload_n 0, 1) := by decide +kernel
theorem dX9_nameOf_11 : decode cX9_nameOf 11 = .ok (.getfield 113, 3) := by decide +kernel
theorem dX9_nameOf_14 : decode cX9_nameOf 14 = .ok (.bipush 110, 2) := by decide +kernel
theorem dX9_nameOf_16 : decode cX9_nameOf 16 = .ok (.bipush 105, 2) := by decide +kernel
theorem dX9_nameOf_18 : decode cX9_nameOf 18 = .ok (.bipush 103, 2) := by decide +kernel
theorem dX9_nameOf_20 : decode cX9_nameOf 20 = .ok (.bipush 104, 2) := by decide +kernel
theorem dX9_nameOf_22 : decode cX9_nameOf 22 = .ok (.bipush 116, 2) := by decide +kernel
theorem dX9_nameOf_24 : decode cX9_nameOf 24 = .ok (.invokestatic 134, 3) := by decide +kernel
theorem dX9_nameOf_27 : decode cX9_nameOf 27 = .ok (.lcmp, 1) := by decide +kernel
theorem dX9_nameOf_28 : decode cX9_nameOf 28 = .ok (.ifCond .ne 5, 3) := by decide +kernel
theorem dX9_nameOf_31 : decode cX9_nameOf 31 = .ok (.iconst 0, 1) := by decide +kernel
theorem dX9_nameOf_32 : decode cX9_nameOf 32 = .ok (.ireturn, 1) := by decide +kernel
theorem dX9_nameOf_33 : decode cX9_nameOf 33 = .ok (.aload_n 0, 1) := by decide +kernel
theorem dX9_nameOf_34 : decode cX9_nameOf 34 = .ok (.getfield 113, 3) := by decide +kernel
theorem dX9_nameOf_37 : decode cX9_nameOf 37 = .ok (.bipush 108, 2) := by decide +kernel
theorem dX9_nameOf_39 : decode cX9_nameOf 39 = .ok (.bipush 105, 2) := by decide +kernel
theorem dX9_nameOf_41 : decode cX9_nameOf 41 = .ok (.bipush 116, 2) := by decide +kernel
theorem dX9_nameOf_43 : decode cX9_nameOf 43 = .ok (.invokestatic 126, 3) := by decide +kernel
theorem dX9_nameOf_46 : decode cX9_nameOf 46 = .ok (.lcmp, 1) := by decide +kernel
theorem dX9_nameOf_47 : decode cX9_nameOf 47 = .ok (.ifCond .ne 5, 3) := by decide +kernel
theorem dX9_nameOf_50 : decode cX9_nameOf 50 = .ok (.iconst 1, 1) := by decide +kernel
theorem dX9_nameOf_51 : decode cX9_nameOf 51 = .ok (.ireturn, 1) := by decide +kernel
theorem dX9_nameOf_52 : decode cX9_nameOf 52 = .ok (.aload_n 0, 1) := by decide +kernel
theorem dX9_nameOf_53 : decode cX9_nameOf 53 = .ok (.getfield 113, 3) := by decide +kernel
theorem dX9_nameOf_56 : decode cX9_nameOf 56 = .ok (.bipush 110, 2) := by decide +kernel
theorem dX9_nameOf_58 : decode cX9_nameOf 58 = .ok (.bipush 117, 2) := by decide +kernel
theorem dX9_nameOf_60 : decode cX9_nameOf 60 = .ok (.bipush 109, 2) := by decide +kernel
theorem dX9_nameOf_62 : decode cX9_nameOf 62 = .ok (.bipush 98, 2) := by decide +kernel
theorem dX9_nameOf_64 : decode cX9_nameOf 64 = .ok (.bipush 101, 2) := by decide +kernel
theorem dX9_nameOf_66 : decode cX9_nameOf 66 = .ok (.bipush 114, 2) := by decide +kernel
theorem dX9_nameOf_68 : decode cX9_nameOf 68 = .ok (.invokestatic 144, 3) := by decide +kernel
theorem dX9_nameOf_71 : decode cX9_nameOf 71 = .ok (.lcmp, 1) := by decide +kernel
theorem dX9_nameOf_72 : decode cX9_nameOf 72 = .ok (.ifCond .ne 5, 3) := by decide +kernel
theorem dX9_nameOf_75 : decode cX9_nameOf 75 = .ok (.iconst 2, 1) := by decide +kernel
theorem dX9_nameOf_76 : decode cX9_nameOf 76 = .ok (.ireturn, 1) := by decide +kernel
theorem dX9_nameOf_77 : decode cX9_nameOf 77 = .ok (.aload_n 0, 1) := by decide +kernel
theorem dX9_nameOf_78 : decode cX9_nameOf 78 = .ok (.getfield 113, 3) := by decide +kernel
theorem dX9_nameOf_81 : decode cX9_nameOf 81 = .ok (.bipush 115, 2) := by decide +kernel
theorem dX9_nameOf_83 : decode cX9_nameOf 83 = .ok (.bipush 105, 2) := by decide +kernel
theorem dX9_nameOf_85 : decode cX9_nameOf 85 = .ok (.bipush 122, 2) := by decide +kernel
theorem dX9_nameOf_87 : decode cX9_nameOf 87 = .ok (.bipush 101, 2) := by decide +kernel
theorem dX9_nameOf_89 : decode cX9_nameOf 89 = .ok (.invokestatic 130, 3) := by decide +kernel
theorem dX9_nameOf_92 : decode cX9_nameOf 92 = .ok (.lcmp, 1) := by decide +kernel
theorem dX9_nameOf_93 : decode cX9_nameOf 93 = .ok (.ifCond .ne 5, 3) := by decide +kernel
theorem dX9_nameOf_96 : decode cX9_nameOf 96 = .ok (.iconst 3, 1) := by decide +kernel
theorem dX9_nameOf_97 : decode cX9_nameOf 97 = .ok (.ireturn, 1) := by decide +kernel
theorem dX9_nameOf_98 : decode cX9_nameOf 98 = .ok (.aload_n 0, 1) := by decide +kernel
theorem dX9_nameOf_99 : decode cX9_nameOf 99 = .ok (.getfield 113, 3) := by decide +kernel
theorem dX9_nameOf_102 : decode cX9_nameOf 102 = .ok (.bipush 111, 2) := by decide +kernel
theorem dX9_nameOf_104 : decode cX9_nameOf 104 = .ok (.bipush 105, 2) := by decide +kernel
theorem dX9_nameOf_106 : decode cX9_nameOf 106 = .ok (.bipush 108, 2) := by decide +kernel
theorem dX9_nameOf_108 : decode cX9_nameOf 108 = .ok (.invokestatic 126, 3) := by decide +kernel
theorem dX9_nameOf_111 : decode cX9_nameOf 111 = .ok (.lcmp, 1) := by decide +kernel
theorem dX9_nameOf_112 : decode cX9_nameOf 112 = .ok (.ifCond .ne 5, 3) := by decide +kernel
theorem dX9_nameOf_115 : decode cX9_nameOf 115 = .ok (.iconst 4, 1) := by decide +kernel
theorem dX9_nameOf_116 : decode cX9_nameOf 116 = .ok (.ireturn, 1) := by decide +kernel
theorem dX9_nameOf_117 : decode cX9_nameOf 117 = .ok (.aload_n 0, 1) := by decide +kernel
theorem dX9_nameOf_118 : decode cX9_nameOf 118 = .ok (.getfield 113, 3) := by decide +kernel
theorem dX9_nameOf_121 : decode cX9_nameOf 121 = .ok (.bipush 115, 2) := by decide +kernel
theorem dX9_nameOf_123 : decode cX9_nameOf 123 = .ok (.bipush 108, 2) := by decide +kernel
theorem dX9_nameOf_125 : decode cX9_nameOf 125 = .ok (.bipush 105, 2) := by decide +kernel
theorem dX9_nameOf_127 : decode cX9_nameOf 127 = .ok (.bipush 112, 2) := by decide +kernel
theorem dX9_nameOf_129 : decode cX9_nameOf 129 = .ok (.invokestatic 130, 3) := by decide +kernel
theorem dX9_nameOf_132 : decode cX9_nameOf 132 = .ok (.lcmp, 1) := by decide +kernel
theorem dX9_nameOf_133 : decode cX9_nameOf 133 = .ok (.ifCond .ne 5, 3) := by decide +kernel
theorem dX9_nameOf_136 : decode cX9_nameOf 136 = .ok (.iconst 5, 1) := by decide +kernel
theorem dX9_nameOf_137 : decode cX9_nameOf 137 = .ok (.ireturn, 1) := by decide +kernel
theorem dX9_nameOf_138 : decode cX9_nameOf 138 = .ok (.aload_n 0, 1) := by decide +kernel
theorem dX9_nameOf_139 : decode cX9_nameOf 139 = .ok (.getfield 113, 3) := by decide +kernel
theorem dX9_nameOf_142 : decode cX9_nameOf 142 = .ok (.bipush 119, 2) := by decide +kernel
theorem dX9_nameOf_144 : decode cX9_nameOf 144 = .ok (.bipush 114, 2) := by decide +kernel
theorem dX9_nameOf_146 : decode cX9_nameOf 146 = .ok (.bipush 111, 2) := by decide +kernel
theorem dX9_nameOf_148 : decode cX9_nameOf 148 = .ok (.bipush 110, 2) := by decide +kernel
theorem dX9_nameOf_150 : decode cX9_nameOf 150 = .ok (.bipush 103, 2) := by decide +kernel
theorem dX9_nameOf_152 : decode cX9_nameOf 152 = .ok (.invokestatic 134, 3) := by decide +kernel
theorem dX9_nameOf_155 : decode cX9_nameOf 155 = .ok (.lcmp, 1) := by decide +kernel
theorem dX9_nameOf_156 : decode cX9_nameOf 156 = .ok (.ifCond .ne 6, 3) := by decide +kernel
theorem dX9_nameOf_159 : decode cX9_nameOf 159 = .ok (.bipush 6, 2) := by decide +kernel
theorem dX9_nameOf_161 : decode cX9_nameOf 161 = .ok (.ireturn, 1) := by decide +kernel
theorem dX9_nameOf_162 : decode cX9_nameOf 162 = .ok (.aload_n 0, 1) := by decide +kernel
theorem dX9_nameOf_163 : decode cX9_nameOf 163 = .ok (.getfield 113, 3) := by decide +kernel
theorem dX9_nameOf_166 : decode cX9_nameOf 166 = .ok (.bipush 111, 2) := by decide +kernel
theorem dX9_nameOf_168 : decode cX9_nameOf 168 = .ok (.bipush 116, 2) := by decide +kernel
theorem dX9_nameOf_170 : decode cX9_nameOf 170 = .ok (.bipush 104, 2) := by decide +kernel
theorem dX9_nameOf_172 : decode cX9_nameOf 172 = .ok (.bipush 101, 2) := by decide +kernel
theorem dX9_nameOf_174 : decode cX9_nameOf 174 = .ok (.bipush 114, 2) := by decide +kernel
theorem dX9_nameOf_176 : decode cX9_nameOf 176 = .ok (.invokestatic 134, 3) := by decide +kernel
theorem dX9_nameOf_179 : decode cX9_nameOf 179 = .ok (.lcmp, 1) := by decide +kernel
theorem dX9_nameOf_180 : decode cX9_nameOf 180 = .ok (.ifCond .ne 6, 3) := by decide +kernel
theorem dX9_nameOf_183 : decode cX9_nameOf 183 = .ok (.bipush 7, 2) := by decide +kernel
theorem dX9_nameOf_185 : decode cX9_nameOf 185 = .ok (.ireturn, 1) := by decide +kernel
theorem dX9_nameOf_186 : decode cX9_nameOf 186 = .ok (.aload_n 0, 1) := by decide +kernel
theorem dX9_nameOf_187 : decode cX9_nameOf 187 = .ok (.invokevirtual 148, 3) := by decide +kernel
theorem dX9_nameOf_190 : decode cX9_nameOf 190 = .ok (.ifCond .eq 8, 3) := by decide +kernel
theorem dX9_nameOf_193 : decode cX9_nameOf 193 = .ok (.bipush 8, 2) := by decide +kernel
theorem dX9_nameOf_195 : decode cX9_nameOf 195 = .ok (.goto 26, 3) := by decide +kernel
theorem dX9_nameOf_198 : decode cX9_nameOf 198 = .ok (.aload_n 0, 1) := by decide +kernel
theorem dX9_nameOf_199 : decode cX9_nameOf 199 = .ok (.getfield 113, 3) := by decide +kernel
theorem dX9_nameOf_202 : decode cX9_nameOf 202 = .ok (.bipush 119, 2) := by decide +kernel
theorem dX9_nameOf_204 : decode cX9_nameOf 204 = .ok (.bipush 104, 2) := by decide +kernel
theorem dX9_nameOf_206 : decode cX9_nameOf 206 = .ok (.bipush 111, 2) := by decide +kernel
theorem dX9_nameOf_208 : decode cX9_nameOf 208 = .ok (.invokestatic 126, 3) := by decide +kernel
theorem dX9_nameOf_211 : decode cX9_nameOf 211 = .ok (.lcmp, 1) := by decide +kernel
theorem dX9_nameOf_212 : decode cX9_nameOf 212 = .ok (.ifCond .ne 8, 3) := by decide +kernel
theorem dX9_nameOf_215 : decode cX9_nameOf 215 = .ok (.bipush 9, 2) := by decide +kernel
theorem dX9_nameOf_217 : decode cX9_nameOf 217 = .ok (.goto 4, 3) := by decide +kernel
theorem dX9_nameOf_220 : decode cX9_nameOf 220 = .ok (.iconst (-1), 1) := by decide +kernel
theorem dX9_nameOf_221 : decode cX9_nameOf 221 = .ok (.ireturn, 1) := by decide +kernel
theorem dX9_isOf_0 : decode cX9_isOf 0 = .ok (.iload_n 1, 1) := by decide +kernel
theorem dX9_isOf_1 : decode cX9_isOf 1 = .ok (.bipush 7, 2) := by decide +kernel
theorem dX9_isOf_3 : decode cX9_isOf 3 = .ok (.if_icmp .lt 27, 3) := by decide +kernel
theorem dX9_isOf_6 : decode cX9_isOf 6 = .ok (.iload_n 1, 1) := by decide +kernel
theorem dX9_isOf_7 : decode cX9_isOf 7 = .ok (.bipush 9, 2) := by decide +kernel
theorem dX9_isOf_9 : decode cX9_isOf 9 = .ok (.if_icmp .ge 13, 3) := by decide +kernel
theorem dX9_isOf_12 : decode cX9_isOf 12 = .ok (.aload_n 0, 1) := by decide +kernel
theorem dX9_isOf_13 : decode cX9_isOf 13 = .ok (.getfield 152, 3) := by decide +kernel
theorem dX9_isOf_16 : decode cX9_isOf 16 = .ok (.ifCond .ne 18, 3) := by decide +kernel
theorem dX9_isOf_19 : decode cX9_isOf 19 = .ok (.goto 11, 3) := by decide +kernel
theorem dX9_isOf_22 : decode cX9_isOf 22 = .ok (.aload_n 0, 1) := by decide +kernel
theorem dX9_isOf_23 : decode cX9_isOf 23 = .ok (.getfield 152, 3) := by decide +kernel
theorem dX9_isOf_26 : decode cX9_isOf 26 = .ok (.iconst 1, 1) := by decide +kernel
theorem dX9_isOf_27 : decode cX9_isOf 27 = .ok (.if_icmp .ne 7, 3) := by decide +kernel
theorem dX9_isOf_30 : decode cX9_isOf 30 = .ok (.iconst 1, 1) := by decide +kernel
theorem dX9_isOf_31 : decode cX9_isOf 31 = .ok (.goto 4, 3) := by decide +kernel
theorem dX9_isOf_34 : decode cX9_isOf 34 = .ok (.iconst 0, 1) := by decide +kernel
theorem dX9_isOf_35 : decode cX9_isOf 35 = .ok (.ireturn, 1) := by decide +kernel
theorem dX9_bindOf_0 : decode cX9_bindOf 0 = .ok (.iload_n 0, 1) := by decide +kernel
theorem dX9_bindOf_1 : decode cX9_bindOf 1 = .ok (.bipush 40, 2) := by decide +kernel
theorem dX9_bindOf_3 : decode cX9_bindOf 3 = .ok (.if_icmp .lt 7, 3) := by decide +kernel
theorem dX9_bindOf_6 : decode cX9_bindOf 6 = .ok (.iconst 0, 1) := by decide +kernel
theorem dX9_bindOf_7 : decode cX9_bindOf 7 = .ok (.goto 75, 3) := by decide +kernel
theorem dX9_bindOf_10 : decode cX9_bindOf 10 = .ok (.iload_n 0, 1) := by decide +kernel
theorem dX9_bindOf_11 : decode cX9_bindOf 11 = .ok (.bipush 22, 2) := by decide +kernel
theorem dX9_bindOf_13 : decode cX9_bindOf 13 = .ok (.if_icmp .ne 7, 3) := by decide +kernel
theorem dX9_bindOf_16 : decode cX9_bindOf 16 = .ok (.iconst 1, 1) := by decide +kernel
theorem dX9_bindOf_17 : decode cX9_bindOf 17 = .ok (.goto 65, 3) := by decide +kernel
theorem dX9_bindOf_20 : decode cX9_bindOf 20 = .ok (.iload_n 0, 1) := by decide +kernel
theorem dX9_bindOf_21 : decode cX9_bindOf 21 = .ok (.bipush 21, 2) := by decide +kernel
theorem dX9_bindOf_23 : decode cX9_bindOf 23 = .ok (.if_icmp .ne 7, 3) := by decide +kernel
theorem dX9_bindOf_26 : decode cX9_bindOf 26 = .ok (.iconst 2, 1) := by decide +kernel
theorem dX9_bindOf_27 : decode cX9_bindOf 27 = .ok (.goto 55, 3) := by decide +kernel
theorem dX9_bindOf_30 : decode cX9_bindOf 30 = .ok (.iload_n 0, 1) := by decide +kernel
theorem dX9_bindOf_31 : decode cX9_bindOf 31 = .ok (.bipush 20, 2) := by decide +kernel
theorem dX9_bindOf_33 : decode cX9_bindOf 33 = .ok (.if_icmp .ne 7, 3) := by decide +kernel
theorem dX9_bindOf_36 : decode cX9_bindOf 36 = .ok (.iconst 3, 1) := by decide +kernel
theorem dX9_bindOf_37 : decode cX9_bindOf 37 = .ok (.goto 45, 3) := by decide +kernel
theorem dX9_bindOf_40 : decode cX9_bindOf 40 = .ok (.iload_n 0, 1) := by decide +kernel
theorem dX9_bindOf_41 : decode cX9_bindOf 41 = .ok (.bipush 10, 2) := by decide +kernel
theorem dX9_bindOf_43 : decode cX9_bindOf 43 = .ok (.if_icmp .lt 7, 3) := by decide +kernel
theorem dX9_bindOf_46 : decode cX9_bindOf 46 = .ok (.iconst 4, 1) := by decide +kernel
theorem dX9_bindOf_47 : decode cX9_bindOf 47 = .ok (.goto 35, 3) := by decide +kernel
theorem dX9_bindOf_50 : decode cX9_bindOf 50 = .ok (.iload_n 0, 1) := by decide +kernel
theorem dX9_bindOf_51 : decode cX9_bindOf 51 = .ok (.iconst 5, 1) := by decide +kernel
theorem dX9_bindOf_52 : decode cX9_bindOf 52 = .ok (.if_icmp .eq 13, 3) := by decide +kernel
theorem dX9_bindOf_55 : decode cX9_bindOf 55 = .ok (.iload_n 0, 1) := by decide +kernel
theorem dX9_bindOf_56 : decode cX9_bindOf 56 = .ok (.iconst 2, 1) := by decide +kernel
theorem dX9_bindOf_57 : decode cX9_bindOf 57 = .ok (.if_icmp .eq 8, 3) := by decide +kernel
theorem dX9_bindOf_60 : decode cX9_bindOf 60 = .ok (.iload_n 0, 1) := by decide +kernel
theorem dX9_bindOf_61 : decode cX9_bindOf 61 = .ok (.iconst 4, 1) := by decide +kernel
theorem dX9_bindOf_62 : decode cX9_bindOf 62 = .ok (.if_icmp .ne 8, 3) := by decide +kernel
theorem dX9_bindOf_65 : decode cX9_bindOf 65 = .ok (.bipush 7, 2) := by decide +kernel
theorem dX9_bindOf_67 : decode cX9_bindOf 67 = .ok (.goto 15, 3) := by decide +kernel
theorem dX9_bindOf_70 : decode cX9_bindOf 70 = .ok (.iload_n 0, 1) := by decide +kernel
theorem dX9_bindOf_71 : decode cX9_bindOf 71 = .ok (.bipush 8, 2) := by decide +kernel
theorem dX9_bindOf_73 : decode cX9_bindOf 73 = .ok (.if_icmp .lt 8, 3) := by decide +kernel
theorem dX9_bindOf_76 : decode cX9_bindOf 76 = .ok (.bipush 6, 2) := by decide +kernel
theorem dX9_bindOf_78 : decode cX9_bindOf 78 = .ok (.goto 4, 3) := by decide +kernel
theorem dX9_bindOf_81 : decode cX9_bindOf 81 = .ok (.iconst 5, 1) := by decide +kernel
theorem dX9_bindOf_82 : decode cX9_bindOf 82 = .ok (.ireturn, 1) := by decide +kernel
theorem dX9_settle_0 : decode cX9_settle 0 = .ok (.aload_n 0, 1) := by decide +kernel
theorem dX9_settle_1 : decode cX9_settle 1 = .ok (.getfield 155, 3) := by decide +kernel
theorem dX9_settle_4 : decode cX9_settle 4 = .ok (.ifCond .le 89, 3) := by decide +kernel
theorem dX9_settle_7 : decode cX9_settle 7 = .ok (.aload_n 0, 1) := by decide +kernel
theorem dX9_settle_8 : decode cX9_settle 8 = .ok (.getfield 29, 3) := by decide +kernel
theorem dX9_settle_11 : decode cX9_settle 11 = .ok (.aload_n 0, 1) := by decide +kernel
theorem dX9_settle_12 : decode cX9_settle 12 = .ok (.getfield 155, 3) := by decide +kernel
theorem dX9_settle_15 : decode cX9_settle 15 = .ok (.iconst 1, 1) := by decide +kernel
theorem dX9_settle_16 : decode cX9_settle 16 = .ok (.isub, 1) := by decide +kernel
theorem dX9_settle_17 : decode cX9_settle 17 = .ok (.iaload, 1) := by decide +kernel
theorem dX9_settle_18 : decode cX9_settle 18 = .ok (.invokestatic 158, 3) := by decide +kernel
theorem dX9_settle_21 : decode cX9_settle 21 = .ok (.iload_n 1, 1) := by decide +kernel
theorem dX9_settle_22 : decode cX9_settle 22 = .ok (.if_icmp .lt 71, 3) := by decide +kernel
theorem dX9_settle_25 : decode cX9_settle 25 = .ok (.aload_n 0, 1) := by decide +kernel
theorem dX9_settle_26 : decode cX9_settle 26 = .ok (.dup, 1) := by decide +kernel
theorem dX9_settle_27 : decode cX9_settle 27 = .ok (.getfield 155, 3) := by decide +kernel
theorem dX9_settle_30 : decode cX9_settle 30 = .ok (.iconst 1, 1) := by decide +kernel
theorem dX9_settle_31 : decode cX9_settle 31 = .ok (.isub, 1) := by decide +kernel
theorem dX9_settle_32 : decode cX9_settle 32 = .ok (.putfield 155, 3) := by decide +kernel
theorem dX9_settle_35 : decode cX9_settle 35 = .ok (.aload_n 0, 1) := by decide +kernel
theorem dX9_settle_36 : decode cX9_settle 36 = .ok (.aload_n 0, 1) := by decide +kernel
theorem dX9_settle_37 : decode cX9_settle 37 = .ok (.getfield 29, 3) := by decide +kernel
theorem dX9_settle_40 : decode cX9_settle 40 = .ok (.aload_n 0, 1) := by decide +kernel
theorem dX9_settle_41 : decode cX9_settle 41 = .ok (.getfield 155, 3) := by decide +kernel
theorem dX9_settle_44 : decode cX9_settle 44 = .ok (.iaload, 1) := by decide +kernel
theorem dX9_settle_45 : decode cX9_settle 45 = .ok (.iconst 0, 1) := by decide +kernel
theorem dX9_settle_46 : decode cX9_settle 46 = .ok (.invokevirtual 161, 3) := by decide +kernel
theorem dX9_settle_49 : decode cX9_settle 49 = .ok (.aload_n 0, 1) := by decide +kernel
theorem dX9_settle_50 : decode cX9_settle 50 = .ok (.getfield 29, 3) := by decide +kernel
theorem dX9_settle_53 : decode cX9_settle 53 = .ok (.aload_n 0, 1) := by decide +kernel
theorem dX9_settle_54 : decode cX9_settle 54 = .ok (.getfield 155, 3) := by decide +kernel
theorem dX9_settle_57 : decode cX9_settle 57 = .ok (.iaload, 1) := by decide +kernel
theorem dX9_settle_58 : decode cX9_settle 58 = .ok (.invokestatic 158, 3) := by decide +kernel
theorem dX9_settle_61 : decode cX9_settle 61 = .ok (.bipush 7, 2) := by decide +kernel
theorem dX9_settle_63 : decode cX9_settle 63 = .ok (.if_icmp .eq 17, 3) := by decide +kernel
theorem dX9_settle_66 : decode cX9_settle 66 = .ok (.aload_n 0, 1) := by decide +kernel
theorem dX9_settle_67 : decode cX9_settle 67 = .ok (.getfield 29, 3) := by decide +kernel
theorem dX9_settle_70 : decode cX9_settle 70 = .ok (.aload_n 0, 1) := by decide +kernel
theorem dX9_settle_71 : decode cX9_settle 71 = .ok (.getfield 155, 3) := by decide +kernel
theorem dX9_settle_74 : decode cX9_settle 74 = .ok (.iaload, 1) := by decide +kernel
theorem dX9_settle_75 : decode cX9_settle 75 = .ok (.bipush 20, 2) := by decide +kernel
theorem dX9_settle_77 : decode cX9_settle 77 = .ok (.if_icmp .ne (-77), 3) := by decide +kernel
theorem dX9_settle_80 : decode cX9_settle 80 = .ok (.aload_n 0, 1) := by decide +kernel
theorem dX9_settle_81 : decode cX9_settle 81 = .ok (.dup, 1) := by decide +kernel
theorem dX9_settle_82 : decode cX9_settle 82 = .ok (.getfield 165, 3) := by decide +kernel
theorem dX9_settle_85 : decode cX9_settle 85 = .ok (.iconst 1, 1) := by decide +kernel
theorem dX9_settle_86 : decode cX9_settle 86 = .ok (.isub, 1) := by decide +kernel
theorem dX9_settle_87 : decode cX9_settle 87 = .ok (.putfield 165, 3) := by decide +kernel
theorem dX9_settle_90 : decode cX9_settle 90 = .ok (.goto (-90), 3) := by decide +kernel
theorem dX9_settle_93 : decode cX9_settle 93 = .ok (.return_, 1) := by decide +kernel
theorem dX9_openAt_0 : decode cX9_openAt 0 = .ok (.aload_n 0, 1) := by decide +kernel
theorem dX9_openAt_1 : decode cX9_openAt 1 = .ok (.getfield 155, 3) := by decide +kernel
theorem dX9_openAt_4 : decode cX9_openAt 4 = .ok (.iconst 1, 1) := by decide +kernel
theorem dX9_openAt_5 : decode cX9_openAt 5 = .ok (.isub, 1) := by decide +kernel
theorem dX9_openAt_6 : decode cX9_openAt 6 = .ok (.istore_n 1, 1) := by decide +kernel
theorem dX9_openAt_7 : decode cX9_openAt 7 = .ok (.iload_n 1, 1) := by decide +kernel
theorem dX9_openAt_8 : decode cX9_openAt 8 = .ok (.ifCond .lt 20, 3) := by decide +kernel
theorem dX9_openAt_11 : decode cX9_openAt 11 = .ok (.aload_n 0, 1) := by decide +kernel
theorem dX9_openAt_12 : decode cX9_openAt 12 = .ok (.getfield 29, 3) := by decide +kernel
theorem dX9_openAt_15 : decode cX9_openAt 15 = .ok (.iload_n 1, 1) := by decide +kernel
theorem dX9_openAt_16 : decode cX9_openAt 16 = .ok (.iaload, 1) := by decide +kernel
theorem dX9_openAt_17 : decode cX9_openAt 17 = .ok (.bipush 40, 2) := by decide +kernel
theorem dX9_openAt_19 : decode cX9_openAt 19 = .ok (.if_icmp .ge 9, 3) := by decide +kernel
theorem dX9_openAt_22 : decode cX9_openAt 22 = .ok (.iinc 1 (-1), 3) := by decide +kernel
theorem dX9_openAt_25 : decode cX9_openAt 25 = .ok (.goto (-18), 3) := by decide +kernel
theorem dX9_openAt_28 : decode cX9_openAt 28 = .ok (.iload_n 1, 1) := by decide +kernel
theorem dX9_openAt_29 : decode cX9_openAt 29 = .ok (.ireturn, 1) := by decide +kernel
theorem dX9_openNow_0 : decode cX9_openNow 0 = .ok (.aload_n 0, 1) := by decide +kernel
theorem dX9_openNow_1 : decode cX9_openNow 1 = .ok (.invokevirtual 168, 3) := by decide +kernel
theorem dX9_openNow_4 : decode cX9_openNow 4 = .ok (.ifCond .ge 7, 3) := by decide +kernel
theorem dX9_openNow_7 : decode cX9_openNow 7 = .ok (.iconst (-1), 1) := by decide +kernel
theorem dX9_openNow_8 : decode cX9_openNow 8 = .ok (.goto 12, 3) := by decide +kernel
theorem dX9_openNow_11 : decode cX9_openNow 11 = .ok (.aload_n 0, 1) := by decide +kernel
theorem dX9_openNow_12 : decode cX9_openNow 12 = .ok (.getfield 29, 3) := by decide +kernel
theorem dX9_openNow_15 : decode cX9_openNow 15 = .ok (.aload_n 0, 1) := by decide +kernel
theorem dX9_openNow_16 : decode cX9_openNow 16 = .ok (.invokevirtual 168, 3) := by decide +kernel
theorem dX9_openNow_19 : decode cX9_openNow 19 = .ok (.iaload, 1) := by decide +kernel
theorem dX9_openNow_20 : decode cX9_openNow 20 = .ok (.ireturn, 1) := by decide +kernel
theorem dX9_isCompared_0 : decode cX9_isCompared 0 = .ok (.aload_n 0, 1) := by decide +kernel
theorem dX9_isCompared_1 : decode cX9_isCompared 1 = .ok (.getfield 155, 3) := by decide +kernel
theorem dX9_isCompared_4 : decode cX9_isCompared 4 = .ok (.iconst 1, 1) := by decide +kernel
theorem dX9_isCompared_5 : decode cX9_isCompared 5 = .ok (.isub, 1) := by decide +kernel
theorem dX9_isCompared_6 : decode cX9_isCompared 6 = .ok (.istore_n 1, 1) := by decide +kernel
theorem dX9_isCompared_7 : decode cX9_isCompared 7 = .ok (.iload_n 1, 1) := by decide +kernel
theorem dX9_isCompared_8 : decode cX9_isCompared 8 = .ok (.ifCond .lt 22, 3) := by decide +kernel
theorem dX9_isCompared_11 : decode cX9_isCompared 11 = .ok (.aload_n 0, 1) := by decide +kernel
theorem dX9_isCompared_12 : decode cX9_isCompared 12 = .ok (.getfield 29, 3) := by decide +kernel
theorem dX9_isCompared_15 : decode cX9_isCompared 15 = .ok (.iload_n 1, 1) := by decide +kernel
theorem dX9_isCompared_16 : decode cX9_isCompared 16 = .ok (.iaload, 1) := by decide +kernel
theorem dX9_isCompared_17 : decode cX9_isCompared 17 = .ok (.invokestatic 158, 3) := by decide +kernel
theorem dX9_isCompared_20 : decode cX9_isCompared 20 = .ok (.iconst 4, 1) := by decide +kernel
theorem dX9_isCompared_21 : decode cX9_isCompared 21 = .ok (.if_icmp .le 9, 3) := by decide +kernel
theorem dX9_isCompared_24 : decode cX9_isCompared 24 = .ok (.iinc 1 (-1), 3) := by decide +kernel
theorem dX9_isCompared_27 : decode cX9_isCompared 27 = .ok (.goto (-20), 3) := by decide +kernel
theorem dX9_isCompared_30 : decode cX9_isCompared 30 = .ok (.iload_n 1, 1) := by decide +kernel
theorem dX9_isCompared_31 : decode cX9_isCompared 31 = .ok (.ifCond .lt 20, 3) := by decide +kernel
theorem dX9_isCompared_34 : decode cX9_isCompared 34 = .ok (.aload_n 0, 1) := by decide +kernel
theorem dX9_isCompared_35 : decode cX9_isCompared 35 = .ok (.getfield 29, 3) := by decide +kernel
theorem dX9_isCompared_38 : decode cX9_isCompared 38 = .ok (.iload_n 1, 1) := by decide +kernel
theorem dX9_isCompared_39 : decode cX9_isCompared 39 = .ok (.iaload, 1) := by decide +kernel
theorem dX9_isCompared_40 : decode cX9_isCompared 40 = .ok (.invokestatic 158, 3) := by decide +kernel
theorem dX9_isCompared_43 : decode cX9_isCompared 43 = .ok (.iconst 4, 1) := by decide +kernel
theorem dX9_isCompared_44 : decode cX9_isCompared 44 = .ok (.if_icmp .ne 7, 3) := by decide +kernel
theorem dX9_isCompared_47 : decode cX9_isCompared 47 = .ok (.iconst 1, 1) := by decide +kernel
theorem dX9_isCompared_48 : decode cX9_isCompared 48 = .ok (.goto 4, 3) := by decide +kernel
theorem dX9_isCompared_51 : decode cX9_isCompared 51 = .ok (.iconst 0, 1) := by decide +kernel
theorem dX9_isCompared_52 : decode cX9_isCompared 52 = .ok (.ireturn, 1) := by decide +kernel
theorem dX9_isAskAhead_0 : decode cX9_isAskAhead 0 = .ok (.aload_n 0, 1) := by decide +kernel
theorem dX9_isAskAhead_1 : decode cX9_isAskAhead 1 = .ok (.invokevirtual 172, 3) := by decide +kernel
theorem dX9_isAskAhead_4 : decode cX9_isAskAhead 4 = .ok (.bipush 42, 2) := by decide +kernel
theorem dX9_isAskAhead_6 : decode cX9_isAskAhead 6 = .ok (.if_icmp .ne 45, 3) := by decide +kernel
theorem dX9_isAskAhead_9 : decode cX9_isAskAhead 9 = .ok (.aload_n 0, 1) := by decide +kernel
theorem dX9_isAskAhead_10 : decode cX9_isAskAhead 10 = .ok (.getfield 29, 3) := by decide +kernel
theorem dX9_isAskAhead_13 : decode cX9_isAskAhead 13 = .ok (.aload_n 0, 1) := by decide +kernel
theorem dX9_isAskAhead_14 : decode cX9_isAskAhead 14 = .ok (.getfield 155, 3) := by decide +kernel
theorem dX9_isAskAhead_17 : decode cX9_isAskAhead 17 = .ok (.iconst 1, 1) := by decide +kernel
theorem dX9_isAskAhead_18 : decode cX9_isAskAhead 18 = .ok (.isub, 1) := by decide +kernel
theorem dX9_isAskAhead_19 : decode cX9_isAskAhead 19 = .ok (.iaload, 1) := by decide +kernel
theorem dX9_isAskAhead_20 : decode cX9_isAskAhead 20 = .ok (.bipush 40, 2) := by decide +kernel
theorem dX9_isAskAhead_22 : decode cX9_isAskAhead 22 = .ok (.if_icmp .ge 25, 3) := by decide +kernel
theorem dX9_isAskAhead_25 : decode cX9_isAskAhead 25 = .ok (.aload_n 0, 1) := by decide +kernel
theorem dX9_isAskAhead_26 : decode cX9_isAskAhead 26 = .ok (.getfield 29, 3) := by decide +kernel
theorem dX9_isAskAhead_29 : decode cX9_isAskAhead 29 = .ok (.aload_n 0, 1) := by decide +kernel
theorem dX9_isAskAhead_30 : decode cX9_isAskAhead 30 = .ok (.getfield 155, 3) := by decide +kernel
theorem dX9_isAskAhead_33 : decode cX9_isAskAhead 33 = .ok (.iconst 1, 1) := by decide +kernel
theorem dX9_isAskAhead_34 : decode cX9_isAskAhead 34 = .ok (.isub, 1) := by decide +kernel
theorem dX9_isAskAhead_35 : decode cX9_isAskAhead 35 = .ok (.iaload, 1) := by decide +kernel
theorem dX9_isAskAhead_36 : decode cX9_isAskAhead 36 = .ok (.invokestatic 158, 3) := by decide +kernel
theorem dX9_isAskAhead_39 : decode cX9_isAskAhead 39 = .ok (.iconst 1, 1) := by decide +kernel
theorem dX9_isAskAhead_40 : decode cX9_isAskAhead 40 = .ok (.iconst 3, 1) := by decide +kernel
theorem dX9_isAskAhead_41 : decode cX9_isAskAhead 41 = .ok (.invokestatic 69, 3) := by decide +kernel
theorem dX9_isAskAhead_44 : decode cX9_isAskAhead 44 = .ok (.ifCond .eq 7, 3) := by decide +kernel
theorem dX9_isAskAhead_47 : decode cX9_isAskAhead 47 = .ok (.iconst 1, 1) := by decide +kernel
theorem dX9_isAskAhead_48 : decode cX9_isAskAhead 48 = .ok (.goto 4, 3) := by decide +kernel
theorem dX9_isAskAhead_51 : decode cX9_isAskAhead 51 = .ok (.iconst 0, 1) := by decide +kernel
theorem dX9_isAskAhead_52 : decode cX9_isAskAhead 52 = .ok (.ireturn, 1) := by decide +kernel
theorem dX9_opened_0 : decode cX9_opened 0 = .ok (.aload_n 0, 1) := by decide +kernel
theorem dX9_opened_1 : decode cX9_opened 1 = .ok (.getfield 165, 3) := by decide +kernel
theorem dX9_opened_4 : decode cX9_opened 4 = .ok (.bipush 8, 2) := by decide +kernel
theorem dX9_opened_6 : decode cX9_opened 6 = .ok (.if_icmp .ne 5, 3) := by decide +kernel
theorem dX9_opened_9 : decode cX9_opened 9 = .ok (.iconst 3, 1) := by decide +kernel
theorem dX9_opened_10 : decode cX9_opened 10 = .ok (.ireturn, 1) := by decide +kernel
theorem dX9_opened_11 : decode cX9_opened 11 = .ok (.aload_n 0, 1) := by decide +kernel
theorem dX9_opened_12 : decode cX9_opened 12 = .ok (.dup, 1) := by decide +kernel
theorem dX9_opened_13 : decode cX9_opened 13 = .ok (.getfield 165, 3) := by decide +kernel
theorem dX9_opened_16 : decode cX9_opened 16 = .ok (.iconst 1, 1) := by decide +kernel
theorem dX9_opened_17 : decode cX9_opened 17 = .ok (.iadd, 1) := by decide +kernel
theorem dX9_opened_18 : decode cX9_opened 18 = .ok (.putfield 165, 3) := by decide +kernel
theorem dX9_opened_21 : decode cX9_opened 21 = .ok (.aload_n 0, 1) := by decide +kernel
theorem dX9_opened_22 : decode cX9_opened 22 = .ok (.getfield 29, 3) := by decide +kernel
theorem dX9_opened_25 : decode cX9_opened 25 = .ok (.aload_n 0, 1) := by decide +kernel
theorem dX9_opened_26 : decode cX9_opened 26 = .ok (.getfield 155, 3) := by decide +kernel
theorem dX9_opened_29 : decode cX9_opened 29 = .ok (.iload_n 1, 1) := by decide +kernel
theorem dX9_opened_30 : decode cX9_opened 30 = .ok (.iastore, 1) := by decide +kernel
theorem dX9_opened_31 : decode cX9_opened 31 = .ok (.aload_n 0, 1) := by decide +kernel
theorem dX9_opened_32 : decode cX9_opened 32 = .ok (.dup, 1) := by decide +kernel
theorem dX9_opened_33 : decode cX9_opened 33 = .ok (.getfield 155, 3) := by decide +kernel
theorem dX9_opened_36 : decode cX9_opened 36 = .ok (.iconst 1, 1) := by decide +kernel
theorem dX9_opened_37 : decode cX9_opened 37 = .ok (.iadd, 1) := by decide +kernel
theorem dX9_opened_38 : decode cX9_opened 38 = .ok (.putfield 155, 3) := by decide +kernel
theorem dX9_opened_41 : decode cX9_opened 41 = .ok (.aload_n 0, 1) := by decide +kernel
theorem dX9_opened_42 : decode cX9_opened 42 = .ok (.invokevirtual 175, 3) := by decide +kernel
theorem dX9_opened_45 : decode cX9_opened 45 = .ok (.iconst 0, 1) := by decide +kernel
theorem dX9_opened_46 : decode cX9_opened 46 = .ok (.ireturn, 1) := by decide +kernel
theorem dX9_beginOne_0 : decode cX9_beginOne 0 = .ok (.aload_n 0, 1) := by decide +kernel
theorem dX9_beginOne_1 : decode cX9_beginOne 1 = .ok (.getfield 100, 3) := by decide +kernel
theorem dX9_beginOne_4 : decode cX9_beginOne 4 = .ok (.iconst 1, 1) := by decide +kernel
theorem dX9_beginOne_5 : decode cX9_beginOne 5 = .ok (.if_icmp .ne 15, 3) := by decide +kernel
theorem dX9_beginOne_8 : decode cX9_beginOne 8 = .ok (.aload_n 0, 1) := by decide +kernel
theorem dX9_beginOne_9 : decode cX9_beginOne 9 = .ok (.getfield 106, 3) := by decide +kernel
theorem dX9_beginOne_12 : decode cX9_beginOne 12 = .ok (.sipush 9999, 3) := by decide +kernel
theorem dX9_beginOne_15 : decode cX9_beginOne 15 = .ok (.if_icmp .le 5, 3) := by decide +kernel
theorem dX9_beginOne_18 : decode cX9_beginOne 18 = .ok (.iconst 2, 1) := by decide +kernel
theorem dX9_beginOne_19 : decode cX9_beginOne 19 = .ok (.ireturn, 1) := by decide +kernel
theorem dX9_beginOne_20 : decode cX9_beginOne 20 = .ok (.aload_n 0, 1) := by decide +kernel
theorem dX9_beginOne_21 : decode cX9_beginOne 21 = .ok (.invokevirtual 178, 3) := by decide +kernel
theorem dX9_beginOne_24 : decode cX9_beginOne 24 = .ok (.istore_n 1, 1) := by decide +kernel
theorem dX9_beginOne_25 : decode cX9_beginOne 25 = .ok (.iload_n 1, 1) := by decide +kernel
theorem dX9_beginOne_26 : decode cX9_beginOne 26 = .ok (.ifCond .lt 13, 3) := by decide +kernel
theorem dX9_beginOne_29 : decode cX9_beginOne 29 = .ok (.aload_n 0, 1) := by decide +kernel
theorem dX9_beginOne_30 : decode cX9_beginOne 30 = .ok (.iload_n 1, 1) := by decide +kernel
theorem dX9_beginOne_31 : decode cX9_beginOne 31 = .ok (.invokevirtual 181, 3) := by decide +kernel
theorem dX9_beginOne_34 : decode cX9_beginOne 34 = .ok (.ifCond .ne 5, 3) := by decide +kernel
theorem dX9_beginOne_37 : decode cX9_beginOne 37 = .ok (.iconst 5, 1) := by decide +kernel
theorem dX9_beginOne_38 : decode cX9_beginOne 38 = .ok (.ireturn, 1) := by decide +kernel
theorem dX9_beginOne_39 : decode cX9_beginOne 39 = .ok (.aload_n 0, 1) := by decide +kernel
theorem dX9_beginOne_40 : decode cX9_beginOne 40 = .ok (.getfield 100, 3) := by decide +kernel
theorem dX9_beginOne_43 : decode cX9_beginOne 43 = .ok (.iconst 1, 1) := by decide +kernel
theorem dX9_beginOne_44 : decode cX9_beginOne 44 = .ok (.if_icmp .eq 7, 3) := by decide +kernel
theorem dX9_beginOne_47 : decode cX9_beginOne 47 = .ok (.iload_n 1, 1) := by decide +kernel
theorem dX9_beginOne_48 : decode cX9_beginOne 48 = .ok (.ifCond .lt 45, 3) := by decide +kernel
theorem dX9_beginOne_51 : decode cX9_beginOne 51 = .ok (.aload_n 0, 1) := by decide +kernel
theorem dX9_beginOne_52 : decode cX9_beginOne 52 = .ok (.aload_n 0, 1) := by decide +kernel
theorem dX9_beginOne_53 : decode cX9_beginOne 53 = .ok (.getfield 100, 3) := by decide +kernel
theorem dX9_beginOne_56 : decode cX9_beginOne 56 = .ok (.iconst 1, 1) := by decide +kernel
theorem dX9_beginOne_57 : decode cX9_beginOne 57 = .ok (.if_icmp .ne 7, 3) := by decide +kernel
theorem dX9_beginOne_60 : decode cX9_beginOne 60 = .ok (.iconst 0, 1) := by decide +kernel
theorem dX9_beginOne_61 : decode cX9_beginOne 61 = .ok (.goto 4, 3) := by decide +kernel
theorem dX9_beginOne_64 : decode cX9_beginOne 64 = .ok (.iconst 1, 1) := by decide +kernel
theorem dX9_beginOne_65 : decode cX9_beginOne 65 = .ok (.aload_n 0, 1) := by decide +kernel
theorem dX9_beginOne_66 : decode cX9_beginOne 66 = .ok (.getfield 100, 3) := by decide +kernel
theorem dX9_beginOne_69 : decode cX9_beginOne 69 = .ok (.iconst 1, 1) := by decide +kernel
theorem dX9_beginOne_70 : decode cX9_beginOne 70 = .ok (.if_icmp .ne 10, 3) := by decide +kernel
theorem dX9_beginOne_73 : decode cX9_beginOne 73 = .ok (.aload_n 0, 1) := by decide +kernel
theorem dX9_beginOne_74 : decode cX9_beginOne 74 = .ok (.getfield 106, 3) := by decide +kernel
theorem dX9_beginOne_77 : decode cX9_beginOne 77 = .ok (.goto 4, 3) := by decide +kernel
theorem dX9_beginOne_80 : decode cX9_beginOne 80 = .ok (.iload_n 1, 1) := by decide +kernel
theorem dX9_beginOne_81 : decode cX9_beginOne 81 = .ok (.invokevirtual 161, 3) := by decide +kernel
theorem dX9_beginOne_84 : decode cX9_beginOne 84 = .ok (.aload_n 0, 1) := by decide +kernel
theorem dX9_beginOne_85 : decode cX9_beginOne 85 = .ok (.invokevirtual 175, 3) := by decide +kernel
theorem dX9_beginOne_88 : decode cX9_beginOne 88 = .ok (.aload_n 0, 1) := by decide +kernel
theorem dX9_beginOne_89 : decode cX9_beginOne 89 = .ok (.invokevirtual 184, 3) := by decide +kernel
theorem dX9_beginOne_92 : decode cX9_beginOne 92 = .ok (.ireturn, 1) := by decide +kernel
theorem dX9_beginOne_93 : decode cX9_beginOne 93 = .ok (.aload_n 0, 1) := by decide +kernel
theorem dX9_beginOne_94 : decode cX9_beginOne 94 = .ok (.getfield 100, 3) := by decide +kernel
theorem dX9_beginOne_97 : decode cX9_beginOne 97 = .ok (.bipush 40, 2) := by decide +kernel
theorem dX9_beginOne_99 : decode cX9_beginOne 99 = .ok (.if_icmp .ne 10, 3) := by decide +kernel
theorem dX9_beginOne_102 : decode cX9_beginOne 102 = .ok (.aload_n 0, 1) := by decide +kernel
theorem dX9_beginOne_103 : decode cX9_beginOne 103 = .ok (.bipush 40, 2) := by decide +kernel
theorem dX9_beginOne_105 : decode cX9_beginOne 105 = .ok (.invokevirtual 187, 3) := by decide +kernel
theorem dX9_beginOne_108 : decode cX9_beginOne 108 = .ok (.ireturn, 1) := by decide +kernel
theorem dX9_beginOne_109 : decode cX9_beginOne 109 = .ok (.aload_n 0, 1) := by decide +kernel
theorem dX9_beginOne_110 : decode cX9_beginOne 110 = .ok (.getfield 100, 3) := by decide +kernel
theorem dX9_beginOne_113 : decode cX9_beginOne 113 = .ok (.bipush 45, 2) := by decide +kernel
theorem dX9_beginOne_115 : decode cX9_beginOne 115 = .ok (.if_icmp .ne 9, 3) := by decide +kernel
theorem dX9_beginOne_118 : decode cX9_beginOne 118 = .ok (.aload_n 0, 1) := by decide +kernel
theorem dX9_beginOne_119 : decode cX9_beginOne 119 = .ok (.iconst 5, 1) := by decide +kernel
theorem dX9_beginOne_120 : decode cX9_beginOne 120 = .ok (.invokevirtual 187, 3) := by decide +kernel
theorem dX9_beginOne_123 : decode cX9_beginOne 123 = .ok (.ireturn, 1) := by decide +kernel
theorem dX9_beginOne_124 : decode cX9_beginOne 124 = .ok (.aload_n 0, 1) := by decide +kernel
theorem dX9_beginOne_125 : decode cX9_beginOne 125 = .ok (.bipush 97, 2) := by decide +kernel
theorem dX9_beginOne_127 : decode cX9_beginOne 127 = .ok (.bipush 114, 2) := by decide +kernel
theorem dX9_beginOne_129 : decode cX9_beginOne 129 = .ok (.bipush 111, 2) := by decide +kernel
theorem dX9_beginOne_131 : decode cX9_beginOne 131 = .ok (.bipush 117, 2) := by decide +kernel
theorem dX9_beginOne_133 : decode cX9_beginOne 133 = .ok (.bipush 110, 2) := by decide +kernel
theorem dX9_beginOne_135 : decode cX9_beginOne 135 = .ok (.bipush 100, 2) := by decide +kernel
theorem dX9_beginOne_137 : decode cX9_beginOne 137 = .ok (.invokestatic 144, 3) := by decide +kernel
theorem dX9_beginOne_140 : decode cX9_beginOne 140 = .ok (.invokevirtual 190, 3) := by decide +kernel
theorem dX9_beginOne_143 : decode cX9_beginOne 143 = .ok (.ifCond .eq 10, 3) := by decide +kernel
theorem dX9_beginOne_146 : decode cX9_beginOne 146 = .ok (.aload_n 0, 1) := by decide +kernel
theorem dX9_beginOne_147 : decode cX9_beginOne 147 = .ok (.bipush 41, 2) := by decide +kernel
theorem dX9_beginOne_149 : decode cX9_beginOne 149 = .ok (.invokevirtual 187, 3) := by decide +kernel
theorem dX9_beginOne_152 : decode cX9_beginOne 152 = .ok (.ireturn, 1) := by decide +kernel
theorem dX9_beginOne_153 : decode cX9_beginOne 153 = .ok (.aload_n 0, 1) := by decide +kernel
theorem dX9_beginOne_154 : decode cX9_beginOne 154 = .ok (.bipush 108, 2) := by decide +kernel
theorem dX9_beginOne_156 : decode cX9_beginOne 156 = .ok (.bipush 97, 2) := by decide +kernel
theorem dX9_beginOne_158 : decode cX9_beginOne 158 = .ok (.bipush 109, 2) := by decide +kernel
theorem dX9_beginOne_160 : decode cX9_beginOne 160 = .ok (.bipush 112, 2) := by decide +kernel
theorem dX9_beginOne_162 : decode cX9_beginOne 162 = .ok (.invokestatic 130, 3) := by decide +kernel
theorem dX9_beginOne_165 : decode cX9_beginOne 165 = .ok (.invokevirtual 190, 3) := by decide +kernel
theorem dX9_beginOne_168 : decode cX9_beginOne 168 = .ok (.ifCond .eq 9, 3) := by decide +kernel
theorem dX9_beginOne_171 : decode cX9_beginOne 171 = .ok (.aload_n 0, 1) := by decide +kernel
theorem dX9_beginOne_172 : decode cX9_beginOne 172 = .ok (.iconst 2, 1) := by decide +kernel
theorem dX9_beginOne_173 : decode cX9_beginOne 173 = .ok (.invokevirtual 187, 3) := by decide +kernel
theorem dX9_beginOne_176 : decode cX9_beginOne 176 = .ok (.ireturn, 1) := by decide +kernel
theorem dX9_beginOne_177 : decode cX9_beginOne 177 = .ok (.aload_n 0, 1) := by decide +kernel
theorem dX9_beginOne_178 : decode cX9_beginOne 178 = .ok (.bipush 105, 2) := by decide +kernel
theorem dX9_beginOne_180 : decode cX9_beginOne 180 = .ok (.bipush 102, 2) := by decide +kernel
theorem dX9_beginOne_182 : decode cX9_beginOne 182 = .ok (.invokestatic 122, 3) := by decide +kernel
theorem dX9_beginOne_185 : decode cX9_beginOne 185 = .ok (.invokevirtual 190, 3) := by decide +kernel
theorem dX9_beginOne_188 : decode cX9_beginOne 188 = .ok (.ifCond .eq 10, 3) := by decide +kernel
theorem dX9_beginOne_191 : decode cX9_beginOne 191 = .ok (.aload_n 0, 1) := by decide +kernel
theorem dX9_beginOne_192 : decode cX9_beginOne 192 = .ok (.bipush 42, 2) := by decide +kernel
theorem dX9_beginOne_194 : decode cX9_beginOne 194 = .ok (.invokevirtual 187, 3) := by decide +kernel
theorem dX9_beginOne_197 : decode cX9_beginOne 197 = .ok (.ireturn, 1) := by decide +kernel
theorem dX9_beginOne_198 : decode cX9_beginOne 198 = .ok (.aload_n 0, 1) := by decide +kernel
theorem dX9_beginOne_199 : decode cX9_beginOne 199 = .ok (.bipush 110, 2) := by decide +kernel
theorem dX9_beginOne_201 : decode cX9_beginOne 201 = .ok (.bipush 111, 2) := by decide +kernel
theorem dX9_beginOne_203 : decode cX9_beginOne 203 = .ok (.bipush 116, 2) := by decide +kernel
theorem dX9_beginOne_205 : decode cX9_beginOne 205 = .ok (.invokestatic 126, 3) := by decide +kernel
theorem dX9_beginOne_208 : decode cX9_beginOne 208 = .ok (.invokevirtual 190, 3) := by decide +kernel
theorem dX9_beginOne_211 : decode cX9_beginOne 211 = .ok (.ifCond .eq 19, 3) := by decide +kernel
theorem dX9_beginOne_214 : decode cX9_beginOne 214 = .ok (.aload_n 0, 1) := by decide +kernel
theorem dX9_beginOne_215 : decode cX9_beginOne 215 = .ok (.invokevirtual 194, 3) := by decide +kernel
theorem dX9_beginOne_218 : decode cX9_beginOne 218 = .ok (.ifCond .eq 12, 3) := by decide +kernel
theorem dX9_beginOne_221 : decode cX9_beginOne 221 = .ok (.aload_n 0, 1) := by decide +kernel
theorem dX9_beginOne_222 : decode cX9_beginOne 222 = .ok (.bipush 20, 2) := by decide +kernel
theorem dX9_beginOne_224 : decode cX9_beginOne 224 = .ok (.invokevirtual 187, 3) := by decide +kernel
theorem dX9_beginOne_227 : decode cX9_beginOne 227 = .ok (.goto 4, 3) := by decide +kernel
theorem dX9_beginOne_230 : decode cX9_beginOne 230 = .ok (.iconst 1, 1) := by decide +kernel
theorem dX9_beginOne_231 : decode cX9_beginOne 231 = .ok (.ireturn, 1) := by decide +kernel
theorem dX9_endOne_0 : decode cX9_endOne 0 = .ok (.aload_n 0, 1) := by decide +kernel
theorem dX9_endOne_1 : decode cX9_endOne 1 = .ok (.bipush 7, 2) := by decide +kernel
theorem dX9_endOne_3 : decode cX9_endOne 3 = .ok (.invokevirtual 197, 3) := by decide +kernel
theorem dX9_endOne_6 : decode cX9_endOne 6 = .ok (.aload_n 0, 1) := by decide +kernel
theorem dX9_endOne_7 : decode cX9_endOne 7 = .ok (.iconst 1, 1) := by decide +kernel
theorem dX9_endOne_8 : decode cX9_endOne 8 = .ok (.putfield 200, 3) := by decide +kernel
theorem dX9_endOne_11 : decode cX9_endOne 11 = .ok (.aload_n 0, 1) := by decide +kernel
theorem dX9_endOne_12 : decode cX9_endOne 12 = .ok (.getfield 155, 3) := by decide +kernel
theorem dX9_endOne_15 : decode cX9_endOne 15 = .ok (.ifCond .eq 19, 3) := by decide +kernel
theorem dX9_endOne_18 : decode cX9_endOne 18 = .ok (.aload_n 0, 1) := by decide +kernel
theorem dX9_endOne_19 : decode cX9_endOne 19 = .ok (.getfield 29, 3) := by decide +kernel
theorem dX9_endOne_22 : decode cX9_endOne 22 = .ok (.aload_n 0, 1) := by decide +kernel
theorem dX9_endOne_23 : decode cX9_endOne 23 = .ok (.getfield 155, 3) := by decide +kernel
theorem dX9_endOne_26 : decode cX9_endOne 26 = .ok (.iconst 1, 1) := by decide +kernel
theorem dX9_endOne_27 : decode cX9_endOne 27 = .ok (.isub, 1) := by decide +kernel
theorem dX9_endOne_28 : decode cX9_endOne 28 = .ok (.iaload, 1) := by decide +kernel
theorem dX9_endOne_29 : decode cX9_endOne 29 = .ok (.bipush 41, 2) := by decide +kernel
theorem dX9_endOne_31 : decode cX9_endOne 31 = .ok (.if_icmp .eq 5, 3) := by decide +kernel
theorem dX9_endOne_34 : decode cX9_endOne 34 = .ok (.iconst 0, 1) := by decide +kernel
theorem dX9_endOne_35 : decode cX9_endOne 35 = .ok (.ireturn, 1) := by decide +kernel
theorem dX9_endOne_36 : decode cX9_endOne 36 = .ok (.aload_n 0, 1) := by decide +kernel
theorem dX9_endOne_37 : decode cX9_endOne 37 = .ok (.bipush 111, 2) := by decide +kernel
theorem dX9_endOne_39 : decode cX9_endOne 39 = .ok (.bipush 102, 2) := by decide +kernel
theorem dX9_endOne_41 : decode cX9_endOne 41 = .ok (.invokestatic 122, 3) := by decide +kernel
theorem dX9_endOne_44 : decode cX9_endOne 44 = .ok (.invokevirtual 190, 3) := by decide +kernel
theorem dX9_endOne_47 : decode cX9_endOne 47 = .ok (.ifCond .ne 5, 3) := by decide +kernel
theorem dX9_endOne_50 : decode cX9_endOne 50 = .ok (.iconst 1, 1) := by decide +kernel
theorem dX9_endOne_51 : decode cX9_endOne 51 = .ok (.ireturn, 1) := by decide +kernel
theorem dX9_endOne_52 : decode cX9_endOne 52 = .ok (.aload_n 0, 1) := by decide +kernel
theorem dX9_endOne_53 : decode cX9_endOne 53 = .ok (.invokevirtual 175, 3) := by decide +kernel
theorem dX9_endOne_56 : decode cX9_endOne 56 = .ok (.aload_n 0, 1) := by decide +kernel
theorem dX9_endOne_57 : decode cX9_endOne 57 = .ok (.getfield 29, 3) := by decide +kernel
theorem dX9_endOne_60 : decode cX9_endOne 60 = .ok (.aload_n 0, 1) := by decide +kernel
theorem dX9_endOne_61 : decode cX9_endOne 61 = .ok (.getfield 155, 3) := by decide +kernel
theorem dX9_endOne_64 : decode cX9_endOne 64 = .ok (.iconst 1, 1) := by decide +kernel
theorem dX9_endOne_65 : decode cX9_endOne 65 = .ok (.isub, 1) := by decide +kernel
theorem dX9_endOne_66 : decode cX9_endOne 66 = .ok (.iconst 4, 1) := by decide +kernel
theorem dX9_endOne_67 : decode cX9_endOne 67 = .ok (.iastore, 1) := by decide +kernel
theorem dX9_endOne_68 : decode cX9_endOne 68 = .ok (.aload_n 0, 1) := by decide +kernel
theorem dX9_endOne_69 : decode cX9_endOne 69 = .ok (.iconst 0, 1) := by decide +kernel
theorem dX9_endOne_70 : decode cX9_endOne 70 = .ok (.putfield 200, 3) := by decide +kernel
theorem dX9_endOne_73 : decode cX9_endOne 73 = .ok (.iconst 0, 1) := by decide +kernel
theorem dX9_endOne_74 : decode cX9_endOne 74 = .ok (.ireturn, 1) := by decide +kernel
theorem dX9_compareOf_0 : decode cX9_compareOf 0 = .ok (.aload_n 0, 1) := by decide +kernel
theorem dX9_compareOf_1 : decode cX9_compareOf 1 = .ok (.getfield 100, 3) := by decide +kernel
theorem dX9_compareOf_4 : decode cX9_compareOf 4 = .ok (.bipush 60, 2) := by decide +kernel
theorem dX9_compareOf_6 : decode cX9_compareOf 6 = .ok (.if_icmp .ne 8, 3) := by decide +kernel
theorem dX9_compareOf_9 : decode cX9_compareOf 9 = .ok (.bipush 10, 2) := by decide +kernel
theorem dX9_compareOf_11 : decode cX9_compareOf 11 = .ok (.goto 72, 3) := by decide +kernel
theorem dX9_compareOf_14 : decode cX9_compareOf 14 = .ok (.aload_n 0, 1) := by decide +kernel
theorem dX9_compareOf_15 : decode cX9_compareOf 15 = .ok (.getfield 100, 3) := by decide +kernel
theorem dX9_compareOf_18 : decode cX9_compareOf 18 = .ok (.iconst 4, 1) := by decide +kernel
theorem dX9_compareOf_19 : decode cX9_compareOf 19 = .ok (.if_icmp .ne 8, 3) := by decide +kernel
theorem dX9_compareOf_22 : decode cX9_compareOf 22 = .ok (.bipush 11, 2) := by decide +kernel
theorem dX9_compareOf_24 : decode cX9_compareOf 24 = .ok (.goto 59, 3) := by decide +kernel
theorem dX9_compareOf_27 : decode cX9_compareOf 27 = .ok (.aload_n 0, 1) := by decide +kernel
theorem dX9_compareOf_28 : decode cX9_compareOf 28 = .ok (.getfield 100, 3) := by decide +kernel
theorem dX9_compareOf_31 : decode cX9_compareOf 31 = .ok (.bipush 62, 2) := by decide +kernel
theorem dX9_compareOf_33 : decode cX9_compareOf 33 = .ok (.if_icmp .ne 8, 3) := by decide +kernel
theorem dX9_compareOf_36 : decode cX9_compareOf 36 = .ok (.bipush 12, 2) := by decide +kernel
theorem dX9_compareOf_38 : decode cX9_compareOf 38 = .ok (.goto 45, 3) := by decide +kernel
theorem dX9_compareOf_41 : decode cX9_compareOf 41 = .ok (.aload_n 0, 1) := by decide +kernel
theorem dX9_compareOf_42 : decode cX9_compareOf 42 = .ok (.getfield 100, 3) := by decide +kernel
theorem dX9_compareOf_45 : decode cX9_compareOf 45 = .ok (.iconst 5, 1) := by decide +kernel
theorem dX9_compareOf_46 : decode cX9_compareOf 46 = .ok (.if_icmp .ne 8, 3) := by decide +kernel
theorem dX9_compareOf_49 : decode cX9_compareOf 49 = .ok (.bipush 13, 2) := by decide +kernel
theorem dX9_compareOf_51 : decode cX9_compareOf 51 = .ok (.goto 32, 3) := by decide +kernel
theorem dX9_compareOf_54 : decode cX9_compareOf 54 = .ok (.aload_n 0, 1) := by decide +kernel
theorem dX9_compareOf_55 : decode cX9_compareOf 55 = .ok (.getfield 100, 3) := by decide +kernel
theorem dX9_compareOf_58 : decode cX9_compareOf 58 = .ok (.bipush 61, 2) := by decide +kernel
theorem dX9_compareOf_60 : decode cX9_compareOf 60 = .ok (.if_icmp .ne 8, 3) := by decide +kernel
theorem dX9_compareOf_63 : decode cX9_compareOf 63 = .ok (.bipush 14, 2) := by decide +kernel
theorem dX9_compareOf_65 : decode cX9_compareOf 65 = .ok (.goto 18, 3) := by decide +kernel
theorem dX9_compareOf_68 : decode cX9_compareOf 68 = .ok (.aload_n 0, 1) := by decide +kernel
theorem dX9_compareOf_69 : decode cX9_compareOf 69 = .ok (.getfield 100, 3) := by decide +kernel
theorem dX9_compareOf_72 : decode cX9_compareOf 72 = .ok (.bipush 35, 2) := by decide +kernel
theorem dX9_compareOf_74 : decode cX9_compareOf 74 = .ok (.if_icmp .ne 8, 3) := by decide +kernel
theorem dX9_compareOf_77 : decode cX9_compareOf 77 = .ok (.bipush 15, 2) := by decide +kernel
theorem dX9_compareOf_79 : decode cX9_compareOf 79 = .ok (.goto 4, 3) := by decide +kernel
theorem dX9_compareOf_82 : decode cX9_compareOf 82 = .ok (.iconst (-1), 1) := by decide +kernel
theorem dX9_compareOf_83 : decode cX9_compareOf 83 = .ok (.ireturn, 1) := by decide +kernel
theorem dX9_betweenOf_0 : decode cX9_betweenOf 0 = .ok (.aload_n 0, 1) := by decide +kernel
theorem dX9_betweenOf_1 : decode cX9_betweenOf 1 = .ok (.getfield 100, 3) := by decide +kernel
theorem dX9_betweenOf_4 : decode cX9_betweenOf 4 = .ok (.bipush 43, 2) := by decide +kernel
theorem dX9_betweenOf_6 : decode cX9_betweenOf 6 = .ok (.if_icmp .ne 6, 3) := by decide +kernel
theorem dX9_betweenOf_9 : decode cX9_betweenOf 9 = .ok (.bipush 6, 2) := by decide +kernel
theorem dX9_betweenOf_11 : decode cX9_betweenOf 11 = .ok (.ireturn, 1) := by decide +kernel
theorem dX9_betweenOf_12 : decode cX9_betweenOf 12 = .ok (.aload_n 0, 1) := by decide +kernel
theorem dX9_betweenOf_13 : decode cX9_betweenOf 13 = .ok (.getfield 100, 3) := by decide +kernel
theorem dX9_betweenOf_16 : decode cX9_betweenOf 16 = .ok (.bipush 45, 2) := by decide +kernel
theorem dX9_betweenOf_18 : decode cX9_betweenOf 18 = .ok (.if_icmp .ne 6, 3) := by decide +kernel
theorem dX9_betweenOf_21 : decode cX9_betweenOf 21 = .ok (.bipush 7, 2) := by decide +kernel
theorem dX9_betweenOf_23 : decode cX9_betweenOf 23 = .ok (.ireturn, 1) := by decide +kernel
theorem dX9_betweenOf_24 : decode cX9_betweenOf 24 = .ok (.aload_n 0, 1) := by decide +kernel
theorem dX9_betweenOf_25 : decode cX9_betweenOf 25 = .ok (.getfield 100, 3) := by decide +kernel
theorem dX9_betweenOf_28 : decode cX9_betweenOf 28 = .ok (.bipush 42, 2) := by decide +kernel
theorem dX9_betweenOf_30 : decode cX9_betweenOf 30 = .ok (.if_icmp .ne 6, 3) := by decide +kernel
theorem dX9_betweenOf_33 : decode cX9_betweenOf 33 = .ok (.bipush 8, 2) := by decide +kernel
theorem dX9_betweenOf_35 : decode cX9_betweenOf 35 = .ok (.ireturn, 1) := by decide +kernel
theorem dX9_betweenOf_36 : decode cX9_betweenOf 36 = .ok (.aload_n 0, 1) := by decide +kernel
theorem dX9_betweenOf_37 : decode cX9_betweenOf 37 = .ok (.getfield 100, 3) := by decide +kernel
theorem dX9_betweenOf_40 : decode cX9_betweenOf 40 = .ok (.bipush 47, 2) := by decide +kernel
theorem dX9_betweenOf_42 : decode cX9_betweenOf 42 = .ok (.if_icmp .ne 6, 3) := by decide +kernel
theorem dX9_betweenOf_45 : decode cX9_betweenOf 45 = .ok (.bipush 9, 2) := by decide +kernel
theorem dX9_betweenOf_47 : decode cX9_betweenOf 47 = .ok (.ireturn, 1) := by decide +kernel
theorem dX9_betweenOf_48 : decode cX9_betweenOf 48 = .ok (.aload_n 0, 1) := by decide +kernel
theorem dX9_betweenOf_49 : decode cX9_betweenOf 49 = .ok (.invokevirtual 172, 3) := by decide +kernel
theorem dX9_betweenOf_52 : decode cX9_betweenOf 52 = .ok (.bipush 42, 2) := by decide +kernel
theorem dX9_betweenOf_54 : decode cX9_betweenOf 54 = .ok (.if_icmp .eq 5, 3) := by decide +kernel
theorem dX9_betweenOf_57 : decode cX9_betweenOf 57 = .ok (.iconst (-1), 1) := by decide +kernel
theorem dX9_betweenOf_58 : decode cX9_betweenOf 58 = .ok (.ireturn, 1) := by decide +kernel
theorem dX9_betweenOf_59 : decode cX9_betweenOf 59 = .ok (.aload_n 0, 1) := by decide +kernel
theorem dX9_betweenOf_60 : decode cX9_betweenOf 60 = .ok (.invokevirtual 203, 3) := by decide +kernel
theorem dX9_betweenOf_63 : decode cX9_betweenOf 63 = .ok (.ifCond .ne 8, 3) := by decide +kernel
theorem dX9_betweenOf_66 : decode cX9_betweenOf 66 = .ok (.aload_n 0, 1) := by decide +kernel
theorem dX9_betweenOf_67 : decode cX9_betweenOf 67 = .ok (.invokevirtual 206, 3) := by decide +kernel
theorem dX9_betweenOf_70 : decode cX9_betweenOf 70 = .ok (.ireturn, 1) := by decide +kernel
theorem dX9_betweenOf_71 : decode cX9_betweenOf 71 = .ok (.aload_n 0, 1) := by decide +kernel
theorem dX9_betweenOf_72 : decode cX9_betweenOf 72 = .ok (.bipush 97, 2) := by decide +kernel
theorem dX9_betweenOf_74 : decode cX9_betweenOf 74 = .ok (.bipush 110, 2) := by decide +kernel
theorem dX9_betweenOf_76 : decode cX9_betweenOf 76 = .ok (.bipush 100, 2) := by decide +kernel
theorem dX9_betweenOf_78 : decode cX9_betweenOf 78 = .ok (.invokestatic 126, 3) := by decide +kernel
theorem dX9_betweenOf_81 : decode cX9_betweenOf 81 = .ok (.invokevirtual 190, 3) := by decide +kernel
theorem dX9_betweenOf_84 : decode cX9_betweenOf 84 = .ok (.ifCond .eq 8, 3) := by decide +kernel
theorem dX9_betweenOf_87 : decode cX9_betweenOf 87 = .ok (.bipush 21, 2) := by decide +kernel
theorem dX9_betweenOf_89 : decode cX9_betweenOf 89 = .ok (.goto 23, 3) := by decide +kernel
theorem dX9_betweenOf_92 : decode cX9_betweenOf 92 = .ok (.aload_n 0, 1) := by decide +kernel
theorem dX9_betweenOf_93 : decode cX9_betweenOf 93 = .ok (.bipush 111, 2) := by decide +kernel
theorem dX9_betweenOf_95 : decode cX9_betweenOf 95 = .ok (.bipush 114, 2) := by decide +kernel
theorem dX9_betweenOf_97 : decode cX9_betweenOf 97 = .ok (.invokestatic 122, 3) := by decide +kernel
theorem dX9_betweenOf_100 : decode cX9_betweenOf 100 = .ok (.invokevirtual 190, 3) := by decide +kernel
theorem dX9_betweenOf_103 : decode cX9_betweenOf 103 = .ok (.ifCond .eq 8, 3) := by decide +kernel
theorem dX9_betweenOf_106 : decode cX9_betweenOf 106 = .ok (.bipush 22, 2) := by decide +kernel
theorem dX9_betweenOf_108 : decode cX9_betweenOf 108 = .ok (.goto 4, 3) := by decide +kernel
theorem dX9_betweenOf_111 : decode cX9_betweenOf 111 = .ok (.iconst (-1), 1) := by decide +kernel
theorem dX9_betweenOf_112 : decode cX9_betweenOf 112 = .ok (.ireturn, 1) := by decide +kernel
theorem dX9_partOf_0 : decode cX9_partOf 0 = .ok (.iload_n 1, 1) := by decide +kernel
theorem dX9_partOf_1 : decode cX9_partOf 1 = .ok (.tableswitch 129 40 44 #[35, 129, 50, 82, 107], 35) := by decide +kernel
theorem dX9_partOf_36 : decode cX9_partOf 36 = .ok (.aload_n 0, 1) := by decide +kernel
theorem dX9_partOf_37 : decode cX9_partOf 37 = .ok (.getfield 100, 3) := by decide +kernel
theorem dX9_partOf_40 : decode cX9_partOf 40 = .ok (.bipush 41, 2) := by decide +kernel
theorem dX9_partOf_42 : decode cX9_partOf 42 = .ok (.if_icmp .ne 7, 3) := by decide +kernel
theorem dX9_partOf_45 : decode cX9_partOf 45 = .ok (.iconst 0, 1) := by decide +kernel
theorem dX9_partOf_46 : decode cX9_partOf 46 = .ok (.goto 4, 3) := by decide +kernel
theorem dX9_partOf_49 : decode cX9_partOf 49 = .ok (.iconst (-1), 1) := by decide +kernel
theorem dX9_partOf_50 : decode cX9_partOf 50 = .ok (.ireturn, 1) := by decide +kernel
theorem dX9_partOf_51 : decode cX9_partOf 51 = .ok (.aload_n 0, 1) := by decide +kernel
theorem dX9_partOf_52 : decode cX9_partOf 52 = .ok (.bipush 116, 2) := by decide +kernel
theorem dX9_partOf_54 : decode cX9_partOf 54 = .ok (.bipush 104, 2) := by decide +kernel
theorem dX9_partOf_56 : decode cX9_partOf 56 = .ok (.bipush 101, 2) := by decide +kernel
theorem dX9_partOf_58 : decode cX9_partOf 58 = .ok (.bipush 110, 2) := by decide +kernel
theorem dX9_partOf_60 : decode cX9_partOf 60 = .ok (.invokestatic 130, 3) := by decide +kernel
theorem dX9_partOf_63 : decode cX9_partOf 63 = .ok (.invokevirtual 190, 3) := by decide +kernel
theorem dX9_partOf_66 : decode cX9_partOf 66 = .ok (.ifCond .eq 15, 3) := by decide +kernel
theorem dX9_partOf_69 : decode cX9_partOf 69 = .ok (.aload_n 0, 1) := by decide +kernel
theorem dX9_partOf_70 : decode cX9_partOf 70 = .ok (.invokevirtual 203, 3) := by decide +kernel
theorem dX9_partOf_73 : decode cX9_partOf 73 = .ok (.ifCond .eq 8, 3) := by decide +kernel
theorem dX9_partOf_76 : decode cX9_partOf 76 = .ok (.bipush 43, 2) := by decide +kernel
theorem dX9_partOf_78 : decode cX9_partOf 78 = .ok (.goto 4, 3) := by decide +kernel
theorem dX9_partOf_81 : decode cX9_partOf 81 = .ok (.iconst (-1), 1) := by decide +kernel
theorem dX9_partOf_82 : decode cX9_partOf 82 = .ok (.ireturn, 1) := by decide +kernel
theorem dX9_partOf_83 : decode cX9_partOf 83 = .ok (.aload_n 0, 1) := by decide +kernel
theorem dX9_partOf_84 : decode cX9_partOf 84 = .ok (.bipush 101, 2) := by decide +kernel
theorem dX9_partOf_86 : decode cX9_partOf 86 = .ok (.bipush 108, 2) := by decide +kernel
theorem dX9_partOf_88 : decode cX9_partOf 88 = .ok (.bipush 115, 2) := by decide +kernel
theorem dX9_partOf_90 : decode cX9_partOf 90 = .ok (.bipush 101, 2) := by decide +kernel
theorem dX9_partOf_92 : decode cX9_partOf 92 = .ok (.invokestatic 130, 3) := by decide +kernel
theorem dX9_partOf_95 : decode cX9_partOf 95 = .ok (.invokevirtual 190, 3) := by decide +kernel
theorem dX9_partOf_98 : decode cX9_partOf 98 = .ok (.ifCond .eq 8, 3) := by decide +kernel
theorem dX9_partOf_101 : decode cX9_partOf 101 = .ok (.bipush 44, 2) := by decide +kernel
theorem dX9_partOf_103 : decode cX9_partOf 103 = .ok (.goto 4, 3) := by decide +kernel
theorem dX9_partOf_106 : decode cX9_partOf 106 = .ok (.iconst (-1), 1) := by decide +kernel
theorem dX9_partOf_107 : decode cX9_partOf 107 = .ok (.ireturn, 1) := by decide +kernel
theorem dX9_partOf_108 : decode cX9_partOf 108 = .ok (.aload_n 0, 1) := by decide +kernel
theorem dX9_partOf_109 : decode cX9_partOf 109 = .ok (.bipush 101, 2) := by decide +kernel
theorem dX9_partOf_111 : decode cX9_partOf 111 = .ok (.bipush 110, 2) := by decide +kernel
theorem dX9_partOf_113 : decode cX9_partOf 113 = .ok (.bipush 100, 2) := by decide +kernel
theorem dX9_partOf_115 : decode cX9_partOf 115 = .ok (.invokestatic 126, 3) := by decide +kernel
theorem dX9_partOf_118 : decode cX9_partOf 118 = .ok (.invokevirtual 190, 3) := by decide +kernel
theorem dX9_partOf_121 : decode cX9_partOf 121 = .ok (.ifCond .eq 7, 3) := by decide +kernel
theorem dX9_partOf_124 : decode cX9_partOf 124 = .ok (.iconst 0, 1) := by decide +kernel
theorem dX9_partOf_125 : decode cX9_partOf 125 = .ok (.goto 4, 3) := by decide +kernel
theorem dX9_partOf_128 : decode cX9_partOf 128 = .ok (.iconst (-1), 1) := by decide +kernel
theorem dX9_partOf_129 : decode cX9_partOf 129 = .ok (.ireturn, 1) := by decide +kernel
theorem dX9_partOf_130 : decode cX9_partOf 130 = .ok (.iconst (-1), 1) := by decide +kernel
theorem dX9_partOf_131 : decode cX9_partOf 131 = .ok (.ireturn, 1) := by decide +kernel
theorem dX9_behindOne_0 : decode cX9_behindOne 0 = .ok (.aload_n 0, 1) := by decide +kernel
theorem dX9_behindOne_1 : decode cX9_behindOne 1 = .ok (.invokevirtual 209, 3) := by decide +kernel
theorem dX9_behindOne_4 : decode cX9_behindOne 4 = .ok (.istore_n 1, 1) := by decide +kernel
theorem dX9_behindOne_5 : decode cX9_behindOne 5 = .ok (.iload_n 1, 1) := by decide +kernel
theorem dX9_behindOne_6 : decode cX9_behindOne 6 = .ok (.ifCond .lt 54, 3) := by decide +kernel
theorem dX9_behindOne_9 : decode cX9_behindOne 9 = .ok (.aload_n 0, 1) := by decide +kernel
theorem dX9_behindOne_10 : decode cX9_behindOne 10 = .ok (.iload_n 1, 1) := by decide +kernel
theorem dX9_behindOne_11 : decode cX9_behindOne 11 = .ok (.invokestatic 158, 3) := by decide +kernel
theorem dX9_behindOne_14 : decode cX9_behindOne 14 = .ok (.iconst 4, 1) := by decide +kernel
theorem dX9_behindOne_15 : decode cX9_behindOne 15 = .ok (.if_icmp .ne 7, 3) := by decide +kernel
theorem dX9_behindOne_18 : decode cX9_behindOne 18 = .ok (.iconst 5, 1) := by decide +kernel
theorem dX9_behindOne_19 : decode cX9_behindOne 19 = .ok (.goto 7, 3) := by decide +kernel
theorem dX9_behindOne_22 : decode cX9_behindOne 22 = .ok (.iload_n 1, 1) := by decide +kernel
theorem dX9_behindOne_23 : decode cX9_behindOne 23 = .ok (.invokestatic 158, 3) := by decide +kernel
theorem dX9_behindOne_26 : decode cX9_behindOne 26 = .ok (.invokevirtual 197, 3) := by decide +kernel
theorem dX9_behindOne_29 : decode cX9_behindOne 29 = .ok (.aload_n 0, 1) := by decide +kernel
theorem dX9_behindOne_30 : decode cX9_behindOne 30 = .ok (.getfield 29, 3) := by decide +kernel
theorem dX9_behindOne_33 : decode cX9_behindOne 33 = .ok (.aload_n 0, 1) := by decide +kernel
theorem dX9_behindOne_34 : decode cX9_behindOne 34 = .ok (.getfield 155, 3) := by decide +kernel
theorem dX9_behindOne_37 : decode cX9_behindOne 37 = .ok (.iload_n 1, 1) := by decide +kernel
theorem dX9_behindOne_38 : decode cX9_behindOne 38 = .ok (.iastore, 1) := by decide +kernel
theorem dX9_behindOne_39 : decode cX9_behindOne 39 = .ok (.aload_n 0, 1) := by decide +kernel
theorem dX9_behindOne_40 : decode cX9_behindOne 40 = .ok (.dup, 1) := by decide +kernel
theorem dX9_behindOne_41 : decode cX9_behindOne 41 = .ok (.getfield 155, 3) := by decide +kernel
theorem dX9_behindOne_44 : decode cX9_behindOne 44 = .ok (.iconst 1, 1) := by decide +kernel
theorem dX9_behindOne_45 : decode cX9_behindOne 45 = .ok (.iadd, 1) := by decide +kernel
theorem dX9_behindOne_46 : decode cX9_behindOne 46 = .ok (.putfield 155, 3) := by decide +kernel
theorem dX9_behindOne_49 : decode cX9_behindOne 49 = .ok (.aload_n 0, 1) := by decide +kernel
theorem dX9_behindOne_50 : decode cX9_behindOne 50 = .ok (.iconst 0, 1) := by decide +kernel
theorem dX9_behindOne_51 : decode cX9_behindOne 51 = .ok (.putfield 200, 3) := by decide +kernel
theorem dX9_behindOne_54 : decode cX9_behindOne 54 = .ok (.aload_n 0, 1) := by decide +kernel
theorem dX9_behindOne_55 : decode cX9_behindOne 55 = .ok (.invokevirtual 175, 3) := by decide +kernel
theorem dX9_behindOne_58 : decode cX9_behindOne 58 = .ok (.iconst 0, 1) := by decide +kernel
theorem dX9_behindOne_59 : decode cX9_behindOne 59 = .ok (.ireturn, 1) := by decide +kernel
theorem dX9_behindOne_60 : decode cX9_behindOne 60 = .ok (.aload_n 0, 1) := by decide +kernel
theorem dX9_behindOne_61 : decode cX9_behindOne 61 = .ok (.invokevirtual 172, 3) := by decide +kernel
theorem dX9_behindOne_64 : decode cX9_behindOne 64 = .ok (.istore_n 2, 1) := by decide +kernel
theorem dX9_behindOne_65 : decode cX9_behindOne 65 = .ok (.aload_n 0, 1) := by decide +kernel
theorem dX9_behindOne_66 : decode cX9_behindOne 66 = .ok (.iload_n 2, 1) := by decide +kernel
theorem dX9_behindOne_67 : decode cX9_behindOne 67 = .ok (.invokevirtual 212, 3) := by decide +kernel
theorem dX9_behindOne_70 : decode cX9_behindOne 70 = .ok (.istore_n 3, 1) := by decide +kernel
theorem dX9_behindOne_71 : decode cX9_behindOne 71 = .ok (.iload_n 3, 1) := by decide +kernel
theorem dX9_behindOne_72 : decode cX9_behindOne 72 = .ok (.ifCond .ge 5, 3) := by decide +kernel
theorem dX9_behindOne_75 : decode cX9_behindOne 75 = .ok (.iconst (-1), 1) := by decide +kernel
theorem dX9_behindOne_76 : decode cX9_behindOne 76 = .ok (.ireturn, 1) := by decide +kernel
theorem dX9_behindOne_77 : decode cX9_behindOne 77 = .ok (.aload_n 0, 1) := by decide +kernel
theorem dX9_behindOne_78 : decode cX9_behindOne 78 = .ok (.iconst 1, 1) := by decide +kernel
theorem dX9_behindOne_79 : decode cX9_behindOne 79 = .ok (.invokevirtual 197, 3) := by decide +kernel
theorem dX9_behindOne_82 : decode cX9_behindOne 82 = .ok (.aload_n 0, 1) := by decide +kernel
theorem dX9_behindOne_83 : decode cX9_behindOne 83 = .ok (.invokevirtual 175, 3) := by decide +kernel
theorem dX9_behindOne_86 : decode cX9_behindOne 86 = .ok (.iload_n 3, 1) := by decide +kernel
theorem dX9_behindOne_87 : decode cX9_behindOne 87 = .ok (.ifCond .ne 40, 3) := by decide +kernel
theorem dX9_behindOne_90 : decode cX9_behindOne 90 = .ok (.aload_n 0, 1) := by decide +kernel
theorem dX9_behindOne_91 : decode cX9_behindOne 91 = .ok (.dup, 1) := by decide +kernel
theorem dX9_behindOne_92 : decode cX9_behindOne 92 = .ok (.getfield 165, 3) := by decide +kernel
theorem dX9_behindOne_95 : decode cX9_behindOne 95 = .ok (.iconst 1, 1) := by decide +kernel
theorem dX9_behindOne_96 : decode cX9_behindOne 96 = .ok (.isub, 1) := by decide +kernel
theorem dX9_behindOne_97 : decode cX9_behindOne 97 = .ok (.putfield 165, 3) := by decide +kernel
theorem dX9_behindOne_100 : decode cX9_behindOne 100 = .ok (.aload_n 0, 1) := by decide +kernel
theorem dX9_behindOne_101 : decode cX9_behindOne 101 = .ok (.dup, 1) := by decide +kernel
theorem dX9_behindOne_102 : decode cX9_behindOne 102 = .ok (.getfield 155, 3) := by decide +kernel
theorem dX9_behindOne_105 : decode cX9_behindOne 105 = .ok (.iconst 1, 1) := by decide +kernel
theorem dX9_behindOne_106 : decode cX9_behindOne 106 = .ok (.isub, 1) := by decide +kernel
theorem dX9_behindOne_107 : decode cX9_behindOne 107 = .ok (.putfield 155, 3) := by decide +kernel
theorem dX9_behindOne_110 : decode cX9_behindOne 110 = .ok (.iload_n 2, 1) := by decide +kernel
theorem dX9_behindOne_111 : decode cX9_behindOne 111 = .ok (.bipush 44, 2) := by decide +kernel
theorem dX9_behindOne_113 : decode cX9_behindOne 113 = .ok (.if_icmp .ne 9, 3) := by decide +kernel
theorem dX9_behindOne_116 : decode cX9_behindOne 116 = .ok (.aload_n 0, 1) := by decide +kernel
theorem dX9_behindOne_117 : decode cX9_behindOne 117 = .ok (.iconst 3, 1) := by decide +kernel
theorem dX9_behindOne_118 : decode cX9_behindOne 118 = .ok (.iconst 0, 1) := by decide +kernel
theorem dX9_behindOne_119 : decode cX9_behindOne 119 = .ok (.invokevirtual 161, 3) := by decide +kernel
theorem dX9_behindOne_122 : decode cX9_behindOne 122 = .ok (.aload_n 0, 1) := by decide +kernel
theorem dX9_behindOne_123 : decode cX9_behindOne 123 = .ok (.invokevirtual 184, 3) := by decide +kernel
theorem dX9_behindOne_126 : decode cX9_behindOne 126 = .ok (.ireturn, 1) := by decide +kernel
theorem dX9_behindOne_127 : decode cX9_behindOne 127 = .ok (.aload_n 0, 1) := by decide +kernel
theorem dX9_behindOne_128 : decode cX9_behindOne 128 = .ok (.getfield 29, 3) := by decide +kernel
theorem dX9_behindOne_131 : decode cX9_behindOne 131 = .ok (.aload_n 0, 1) := by decide +kernel
theorem dX9_behindOne_132 : decode cX9_behindOne 132 = .ok (.invokevirtual 168, 3) := by decide +kernel
theorem dX9_behindOne_135 : decode cX9_behindOne 135 = .ok (.iload_n 3, 1) := by decide +kernel
theorem dX9_behindOne_136 : decode cX9_behindOne 136 = .ok (.iastore, 1) := by decide +kernel
theorem dX9_behindOne_137 : decode cX9_behindOne 137 = .ok (.aload_n 0, 1) := by decide +kernel
theorem dX9_behindOne_138 : decode cX9_behindOne 138 = .ok (.iconst 0, 1) := by decide +kernel
theorem dX9_behindOne_139 : decode cX9_behindOne 139 = .ok (.putfield 200, 3) := by decide +kernel
theorem dX9_behindOne_142 : decode cX9_behindOne 142 = .ok (.iconst 0, 1) := by decide +kernel
theorem dX9_behindOne_143 : decode cX9_behindOne 143 = .ok (.ireturn, 1) := by decide +kernel
theorem dX9_summed_0 : decode cX9_summed 0 = .ok (.aload_n 0, 1) := by decide +kernel
theorem dX9_summed_1 : decode cX9_summed 1 = .ok (.iconst 0, 1) := by decide +kernel
theorem dX9_summed_2 : decode cX9_summed 2 = .ok (.putfield 155, 3) := by decide +kernel
theorem dX9_summed_5 : decode cX9_summed 5 = .ok (.aload_n 0, 1) := by decide +kernel
theorem dX9_summed_6 : decode cX9_summed 6 = .ok (.iconst 0, 1) := by decide +kernel
theorem dX9_summed_7 : decode cX9_summed 7 = .ok (.putfield 165, 3) := by decide +kernel
theorem dX9_summed_10 : decode cX9_summed 10 = .ok (.aload_n 0, 1) := by decide +kernel
theorem dX9_summed_11 : decode cX9_summed 11 = .ok (.iconst 0, 1) := by decide +kernel
theorem dX9_summed_12 : decode cX9_summed 12 = .ok (.putfield 200, 3) := by decide +kernel
theorem dX9_summed_15 : decode cX9_summed 15 = .ok (.aload_n 0, 1) := by decide +kernel
theorem dX9_summed_16 : decode cX9_summed 16 = .ok (.getfield 200, 3) := by decide +kernel
theorem dX9_summed_19 : decode cX9_summed 19 = .ok (.ifCond .eq 10, 3) := by decide +kernel
theorem dX9_summed_22 : decode cX9_summed 22 = .ok (.aload_n 0, 1) := by decide +kernel
theorem dX9_summed_23 : decode cX9_summed 23 = .ok (.invokevirtual 215, 3) := by decide +kernel
theorem dX9_summed_26 : decode cX9_summed 26 = .ok (.goto 7, 3) := by decide +kernel
theorem dX9_summed_29 : decode cX9_summed 29 = .ok (.aload_n 0, 1) := by decide +kernel
theorem dX9_summed_30 : decode cX9_summed 30 = .ok (.invokevirtual 218, 3) := by decide +kernel
theorem dX9_summed_33 : decode cX9_summed 33 = .ok (.istore_n 1, 1) := by decide +kernel
theorem dX9_summed_34 : decode cX9_summed 34 = .ok (.iload_n 1, 1) := by decide +kernel
theorem dX9_summed_35 : decode cX9_summed 35 = .ok (.ifCond .le 5, 3) := by decide +kernel
theorem dX9_summed_38 : decode cX9_summed 38 = .ok (.iload_n 1, 1) := by decide +kernel
theorem dX9_summed_39 : decode cX9_summed 39 = .ok (.ireturn, 1) := by decide +kernel
theorem dX9_summed_40 : decode cX9_summed 40 = .ok (.iload_n 1, 1) := by decide +kernel
theorem dX9_summed_41 : decode cX9_summed 41 = .ok (.ifCond .ne 6, 3) := by decide +kernel
theorem dX9_summed_44 : decode cX9_summed 44 = .ok (.goto (-29), 3) := by decide +kernel
theorem dX9_summed_47 : decode cX9_summed 47 = .ok (.aload_n 0, 1) := by decide +kernel
theorem dX9_summed_48 : decode cX9_summed 48 = .ok (.invokevirtual 172, 3) := by decide +kernel
theorem dX9_summed_51 : decode cX9_summed 51 = .ok (.ifCond .lt 5, 3) := by decide +kernel
theorem dX9_summed_54 : decode cX9_summed 54 = .ok (.iconst 1, 1) := by decide +kernel
theorem dX9_summed_55 : decode cX9_summed 55 = .ok (.ireturn, 1) := by decide +kernel
theorem dX9_summed_56 : decode cX9_summed 56 = .ok (.aload_n 0, 1) := by decide +kernel
theorem dX9_summed_57 : decode cX9_summed 57 = .ok (.iconst 1, 1) := by decide +kernel
theorem dX9_summed_58 : decode cX9_summed 58 = .ok (.invokevirtual 197, 3) := by decide +kernel
theorem dX9_summed_61 : decode cX9_summed 61 = .ok (.iconst 0, 1) := by decide +kernel
theorem dX9_summed_62 : decode cX9_summed 62 = .ok (.ireturn, 1) := by decide +kernel
theorem dX9_figure_0 : decode cX9_figure 0 = .ok (.aload_n 0, 1) := by decide +kernel
theorem dX9_figure_1 : decode cX9_figure 1 = .ok (.getfield 100, 3) := by decide +kernel
theorem dX9_figure_4 : decode cX9_figure 4 = .ok (.iconst 1, 1) := by decide +kernel
theorem dX9_figure_5 : decode cX9_figure 5 = .ok (.if_icmp .eq 5, 3) := by decide +kernel
theorem dX9_figure_8 : decode cX9_figure 8 = .ok (.iconst 1, 1) := by decide +kernel
theorem dX9_figure_9 : decode cX9_figure 9 = .ok (.ireturn, 1) := by decide +kernel
theorem dX9_figure_10 : decode cX9_figure 10 = .ok (.aload_n 0, 1) := by decide +kernel
theorem dX9_figure_11 : decode cX9_figure 11 = .ok (.getfield 106, 3) := by decide +kernel
theorem dX9_figure_14 : decode cX9_figure 14 = .ok (.iload_n 2, 1) := by decide +kernel
theorem dX9_figure_15 : decode cX9_figure 15 = .ok (.iload_n 3, 1) := by decide +kernel
theorem dX9_figure_16 : decode cX9_figure 16 = .ok (.invokestatic 69, 3) := by decide +kernel
theorem dX9_figure_19 : decode cX9_figure 19 = .ok (.ifCond .ne 5, 3) := by decide +kernel
theorem dX9_figure_22 : decode cX9_figure 22 = .ok (.iconst 2, 1) := by decide +kernel
theorem dX9_figure_23 : decode cX9_figure 23 = .ok (.ireturn, 1) := by decide +kernel
theorem dX9_figure_24 : decode cX9_figure 24 = .ok (.aload_n 0, 1) := by decide +kernel
theorem dX9_figure_25 : decode cX9_figure 25 = .ok (.getfield 16, 3) := by decide +kernel
theorem dX9_figure_28 : decode cX9_figure 28 = .ok (.iload_n 1, 1) := by decide +kernel
theorem dX9_figure_29 : decode cX9_figure 29 = .ok (.aload_n 0, 1) := by decide +kernel
theorem dX9_figure_30 : decode cX9_figure 30 = .ok (.getfield 106, 3) := by decide +kernel
theorem dX9_figure_33 : decode cX9_figure 33 = .ok (.iastore, 1) := by decide +kernel
theorem dX9_figure_34 : decode cX9_figure 34 = .ok (.aload_n 0, 1) := by decide +kernel
theorem dX9_figure_35 : decode cX9_figure 35 = .ok (.invokevirtual 175, 3) := by decide +kernel
theorem dX9_figure_38 : decode cX9_figure 38 = .ok (.iconst 0, 1) := by decide +kernel
theorem dX9_figure_39 : decode cX9_figure 39 = .ok (.ireturn, 1) := by decide +kernel
theorem dX9_lawClause_0 : decode cX9_lawClause 0 = .ok (.aload_n 0, 1) := by decide +kernel
theorem dX9_lawClause_1 : decode cX9_lawClause 1 = .ok (.getfield 16, 3) := by decide +kernel
theorem dX9_lawClause_4 : decode cX9_lawClause 4 = .ok (.iload_n 1, 1) := by decide +kernel
theorem dX9_lawClause_5 : decode cX9_lawClause 5 = .ok (.iconst 1, 1) := by decide +kernel
theorem dX9_lawClause_6 : decode cX9_lawClause 6 = .ok (.iadd, 1) := by decide +kernel
theorem dX9_lawClause_7 : decode cX9_lawClause 7 = .ok (.aload_n 0, 1) := by decide +kernel
theorem dX9_lawClause_8 : decode cX9_lawClause 8 = .ok (.getfield 141, 3) := by decide +kernel
theorem dX9_lawClause_11 : decode cX9_lawClause 11 = .ok (.iastore, 1) := by decide +kernel
theorem dX9_lawClause_12 : decode cX9_lawClause 12 = .ok (.aload_n 0, 1) := by decide +kernel
theorem dX9_lawClause_13 : decode cX9_lawClause 13 = .ok (.invokevirtual 221, 3) := by decide +kernel
theorem dX9_lawClause_16 : decode cX9_lawClause 16 = .ok (.istore_n 2, 1) := by decide +kernel
theorem dX9_lawClause_17 : decode cX9_lawClause 17 = .ok (.aload_n 0, 1) := by decide +kernel
theorem dX9_lawClause_18 : decode cX9_lawClause 18 = .ok (.getfield 16, 3) := by decide +kernel
theorem dX9_lawClause_21 : decode cX9_lawClause 21 = .ok (.iload_n 1, 1) := by decide +kernel
theorem dX9_lawClause_22 : decode cX9_lawClause 22 = .ok (.iconst 2, 1) := by decide +kernel
theorem dX9_lawClause_23 : decode cX9_lawClause 23 = .ok (.iadd, 1) := by decide +kernel
theorem dX9_lawClause_24 : decode cX9_lawClause 24 = .ok (.aload_n 0, 1) := by decide +kernel
theorem dX9_lawClause_25 : decode cX9_lawClause 25 = .ok (.getfield 141, 3) := by decide +kernel
theorem dX9_lawClause_28 : decode cX9_lawClause 28 = .ok (.iastore, 1) := by decide +kernel
theorem dX9_lawClause_29 : decode cX9_lawClause 29 = .ok (.iload_n 2, 1) := by decide +kernel
theorem dX9_lawClause_30 : decode cX9_lawClause 30 = .ok (.ireturn, 1) := by decide +kernel
theorem dX9_behind_0 : decode cX9_behind 0 = .ok (.aload_n 0, 1) := by decide +kernel
theorem dX9_behind_1 : decode cX9_behind 1 = .ok (.lload_n 2, 1) := by decide +kernel
theorem dX9_behind_2 : decode cX9_behind 2 = .ok (.invokevirtual 190, 3) := by decide +kernel
theorem dX9_behind_5 : decode cX9_behind 5 = .ok (.ifCond .ne 5, 3) := by decide +kernel
theorem dX9_behind_8 : decode cX9_behind 8 = .ok (.iconst 1, 1) := by decide +kernel
theorem dX9_behind_9 : decode cX9_behind 9 = .ok (.ireturn, 1) := by decide +kernel
theorem dX9_behind_10 : decode cX9_behind 10 = .ok (.aload_n 0, 1) := by decide +kernel
theorem dX9_behind_11 : decode cX9_behind 11 = .ok (.invokevirtual 175, 3) := by decide +kernel
theorem dX9_behind_14 : decode cX9_behind 14 = .ok (.aload_n 0, 1) := by decide +kernel
theorem dX9_behind_15 : decode cX9_behind 15 = .ok (.iload_n 1, 1) := by decide +kernel
theorem dX9_behind_16 : decode cX9_behind 16 = .ok (.iconst 0, 1) := by decide +kernel
theorem dX9_behind_17 : decode cX9_behind 17 = .ok (.iload 4, 2) := by decide +kernel
theorem dX9_behind_19 : decode cX9_behind 19 = .ok (.invokevirtual 224, 3) := by decide +kernel
theorem dX9_behind_22 : decode cX9_behind 22 = .ok (.ireturn, 1) := by decide +kernel
theorem dX9_pair_0 : decode cX9_pair 0 = .ok (.aload_n 0, 1) := by decide +kernel
theorem dX9_pair_1 : decode cX9_pair 1 = .ok (.iload_n 1, 1) := by decide +kernel
theorem dX9_pair_2 : decode cX9_pair 2 = .ok (.iconst 1, 1) := by decide +kernel
theorem dX9_pair_3 : decode cX9_pair 3 = .ok (.iadd, 1) := by decide +kernel
theorem dX9_pair_4 : decode cX9_pair 4 = .ok (.iload_n 2, 1) := by decide +kernel
theorem dX9_pair_5 : decode cX9_pair 5 = .ok (.iload_n 3, 1) := by decide +kernel
theorem dX9_pair_6 : decode cX9_pair 6 = .ok (.invokevirtual 224, 3) := by decide +kernel
theorem dX9_pair_9 : decode cX9_pair 9 = .ok (.istore 7, 2) := by decide +kernel
theorem dX9_pair_11 : decode cX9_pair 11 = .ok (.iload 7, 2) := by decide +kernel
theorem dX9_pair_13 : decode cX9_pair 13 = .ok (.ifCond .eq 8, 3) := by decide +kernel
theorem dX9_pair_16 : decode cX9_pair 16 = .ok (.iload 7, 2) := by decide +kernel
theorem dX9_pair_18 : decode cX9_pair 18 = .ok (.goto 14, 3) := by decide +kernel
theorem dX9_pair_21 : decode cX9_pair 21 = .ok (.aload_n 0, 1) := by decide +kernel
theorem dX9_pair_22 : decode cX9_pair 22 = .ok (.iload_n 1, 1) := by decide +kernel
theorem dX9_pair_23 : decode cX9_pair 23 = .ok (.iconst 2, 1) := by decide +kernel
theorem dX9_pair_24 : decode cX9_pair 24 = .ok (.iadd, 1) := by decide +kernel
theorem dX9_pair_25 : decode cX9_pair 25 = .ok (.lload 4, 2) := by decide +kernel
theorem dX9_pair_27 : decode cX9_pair 27 = .ok (.iload 6, 2) := by decide +kernel
theorem dX9_pair_29 : decode cX9_pair 29 = .ok (.invokevirtual 228, 3) := by decide +kernel
theorem dX9_pair_32 : decode cX9_pair 32 = .ok (.ireturn, 1) := by decide +kernel
theorem dX9_argueClause_0 : decode cX9_argueClause 0 = .ok (.aload_n 0, 1) := by decide +kernel
theorem dX9_argueClause_1 : decode cX9_argueClause 1 = .ok (.iload_n 1, 1) := by decide +kernel
theorem dX9_argueClause_2 : decode cX9_argueClause 2 = .ok (.iconst 0, 1) := by decide +kernel
theorem dX9_argueClause_3 : decode cX9_argueClause 3 = .ok (.bipush 7, 2) := by decide +kernel
theorem dX9_argueClause_5 : decode cX9_argueClause 5 = .ok (.bipush 98, 2) := by decide +kernel
theorem dX9_argueClause_7 : decode cX9_argueClause 7 = .ok (.bipush 121, 2) := by decide +kernel
theorem dX9_argueClause_9 : decode cX9_argueClause 9 = .ok (.invokestatic 122, 3) := by decide +kernel
theorem dX9_argueClause_12 : decode cX9_argueClause 12 = .ok (.iconst 3, 1) := by decide +kernel
theorem dX9_argueClause_13 : decode cX9_argueClause 13 = .ok (.invokevirtual 232, 3) := by decide +kernel
theorem dX9_argueClause_16 : decode cX9_argueClause 16 = .ok (.istore_n 2, 1) := by decide +kernel
theorem dX9_argueClause_17 : decode cX9_argueClause 17 = .ok (.iload_n 2, 1) := by decide +kernel
theorem dX9_argueClause_18 : decode cX9_argueClause 18 = .ok (.ifCond .eq 7, 3) := by decide +kernel
theorem dX9_argueClause_21 : decode cX9_argueClause 21 = .ok (.iload_n 2, 1) := by decide +kernel
theorem dX9_argueClause_22 : decode cX9_argueClause 22 = .ok (.goto 18, 3) := by decide +kernel
theorem dX9_argueClause_25 : decode cX9_argueClause 25 = .ok (.aload_n 0, 1) := by decide +kernel
theorem dX9_argueClause_26 : decode cX9_argueClause 26 = .ok (.iload_n 1, 1) := by decide +kernel
theorem dX9_argueClause_27 : decode cX9_argueClause 27 = .ok (.iconst 3, 1) := by decide +kernel
theorem dX9_argueClause_28 : decode cX9_argueClause 28 = .ok (.iadd, 1) := by decide +kernel
theorem dX9_argueClause_29 : decode cX9_argueClause 29 = .ok (.bipush 116, 2) := by decide +kernel
theorem dX9_argueClause_31 : decode cX9_argueClause 31 = .ok (.bipush 111, 2) := by decide +kernel
theorem dX9_argueClause_33 : decode cX9_argueClause 33 = .ok (.invokestatic 122, 3) := by decide +kernel
theorem dX9_argueClause_36 : decode cX9_argueClause 36 = .ok (.iconst 3, 1) := by decide +kernel
theorem dX9_argueClause_37 : decode cX9_argueClause 37 = .ok (.invokevirtual 228, 3) := by decide +kernel
theorem dX9_argueClause_40 : decode cX9_argueClause 40 = .ok (.ireturn, 1) := by decide +kernel
theorem dX9_body_0 : decode cX9_body 0 = .ok (.iload_n 1, 1) := by decide +kernel
theorem dX9_body_1 : decode cX9_body 1 = .ok (.tableswitch 124 2 7 #[39, 61, 79, 85, 102, 113], 39) := by decide +kernel
theorem dX9_body_40 : decode cX9_body 40 = .ok (.aload_n 0, 1) := by decide +kernel
theorem dX9_body_41 : decode cX9_body 41 = .ok (.iload_n 2, 1) := by decide +kernel
theorem dX9_body_42 : decode cX9_body 42 = .ok (.iconst 0, 1) := by decide +kernel
theorem dX9_body_43 : decode cX9_body 43 = .ok (.bipush 99, 2) := by decide +kernel
theorem dX9_body_45 : decode cX9_body 45 = .ok (.bipush 115, 2) := by decide +kernel
theorem dX9_body_47 : decode cX9_body 47 = .ok (.bipush 108, 2) := by decide +kernel
theorem dX9_body_49 : decode cX9_body 49 = .ok (.bipush 105, 2) := by decide +kernel
theorem dX9_body_51 : decode cX9_body 51 = .ok (.bipush 112, 2) := by decide +kernel
theorem dX9_body_53 : decode cX9_body 53 = .ok (.invokestatic 130, 3) := by decide +kernel
theorem dX9_body_56 : decode cX9_body 56 = .ok (.bipush 10, 2) := by decide +kernel
theorem dX9_body_58 : decode cX9_body 58 = .ok (.invokevirtual 232, 3) := by decide +kernel
theorem dX9_body_61 : decode cX9_body 61 = .ok (.ireturn, 1) := by decide +kernel
theorem dX9_body_62 : decode cX9_body 62 = .ok (.aload_n 0, 1) := by decide +kernel
theorem dX9_body_63 : decode cX9_body 63 = .ok (.iload_n 2, 1) := by decide +kernel
theorem dX9_body_64 : decode cX9_body 64 = .ok (.iconst 0, 1) := by decide +kernel
theorem dX9_body_65 : decode cX9_body 65 = .ok (.bipush 9, 2) := by decide +kernel
theorem dX9_body_67 : decode cX9_body 67 = .ok (.bipush 98, 2) := by decide +kernel
theorem dX9_body_69 : decode cX9_body 69 = .ok (.bipush 121, 2) := by decide +kernel
theorem dX9_body_71 : decode cX9_body 71 = .ok (.invokestatic 122, 3) := by decide +kernel
theorem dX9_body_74 : decode cX9_body 74 = .ok (.bipush 9, 2) := by decide +kernel
theorem dX9_body_76 : decode cX9_body 76 = .ok (.invokevirtual 232, 3) := by decide +kernel
theorem dX9_body_79 : decode cX9_body 79 = .ok (.ireturn, 1) := by decide +kernel
theorem dX9_body_80 : decode cX9_body 80 = .ok (.aload_n 0, 1) := by decide +kernel
theorem dX9_body_81 : decode cX9_body 81 = .ok (.iload_n 2, 1) := by decide +kernel
theorem dX9_body_82 : decode cX9_body 82 = .ok (.invokevirtual 236, 3) := by decide +kernel
theorem dX9_body_85 : decode cX9_body 85 = .ok (.ireturn, 1) := by decide +kernel
theorem dX9_body_86 : decode cX9_body 86 = .ok (.aload_n 0, 1) := by decide +kernel
theorem dX9_body_87 : decode cX9_body 87 = .ok (.iload_n 2, 1) := by decide +kernel
theorem dX9_body_88 : decode cX9_body 88 = .ok (.iconst 1, 1) := by decide +kernel
theorem dX9_body_89 : decode cX9_body 89 = .ok (.bipush 99, 2) := by decide +kernel
theorem dX9_body_91 : decode cX9_body 91 = .ok (.bipush 98, 2) := by decide +kernel
theorem dX9_body_93 : decode cX9_body 93 = .ok (.bipush 121, 2) := by decide +kernel
theorem dX9_body_95 : decode cX9_body 95 = .ok (.invokestatic 122, 3) := by decide +kernel
theorem dX9_body_98 : decode cX9_body 98 = .ok (.iconst 3, 1) := by decide +kernel
theorem dX9_body_99 : decode cX9_body 99 = .ok (.invokevirtual 232, 3) := by decide +kernel
theorem dX9_body_102 : decode cX9_body 102 = .ok (.ireturn, 1) := by decide +kernel
theorem dX9_body_103 : decode cX9_body 103 = .ok (.aload_n 0, 1) := by decide +kernel
theorem dX9_body_104 : decode cX9_body 104 = .ok (.iload_n 2, 1) := by decide +kernel
theorem dX9_body_105 : decode cX9_body 105 = .ok (.iconst 1, 1) := by decide +kernel
theorem dX9_body_106 : decode cX9_body 106 = .ok (.iadd, 1) := by decide +kernel
theorem dX9_body_107 : decode cX9_body 107 = .ok (.iconst 0, 1) := by decide +kernel
theorem dX9_body_108 : decode cX9_body 108 = .ok (.bipush 9, 2) := by decide +kernel
theorem dX9_body_110 : decode cX9_body 110 = .ok (.invokevirtual 224, 3) := by decide +kernel
theorem dX9_body_113 : decode cX9_body 113 = .ok (.ireturn, 1) := by decide +kernel
theorem dX9_body_114 : decode cX9_body 114 = .ok (.aload_n 0, 1) := by decide +kernel
theorem dX9_body_115 : decode cX9_body 115 = .ok (.iload_n 2, 1) := by decide +kernel
theorem dX9_body_116 : decode cX9_body 116 = .ok (.iconst 1, 1) := by decide +kernel
theorem dX9_body_117 : decode cX9_body 117 = .ok (.iadd, 1) := by decide +kernel
theorem dX9_body_118 : decode cX9_body 118 = .ok (.iconst 1, 1) := by decide +kernel
theorem dX9_body_119 : decode cX9_body 119 = .ok (.bipush 60, 2) := by decide +kernel
theorem dX9_body_121 : decode cX9_body 121 = .ok (.invokevirtual 224, 3) := by decide +kernel
theorem dX9_body_124 : decode cX9_body 124 = .ok (.ireturn, 1) := by decide +kernel
theorem dX9_body_125 : decode cX9_body 125 = .ok (.aload_n 0, 1) := by decide +kernel
theorem dX9_body_126 : decode cX9_body 126 = .ok (.iload_n 2, 1) := by decide +kernel
theorem dX9_body_127 : decode cX9_body 127 = .ok (.invokevirtual 239, 3) := by decide +kernel
theorem dX9_body_130 : decode cX9_body 130 = .ok (.ireturn, 1) := by decide +kernel
theorem dX9_sortOf_0 : decode cX9_sortOf 0 = .ok (.aload_n 0, 1) := by decide +kernel
theorem dX9_sortOf_1 : decode cX9_sortOf 1 = .ok (.bipush 108, 2) := by decide +kernel
theorem dX9_sortOf_3 : decode cX9_sortOf 3 = .ok (.bipush 111, 2) := by decide +kernel
theorem dX9_sortOf_5 : decode cX9_sortOf 5 = .ok (.bipush 115, 2) := by decide +kernel
theorem dX9_sortOf_7 : decode cX9_sortOf 7 = .ok (.bipush 101, 2) := by decide +kernel
theorem dX9_sortOf_9 : decode cX9_sortOf 9 = .ok (.bipush 115, 2) := by decide +kernel
theorem dX9_sortOf_11 : decode cX9_sortOf 11 = .ok (.invokestatic 134, 3) := by decide +kernel
theorem dX9_sortOf_14 : decode cX9_sortOf 14 = .ok (.invokevirtual 190, 3) := by decide +kernel
theorem dX9_sortOf_17 : decode cX9_sortOf 17 = .ok (.ifCond .eq 5, 3) := by decide +kernel
theorem dX9_sortOf_20 : decode cX9_sortOf 20 = .ok (.iconst 0, 1) := by decide +kernel
theorem dX9_sortOf_21 : decode cX9_sortOf 21 = .ok (.ireturn, 1) := by decide +kernel
theorem dX9_sortOf_22 : decode cX9_sortOf 22 = .ok (.aload_n 0, 1) := by decide +kernel
theorem dX9_sortOf_23 : decode cX9_sortOf 23 = .ok (.bipush 102, 2) := by decide +kernel
theorem dX9_sortOf_25 : decode cX9_sortOf 25 = .ok (.bipush 105, 2) := by decide +kernel
theorem dX9_sortOf_27 : decode cX9_sortOf 27 = .ok (.bipush 108, 2) := by decide +kernel
theorem dX9_sortOf_29 : decode cX9_sortOf 29 = .ok (.bipush 108, 2) := by decide +kernel
theorem dX9_sortOf_31 : decode cX9_sortOf 31 = .ok (.bipush 115, 2) := by decide +kernel
theorem dX9_sortOf_33 : decode cX9_sortOf 33 = .ok (.invokestatic 134, 3) := by decide +kernel
theorem dX9_sortOf_36 : decode cX9_sortOf 36 = .ok (.invokevirtual 190, 3) := by decide +kernel
theorem dX9_sortOf_39 : decode cX9_sortOf 39 = .ok (.ifCond .eq 5, 3) := by decide +kernel
theorem dX9_sortOf_42 : decode cX9_sortOf 42 = .ok (.iconst 1, 1) := by decide +kernel
theorem dX9_sortOf_43 : decode cX9_sortOf 43 = .ok (.ireturn, 1) := by decide +kernel
theorem dX9_sortOf_44 : decode cX9_sortOf 44 = .ok (.aload_n 0, 1) := by decide +kernel
theorem dX9_sortOf_45 : decode cX9_sortOf 45 = .ok (.bipush 112, 2) := by decide +kernel
theorem dX9_sortOf_47 : decode cX9_sortOf 47 = .ok (.bipush 101, 2) := by decide +kernel
theorem dX9_sortOf_49 : decode cX9_sortOf 49 = .ok (.bipush 114, 2) := by decide +kernel
theorem dX9_sortOf_51 : decode cX9_sortOf 51 = .ok (.bipush 115, 2) := by decide +kernel
theorem dX9_sortOf_53 : decode cX9_sortOf 53 = .ok (.bipush 111, 2) := by decide +kernel
theorem dX9_sortOf_55 : decode cX9_sortOf 55 = .ok (.bipush 110, 2) := by decide +kernel
theorem dX9_sortOf_57 : decode cX9_sortOf 57 = .ok (.invokestatic 144, 3) := by decide +kernel
theorem dX9_sortOf_60 : decode cX9_sortOf 60 = .ok (.invokevirtual 190, 3) := by decide +kernel
theorem dX9_sortOf_63 : decode cX9_sortOf 63 = .ok (.ifCond .eq 5, 3) := by decide +kernel
theorem dX9_sortOf_66 : decode cX9_sortOf 66 = .ok (.iconst 2, 1) := by decide +kernel
theorem dX9_sortOf_67 : decode cX9_sortOf 67 = .ok (.ireturn, 1) := by decide +kernel
theorem dX9_sortOf_68 : decode cX9_sortOf 68 = .ok (.aload_n 0, 1) := by decide +kernel
theorem dX9_sortOf_69 : decode cX9_sortOf 69 = .ok (.bipush 116, 2) := by decide +kernel
theorem dX9_sortOf_71 : decode cX9_sortOf 71 = .ok (.bipush 117, 2) := by decide +kernel
theorem dX9_sortOf_73 : decode cX9_sortOf 73 = .ok (.bipush 114, 2) := by decide +kernel
theorem dX9_sortOf_75 : decode cX9_sortOf 75 = .ok (.bipush 110, 2) := by decide +kernel
theorem dX9_sortOf_77 : decode cX9_sortOf 77 = .ok (.bipush 115, 2) := by decide +kernel
theorem dX9_sortOf_79 : decode cX9_sortOf 79 = .ok (.invokestatic 134, 3) := by decide +kernel
theorem dX9_sortOf_82 : decode cX9_sortOf 82 = .ok (.invokevirtual 190, 3) := by decide +kernel
theorem dX9_sortOf_85 : decode cX9_sortOf 85 = .ok (.ifCond .eq 5, 3) := by decide +kernel
theorem dX9_sortOf_88 : decode cX9_sortOf 88 = .ok (.iconst 3, 1) := by decide +kernel
theorem dX9_sortOf_89 : decode cX9_sortOf 89 = .ok (.ireturn, 1) := by decide +kernel
theorem dX9_sortOf_90 : decode cX9_sortOf 90 = .ok (.aload_n 0, 1) := by decide +kernel
theorem dX9_sortOf_91 : decode cX9_sortOf 91 = .ok (.bipush 97, 2) := by decide +kernel
theorem dX9_sortOf_93 : decode cX9_sortOf 93 = .ok (.bipush 114, 2) := by decide +kernel
theorem dX9_sortOf_95 : decode cX9_sortOf 95 = .ok (.bipush 103, 2) := by decide +kernel
theorem dX9_sortOf_97 : decode cX9_sortOf 97 = .ok (.bipush 117, 2) := by decide +kernel
theorem dX9_sortOf_99 : decode cX9_sortOf 99 = .ok (.bipush 101, 2) := by decide +kernel
theorem dX9_sortOf_101 : decode cX9_sortOf 101 = .ok (.invokestatic 134, 3) := by decide +kernel
theorem dX9_sortOf_104 : decode cX9_sortOf 104 = .ok (.invokevirtual 190, 3) := by decide +kernel
theorem dX9_sortOf_107 : decode cX9_sortOf 107 = .ok (.ifCond .eq 5, 3) := by decide +kernel
theorem dX9_sortOf_110 : decode cX9_sortOf 110 = .ok (.iconst 4, 1) := by decide +kernel
theorem dX9_sortOf_111 : decode cX9_sortOf 111 = .ok (.ireturn, 1) := by decide +kernel
theorem dX9_sortOf_112 : decode cX9_sortOf 112 = .ok (.aload_n 0, 1) := by decide +kernel
theorem dX9_sortOf_113 : decode cX9_sortOf 113 = .ok (.bipush 112, 2) := by decide +kernel
theorem dX9_sortOf_115 : decode cX9_sortOf 115 = .ok (.bipush 111, 2) := by decide +kernel
theorem dX9_sortOf_117 : decode cX9_sortOf 117 = .ok (.bipush 117, 2) := by decide +kernel
theorem dX9_sortOf_119 : decode cX9_sortOf 119 = .ok (.bipush 114, 2) := by decide +kernel
theorem dX9_sortOf_121 : decode cX9_sortOf 121 = .ok (.invokestatic 130, 3) := by decide +kernel
theorem dX9_sortOf_124 : decode cX9_sortOf 124 = .ok (.invokevirtual 190, 3) := by decide +kernel
theorem dX9_sortOf_127 : decode cX9_sortOf 127 = .ok (.ifCond .eq 5, 3) := by decide +kernel
theorem dX9_sortOf_130 : decode cX9_sortOf 130 = .ok (.iconst 5, 1) := by decide +kernel
theorem dX9_sortOf_131 : decode cX9_sortOf 131 = .ok (.ireturn, 1) := by decide +kernel
theorem dX9_sortOf_132 : decode cX9_sortOf 132 = .ok (.aload_n 0, 1) := by decide +kernel
theorem dX9_sortOf_133 : decode cX9_sortOf 133 = .ok (.bipush 115, 2) := by decide +kernel
theorem dX9_sortOf_135 : decode cX9_sortOf 135 = .ok (.bipush 110, 2) := by decide +kernel
theorem dX9_sortOf_137 : decode cX9_sortOf 137 = .ok (.bipush 117, 2) := by decide +kernel
theorem dX9_sortOf_139 : decode cX9_sortOf 139 = .ok (.bipush 102, 2) := by decide +kernel
theorem dX9_sortOf_141 : decode cX9_sortOf 141 = .ok (.bipush 102, 2) := by decide +kernel
theorem dX9_sortOf_143 : decode cX9_sortOf 143 = .ok (.invokestatic 134, 3) := by decide +kernel
theorem dX9_sortOf_146 : decode cX9_sortOf 146 = .ok (.invokevirtual 190, 3) := by decide +kernel
theorem dX9_sortOf_149 : decode cX9_sortOf 149 = .ok (.ifCond .eq 8, 3) := by decide +kernel
theorem dX9_sortOf_152 : decode cX9_sortOf 152 = .ok (.bipush 6, 2) := by decide +kernel
theorem dX9_sortOf_154 : decode cX9_sortOf 154 = .ok (.goto 29, 3) := by decide +kernel
theorem dX9_sortOf_157 : decode cX9_sortOf 157 = .ok (.aload_n 0, 1) := by decide +kernel
theorem dX9_sortOf_158 : decode cX9_sortOf 158 = .ok (.bipush 110, 2) := by decide +kernel
theorem dX9_sortOf_160 : decode cX9_sortOf 160 = .ok (.bipush 105, 2) := by decide +kernel
theorem dX9_sortOf_162 : decode cX9_sortOf 162 = .ok (.bipush 103, 2) := by decide +kernel
theorem dX9_sortOf_164 : decode cX9_sortOf 164 = .ok (.bipush 104, 2) := by decide +kernel
theorem dX9_sortOf_166 : decode cX9_sortOf 166 = .ok (.bipush 116, 2) := by decide +kernel
theorem dX9_sortOf_168 : decode cX9_sortOf 168 = .ok (.invokestatic 134, 3) := by decide +kernel
theorem dX9_sortOf_171 : decode cX9_sortOf 171 = .ok (.invokevirtual 190, 3) := by decide +kernel
theorem dX9_sortOf_174 : decode cX9_sortOf 174 = .ok (.ifCond .eq 8, 3) := by decide +kernel
theorem dX9_sortOf_177 : decode cX9_sortOf 177 = .ok (.bipush 7, 2) := by decide +kernel
theorem dX9_sortOf_179 : decode cX9_sortOf 179 = .ok (.goto 4, 3) := by decide +kernel
theorem dX9_sortOf_182 : decode cX9_sortOf 182 = .ok (.iconst (-1), 1) := by decide +kernel
theorem dX9_sortOf_183 : decode cX9_sortOf 183 = .ok (.ireturn, 1) := by decide +kernel
theorem dX9_clause_0 : decode cX9_clause 0 = .ok (.aload_n 0, 1) := by decide +kernel
theorem dX9_clause_1 : decode cX9_clause 1 = .ok (.invokevirtual 242, 3) := by decide +kernel
theorem dX9_clause_4 : decode cX9_clause 4 = .ok (.istore_n 1, 1) := by decide +kernel
theorem dX9_clause_5 : decode cX9_clause 5 = .ok (.iload_n 1, 1) := by decide +kernel
theorem dX9_clause_6 : decode cX9_clause 6 = .ok (.ifCond .ge 5, 3) := by decide +kernel
theorem dX9_clause_9 : decode cX9_clause 9 = .ok (.iconst 1, 1) := by decide +kernel
theorem dX9_clause_10 : decode cX9_clause 10 = .ok (.ireturn, 1) := by decide +kernel
theorem dX9_clause_11 : decode cX9_clause 11 = .ok (.iload_n 1, 1) := by decide +kernel
theorem dX9_clause_12 : decode cX9_clause 12 = .ok (.iconst 1, 1) := by decide +kernel
theorem dX9_clause_13 : decode cX9_clause 13 = .ok (.if_icmp .gt 16, 3) := by decide +kernel
theorem dX9_clause_16 : decode cX9_clause 16 = .ok (.aload_n 0, 1) := by decide +kernel
theorem dX9_clause_17 : decode cX9_clause 17 = .ok (.getfield 245, 3) := by decide +kernel
theorem dX9_clause_20 : decode cX9_clause 20 = .ok (.iload_n 1, 1) := by decide +kernel
theorem dX9_clause_21 : decode cX9_clause 21 = .ok (.invokestatic 248, 3) := by decide +kernel
theorem dX9_clause_24 : decode cX9_clause 24 = .ok (.ifCond .eq 5, 3) := by decide +kernel
theorem dX9_clause_27 : decode cX9_clause 27 = .ok (.iconst 4, 1) := by decide +kernel
theorem dX9_clause_28 : decode cX9_clause 28 = .ok (.ireturn, 1) := by decide +kernel
theorem dX9_clause_29 : decode cX9_clause 29 = .ok (.aload_n 0, 1) := by decide +kernel
theorem dX9_clause_30 : decode cX9_clause 30 = .ok (.getfield 16, 3) := by decide +kernel
theorem dX9_clause_33 : decode cX9_clause 33 = .ok (.aload_n 0, 1) := by decide +kernel
theorem dX9_clause_34 : decode cX9_clause 34 = .ok (.getfield 138, 3) := by decide +kernel
theorem dX9_clause_37 : decode cX9_clause 37 = .ok (.iaload, 1) := by decide +kernel
theorem dX9_clause_38 : decode cX9_clause 38 = .ok (.istore_n 2, 1) := by decide +kernel
theorem dX9_clause_39 : decode cX9_clause 39 = .ok (.iload_n 2, 1) := by decide +kernel
theorem dX9_clause_40 : decode cX9_clause 40 = .ok (.bipush 24, 2) := by decide +kernel
theorem dX9_clause_42 : decode cX9_clause 42 = .ok (.if_icmp .ne 6, 3) := by decide +kernel
theorem dX9_clause_45 : decode cX9_clause 45 = .ok (.bipush 6, 2) := by decide +kernel
theorem dX9_clause_47 : decode cX9_clause 47 = .ok (.ireturn, 1) := by decide +kernel
theorem dX9_clause_48 : decode cX9_clause 48 = .ok (.iload_n 1, 1) := by decide +kernel
theorem dX9_clause_49 : decode cX9_clause 49 = .ok (.iconst 1, 1) := by decide +kernel
theorem dX9_clause_50 : decode cX9_clause 50 = .ok (.if_icmp .gt 15, 3) := by decide +kernel
theorem dX9_clause_53 : decode cX9_clause 53 = .ok (.aload_n 0, 1) := by decide +kernel
theorem dX9_clause_54 : decode cX9_clause 54 = .ok (.dup, 1) := by decide +kernel
theorem dX9_clause_55 : decode cX9_clause 55 = .ok (.getfield 245, 3) := by decide +kernel
theorem dX9_clause_58 : decode cX9_clause 58 = .ok (.iconst 1, 1) := by decide +kernel
theorem dX9_clause_59 : decode cX9_clause 59 = .ok (.iload_n 1, 1) := by decide +kernel
theorem dX9_clause_60 : decode cX9_clause 60 = .ok (.ishl, 1) := by decide +kernel
theorem dX9_clause_61 : decode cX9_clause 61 = .ok (.ior, 1) := by decide +kernel
theorem dX9_clause_62 : decode cX9_clause 62 = .ok (.putfield 245, 3) := by decide +kernel
theorem dX9_clause_65 : decode cX9_clause 65 = .ok (.aload_n 0, 1) := by decide +kernel
theorem dX9_clause_66 : decode cX9_clause 66 = .ok (.iload_n 1, 1) := by decide +kernel
theorem dX9_clause_67 : decode cX9_clause 67 = .ok (.putfield 152, 3) := by decide +kernel
theorem dX9_clause_70 : decode cX9_clause 70 = .ok (.aload_n 0, 1) := by decide +kernel
theorem dX9_clause_71 : decode cX9_clause 71 = .ok (.invokevirtual 175, 3) := by decide +kernel
theorem dX9_clause_74 : decode cX9_clause 74 = .ok (.aload_n 0, 1) := by decide +kernel
theorem dX9_clause_75 : decode cX9_clause 75 = .ok (.getfield 138, 3) := by decide +kernel
theorem dX9_clause_78 : decode cX9_clause 78 = .ok (.iconst 1, 1) := by decide +kernel
theorem dX9_clause_79 : decode cX9_clause 79 = .ok (.iadd, 1) := by decide +kernel
theorem dX9_clause_80 : decode cX9_clause 80 = .ok (.iconst 4, 1) := by decide +kernel
theorem dX9_clause_81 : decode cX9_clause 81 = .ok (.iload_n 2, 1) := by decide +kernel
theorem dX9_clause_82 : decode cX9_clause 82 = .ok (.imul, 1) := by decide +kernel
theorem dX9_clause_83 : decode cX9_clause 83 = .ok (.iadd, 1) := by decide +kernel
theorem dX9_clause_84 : decode cX9_clause 84 = .ok (.istore_n 3, 1) := by decide +kernel
theorem dX9_clause_85 : decode cX9_clause 85 = .ok (.aload_n 0, 1) := by decide +kernel
theorem dX9_clause_86 : decode cX9_clause 86 = .ok (.getfield 16, 3) := by decide +kernel
theorem dX9_clause_89 : decode cX9_clause 89 = .ok (.iload_n 3, 1) := by decide +kernel
theorem dX9_clause_90 : decode cX9_clause 90 = .ok (.iload_n 1, 1) := by decide +kernel
theorem dX9_clause_91 : decode cX9_clause 91 = .ok (.iastore, 1) := by decide +kernel
theorem dX9_clause_92 : decode cX9_clause 92 = .ok (.aload_n 0, 1) := by decide +kernel
theorem dX9_clause_93 : decode cX9_clause 93 = .ok (.iload_n 1, 1) := by decide +kernel
theorem dX9_clause_94 : decode cX9_clause 94 = .ok (.iload_n 3, 1) := by decide +kernel
theorem dX9_clause_95 : decode cX9_clause 95 = .ok (.invokevirtual 252, 3) := by decide +kernel
theorem dX9_clause_98 : decode cX9_clause 98 = .ok (.istore 4, 2) := by decide +kernel
theorem dX9_clause_100 : decode cX9_clause 100 = .ok (.iload 4, 2) := by decide +kernel
theorem dX9_clause_102 : decode cX9_clause 102 = .ok (.ifCond .eq 6, 3) := by decide +kernel
theorem dX9_clause_105 : decode cX9_clause 105 = .ok (.iload 4, 2) := by decide +kernel
theorem dX9_clause_107 : decode cX9_clause 107 = .ok (.ireturn, 1) := by decide +kernel
theorem dX9_clause_108 : decode cX9_clause 108 = .ok (.aload_n 0, 1) := by decide +kernel
theorem dX9_clause_109 : decode cX9_clause 109 = .ok (.getfield 16, 3) := by decide +kernel
theorem dX9_clause_112 : decode cX9_clause 112 = .ok (.aload_n 0, 1) := by decide +kernel
theorem dX9_clause_113 : decode cX9_clause 113 = .ok (.getfield 138, 3) := by decide +kernel
theorem dX9_clause_116 : decode cX9_clause 116 = .ok (.dup2, 1) := by decide +kernel
theorem dX9_clause_117 : decode cX9_clause 117 = .ok (.iaload, 1) := by decide +kernel
theorem dX9_clause_118 : decode cX9_clause 118 = .ok (.iconst 1, 1) := by decide +kernel
theorem dX9_clause_119 : decode cX9_clause 119 = .ok (.iadd, 1) := by decide +kernel
theorem dX9_clause_120 : decode cX9_clause 120 = .ok (.iastore, 1) := by decide +kernel
theorem dX9_clause_121 : decode cX9_clause 121 = .ok (.aload_n 0, 1) := by decide +kernel
theorem dX9_clause_122 : decode cX9_clause 122 = .ok (.getfield 100, 3) := by decide +kernel
theorem dX9_clause_125 : decode cX9_clause 125 = .ok (.bipush 59, 2) := by decide +kernel
theorem dX9_clause_127 : decode cX9_clause 127 = .ok (.if_icmp .eq 5, 3) := by decide +kernel
theorem dX9_clause_130 : decode cX9_clause 130 = .ok (.iconst 1, 1) := by decide +kernel
theorem dX9_clause_131 : decode cX9_clause 131 = .ok (.ireturn, 1) := by decide +kernel
theorem dX9_clause_132 : decode cX9_clause 132 = .ok (.aload_n 0, 1) := by decide +kernel
theorem dX9_clause_133 : decode cX9_clause 133 = .ok (.invokevirtual 175, 3) := by decide +kernel
theorem dX9_clause_136 : decode cX9_clause 136 = .ok (.iconst 0, 1) := by decide +kernel
theorem dX9_clause_137 : decode cX9_clause 137 = .ok (.ireturn, 1) := by decide +kernel
theorem dX9_readText_0 : decode cX9_readText 0 = .ok (.aload_n 0, 1) := by decide +kernel
theorem dX9_readText_1 : decode cX9_readText 1 = .ok (.sipush 705, 3) := by decide +kernel
theorem dX9_readText_4 : decode cX9_readText 4 = .ok (.aload_n 0, 1) := by decide +kernel
theorem dX9_readText_5 : decode cX9_readText 5 = .ok (.getfield 7, 3) := by decide +kernel
theorem dX9_readText_8 : decode cX9_readText 8 = .ok (.iconst 2, 1) := by decide +kernel
theorem dX9_readText_9 : decode cX9_readText 9 = .ok (.iaload, 1) := by decide +kernel
theorem dX9_readText_10 : decode cX9_readText 10 = .ok (.imul, 1) := by decide +kernel
theorem dX9_readText_11 : decode cX9_readText 11 = .ok (.putfield 138, 3) := by decide +kernel
theorem dX9_readText_14 : decode cX9_readText 14 = .ok (.aload_n 0, 1) := by decide +kernel
theorem dX9_readText_15 : decode cX9_readText 15 = .ok (.getfield 16, 3) := by decide +kernel
theorem dX9_readText_18 : decode cX9_readText 18 = .ok (.aload_n 0, 1) := by decide +kernel
theorem dX9_readText_19 : decode cX9_readText 19 = .ok (.getfield 138, 3) := by decide +kernel
theorem dX9_readText_22 : decode cX9_readText 22 = .ok (.iconst 0, 1) := by decide +kernel
theorem dX9_readText_23 : decode cX9_readText 23 = .ok (.iastore, 1) := by decide +kernel
theorem dX9_readText_24 : decode cX9_readText 24 = .ok (.aload_n 0, 1) := by decide +kernel
theorem dX9_readText_25 : decode cX9_readText 25 = .ok (.iconst 0, 1) := by decide +kernel
theorem dX9_readText_26 : decode cX9_readText 26 = .ok (.putfield 141, 3) := by decide +kernel
theorem dX9_readText_29 : decode cX9_readText 29 = .ok (.aload_n 0, 1) := by decide +kernel
theorem dX9_readText_30 : decode cX9_readText 30 = .ok (.iconst 0, 1) := by decide +kernel
theorem dX9_readText_31 : decode cX9_readText 31 = .ok (.putfield 245, 3) := by decide +kernel
theorem dX9_readText_34 : decode cX9_readText 34 = .ok (.aload_n 0, 1) := by decide +kernel
theorem dX9_readText_35 : decode cX9_readText 35 = .ok (.iconst 0, 1) := by decide +kernel
theorem dX9_readText_36 : decode cX9_readText 36 = .ok (.putfield 91, 3) := by decide +kernel
theorem dX9_readText_39 : decode cX9_readText 39 = .ok (.aload_n 0, 1) := by decide +kernel
theorem dX9_readText_40 : decode cX9_readText 40 = .ok (.invokevirtual 175, 3) := by decide +kernel
theorem dX9_readText_43 : decode cX9_readText 43 = .ok (.aload_n 0, 1) := by decide +kernel
theorem dX9_readText_44 : decode cX9_readText 44 = .ok (.getfield 100, 3) := by decide +kernel
theorem dX9_readText_47 : decode cX9_readText 47 = .ok (.ifCond .eq 17, 3) := by decide +kernel
theorem dX9_readText_50 : decode cX9_readText 50 = .ok (.aload_n 0, 1) := by decide +kernel
theorem dX9_readText_51 : decode cX9_readText 51 = .ok (.invokevirtual 256, 3) := by decide +kernel
theorem dX9_readText_54 : decode cX9_readText 54 = .ok (.istore_n 1, 1) := by decide +kernel
theorem dX9_readText_55 : decode cX9_readText 55 = .ok (.iload_n 1, 1) := by decide +kernel
theorem dX9_readText_56 : decode cX9_readText 56 = .ok (.ifCond .eq 5, 3) := by decide +kernel
theorem dX9_readText_59 : decode cX9_readText 59 = .ok (.iload_n 1, 1) := by decide +kernel
theorem dX9_readText_60 : decode cX9_readText 60 = .ok (.ireturn, 1) := by decide +kernel
theorem dX9_readText_61 : decode cX9_readText 61 = .ok (.goto (-18), 3) := by decide +kernel
theorem dX9_readText_64 : decode cX9_readText 64 = .ok (.iconst 0, 1) := by decide +kernel
theorem dX9_readText_65 : decode cX9_readText 65 = .ok (.ireturn, 1) := by decide +kernel
theorem dX9_text_0 : decode cX9_text 0 = .ok (.aload_n 0, 1) := by decide +kernel
theorem dX9_text_1 : decode cX9_text 1 = .ok (.getfield 7, 3) := by decide +kernel
theorem dX9_text_4 : decode cX9_text 4 = .ok (.iconst 2, 1) := by decide +kernel
theorem dX9_text_5 : decode cX9_text 5 = .ok (.iaload, 1) := by decide +kernel
theorem dX9_text_6 : decode cX9_text 6 = .ok (.iconst 4, 1) := by decide +kernel
theorem dX9_text_7 : decode cX9_text 7 = .ok (.if_icmp .ne 5, 3) := by decide +kernel
theorem dX9_text_10 : decode cX9_text 10 = .ok (.iconst (-1), 1) := by decide +kernel
theorem dX9_text_11 : decode cX9_text 11 = .ok (.ireturn, 1) := by decide +kernel
theorem dX9_text_12 : decode cX9_text 12 = .ok (.aload_n 0, 1) := by decide +kernel
theorem dX9_text_13 : decode cX9_text 13 = .ok (.aload_n 0, 1) := by decide +kernel
theorem dX9_text_14 : decode cX9_text 14 = .ok (.invokevirtual 259, 3) := by decide +kernel
theorem dX9_text_17 : decode cX9_text 17 = .ok (.putfield 22, 3) := by decide +kernel
theorem dX9_text_20 : decode cX9_text 20 = .ok (.aload_n 0, 1) := by decide +kernel
theorem dX9_text_21 : decode cX9_text 21 = .ok (.aload_n 0, 1) := by decide +kernel
theorem dX9_text_22 : decode cX9_text 22 = .ok (.getfield 22, 3) := by decide +kernel
theorem dX9_text_25 : decode cX9_text 25 = .ok (.ifCond .ne 7, 3) := by decide +kernel
theorem dX9_text_28 : decode cX9_text 28 = .ok (.iconst (-1), 1) := by decide +kernel
theorem dX9_text_29 : decode cX9_text 29 = .ok (.goto 7, 3) := by decide +kernel
theorem dX9_text_32 : decode cX9_text 32 = .ok (.aload_n 0, 1) := by decide +kernel
theorem dX9_text_33 : decode cX9_text 33 = .ok (.getfield 97, 3) := by decide +kernel
theorem dX9_text_36 : decode cX9_text 36 = .ok (.putfield 26, 3) := by decide +kernel
theorem dX9_text_39 : decode cX9_text 39 = .ok (.aload_n 0, 1) := by decide +kernel
theorem dX9_text_40 : decode cX9_text 40 = .ok (.iconst 0, 1) := by decide +kernel
theorem dX9_text_41 : decode cX9_text 41 = .ok (.putfield 85, 3) := by decide +kernel
theorem dX9_text_44 : decode cX9_text 44 = .ok (.aload_n 0, 1) := by decide +kernel
theorem dX9_text_45 : decode cX9_text 45 = .ok (.getfield 22, 3) := by decide +kernel
theorem dX9_text_48 : decode cX9_text 48 = .ok (.ifCond .eq 5, 3) := by decide +kernel
theorem dX9_text_51 : decode cX9_text 51 = .ok (.iconst (-1), 1) := by decide +kernel
theorem dX9_text_52 : decode cX9_text 52 = .ok (.ireturn, 1) := by decide +kernel
theorem dX9_text_53 : decode cX9_text 53 = .ok (.aload_n 0, 1) := by decide +kernel
theorem dX9_text_54 : decode cX9_text 54 = .ok (.getfield 7, 3) := by decide +kernel
theorem dX9_text_57 : decode cX9_text 57 = .ok (.iconst 2, 1) := by decide +kernel
theorem dX9_text_58 : decode cX9_text 58 = .ok (.dup2, 1) := by decide +kernel
theorem dX9_text_59 : decode cX9_text 59 = .ok (.iaload, 1) := by decide +kernel
theorem dX9_text_60 : decode cX9_text 60 = .ok (.iconst 1, 1) := by decide +kernel
theorem dX9_text_61 : decode cX9_text 61 = .ok (.iadd, 1) := by decide +kernel
theorem dX9_text_62 : decode cX9_text 62 = .ok (.iastore, 1) := by decide +kernel
theorem dX9_text_63 : decode cX9_text 63 = .ok (.aload_n 0, 1) := by decide +kernel
theorem dX9_text_64 : decode cX9_text 64 = .ok (.getfield 7, 3) := by decide +kernel
theorem dX9_text_67 : decode cX9_text 67 = .ok (.iconst 2, 1) := by decide +kernel
theorem dX9_text_68 : decode cX9_text 68 = .ok (.iaload, 1) := by decide +kernel
theorem dX9_text_69 : decode cX9_text 69 = .ok (.iconst 1, 1) := by decide +kernel
theorem dX9_text_70 : decode cX9_text 70 = .ok (.isub, 1) := by decide +kernel
theorem dX9_text_71 : decode cX9_text 71 = .ok (.ireturn, 1) := by decide +kernel
theorem dX9_fault_0 : decode cX9_fault 0 = .ok (.iload_n 1, 1) := by decide +kernel
theorem dX9_fault_1 : decode cX9_fault 1 = .ok (.ifCond .ne 10, 3) := by decide +kernel
theorem dX9_fault_4 : decode cX9_fault 4 = .ok (.aload_n 0, 1) := by decide +kernel
theorem dX9_fault_5 : decode cX9_fault 5 = .ok (.getfield 22, 3) := by decide +kernel
theorem dX9_fault_8 : decode cX9_fault 8 = .ok (.goto 16, 3) := by decide +kernel
theorem dX9_fault_11 : decode cX9_fault 11 = .ok (.iload_n 1, 1) := by decide +kernel
theorem dX9_fault_12 : decode cX9_fault 12 = .ok (.iconst 1, 1) := by decide +kernel
theorem dX9_fault_13 : decode cX9_fault 13 = .ok (.if_icmp .ne 10, 3) := by decide +kernel
theorem dX9_fault_16 : decode cX9_fault 16 = .ok (.aload_n 0, 1) := by decide +kernel
theorem dX9_fault_17 : decode cX9_fault 17 = .ok (.getfield 26, 3) := by decide +kernel
theorem dX9_fault_20 : decode cX9_fault 20 = .ok (.goto 4, 3) := by decide +kernel
theorem dX9_fault_23 : decode cX9_fault 23 = .ok (.iconst (-1), 1) := by decide +kernel
theorem dX9_fault_24 : decode cX9_fault 24 = .ok (.ireturn, 1) := by decide +kernel
theorem dX9_by_0 : decode cX9_by 0 = .ok (.iload_n 1, 1) := by decide +kernel
theorem dX9_by_1 : decode cX9_by 1 = .ok (.iconst (-1), 1) := by decide +kernel
theorem dX9_by_2 : decode cX9_by 2 = .ok (.aload_n 0, 1) := by decide +kernel
theorem dX9_by_3 : decode cX9_by 3 = .ok (.getfield 7, 3) := by decide +kernel
theorem dX9_by_6 : decode cX9_by 6 = .ok (.iconst 2, 1) := by decide +kernel
theorem dX9_by_7 : decode cX9_by 7 = .ok (.iaload, 1) := by decide +kernel
theorem dX9_by_8 : decode cX9_by 8 = .ok (.iconst 1, 1) := by decide +kernel
theorem dX9_by_9 : decode cX9_by 9 = .ok (.isub, 1) := by decide +kernel
theorem dX9_by_10 : decode cX9_by 10 = .ok (.invokestatic 69, 3) := by decide +kernel
theorem dX9_by_13 : decode cX9_by 13 = .ok (.ifCond .ne 5, 3) := by decide +kernel
theorem dX9_by_16 : decode cX9_by 16 = .ok (.iconst 0, 1) := by decide +kernel
theorem dX9_by_17 : decode cX9_by 17 = .ok (.ireturn, 1) := by decide +kernel
theorem dX9_by_18 : decode cX9_by 18 = .ok (.aload_n 0, 1) := by decide +kernel
theorem dX9_by_19 : decode cX9_by 19 = .ok (.getfield 7, 3) := by decide +kernel
theorem dX9_by_22 : decode cX9_by 22 = .ok (.iconst 3, 1) := by decide +kernel
theorem dX9_by_23 : decode cX9_by 23 = .ok (.iload_n 1, 1) := by decide +kernel
theorem dX9_by_24 : decode cX9_by 24 = .ok (.iastore, 1) := by decide +kernel
theorem dX9_by_25 : decode cX9_by 25 = .ok (.iconst 1, 1) := by decide +kernel
theorem dX9_by_26 : decode cX9_by 26 = .ok (.ireturn, 1) := by decide +kernel
theorem dX9_clip_0 : decode cX9_clip 0 = .ok (.lload_n 0, 1) := by decide +kernel
theorem dX9_clip_1 : decode cX9_clip 1 = .ok (.ldc2_w 262, 3) := by decide +kernel
theorem dX9_clip_4 : decode cX9_clip 4 = .ok (.lcmp, 1) := by decide +kernel
theorem dX9_clip_5 : decode cX9_clip 5 = .ok (.ifCond .le 9, 3) := by decide +kernel
theorem dX9_clip_8 : decode cX9_clip 8 = .ok (.ldc2_w 262, 3) := by decide +kernel
theorem dX9_clip_11 : decode cX9_clip 11 = .ok (.goto 18, 3) := by decide +kernel
theorem dX9_clip_14 : decode cX9_clip 14 = .ok (.lload_n 0, 1) := by decide +kernel
theorem dX9_clip_15 : decode cX9_clip 15 = .ok (.ldc2_w 264, 3) := by decide +kernel
theorem dX9_clip_18 : decode cX9_clip 18 = .ok (.lcmp, 1) := by decide +kernel
theorem dX9_clip_19 : decode cX9_clip 19 = .ok (.ifCond .ge 9, 3) := by decide +kernel
theorem dX9_clip_22 : decode cX9_clip 22 = .ok (.ldc2_w 264, 3) := by decide +kernel
theorem dX9_clip_25 : decode cX9_clip 25 = .ok (.goto 4, 3) := by decide +kernel
theorem dX9_clip_28 : decode cX9_clip 28 = .ok (.lload_n 0, 1) := by decide +kernel
theorem dX9_clip_29 : decode cX9_clip 29 = .ok (.lreturn, 1) := by decide +kernel
theorem dX9_two_0 : decode cX9_two 0 = .ok (.iload_n 0, 1) := by decide +kernel
theorem dX9_two_1 : decode cX9_two 1 = .ok (.tableswitch 48 6 8 #[27, 34, 41], 27) := by decide +kernel
theorem dX9_two_28 : decode cX9_two 28 = .ok (.lload_n 1, 1) := by decide +kernel
theorem dX9_two_29 : decode cX9_two 29 = .ok (.lload_n 3, 1) := by decide +kernel
theorem dX9_two_30 : decode cX9_two 30 = .ok (.ladd, 1) := by decide +kernel
theorem dX9_two_31 : decode cX9_two 31 = .ok (.invokestatic 266, 3) := by decide +kernel
theorem dX9_two_34 : decode cX9_two 34 = .ok (.lreturn, 1) := by decide +kernel
theorem dX9_two_35 : decode cX9_two 35 = .ok (.lload_n 1, 1) := by decide +kernel
theorem dX9_two_36 : decode cX9_two 36 = .ok (.lload_n 3, 1) := by decide +kernel
theorem dX9_two_37 : decode cX9_two 37 = .ok (.lsub, 1) := by decide +kernel
theorem dX9_two_38 : decode cX9_two 38 = .ok (.invokestatic 266, 3) := by decide +kernel
theorem dX9_two_41 : decode cX9_two 41 = .ok (.lreturn, 1) := by decide +kernel
theorem dX9_two_42 : decode cX9_two 42 = .ok (.lload_n 1, 1) := by decide +kernel
theorem dX9_two_43 : decode cX9_two 43 = .ok (.lload_n 3, 1) := by decide +kernel
theorem dX9_two_44 : decode cX9_two 44 = .ok (.lmul, 1) := by decide +kernel
theorem dX9_two_45 : decode cX9_two 45 = .ok (.invokestatic 266, 3) := by decide +kernel
theorem dX9_two_48 : decode cX9_two 48 = .ok (.lreturn, 1) := by decide +kernel
theorem dX9_two_49 : decode cX9_two 49 = .ok (.lload_n 3, 1) := by decide +kernel
theorem dX9_two_50 : decode cX9_two 50 = .ok (.lconst 0, 1) := by decide +kernel
theorem dX9_two_51 : decode cX9_two 51 = .ok (.lcmp, 1) := by decide +kernel
theorem dX9_two_52 : decode cX9_two 52 = .ok (.ifCond .ne 7, 3) := by decide +kernel
theorem dX9_two_55 : decode cX9_two 55 = .ok (.lconst 0, 1) := by decide +kernel
theorem dX9_two_56 : decode cX9_two 56 = .ok (.goto 9, 3) := by decide +kernel
theorem dX9_two_59 : decode cX9_two 59 = .ok (.lload_n 1, 1) := by decide +kernel
theorem dX9_two_60 : decode cX9_two 60 = .ok (.lload_n 3, 1) := by decide +kernel
theorem dX9_two_61 : decode cX9_two 61 = .ok (.ldiv, 1) := by decide +kernel
theorem dX9_two_62 : decode cX9_two 62 = .ok (.invokestatic 266, 3) := by decide +kernel
theorem dX9_two_65 : decode cX9_two 65 = .ok (.lreturn, 1) := by decide +kernel
theorem dX9_isAsked_0 : decode cX9_isAsked 0 = .ok (.iload_n 0, 1) := by decide +kernel
theorem dX9_isAsked_1 : decode cX9_isAsked 1 = .ok (.bipush 10, 2) := by decide +kernel
theorem dX9_isAsked_3 : decode cX9_isAsked 3 = .ok (.if_icmp .ne 17, 3) := by decide +kernel
theorem dX9_isAsked_6 : decode cX9_isAsked 6 = .ok (.lload_n 1, 1) := by decide +kernel
theorem dX9_isAsked_7 : decode cX9_isAsked 7 = .ok (.lload_n 3, 1) := by decide +kernel
theorem dX9_isAsked_8 : decode cX9_isAsked 8 = .ok (.lcmp, 1) := by decide +kernel
theorem dX9_isAsked_9 : decode cX9_isAsked 9 = .ok (.ifCond .ge 7, 3) := by decide +kernel
theorem dX9_isAsked_12 : decode cX9_isAsked 12 = .ok (.iconst 1, 1) := by decide +kernel
theorem dX9_isAsked_13 : decode cX9_isAsked 13 = .ok (.goto 98, 3) := by decide +kernel
theorem dX9_isAsked_16 : decode cX9_isAsked 16 = .ok (.iconst 0, 1) := by decide +kernel
theorem dX9_isAsked_17 : decode cX9_isAsked 17 = .ok (.goto 94, 3) := by decide +kernel
theorem dX9_isAsked_20 : decode cX9_isAsked 20 = .ok (.iload_n 0, 1) := by decide +kernel
theorem dX9_isAsked_21 : decode cX9_isAsked 21 = .ok (.bipush 11, 2) := by decide +kernel
theorem dX9_isAsked_23 : decode cX9_isAsked 23 = .ok (.if_icmp .ne 17, 3) := by decide +kernel
theorem dX9_isAsked_26 : decode cX9_isAsked 26 = .ok (.lload_n 1, 1) := by decide +kernel
theorem dX9_isAsked_27 : decode cX9_isAsked 27 = .ok (.lload_n 3, 1) := by decide +kernel
theorem dX9_isAsked_28 : decode cX9_isAsked 28 = .ok (.lcmp, 1) := by decide +kernel
theorem dX9_isAsked_29 : decode cX9_isAsked 29 = .ok (.ifCond .gt 7, 3) := by decide +kernel
theorem dX9_isAsked_32 : decode cX9_isAsked 32 = .ok (.iconst 1, 1) := by decide +kernel
theorem dX9_isAsked_33 : decode cX9_isAsked 33 = .ok (.goto 78, 3) := by decide +kernel
theorem dX9_isAsked_36 : decode cX9_isAsked 36 = .ok (.iconst 0, 1) := by decide +kernel
theorem dX9_isAsked_37 : decode cX9_isAsked 37 = .ok (.goto 74, 3) := by decide +kernel
theorem dX9_isAsked_40 : decode cX9_isAsked 40 = .ok (.iload_n 0, 1) := by decide +kernel
theorem dX9_isAsked_41 : decode cX9_isAsked 41 = .ok (.bipush 12, 2) := by decide +kernel
theorem dX9_isAsked_43 : decode cX9_isAsked 43 = .ok (.if_icmp .ne 17, 3) := by decide +kernel
theorem dX9_isAsked_46 : decode cX9_isAsked 46 = .ok (.lload_n 1, 1) := by decide +kernel
theorem dX9_isAsked_47 : decode cX9_isAsked 47 = .ok (.lload_n 3, 1) := by decide +kernel
theorem dX9_isAsked_48 : decode cX9_isAsked 48 = .ok (.lcmp, 1) := by decide +kernel
theorem dX9_isAsked_49 : decode cX9_isAsked 49 = .ok (.ifCond .le 7, 3) := by decide +kernel
theorem dX9_isAsked_52 : decode cX9_isAsked 52 = .ok (.iconst 1, 1) := by decide +kernel
theorem dX9_isAsked_53 : decode cX9_isAsked 53 = .ok (.goto 58, 3) := by decide +kernel
theorem dX9_isAsked_56 : decode cX9_isAsked 56 = .ok (.iconst 0, 1) := by decide +kernel
theorem dX9_isAsked_57 : decode cX9_isAsked 57 = .ok (.goto 54, 3) := by decide +kernel
theorem dX9_isAsked_60 : decode cX9_isAsked 60 = .ok (.iload_n 0, 1) := by decide +kernel
theorem dX9_isAsked_61 : decode cX9_isAsked 61 = .ok (.bipush 13, 2) := by decide +kernel
theorem dX9_isAsked_63 : decode cX9_isAsked 63 = .ok (.if_icmp .ne 17, 3) := by decide +kernel
theorem dX9_isAsked_66 : decode cX9_isAsked 66 = .ok (.lload_n 1, 1) := by decide +kernel
theorem dX9_isAsked_67 : decode cX9_isAsked 67 = .ok (.lload_n 3, 1) := by decide +kernel
theorem dX9_isAsked_68 : decode cX9_isAsked 68 = .ok (.lcmp, 1) := by decide +kernel
theorem dX9_isAsked_69 : decode cX9_isAsked 69 = .ok (.ifCond .lt 7, 3) := by decide +kernel
theorem dX9_isAsked_72 : decode cX9_isAsked 72 = .ok (.iconst 1, 1) := by decide +kernel
theorem dX9_isAsked_73 : decode cX9_isAsked 73 = .ok (.goto 38, 3) := by decide +kernel
theorem dX9_isAsked_76 : decode cX9_isAsked 76 = .ok (.iconst 0, 1) := by decide +kernel
theorem dX9_isAsked_77 : decode cX9_isAsked 77 = .ok (.goto 34, 3) := by decide +kernel
theorem dX9_isAsked_80 : decode cX9_isAsked 80 = .ok (.iload_n 0, 1) := by decide +kernel
theorem dX9_isAsked_81 : decode cX9_isAsked 81 = .ok (.bipush 14, 2) := by decide +kernel
theorem dX9_isAsked_83 : decode cX9_isAsked 83 = .ok (.if_icmp .ne 17, 3) := by decide +kernel
theorem dX9_isAsked_86 : decode cX9_isAsked 86 = .ok (.lload_n 1, 1) := by decide +kernel
theorem dX9_isAsked_87 : decode cX9_isAsked 87 = .ok (.lload_n 3, 1) := by decide +kernel
theorem dX9_isAsked_88 : decode cX9_isAsked 88 = .ok (.lcmp, 1) := by decide +kernel
theorem dX9_isAsked_89 : decode cX9_isAsked 89 = .ok (.ifCond .ne 7, 3) := by decide +kernel
theorem dX9_isAsked_92 : decode cX9_isAsked 92 = .ok (.iconst 1, 1) := by decide +kernel
theorem dX9_isAsked_93 : decode cX9_isAsked 93 = .ok (.goto 18, 3) := by decide +kernel
theorem dX9_isAsked_96 : decode cX9_isAsked 96 = .ok (.iconst 0, 1) := by decide +kernel
theorem dX9_isAsked_97 : decode cX9_isAsked 97 = .ok (.goto 14, 3) := by decide +kernel
theorem dX9_isAsked_100 : decode cX9_isAsked 100 = .ok (.lload_n 1, 1) := by decide +kernel
theorem dX9_isAsked_101 : decode cX9_isAsked 101 = .ok (.lload_n 3, 1) := by decide +kernel
theorem dX9_isAsked_102 : decode cX9_isAsked 102 = .ok (.lcmp, 1) := by decide +kernel
theorem dX9_isAsked_103 : decode cX9_isAsked 103 = .ok (.ifCond .eq 7, 3) := by decide +kernel
theorem dX9_isAsked_106 : decode cX9_isAsked 106 = .ok (.iconst 1, 1) := by decide +kernel
theorem dX9_isAsked_107 : decode cX9_isAsked 107 = .ok (.goto 4, 3) := by decide +kernel
theorem dX9_isAsked_110 : decode cX9_isAsked 110 = .ok (.iconst 0, 1) := by decide +kernel
theorem dX9_isAsked_111 : decode cX9_isAsked 111 = .ok (.ireturn, 1) := by decide +kernel
theorem dX9_lampLit_0 : decode cX9_lampLit 0 = .ok (.lload_n 1, 1) := by decide +kernel
theorem dX9_lampLit_1 : decode cX9_lampLit 1 = .ok (.lconst 0, 1) := by decide +kernel
theorem dX9_lampLit_2 : decode cX9_lampLit 2 = .ok (.lcmp, 1) := by decide +kernel
theorem dX9_lampLit_3 : decode cX9_lampLit 3 = .ok (.ifCond .lt 30, 3) := by decide +kernel
theorem dX9_lampLit_6 : decode cX9_lampLit 6 = .ok (.lload_n 1, 1) := by decide +kernel
theorem dX9_lampLit_7 : decode cX9_lampLit 7 = .ok (.ldc2_w 270, 3) := by decide +kernel
theorem dX9_lampLit_10 : decode cX9_lampLit 10 = .ok (.lcmp, 1) := by decide +kernel
theorem dX9_lampLit_11 : decode cX9_lampLit 11 = .ok (.ifCond .ge 22, 3) := by decide +kernel
theorem dX9_lampLit_14 : decode cX9_lampLit 14 = .ok (.aload_n 0, 1) := by decide +kernel
theorem dX9_lampLit_15 : decode cX9_lampLit 15 = .ok (.getfield 7, 3) := by decide +kernel
theorem dX9_lampLit_18 : decode cX9_lampLit 18 = .ok (.bipush 10, 2) := by decide +kernel
theorem dX9_lampLit_20 : decode cX9_lampLit 20 = .ok (.iaload, 1) := by decide +kernel
theorem dX9_lampLit_21 : decode cX9_lampLit 21 = .ok (.lload_n 1, 1) := by decide +kernel
theorem dX9_lampLit_22 : decode cX9_lampLit 22 = .ok (.l2i, 1) := by decide +kernel
theorem dX9_lampLit_23 : decode cX9_lampLit 23 = .ok (.invokestatic 248, 3) := by decide +kernel
theorem dX9_lampLit_26 : decode cX9_lampLit 26 = .ok (.ifCond .eq 7, 3) := by decide +kernel
theorem dX9_lampLit_29 : decode cX9_lampLit 29 = .ok (.lconst 1, 1) := by decide +kernel
theorem dX9_lampLit_30 : decode cX9_lampLit 30 = .ok (.goto 4, 3) := by decide +kernel
theorem dX9_lampLit_33 : decode cX9_lampLit 33 = .ok (.lconst 0, 1) := by decide +kernel
theorem dX9_lampLit_34 : decode cX9_lampLit 34 = .ok (.lreturn, 1) := by decide +kernel
theorem dX9_roundOf_0 : decode cX9_roundOf 0 = .ok (.lload_n 0, 1) := by decide +kernel
theorem dX9_roundOf_1 : decode cX9_roundOf 1 = .ok (.lconst 0, 1) := by decide +kernel
theorem dX9_roundOf_2 : decode cX9_roundOf 2 = .ok (.lcmp, 1) := by decide +kernel
theorem dX9_roundOf_3 : decode cX9_roundOf 3 = .ok (.ifCond .lt 25, 3) := by decide +kernel
theorem dX9_roundOf_6 : decode cX9_roundOf 6 = .ok (.lload_n 2, 1) := by decide +kernel
theorem dX9_roundOf_7 : decode cX9_roundOf 7 = .ok (.lconst 0, 1) := by decide +kernel
theorem dX9_roundOf_8 : decode cX9_roundOf 8 = .ok (.lcmp, 1) := by decide +kernel
theorem dX9_roundOf_9 : decode cX9_roundOf 9 = .ok (.ifCond .lt 19, 3) := by decide +kernel
theorem dX9_roundOf_12 : decode cX9_roundOf 12 = .ok (.lload_n 0, 1) := by decide +kernel
theorem dX9_roundOf_13 : decode cX9_roundOf 13 = .ok (.ldc2_w 270, 3) := by decide +kernel
theorem dX9_roundOf_16 : decode cX9_roundOf 16 = .ok (.lcmp, 1) := by decide +kernel
theorem dX9_roundOf_17 : decode cX9_roundOf 17 = .ok (.ifCond .ge 11, 3) := by decide +kernel
theorem dX9_roundOf_20 : decode cX9_roundOf 20 = .ok (.lload_n 2, 1) := by decide +kernel
theorem dX9_roundOf_21 : decode cX9_roundOf 21 = .ok (.ldc2_w 270, 3) := by decide +kernel
theorem dX9_roundOf_24 : decode cX9_roundOf 24 = .ok (.lcmp, 1) := by decide +kernel
theorem dX9_roundOf_25 : decode cX9_roundOf 25 = .ok (.ifCond .lt 5, 3) := by decide +kernel
theorem dX9_roundOf_28 : decode cX9_roundOf 28 = .ok (.lconst 0, 1) := by decide +kernel
theorem dX9_roundOf_29 : decode cX9_roundOf 29 = .ok (.lreturn, 1) := by decide +kernel
theorem dX9_roundOf_30 : decode cX9_roundOf 30 = .ok (.lload_n 0, 1) := by decide +kernel
theorem dX9_roundOf_31 : decode cX9_roundOf 31 = .ok (.lload_n 2, 1) := by decide +kernel
theorem dX9_roundOf_32 : decode cX9_roundOf 32 = .ok (.lcmp, 1) := by decide +kernel
theorem dX9_roundOf_33 : decode cX9_roundOf 33 = .ok (.ifCond .ge 9, 3) := by decide +kernel
theorem dX9_roundOf_36 : decode cX9_roundOf 36 = .ok (.lload_n 2, 1) := by decide +kernel
theorem dX9_roundOf_37 : decode cX9_roundOf 37 = .ok (.lload_n 0, 1) := by decide +kernel
theorem dX9_roundOf_38 : decode cX9_roundOf 38 = .ok (.lsub, 1) := by decide +kernel
theorem dX9_roundOf_39 : decode cX9_roundOf 39 = .ok (.goto 6, 3) := by decide +kernel
theorem dX9_roundOf_42 : decode cX9_roundOf 42 = .ok (.lload_n 0, 1) := by decide +kernel
theorem dX9_roundOf_43 : decode cX9_roundOf 43 = .ok (.lload_n 2, 1) := by decide +kernel
theorem dX9_roundOf_44 : decode cX9_roundOf 44 = .ok (.lsub, 1) := by decide +kernel
theorem dX9_roundOf_45 : decode cX9_roundOf 45 = .ok (.lstore 4, 2) := by decide +kernel
theorem dX9_roundOf_47 : decode cX9_roundOf 47 = .ok (.lload 4, 2) := by decide +kernel
theorem dX9_roundOf_49 : decode cX9_roundOf 49 = .ok (.ldc2_w 270, 3) := by decide +kernel
theorem dX9_roundOf_52 : decode cX9_roundOf 52 = .ok (.lload 4, 2) := by decide +kernel
theorem dX9_roundOf_54 : decode cX9_roundOf 54 = .ok (.lsub, 1) := by decide +kernel
theorem dX9_roundOf_55 : decode cX9_roundOf 55 = .ok (.lcmp, 1) := by decide +kernel
theorem dX9_roundOf_56 : decode cX9_roundOf 56 = .ok (.ifCond .le 12, 3) := by decide +kernel
theorem dX9_roundOf_59 : decode cX9_roundOf 59 = .ok (.ldc2_w 270, 3) := by decide +kernel
theorem dX9_roundOf_62 : decode cX9_roundOf 62 = .ok (.lload 4, 2) := by decide +kernel
theorem dX9_roundOf_64 : decode cX9_roundOf 64 = .ok (.lsub, 1) := by decide +kernel
theorem dX9_roundOf_65 : decode cX9_roundOf 65 = .ok (.goto 5, 3) := by decide +kernel
theorem dX9_roundOf_68 : decode cX9_roundOf 68 = .ok (.lload 4, 2) := by decide +kernel
theorem dX9_roundOf_70 : decode cX9_roundOf 70 = .ok (.lreturn, 1) := by decide +kernel
theorem dX9_joined_0 : decode cX9_joined 0 = .ok (.iload_n 0, 1) := by decide +kernel
theorem dX9_joined_1 : decode cX9_joined 1 = .ok (.bipush 21, 2) := by decide +kernel
theorem dX9_joined_3 : decode cX9_joined 3 = .ok (.if_icmp .ne 19, 3) := by decide +kernel
theorem dX9_joined_6 : decode cX9_joined 6 = .ok (.iload_n 1, 1) := by decide +kernel
theorem dX9_joined_7 : decode cX9_joined 7 = .ok (.ifCond .eq 11, 3) := by decide +kernel
theorem dX9_joined_10 : decode cX9_joined 10 = .ok (.iload_n 2, 1) := by decide +kernel
theorem dX9_joined_11 : decode cX9_joined 11 = .ok (.ifCond .eq 7, 3) := by decide +kernel
theorem dX9_joined_14 : decode cX9_joined 14 = .ok (.iconst 1, 1) := by decide +kernel
theorem dX9_joined_15 : decode cX9_joined 15 = .ok (.goto 20, 3) := by decide +kernel
theorem dX9_joined_18 : decode cX9_joined 18 = .ok (.iconst 0, 1) := by decide +kernel
theorem dX9_joined_19 : decode cX9_joined 19 = .ok (.goto 16, 3) := by decide +kernel
theorem dX9_joined_22 : decode cX9_joined 22 = .ok (.iload_n 1, 1) := by decide +kernel
theorem dX9_joined_23 : decode cX9_joined 23 = .ok (.ifCond .ne 7, 3) := by decide +kernel
theorem dX9_joined_26 : decode cX9_joined 26 = .ok (.iload_n 2, 1) := by decide +kernel
theorem dX9_joined_27 : decode cX9_joined 27 = .ok (.ifCond .eq 7, 3) := by decide +kernel
theorem dX9_joined_30 : decode cX9_joined 30 = .ok (.iconst 1, 1) := by decide +kernel
theorem dX9_joined_31 : decode cX9_joined 31 = .ok (.goto 4, 3) := by decide +kernel
theorem dX9_joined_34 : decode cX9_joined 34 = .ok (.iconst 0, 1) := by decide +kernel
theorem dX9_joined_35 : decode cX9_joined 35 = .ok (.ireturn, 1) := by decide +kernel
theorem dX9_summedUp_0 : decode cX9_summedUp 0 = .ok (.sipush 705, 3) := by decide +kernel
theorem dX9_summedUp_3 : decode cX9_summedUp 3 = .ok (.iload_n 1, 1) := by decide +kernel
theorem dX9_summedUp_4 : decode cX9_summedUp 4 = .ok (.imul, 1) := by decide +kernel
theorem dX9_summedUp_5 : decode cX9_summedUp 5 = .ok (.iconst 1, 1) := by decide +kernel
theorem dX9_summedUp_6 : decode cX9_summedUp 6 = .ok (.iadd, 1) := by decide +kernel
theorem dX9_summedUp_7 : decode cX9_summedUp 7 = .ok (.iconst 4, 1) := by decide +kernel
theorem dX9_summedUp_8 : decode cX9_summedUp 8 = .ok (.iload_n 2, 1) := by decide +kernel
theorem dX9_summedUp_9 : decode cX9_summedUp 9 = .ok (.imul, 1) := by decide +kernel
theorem dX9_summedUp_10 : decode cX9_summedUp 10 = .ok (.iadd, 1) := by decide +kernel
theorem dX9_summedUp_11 : decode cX9_summedUp 11 = .ok (.istore_n 3, 1) := by decide +kernel
theorem dX9_summedUp_12 : decode cX9_summedUp 12 = .ok (.sipush 705, 3) := by decide +kernel
theorem dX9_summedUp_15 : decode cX9_summedUp 15 = .ok (.iload_n 1, 1) := by decide +kernel
theorem dX9_summedUp_16 : decode cX9_summedUp 16 = .ok (.imul, 1) := by decide +kernel
theorem dX9_summedUp_17 : decode cX9_summedUp 17 = .ok (.bipush 97, 2) := by decide +kernel
theorem dX9_summedUp_19 : decode cX9_summedUp 19 = .ok (.iadd, 1) := by decide +kernel
theorem dX9_summedUp_20 : decode cX9_summedUp 20 = .ok (.istore 4, 2) := by decide +kernel
theorem dX9_summedUp_22 : decode cX9_summedUp 22 = .ok (.iconst 0, 1) := by decide +kernel
theorem dX9_summedUp_23 : decode cX9_summedUp 23 = .ok (.istore 5, 2) := by decide +kernel
theorem dX9_summedUp_25 : decode cX9_summedUp 25 = .ok (.iconst 0, 1) := by decide +kernel
theorem dX9_summedUp_26 : decode cX9_summedUp 26 = .ok (.istore 6, 2) := by decide +kernel
theorem dX9_summedUp_28 : decode cX9_summedUp 28 = .ok (.aload_n 0, 1) := by decide +kernel
theorem dX9_summedUp_29 : decode cX9_summedUp 29 = .ok (.getfield 16, 3) := by decide +kernel
theorem dX9_summedUp_32 : decode cX9_summedUp 32 = .ok (.iload_n 3, 1) := by decide +kernel
theorem dX9_summedUp_33 : decode cX9_summedUp 33 = .ok (.iconst 1, 1) := by decide +kernel
theorem dX9_summedUp_34 : decode cX9_summedUp 34 = .ok (.iadd, 1) := by decide +kernel
theorem dX9_summedUp_35 : decode cX9_summedUp 35 = .ok (.iaload, 1) := by decide +kernel
theorem dX9_summedUp_36 : decode cX9_summedUp 36 = .ok (.istore 7, 2) := by decide +kernel
theorem dX9_summedUp_38 : decode cX9_summedUp 38 = .ok (.iload 7, 2) := by decide +kernel
theorem dX9_summedUp_40 : decode cX9_summedUp 40 = .ok (.aload_n 0, 1) := by decide +kernel
theorem dX9_summedUp_41 : decode cX9_summedUp 41 = .ok (.getfield 16, 3) := by decide +kernel
theorem dX9_summedUp_44 : decode cX9_summedUp 44 = .ok (.iload_n 3, 1) := by decide +kernel
theorem dX9_summedUp_45 : decode cX9_summedUp 45 = .ok (.iconst 2, 1) := by decide +kernel
theorem dX9_summedUp_46 : decode cX9_summedUp 46 = .ok (.iadd, 1) := by decide +kernel
theorem dX9_summedUp_47 : decode cX9_summedUp 47 = .ok (.iaload, 1) := by decide +kernel
theorem dX9_summedUp_48 : decode cX9_summedUp 48 = .ok (.if_icmp .ge 358, 3) := by decide +kernel
theorem dX9_summedUp_51 : decode cX9_summedUp 51 = .ok (.aload_n 0, 1) := by decide +kernel
theorem dX9_summedUp_52 : decode cX9_summedUp 52 = .ok (.getfield 16, 3) := by decide +kernel
theorem dX9_summedUp_55 : decode cX9_summedUp 55 = .ok (.iload 4, 2) := by decide +kernel
theorem dX9_summedUp_57 : decode cX9_summedUp 57 = .ok (.iconst 2, 1) := by decide +kernel
theorem dX9_summedUp_58 : decode cX9_summedUp 58 = .ok (.iload 7, 2) := by decide +kernel
theorem dX9_summedUp_60 : decode cX9_summedUp 60 = .ok (.imul, 1) := by decide +kernel
theorem dX9_summedUp_61 : decode cX9_summedUp 61 = .ok (.iadd, 1) := by decide +kernel
theorem dX9_summedUp_62 : decode cX9_summedUp 62 = .ok (.iaload, 1) := by decide +kernel
theorem dX9_summedUp_63 : decode cX9_summedUp 63 = .ok (.istore 8, 2) := by decide +kernel
theorem dX9_summedUp_65 : decode cX9_summedUp 65 = .ok (.aload_n 0, 1) := by decide +kernel
theorem dX9_summedUp_66 : decode cX9_summedUp 66 = .ok (.getfield 16, 3) := by decide +kernel
theorem dX9_summedUp_69 : decode cX9_summedUp 69 = .ok (.iload 4, 2) := by decide +kernel
theorem dX9_summedUp_71 : decode cX9_summedUp 71 = .ok (.iconst 2, 1) := by decide +kernel
theorem dX9_summedUp_72 : decode cX9_summedUp 72 = .ok (.iload 7, 2) := by decide +kernel
theorem dX9_summedUp_74 : decode cX9_summedUp 74 = .ok (.imul, 1) := by decide +kernel
theorem dX9_summedUp_75 : decode cX9_summedUp 75 = .ok (.iadd, 1) := by decide +kernel
theorem dX9_summedUp_76 : decode cX9_summedUp 76 = .ok (.iconst 1, 1) := by decide +kernel
theorem dX9_summedUp_77 : decode cX9_summedUp 77 = .ok (.iadd, 1) := by decide +kernel
theorem dX9_summedUp_78 : decode cX9_summedUp 78 = .ok (.iaload, 1) := by decide +kernel
theorem dX9_summedUp_79 : decode cX9_summedUp 79 = .ok (.istore 9, 2) := by decide +kernel
theorem dX9_summedUp_81 : decode cX9_summedUp 81 = .ok (.iload 8, 2) := by decide +kernel
theorem dX9_summedUp_83 : decode cX9_summedUp 83 = .ok (.iconst 1, 1) := by decide +kernel
theorem dX9_summedUp_84 : decode cX9_summedUp 84 = .ok (.if_icmp .gt 35, 3) := by decide +kernel
theorem dX9_summedUp_87 : decode cX9_summedUp 87 = .ok (.aload_n 0, 1) := by decide +kernel
theorem dX9_summedUp_88 : decode cX9_summedUp 88 = .ok (.getfield 35, 3) := by decide +kernel
theorem dX9_summedUp_91 : decode cX9_summedUp 91 = .ok (.iload 5, 2) := by decide +kernel
theorem dX9_summedUp_93 : decode cX9_summedUp 93 = .ok (.iload 8, 2) := by decide +kernel
theorem dX9_summedUp_95 : decode cX9_summedUp 95 = .ok (.ifCond .ne 9, 3) := by decide +kernel
theorem dX9_summedUp_98 : decode cX9_summedUp 98 = .ok (.iload 9, 2) := by decide +kernel
theorem dX9_summedUp_100 : decode cX9_summedUp 100 = .ok (.i2l, 1) := by decide +kernel
theorem dX9_summedUp_101 : decode cX9_summedUp 101 = .ok (.goto 11, 3) := by decide +kernel
theorem dX9_summedUp_104 : decode cX9_summedUp 104 = .ok (.aload_n 0, 1) := by decide +kernel
theorem dX9_summedUp_105 : decode cX9_summedUp 105 = .ok (.getfield 32, 3) := by decide +kernel
theorem dX9_summedUp_108 : decode cX9_summedUp 108 = .ok (.iload 9, 2) := by decide +kernel
theorem dX9_summedUp_110 : decode cX9_summedUp 110 = .ok (.iaload, 1) := by decide +kernel
theorem dX9_summedUp_111 : decode cX9_summedUp 111 = .ok (.i2l, 1) := by decide +kernel
theorem dX9_summedUp_112 : decode cX9_summedUp 112 = .ok (.lastore, 1) := by decide +kernel
theorem dX9_summedUp_113 : decode cX9_summedUp 113 = .ok (.iinc 5 1, 3) := by decide +kernel
theorem dX9_summedUp_116 : decode cX9_summedUp 116 = .ok (.goto 284, 3) := by decide +kernel
theorem dX9_summedUp_119 : decode cX9_summedUp 119 = .ok (.iload 8, 2) := by decide +kernel
theorem dX9_summedUp_121 : decode cX9_summedUp 121 = .ok (.iconst 3, 1) := by decide +kernel
theorem dX9_summedUp_122 : decode cX9_summedUp 122 = .ok (.if_icmp .ne 38, 3) := by decide +kernel
theorem dX9_summedUp_125 : decode cX9_summedUp 125 = .ok (.iinc 5 (-1), 3) := by decide +kernel
theorem dX9_summedUp_128 : decode cX9_summedUp 128 = .ok (.iinc 6 (-1), 3) := by decide +kernel
theorem dX9_summedUp_131 : decode cX9_summedUp 131 = .ok (.aload_n 0, 1) := by decide +kernel
theorem dX9_summedUp_132 : decode cX9_summedUp 132 = .ok (.getfield 39, 3) := by decide +kernel
theorem dX9_summedUp_135 : decode cX9_summedUp 135 = .ok (.iload 6, 2) := by decide +kernel
theorem dX9_summedUp_137 : decode cX9_summedUp 137 = .ok (.baload, 1) := by decide +kernel
theorem dX9_summedUp_138 : decode cX9_summedUp 138 = .ok (.ifCond .ne 262, 3) := by decide +kernel
theorem dX9_summedUp_141 : decode cX9_summedUp 141 = .ok (.aload_n 0, 1) := by decide +kernel
theorem dX9_summedUp_142 : decode cX9_summedUp 142 = .ok (.getfield 35, 3) := by decide +kernel
theorem dX9_summedUp_145 : decode cX9_summedUp 145 = .ok (.iload 5, 2) := by decide +kernel
theorem dX9_summedUp_147 : decode cX9_summedUp 147 = .ok (.iconst 1, 1) := by decide +kernel
theorem dX9_summedUp_148 : decode cX9_summedUp 148 = .ok (.isub, 1) := by decide +kernel
theorem dX9_summedUp_149 : decode cX9_summedUp 149 = .ok (.aload_n 0, 1) := by decide +kernel
theorem dX9_summedUp_150 : decode cX9_summedUp 150 = .ok (.getfield 35, 3) := by decide +kernel
theorem dX9_summedUp_153 : decode cX9_summedUp 153 = .ok (.iload 5, 2) := by decide +kernel
theorem dX9_summedUp_155 : decode cX9_summedUp 155 = .ok (.laload, 1) := by decide +kernel
theorem dX9_summedUp_156 : decode cX9_summedUp 156 = .ok (.lastore, 1) := by decide +kernel
theorem dX9_summedUp_157 : decode cX9_summedUp 157 = .ok (.goto 243, 3) := by decide +kernel
theorem dX9_summedUp_160 : decode cX9_summedUp 160 = .ok (.iload 8, 2) := by decide +kernel
theorem dX9_summedUp_162 : decode cX9_summedUp 162 = .ok (.iconst 5, 1) := by decide +kernel
theorem dX9_summedUp_163 : decode cX9_summedUp 163 = .ok (.if_icmp .eq 9, 3) := by decide +kernel
theorem dX9_summedUp_166 : decode cX9_summedUp 166 = .ok (.iload 8, 2) := by decide +kernel
theorem dX9_summedUp_168 : decode cX9_summedUp 168 = .ok (.iconst 2, 1) := by decide +kernel
theorem dX9_summedUp_169 : decode cX9_summedUp 169 = .ok (.if_icmp .ne 47, 3) := by decide +kernel
theorem dX9_summedUp_172 : decode cX9_summedUp 172 = .ok (.aload_n 0, 1) := by decide +kernel
theorem dX9_summedUp_173 : decode cX9_summedUp 173 = .ok (.getfield 35, 3) := by decide +kernel
theorem dX9_summedUp_176 : decode cX9_summedUp 176 = .ok (.iload 5, 2) := by decide +kernel
theorem dX9_summedUp_178 : decode cX9_summedUp 178 = .ok (.iconst 1, 1) := by decide +kernel
theorem dX9_summedUp_179 : decode cX9_summedUp 179 = .ok (.isub, 1) := by decide +kernel
theorem dX9_summedUp_180 : decode cX9_summedUp 180 = .ok (.iload 8, 2) := by decide +kernel
theorem dX9_summedUp_182 : decode cX9_summedUp 182 = .ok (.iconst 5, 1) := by decide +kernel
theorem dX9_summedUp_183 : decode cX9_summedUp 183 = .ok (.if_icmp .ne 16, 3) := by decide +kernel
theorem dX9_summedUp_186 : decode cX9_summedUp 186 = .ok (.aload_n 0, 1) := by decide +kernel
theorem dX9_summedUp_187 : decode cX9_summedUp 187 = .ok (.getfield 35, 3) := by decide +kernel
theorem dX9_summedUp_190 : decode cX9_summedUp 190 = .ok (.iload 5, 2) := by decide +kernel
theorem dX9_summedUp_192 : decode cX9_summedUp 192 = .ok (.iconst 1, 1) := by decide +kernel
theorem dX9_summedUp_193 : decode cX9_summedUp 193 = .ok (.isub, 1) := by decide +kernel
theorem dX9_summedUp_194 : decode cX9_summedUp 194 = .ok (.laload, 1) := by decide +kernel
theorem dX9_summedUp_195 : decode cX9_summedUp 195 = .ok (.lneg, 1) := by decide +kernel
theorem dX9_summedUp_196 : decode cX9_summedUp 196 = .ok (.goto 16, 3) := by decide +kernel
theorem dX9_summedUp_199 : decode cX9_summedUp 199 = .ok (.aload_n 0, 1) := by decide +kernel
theorem dX9_summedUp_200 : decode cX9_summedUp 200 = .ok (.aload_n 0, 1) := by decide +kernel
theorem dX9_summedUp_201 : decode cX9_summedUp 201 = .ok (.getfield 35, 3) := by decide +kernel
theorem dX9_summedUp_204 : decode cX9_summedUp 204 = .ok (.iload 5, 2) := by decide +kernel
theorem dX9_summedUp_206 : decode cX9_summedUp 206 = .ok (.iconst 1, 1) := by decide +kernel
theorem dX9_summedUp_207 : decode cX9_summedUp 207 = .ok (.isub, 1) := by decide +kernel
theorem dX9_summedUp_208 : decode cX9_summedUp 208 = .ok (.laload, 1) := by decide +kernel
theorem dX9_summedUp_209 : decode cX9_summedUp 209 = .ok (.invokevirtual 272, 3) := by decide +kernel
theorem dX9_summedUp_212 : decode cX9_summedUp 212 = .ok (.lastore, 1) := by decide +kernel
theorem dX9_summedUp_213 : decode cX9_summedUp 213 = .ok (.goto 187, 3) := by decide +kernel
theorem dX9_summedUp_216 : decode cX9_summedUp 216 = .ok (.iload 8, 2) := by decide +kernel
theorem dX9_summedUp_218 : decode cX9_summedUp 218 = .ok (.bipush 10, 2) := by decide +kernel
theorem dX9_summedUp_220 : decode cX9_summedUp 220 = .ok (.if_icmp .ge 67, 3) := by decide +kernel
theorem dX9_summedUp_223 : decode cX9_summedUp 223 = .ok (.iinc 5 (-1), 3) := by decide +kernel
theorem dX9_summedUp_226 : decode cX9_summedUp 226 = .ok (.aload_n 0, 1) := by decide +kernel
theorem dX9_summedUp_227 : decode cX9_summedUp 227 = .ok (.getfield 35, 3) := by decide +kernel
theorem dX9_summedUp_230 : decode cX9_summedUp 230 = .ok (.iload 5, 2) := by decide +kernel
theorem dX9_summedUp_232 : decode cX9_summedUp 232 = .ok (.iconst 1, 1) := by decide +kernel
theorem dX9_summedUp_233 : decode cX9_summedUp 233 = .ok (.isub, 1) := by decide +kernel
theorem dX9_summedUp_234 : decode cX9_summedUp 234 = .ok (.iload 8, 2) := by decide +kernel
theorem dX9_summedUp_236 : decode cX9_summedUp 236 = .ok (.iconst 4, 1) := by decide +kernel
theorem dX9_summedUp_237 : decode cX9_summedUp 237 = .ok (.if_icmp .ne 25, 3) := by decide +kernel
theorem dX9_summedUp_240 : decode cX9_summedUp 240 = .ok (.aload_n 0, 1) := by decide +kernel
theorem dX9_summedUp_241 : decode cX9_summedUp 241 = .ok (.getfield 35, 3) := by decide +kernel
theorem dX9_summedUp_244 : decode cX9_summedUp 244 = .ok (.iload 5, 2) := by decide +kernel
theorem dX9_summedUp_246 : decode cX9_summedUp 246 = .ok (.iconst 1, 1) := by decide +kernel
theorem dX9_summedUp_247 : decode cX9_summedUp 247 = .ok (.isub, 1) := by decide +kernel
theorem dX9_summedUp_248 : decode cX9_summedUp 248 = .ok (.laload, 1) := by decide +kernel
theorem dX9_summedUp_249 : decode cX9_summedUp 249 = .ok (.aload_n 0, 1) := by decide +kernel
theorem dX9_summedUp_250 : decode cX9_summedUp 250 = .ok (.getfield 35, 3) := by decide +kernel
theorem dX9_summedUp_253 : decode cX9_summedUp 253 = .ok (.iload 5, 2) := by decide +kernel
theorem dX9_summedUp_255 : decode cX9_summedUp 255 = .ok (.laload, 1) := by decide +kernel
theorem dX9_summedUp_256 : decode cX9_summedUp 256 = .ok (.invokestatic 275, 3) := by decide +kernel
theorem dX9_summedUp_259 : decode cX9_summedUp 259 = .ok (.goto 24, 3) := by decide +kernel
theorem dX9_summedUp_262 : decode cX9_summedUp 262 = .ok (.iload 8, 2) := by decide +kernel
theorem dX9_summedUp_264 : decode cX9_summedUp 264 = .ok (.aload_n 0, 1) := by decide +kernel
theorem dX9_summedUp_265 : decode cX9_summedUp 265 = .ok (.getfield 35, 3) := by decide +kernel
theorem dX9_summedUp_268 : decode cX9_summedUp 268 = .ok (.iload 5, 2) := by decide +kernel
theorem dX9_summedUp_270 : decode cX9_summedUp 270 = .ok (.iconst 1, 1) := by decide +kernel
theorem dX9_summedUp_271 : decode cX9_summedUp 271 = .ok (.isub, 1) := by decide +kernel
theorem dX9_summedUp_272 : decode cX9_summedUp 272 = .ok (.laload, 1) := by decide +kernel
theorem dX9_summedUp_273 : decode cX9_summedUp 273 = .ok (.aload_n 0, 1) := by decide +kernel
theorem dX9_summedUp_274 : decode cX9_summedUp 274 = .ok (.getfield 35, 3) := by decide +kernel
theorem dX9_summedUp_277 : decode cX9_summedUp 277 = .ok (.iload 5, 2) := by decide +kernel
theorem dX9_summedUp_279 : decode cX9_summedUp 279 = .ok (.laload, 1) := by decide +kernel
theorem dX9_summedUp_280 : decode cX9_summedUp 280 = .ok (.invokestatic 279, 3) := by decide +kernel
theorem dX9_summedUp_283 : decode cX9_summedUp 283 = .ok (.lastore, 1) := by decide +kernel
theorem dX9_summedUp_284 : decode cX9_summedUp 284 = .ok (.goto 116, 3) := by decide +kernel
theorem dX9_summedUp_287 : decode cX9_summedUp 287 = .ok (.iload 8, 2) := by decide +kernel
theorem dX9_summedUp_289 : decode cX9_summedUp 289 = .ok (.bipush 20, 2) := by decide +kernel
theorem dX9_summedUp_291 : decode cX9_summedUp 291 = .ok (.if_icmp .ge 40, 3) := by decide +kernel
theorem dX9_summedUp_294 : decode cX9_summedUp 294 = .ok (.iinc 5 (-2), 3) := by decide +kernel
theorem dX9_summedUp_297 : decode cX9_summedUp 297 = .ok (.aload_n 0, 1) := by decide +kernel
theorem dX9_summedUp_298 : decode cX9_summedUp 298 = .ok (.getfield 39, 3) := by decide +kernel
theorem dX9_summedUp_301 : decode cX9_summedUp 301 = .ok (.iload 6, 2) := by decide +kernel
theorem dX9_summedUp_303 : decode cX9_summedUp 303 = .ok (.iload 8, 2) := by decide +kernel
theorem dX9_summedUp_305 : decode cX9_summedUp 305 = .ok (.aload_n 0, 1) := by decide +kernel
theorem dX9_summedUp_306 : decode cX9_summedUp 306 = .ok (.getfield 35, 3) := by decide +kernel
theorem dX9_summedUp_309 : decode cX9_summedUp 309 = .ok (.iload 5, 2) := by decide +kernel
theorem dX9_summedUp_311 : decode cX9_summedUp 311 = .ok (.laload, 1) := by decide +kernel
theorem dX9_summedUp_312 : decode cX9_summedUp 312 = .ok (.aload_n 0, 1) := by decide +kernel
theorem dX9_summedUp_313 : decode cX9_summedUp 313 = .ok (.getfield 35, 3) := by decide +kernel
theorem dX9_summedUp_316 : decode cX9_summedUp 316 = .ok (.iload 5, 2) := by decide +kernel
theorem dX9_summedUp_318 : decode cX9_summedUp 318 = .ok (.iconst 1, 1) := by decide +kernel
theorem dX9_summedUp_319 : decode cX9_summedUp 319 = .ok (.iadd, 1) := by decide +kernel
theorem dX9_summedUp_320 : decode cX9_summedUp 320 = .ok (.laload, 1) := by decide +kernel
theorem dX9_summedUp_321 : decode cX9_summedUp 321 = .ok (.invokestatic 283, 3) := by decide +kernel
theorem dX9_summedUp_324 : decode cX9_summedUp 324 = .ok (.bastore, 1) := by decide +kernel
theorem dX9_summedUp_325 : decode cX9_summedUp 325 = .ok (.iinc 6 1, 3) := by decide +kernel
theorem dX9_summedUp_328 : decode cX9_summedUp 328 = .ok (.goto 72, 3) := by decide +kernel
theorem dX9_summedUp_331 : decode cX9_summedUp 331 = .ok (.iload 8, 2) := by decide +kernel
theorem dX9_summedUp_333 : decode cX9_summedUp 333 = .ok (.bipush 20, 2) := by decide +kernel
theorem dX9_summedUp_335 : decode cX9_summedUp 335 = .ok (.if_icmp .ne 32, 3) := by decide +kernel
theorem dX9_summedUp_338 : decode cX9_summedUp 338 = .ok (.aload_n 0, 1) := by decide +kernel
theorem dX9_summedUp_339 : decode cX9_summedUp 339 = .ok (.getfield 39, 3) := by decide +kernel
theorem dX9_summedUp_342 : decode cX9_summedUp 342 = .ok (.iload 6, 2) := by decide +kernel
theorem dX9_summedUp_344 : decode cX9_summedUp 344 = .ok (.iconst 1, 1) := by decide +kernel
theorem dX9_summedUp_345 : decode cX9_summedUp 345 = .ok (.isub, 1) := by decide +kernel
theorem dX9_summedUp_346 : decode cX9_summedUp 346 = .ok (.aload_n 0, 1) := by decide +kernel
theorem dX9_summedUp_347 : decode cX9_summedUp 347 = .ok (.getfield 39, 3) := by decide +kernel
theorem dX9_summedUp_350 : decode cX9_summedUp 350 = .ok (.iload 6, 2) := by decide +kernel
theorem dX9_summedUp_352 : decode cX9_summedUp 352 = .ok (.iconst 1, 1) := by decide +kernel
theorem dX9_summedUp_353 : decode cX9_summedUp 353 = .ok (.isub, 1) := by decide +kernel
theorem dX9_summedUp_354 : decode cX9_summedUp 354 = .ok (.baload, 1) := by decide +kernel
theorem dX9_summedUp_355 : decode cX9_summedUp 355 = .ok (.ifCond .ne 7, 3) := by decide +kernel
theorem dX9_summedUp_358 : decode cX9_summedUp 358 = .ok (.iconst 1, 1) := by decide +kernel
theorem dX9_summedUp_359 : decode cX9_summedUp 359 = .ok (.goto 4, 3) := by decide +kernel
theorem dX9_summedUp_362 : decode cX9_summedUp 362 = .ok (.iconst 0, 1) := by decide +kernel
theorem dX9_summedUp_363 : decode cX9_summedUp 363 = .ok (.bastore, 1) := by decide +kernel
theorem dX9_summedUp_364 : decode cX9_summedUp 364 = .ok (.goto 36, 3) := by decide +kernel
theorem dX9_summedUp_367 : decode cX9_summedUp 367 = .ok (.iinc 6 (-1), 3) := by decide +kernel
theorem dX9_summedUp_370 : decode cX9_summedUp 370 = .ok (.aload_n 0, 1) := by decide +kernel
theorem dX9_summedUp_371 : decode cX9_summedUp 371 = .ok (.getfield 39, 3) := by decide +kernel
theorem dX9_summedUp_374 : decode cX9_summedUp 374 = .ok (.iload 6, 2) := by decide +kernel
theorem dX9_summedUp_376 : decode cX9_summedUp 376 = .ok (.iconst 1, 1) := by decide +kernel
theorem dX9_summedUp_377 : decode cX9_summedUp 377 = .ok (.isub, 1) := by decide +kernel
theorem dX9_summedUp_378 : decode cX9_summedUp 378 = .ok (.iload 8, 2) := by decide +kernel
theorem dX9_summedUp_380 : decode cX9_summedUp 380 = .ok (.aload_n 0, 1) := by decide +kernel
theorem dX9_summedUp_381 : decode cX9_summedUp 381 = .ok (.getfield 39, 3) := by decide +kernel
theorem dX9_summedUp_384 : decode cX9_summedUp 384 = .ok (.iload 6, 2) := by decide +kernel
theorem dX9_summedUp_386 : decode cX9_summedUp 386 = .ok (.iconst 1, 1) := by decide +kernel
theorem dX9_summedUp_387 : decode cX9_summedUp 387 = .ok (.isub, 1) := by decide +kernel
theorem dX9_summedUp_388 : decode cX9_summedUp 388 = .ok (.baload, 1) := by decide +kernel
theorem dX9_summedUp_389 : decode cX9_summedUp 389 = .ok (.aload_n 0, 1) := by decide +kernel
theorem dX9_summedUp_390 : decode cX9_summedUp 390 = .ok (.getfield 39, 3) := by decide +kernel
theorem dX9_summedUp_393 : decode cX9_summedUp 393 = .ok (.iload 6, 2) := by decide +kernel
theorem dX9_summedUp_395 : decode cX9_summedUp 395 = .ok (.baload, 1) := by decide +kernel
theorem dX9_summedUp_396 : decode cX9_summedUp 396 = .ok (.invokestatic 287, 3) := by decide +kernel
theorem dX9_summedUp_399 : decode cX9_summedUp 399 = .ok (.bastore, 1) := by decide +kernel
theorem dX9_summedUp_400 : decode cX9_summedUp 400 = .ok (.iinc 7 1, 3) := by decide +kernel
theorem dX9_summedUp_403 : decode cX9_summedUp 403 = .ok (.goto (-365), 3) := by decide +kernel
theorem dX9_summedUp_406 : decode cX9_summedUp 406 = .ok (.aload_n 0, 1) := by decide +kernel
theorem dX9_summedUp_407 : decode cX9_summedUp 407 = .ok (.getfield 35, 3) := by decide +kernel
theorem dX9_summedUp_410 : decode cX9_summedUp 410 = .ok (.iconst 0, 1) := by decide +kernel
theorem dX9_summedUp_411 : decode cX9_summedUp 411 = .ok (.laload, 1) := by decide +kernel
theorem dX9_summedUp_412 : decode cX9_summedUp 412 = .ok (.lreturn, 1) := by decide +kernel
theorem dX9_says_0 : decode cX9_says 0 = .ok (.iconst 0, 1) := by decide +kernel
theorem dX9_says_1 : decode cX9_says 1 = .ok (.istore 5, 2) := by decide +kernel
theorem dX9_says_3 : decode cX9_says 3 = .ok (.iload_n 1, 1) := by decide +kernel
theorem dX9_says_4 : decode cX9_says 4 = .ok (.ifCond .lt 59, 3) := by decide +kernel
theorem dX9_says_7 : decode cX9_says 7 = .ok (.iload 5, 2) := by decide +kernel
theorem dX9_says_9 : decode cX9_says 9 = .ok (.aload_n 0, 1) := by decide +kernel
theorem dX9_says_10 : decode cX9_says 10 = .ok (.getfield 16, 3) := by decide +kernel
theorem dX9_says_13 : decode cX9_says 13 = .ok (.sipush 705, 3) := by decide +kernel
theorem dX9_says_16 : decode cX9_says 16 = .ok (.iload_n 1, 1) := by decide +kernel
theorem dX9_says_17 : decode cX9_says 17 = .ok (.imul, 1) := by decide +kernel
theorem dX9_says_18 : decode cX9_says 18 = .ok (.iaload, 1) := by decide +kernel
theorem dX9_says_19 : decode cX9_says 19 = .ok (.if_icmp .ge 44, 3) := by decide +kernel
theorem dX9_says_22 : decode cX9_says 22 = .ok (.aload_n 0, 1) := by decide +kernel
theorem dX9_says_23 : decode cX9_says 23 = .ok (.getfield 16, 3) := by decide +kernel
theorem dX9_says_26 : decode cX9_says 26 = .ok (.sipush 705, 3) := by decide +kernel
theorem dX9_says_29 : decode cX9_says 29 = .ok (.iload_n 1, 1) := by decide +kernel
theorem dX9_says_30 : decode cX9_says 30 = .ok (.imul, 1) := by decide +kernel
theorem dX9_says_31 : decode cX9_says 31 = .ok (.iconst 1, 1) := by decide +kernel
theorem dX9_says_32 : decode cX9_says 32 = .ok (.iadd, 1) := by decide +kernel
theorem dX9_says_33 : decode cX9_says 33 = .ok (.iconst 4, 1) := by decide +kernel
theorem dX9_says_34 : decode cX9_says 34 = .ok (.iload 5, 2) := by decide +kernel
theorem dX9_says_36 : decode cX9_says 36 = .ok (.imul, 1) := by decide +kernel
theorem dX9_says_37 : decode cX9_says 37 = .ok (.iadd, 1) := by decide +kernel
theorem dX9_says_38 : decode cX9_says 38 = .ok (.iaload, 1) := by decide +kernel
theorem dX9_says_39 : decode cX9_says 39 = .ok (.iload_n 2, 1) := by decide +kernel
theorem dX9_says_40 : decode cX9_says 40 = .ok (.if_icmp .ne 17, 3) := by decide +kernel
theorem dX9_says_43 : decode cX9_says 43 = .ok (.aload_n 0, 1) := by decide +kernel
theorem dX9_says_44 : decode cX9_says 44 = .ok (.iload_n 1, 1) := by decide +kernel
theorem dX9_says_45 : decode cX9_says 45 = .ok (.iload 5, 2) := by decide +kernel
theorem dX9_says_47 : decode cX9_says 47 = .ok (.invokevirtual 291, 3) := by decide +kernel
theorem dX9_says_50 : decode cX9_says 50 = .ok (.iconst 0, 1) := by decide +kernel
theorem dX9_says_51 : decode cX9_says 51 = .ok (.iload 4, 2) := by decide +kernel
theorem dX9_says_53 : decode cX9_says 53 = .ok (.invokestatic 294, 3) := by decide +kernel
theorem dX9_says_56 : decode cX9_says 56 = .ok (.ireturn, 1) := by decide +kernel
theorem dX9_says_57 : decode cX9_says 57 = .ok (.iinc 5 1, 3) := by decide +kernel
theorem dX9_says_60 : decode cX9_says 60 = .ok (.goto (-57), 3) := by decide +kernel
theorem dX9_says_63 : decode cX9_says 63 = .ok (.iload_n 3, 1) := by decide +kernel
theorem dX9_says_64 : decode cX9_says 64 = .ok (.i2l, 1) := by decide +kernel
theorem dX9_says_65 : decode cX9_says 65 = .ok (.iconst 0, 1) := by decide +kernel
theorem dX9_says_66 : decode cX9_says 66 = .ok (.iload 4, 2) := by decide +kernel
theorem dX9_says_68 : decode cX9_says 68 = .ok (.invokestatic 294, 3) := by decide +kernel
theorem dX9_says_71 : decode cX9_says 71 = .ok (.ireturn, 1) := by decide +kernel
theorem dX9_name_0 : decode cX9_name 0 = .ok (.aload_n 0, 1) := by decide +kernel
theorem dX9_name_1 : decode cX9_name 1 = .ok (.getfield 32, 3) := by decide +kernel
theorem dX9_name_4 : decode cX9_name 4 = .ok (.iconst 0, 1) := by decide +kernel
theorem dX9_name_5 : decode cX9_name 5 = .ok (.aload_n 0, 1) := by decide +kernel
theorem dX9_name_6 : decode cX9_name 6 = .ok (.getfield 7, 3) := by decide +kernel
theorem dX9_name_9 : decode cX9_name 9 = .ok (.bipush 8, 2) := by decide +kernel
theorem dX9_name_11 : decode cX9_name 11 = .ok (.iaload, 1) := by decide +kernel
theorem dX9_name_12 : decode cX9_name 12 = .ok (.iastore, 1) := by decide +kernel
theorem dX9_name_13 : decode cX9_name 13 = .ok (.aload_n 0, 1) := by decide +kernel
theorem dX9_name_14 : decode cX9_name 14 = .ok (.getfield 32, 3) := by decide +kernel
theorem dX9_name_17 : decode cX9_name 17 = .ok (.iconst 1, 1) := by decide +kernel
theorem dX9_name_18 : decode cX9_name 18 = .ok (.aload_n 0, 1) := by decide +kernel
theorem dX9_name_19 : decode cX9_name 19 = .ok (.getfield 7, 3) := by decide +kernel
theorem dX9_name_22 : decode cX9_name 22 = .ok (.bipush 10, 2) := by decide +kernel
theorem dX9_name_24 : decode cX9_name 24 = .ok (.iaload, 1) := by decide +kernel
theorem dX9_name_25 : decode cX9_name 25 = .ok (.invokestatic 298, 3) := by decide +kernel
theorem dX9_name_28 : decode cX9_name 28 = .ok (.iastore, 1) := by decide +kernel
theorem dX9_name_29 : decode cX9_name 29 = .ok (.aload_n 0, 1) := by decide +kernel
theorem dX9_name_30 : decode cX9_name 30 = .ok (.getfield 32, 3) := by decide +kernel
theorem dX9_name_33 : decode cX9_name 33 = .ok (.iconst 2, 1) := by decide +kernel
theorem dX9_name_34 : decode cX9_name 34 = .ok (.iload_n 1, 1) := by decide +kernel
theorem dX9_name_35 : decode cX9_name 35 = .ok (.iastore, 1) := by decide +kernel
theorem dX9_name_36 : decode cX9_name 36 = .ok (.aload_n 0, 1) := by decide +kernel
theorem dX9_name_37 : decode cX9_name 37 = .ok (.getfield 32, 3) := by decide +kernel
theorem dX9_name_40 : decode cX9_name 40 = .ok (.iconst 3, 1) := by decide +kernel
theorem dX9_name_41 : decode cX9_name 41 = .ok (.aload_n 0, 1) := by decide +kernel
theorem dX9_name_42 : decode cX9_name 42 = .ok (.getfield 7, 3) := by decide +kernel
theorem dX9_name_45 : decode cX9_name 45 = .ok (.bipush 29, 2) := by decide +kernel
theorem dX9_name_47 : decode cX9_name 47 = .ok (.iload_n 1, 1) := by decide +kernel
theorem dX9_name_48 : decode cX9_name 48 = .ok (.iadd, 1) := by decide +kernel
theorem dX9_name_49 : decode cX9_name 49 = .ok (.iaload, 1) := by decide +kernel
theorem dX9_name_50 : decode cX9_name 50 = .ok (.invokestatic 298, 3) := by decide +kernel
theorem dX9_name_53 : decode cX9_name 53 = .ok (.iastore, 1) := by decide +kernel
theorem dX9_name_54 : decode cX9_name 54 = .ok (.aload_n 0, 1) := by decide +kernel
theorem dX9_name_55 : decode cX9_name 55 = .ok (.getfield 32, 3) := by decide +kernel
theorem dX9_name_58 : decode cX9_name 58 = .ok (.iconst 4, 1) := by decide +kernel
theorem dX9_name_59 : decode cX9_name 59 = .ok (.aload_n 0, 1) := by decide +kernel
theorem dX9_name_60 : decode cX9_name 60 = .ok (.iload_n 2, 1) := by decide +kernel
theorem dX9_name_61 : decode cX9_name 61 = .ok (.invokevirtual 73, 3) := by decide +kernel
theorem dX9_name_64 : decode cX9_name 64 = .ok (.iastore, 1) := by decide +kernel
theorem dX9_name_65 : decode cX9_name 65 = .ok (.aload_n 0, 1) := by decide +kernel
theorem dX9_name_66 : decode cX9_name 66 = .ok (.getfield 32, 3) := by decide +kernel
theorem dX9_name_69 : decode cX9_name 69 = .ok (.iconst 5, 1) := by decide +kernel
theorem dX9_name_70 : decode cX9_name 70 = .ok (.aload_n 0, 1) := by decide +kernel
theorem dX9_name_71 : decode cX9_name 71 = .ok (.getfield 7, 3) := by decide +kernel
theorem dX9_name_74 : decode cX9_name 74 = .ok (.bipush 21, 2) := by decide +kernel
theorem dX9_name_76 : decode cX9_name 76 = .ok (.iload_n 2, 1) := by decide +kernel
theorem dX9_name_77 : decode cX9_name 77 = .ok (.iadd, 1) := by decide +kernel
theorem dX9_name_78 : decode cX9_name 78 = .ok (.iaload, 1) := by decide +kernel
theorem dX9_name_79 : decode cX9_name 79 = .ok (.iastore, 1) := by decide +kernel
theorem dX9_name_80 : decode cX9_name 80 = .ok (.aload_n 0, 1) := by decide +kernel
theorem dX9_name_81 : decode cX9_name 81 = .ok (.getfield 32, 3) := by decide +kernel
theorem dX9_name_84 : decode cX9_name 84 = .ok (.bipush 6, 2) := by decide +kernel
theorem dX9_name_86 : decode cX9_name 86 = .ok (.aload_n 0, 1) := by decide +kernel
theorem dX9_name_87 : decode cX9_name 87 = .ok (.iload_n 2, 1) := by decide +kernel
theorem dX9_name_88 : decode cX9_name 88 = .ok (.invokevirtual 301, 3) := by decide +kernel
theorem dX9_name_91 : decode cX9_name 91 = .ok (.iastore, 1) := by decide +kernel
theorem dX9_name_92 : decode cX9_name 92 = .ok (.return_, 1) := by decide +kernel
theorem dX9_losesOf_0 : decode cX9_losesOf 0 = .ok (.aload_n 0, 1) := by decide +kernel
theorem dX9_losesOf_1 : decode cX9_losesOf 1 = .ok (.iload_n 1, 1) := by decide +kernel
theorem dX9_losesOf_2 : decode cX9_losesOf 2 = .ok (.iload_n 2, 1) := by decide +kernel
theorem dX9_losesOf_3 : decode cX9_losesOf 3 = .ok (.invokevirtual 304, 3) := by decide +kernel
theorem dX9_losesOf_6 : decode cX9_losesOf 6 = .ok (.aload_n 0, 1) := by decide +kernel
theorem dX9_losesOf_7 : decode cX9_losesOf 7 = .ok (.getfield 32, 3) := by decide +kernel
theorem dX9_losesOf_10 : decode cX9_losesOf 10 = .ok (.bipush 7, 2) := by decide +kernel
theorem dX9_losesOf_12 : decode cX9_losesOf 12 = .ok (.aload_n 0, 1) := by decide +kernel
theorem dX9_losesOf_13 : decode cX9_losesOf 13 = .ok (.getfield 7, 3) := by decide +kernel
theorem dX9_losesOf_16 : decode cX9_losesOf 16 = .ok (.bipush 21, 2) := by decide +kernel
theorem dX9_losesOf_18 : decode cX9_losesOf 18 = .ok (.iload_n 3, 1) := by decide +kernel
theorem dX9_losesOf_19 : decode cX9_losesOf 19 = .ok (.iadd, 1) := by decide +kernel
theorem dX9_losesOf_20 : decode cX9_losesOf 20 = .ok (.iaload, 1) := by decide +kernel
theorem dX9_losesOf_21 : decode cX9_losesOf 21 = .ok (.iastore, 1) := by decide +kernel
theorem dX9_losesOf_22 : decode cX9_losesOf 22 = .ok (.aload_n 0, 1) := by decide +kernel
theorem dX9_losesOf_23 : decode cX9_losesOf 23 = .ok (.getfield 32, 3) := by decide +kernel
theorem dX9_losesOf_26 : decode cX9_losesOf 26 = .ok (.bipush 8, 2) := by decide +kernel
theorem dX9_losesOf_28 : decode cX9_losesOf 28 = .ok (.aload_n 0, 1) := by decide +kernel
theorem dX9_losesOf_29 : decode cX9_losesOf 29 = .ok (.iload_n 3, 1) := by decide +kernel
theorem dX9_losesOf_30 : decode cX9_losesOf 30 = .ok (.invokevirtual 73, 3) := by decide +kernel
theorem dX9_losesOf_33 : decode cX9_losesOf 33 = .ok (.iastore, 1) := by decide +kernel
theorem dX9_losesOf_34 : decode cX9_losesOf 34 = .ok (.aload_n 0, 1) := by decide +kernel
theorem dX9_losesOf_35 : decode cX9_losesOf 35 = .ok (.aload_n 0, 1) := by decide +kernel
theorem dX9_losesOf_36 : decode cX9_losesOf 36 = .ok (.getfield 7, 3) := by decide +kernel
theorem dX9_losesOf_39 : decode cX9_losesOf 39 = .ok (.iconst 3, 1) := by decide +kernel
theorem dX9_losesOf_40 : decode cX9_losesOf 40 = .ok (.iaload, 1) := by decide +kernel
theorem dX9_losesOf_41 : decode cX9_losesOf 41 = .ok (.iconst 0, 1) := by decide +kernel
theorem dX9_losesOf_42 : decode cX9_losesOf 42 = .ok (.aload_n 0, 1) := by decide +kernel
theorem dX9_losesOf_43 : decode cX9_losesOf 43 = .ok (.getfield 7, 3) := by decide +kernel
theorem dX9_losesOf_46 : decode cX9_losesOf 46 = .ok (.bipush 21, 2) := by decide +kernel
theorem dX9_losesOf_48 : decode cX9_losesOf 48 = .ok (.iload_n 2, 1) := by decide +kernel
theorem dX9_losesOf_49 : decode cX9_losesOf 49 = .ok (.iadd, 1) := by decide +kernel
theorem dX9_losesOf_50 : decode cX9_losesOf 50 = .ok (.iaload, 1) := by decide +kernel
theorem dX9_losesOf_51 : decode cX9_losesOf 51 = .ok (.bipush 10, 2) := by decide +kernel
theorem dX9_losesOf_53 : decode cX9_losesOf 53 = .ok (.invokevirtual 307, 3) := by decide +kernel
theorem dX9_losesOf_56 : decode cX9_losesOf 56 = .ok (.ireturn, 1) := by decide +kernel
theorem dX9_fillsOf_0 : decode cX9_fillsOf 0 = .ok (.aload_n 0, 1) := by decide +kernel
theorem dX9_fillsOf_1 : decode cX9_fillsOf 1 = .ok (.iload_n 2, 1) := by decide +kernel
theorem dX9_fillsOf_2 : decode cX9_fillsOf 2 = .ok (.iload_n 3, 1) := by decide +kernel
theorem dX9_fillsOf_3 : decode cX9_fillsOf 3 = .ok (.invokevirtual 304, 3) := by decide +kernel
theorem dX9_fillsOf_6 : decode cX9_fillsOf 6 = .ok (.aload_n 0, 1) := by decide +kernel
theorem dX9_fillsOf_7 : decode cX9_fillsOf 7 = .ok (.getfield 32, 3) := by decide +kernel
theorem dX9_fillsOf_10 : decode cX9_fillsOf 10 = .ok (.bipush 9, 2) := by decide +kernel
theorem dX9_fillsOf_12 : decode cX9_fillsOf 12 = .ok (.iload_n 3, 1) := by decide +kernel
theorem dX9_fillsOf_13 : decode cX9_fillsOf 13 = .ok (.iastore, 1) := by decide +kernel
theorem dX9_fillsOf_14 : decode cX9_fillsOf 14 = .ok (.aload_n 0, 1) := by decide +kernel
theorem dX9_fillsOf_15 : decode cX9_fillsOf 15 = .ok (.iload_n 1, 1) := by decide +kernel
theorem dX9_fillsOf_16 : decode cX9_fillsOf 16 = .ok (.iconst 1, 1) := by decide +kernel
theorem dX9_fillsOf_17 : decode cX9_fillsOf 17 = .ok (.aload_n 0, 1) := by decide +kernel
theorem dX9_fillsOf_18 : decode cX9_fillsOf 18 = .ok (.getfield 7, 3) := by decide +kernel
theorem dX9_fillsOf_21 : decode cX9_fillsOf 21 = .ok (.bipush 29, 2) := by decide +kernel
theorem dX9_fillsOf_23 : decode cX9_fillsOf 23 = .ok (.iload_n 2, 1) := by decide +kernel
theorem dX9_fillsOf_24 : decode cX9_fillsOf 24 = .ok (.iadd, 1) := by decide +kernel
theorem dX9_fillsOf_25 : decode cX9_fillsOf 25 = .ok (.iaload, 1) := by decide +kernel
theorem dX9_fillsOf_26 : decode cX9_fillsOf 26 = .ok (.invokestatic 298, 3) := by decide +kernel
theorem dX9_fillsOf_29 : decode cX9_fillsOf 29 = .ok (.bipush 9, 2) := by decide +kernel
theorem dX9_fillsOf_31 : decode cX9_fillsOf 31 = .ok (.invokevirtual 307, 3) := by decide +kernel
theorem dX9_fillsOf_34 : decode cX9_fillsOf 34 = .ok (.ireturn, 1) := by decide +kernel
theorem dX9_write_0 : decode cX9_write 0 = .ok (.aload_n 0, 1) := by decide +kernel
theorem dX9_write_1 : decode cX9_write 1 = .ok (.getfield 43, 3) := by decide +kernel
theorem dX9_write_4 : decode cX9_write 4 = .ok (.ifCond .ne 4, 3) := by decide +kernel
theorem dX9_write_7 : decode cX9_write 7 = .ok (.return_, 1) := by decide +kernel
theorem dX9_write_8 : decode cX9_write 8 = .ok (.aload_n 0, 1) := by decide +kernel
theorem dX9_write_9 : decode cX9_write 9 = .ok (.getfield 7, 3) := by decide +kernel
theorem dX9_write_12 : decode cX9_write 12 = .ok (.bipush 12, 2) := by decide +kernel
theorem dX9_write_14 : decode cX9_write 14 = .ok (.iaload, 1) := by decide +kernel
theorem dX9_write_15 : decode cX9_write 15 = .ok (.bipush 25, 2) := by decide +kernel
theorem dX9_write_17 : decode cX9_write 17 = .ok (.if_icmp .ne 50, 3) := by decide +kernel
theorem dX9_write_20 : decode cX9_write 20 = .ok (.iconst 1, 1) := by decide +kernel
theorem dX9_write_21 : decode cX9_write 21 = .ok (.istore_n 3, 1) := by decide +kernel
theorem dX9_write_22 : decode cX9_write 22 = .ok (.iload_n 3, 1) := by decide +kernel
theorem dX9_write_23 : decode cX9_write 23 = .ok (.bipush 25, 2) := by decide +kernel
theorem dX9_write_25 : decode cX9_write 25 = .ok (.if_icmp .ge 31, 3) := by decide +kernel
theorem dX9_write_28 : decode cX9_write 28 = .ok (.aload_n 0, 1) := by decide +kernel
theorem dX9_write_29 : decode cX9_write 29 = .ok (.getfield 7, 3) := by decide +kernel
theorem dX9_write_32 : decode cX9_write 32 = .ok (.sipush 1253, 3) := by decide +kernel
theorem dX9_write_35 : decode cX9_write 35 = .ok (.iload_n 3, 1) := by decide +kernel
theorem dX9_write_36 : decode cX9_write 36 = .ok (.iadd, 1) := by decide +kernel
theorem dX9_write_37 : decode cX9_write 37 = .ok (.iconst 1, 1) := by decide +kernel
theorem dX9_write_38 : decode cX9_write 38 = .ok (.isub, 1) := by decide +kernel
theorem dX9_write_39 : decode cX9_write 39 = .ok (.aload_n 0, 1) := by decide +kernel
theorem dX9_write_40 : decode cX9_write 40 = .ok (.getfield 7, 3) := by decide +kernel
theorem dX9_write_43 : decode cX9_write 43 = .ok (.sipush 1253, 3) := by decide +kernel
theorem dX9_write_46 : decode cX9_write 46 = .ok (.iload_n 3, 1) := by decide +kernel
theorem dX9_write_47 : decode cX9_write 47 = .ok (.iadd, 1) := by decide +kernel
theorem dX9_write_48 : decode cX9_write 48 = .ok (.iaload, 1) := by decide +kernel
theorem dX9_write_49 : decode cX9_write 49 = .ok (.iastore, 1) := by decide +kernel
theorem dX9_write_50 : decode cX9_write 50 = .ok (.iinc 3 1, 3) := by decide +kernel
theorem dX9_write_53 : decode cX9_write 53 = .ok (.goto (-31), 3) := by decide +kernel
theorem dX9_write_56 : decode cX9_write 56 = .ok (.aload_n 0, 1) := by decide +kernel
theorem dX9_write_57 : decode cX9_write 57 = .ok (.getfield 7, 3) := by decide +kernel
theorem dX9_write_60 : decode cX9_write 60 = .ok (.bipush 12, 2) := by decide +kernel
theorem dX9_write_62 : decode cX9_write 62 = .ok (.dup2, 1) := by decide +kernel
theorem dX9_write_63 : decode cX9_write 63 = .ok (.iaload, 1) := by decide +kernel
theorem dX9_write_64 : decode cX9_write 64 = .ok (.iconst 1, 1) := by decide +kernel
theorem dX9_write_65 : decode cX9_write 65 = .ok (.isub, 1) := by decide +kernel
theorem dX9_write_66 : decode cX9_write 66 = .ok (.iastore, 1) := by decide +kernel
theorem dX9_write_67 : decode cX9_write 67 = .ok (.aload_n 0, 1) := by decide +kernel
theorem dX9_write_68 : decode cX9_write 68 = .ok (.getfield 7, 3) := by decide +kernel
theorem dX9_write_71 : decode cX9_write 71 = .ok (.sipush 1253, 3) := by decide +kernel
theorem dX9_write_74 : decode cX9_write 74 = .ok (.aload_n 0, 1) := by decide +kernel
theorem dX9_write_75 : decode cX9_write 75 = .ok (.getfield 7, 3) := by decide +kernel
theorem dX9_write_78 : decode cX9_write 78 = .ok (.bipush 12, 2) := by decide +kernel
theorem dX9_write_80 : decode cX9_write 80 = .ok (.iaload, 1) := by decide +kernel
theorem dX9_write_81 : decode cX9_write 81 = .ok (.iadd, 1) := by decide +kernel
theorem dX9_write_82 : decode cX9_write 82 = .ok (.aload_n 0, 1) := by decide +kernel
theorem dX9_write_83 : decode cX9_write 83 = .ok (.getfield 7, 3) := by decide +kernel
theorem dX9_write_86 : decode cX9_write 86 = .ok (.bipush 8, 2) := by decide +kernel
theorem dX9_write_88 : decode cX9_write 88 = .ok (.iaload, 1) := by decide +kernel
theorem dX9_write_89 : decode cX9_write 89 = .ok (.bipush 8, 2) := by decide +kernel
theorem dX9_write_91 : decode cX9_write 91 = .ok (.imul, 1) := by decide +kernel
theorem dX9_write_92 : decode cX9_write 92 = .ok (.iload_n 1, 1) := by decide +kernel
theorem dX9_write_93 : decode cX9_write 93 = .ok (.iadd, 1) := by decide +kernel
theorem dX9_write_94 : decode cX9_write 94 = .ok (.iconst 4, 1) := by decide +kernel
theorem dX9_write_95 : decode cX9_write 95 = .ok (.imul, 1) := by decide +kernel
theorem dX9_write_96 : decode cX9_write 96 = .ok (.iload_n 2, 1) := by decide +kernel
theorem dX9_write_97 : decode cX9_write 97 = .ok (.iadd, 1) := by decide +kernel
theorem dX9_write_98 : decode cX9_write 98 = .ok (.sipush 1024, 3) := by decide +kernel
theorem dX9_write_101 : decode cX9_write 101 = .ok (.imul, 1) := by decide +kernel
theorem dX9_write_102 : decode cX9_write 102 = .ok (.aload_n 0, 1) := by decide +kernel
theorem dX9_write_103 : decode cX9_write 103 = .ok (.getfield 7, 3) := by decide +kernel
theorem dX9_write_106 : decode cX9_write 106 = .ok (.bipush 10, 2) := by decide +kernel
theorem dX9_write_108 : decode cX9_write 108 = .ok (.iaload, 1) := by decide +kernel
theorem dX9_write_109 : decode cX9_write 109 = .ok (.iadd, 1) := by decide +kernel
theorem dX9_write_110 : decode cX9_write 110 = .ok (.iastore, 1) := by decide +kernel
theorem dX9_write_111 : decode cX9_write 111 = .ok (.aload_n 0, 1) := by decide +kernel
theorem dX9_write_112 : decode cX9_write 112 = .ok (.getfield 7, 3) := by decide +kernel
theorem dX9_write_115 : decode cX9_write 115 = .ok (.bipush 12, 2) := by decide +kernel
theorem dX9_write_117 : decode cX9_write 117 = .ok (.dup2, 1) := by decide +kernel
theorem dX9_write_118 : decode cX9_write 118 = .ok (.iaload, 1) := by decide +kernel
theorem dX9_write_119 : decode cX9_write 119 = .ok (.iconst 1, 1) := by decide +kernel
theorem dX9_write_120 : decode cX9_write 120 = .ok (.iadd, 1) := by decide +kernel
theorem dX9_write_121 : decode cX9_write 121 = .ok (.iastore, 1) := by decide +kernel
theorem dX9_write_122 : decode cX9_write 122 = .ok (.return_, 1) := by decide +kernel
theorem dX9_drawnBy_0 : decode cX9_drawnBy 0 = .ok (.aload_n 0, 1) := by decide +kernel
theorem dX9_drawnBy_1 : decode cX9_drawnBy 1 = .ok (.getfield 7, 3) := by decide +kernel
theorem dX9_drawnBy_4 : decode cX9_drawnBy 4 = .ok (.bipush 9, 2) := by decide +kernel
theorem dX9_drawnBy_6 : decode cX9_drawnBy 6 = .ok (.iaload, 1) := by decide +kernel
theorem dX9_drawnBy_7 : decode cX9_drawnBy 7 = .ok (.iload_n 1, 1) := by decide +kernel
theorem dX9_drawnBy_8 : decode cX9_drawnBy 8 = .ok (.irem, 1) := by decide +kernel
theorem dX9_drawnBy_9 : decode cX9_drawnBy 9 = .ok (.istore_n 2, 1) := by decide +kernel
theorem dX9_drawnBy_10 : decode cX9_drawnBy 10 = .ok (.aload_n 0, 1) := by decide +kernel
theorem dX9_drawnBy_11 : decode cX9_drawnBy 11 = .ok (.invokevirtual 311, 3) := by decide +kernel
theorem dX9_drawnBy_14 : decode cX9_drawnBy 14 = .ok (.iload_n 2, 1) := by decide +kernel
theorem dX9_drawnBy_15 : decode cX9_drawnBy 15 = .ok (.ireturn, 1) := by decide +kernel
theorem dX9_anew_0 : decode cX9_anew 0 = .ok (.aload_n 0, 1) := by decide +kernel
theorem dX9_anew_1 : decode cX9_anew 1 = .ok (.getfield 7, 3) := by decide +kernel
theorem dX9_anew_4 : decode cX9_anew 4 = .ok (.bipush 9, 2) := by decide +kernel
theorem dX9_anew_6 : decode cX9_anew 6 = .ok (.aload_n 0, 1) := by decide +kernel
theorem dX9_anew_7 : decode cX9_anew 7 = .ok (.getfield 7, 3) := by decide +kernel
theorem dX9_anew_10 : decode cX9_anew 10 = .ok (.bipush 9, 2) := by decide +kernel
theorem dX9_anew_12 : decode cX9_anew 12 = .ok (.iaload, 1) := by decide +kernel
theorem dX9_anew_13 : decode cX9_anew 13 = .ok (.i2l, 1) := by decide +kernel
theorem dX9_anew_14 : decode cX9_anew 14 = .ok (.ldc2_w 314, 3) := by decide +kernel
theorem dX9_anew_17 : decode cX9_anew 17 = .ok (.lmul, 1) := by decide +kernel
theorem dX9_anew_18 : decode cX9_anew 18 = .ok (.ldc2_w 316, 3) := by decide +kernel
theorem dX9_anew_21 : decode cX9_anew 21 = .ok (.ladd, 1) := by decide +kernel
theorem dX9_anew_22 : decode cX9_anew 22 = .ok (.ldc2_w 318, 3) := by decide +kernel
theorem dX9_anew_25 : decode cX9_anew 25 = .ok (.lrem, 1) := by decide +kernel
theorem dX9_anew_26 : decode cX9_anew 26 = .ok (.l2i, 1) := by decide +kernel
theorem dX9_anew_27 : decode cX9_anew 27 = .ok (.iastore, 1) := by decide +kernel
theorem dX9_anew_28 : decode cX9_anew 28 = .ok (.return_, 1) := by decide +kernel
theorem dX9_argueNow_0 : decode cX9_argueNow 0 = .ok (.aload_n 0, 1) := by decide +kernel
theorem dX9_argueNow_1 : decode cX9_argueNow 1 = .ok (.getfield 7, 3) := by decide +kernel
theorem dX9_argueNow_4 : decode cX9_argueNow 4 = .ok (.bipush 9, 2) := by decide +kernel
theorem dX9_argueNow_6 : decode cX9_argueNow 6 = .ok (.iaload, 1) := by decide +kernel
theorem dX9_argueNow_7 : decode cX9_argueNow 7 = .ok (.bipush 10, 2) := by decide +kernel
theorem dX9_argueNow_9 : decode cX9_argueNow 9 = .ok (.irem, 1) := by decide +kernel
theorem dX9_argueNow_10 : decode cX9_argueNow 10 = .ok (.aload_n 0, 1) := by decide +kernel
theorem dX9_argueNow_11 : decode cX9_argueNow 11 = .ok (.iload_n 1, 1) := by decide +kernel
theorem dX9_argueNow_12 : decode cX9_argueNow 12 = .ok (.iload_n 2, 1) := by decide +kernel
theorem dX9_argueNow_13 : decode cX9_argueNow 13 = .ok (.iload_n 3, 1) := by decide +kernel
theorem dX9_argueNow_14 : decode cX9_argueNow 14 = .ok (.invokevirtual 320, 3) := by decide +kernel
theorem dX9_argueNow_17 : decode cX9_argueNow 17 = .ok (.if_icmp .ge 7, 3) := by decide +kernel
theorem dX9_argueNow_20 : decode cX9_argueNow 20 = .ok (.iload_n 2, 1) := by decide +kernel
theorem dX9_argueNow_21 : decode cX9_argueNow 21 = .ok (.goto 4, 3) := by decide +kernel
theorem dX9_argueNow_24 : decode cX9_argueNow 24 = .ok (.iload_n 3, 1) := by decide +kernel
theorem dX9_argueNow_25 : decode cX9_argueNow 25 = .ok (.istore 4, 2) := by decide +kernel
theorem dX9_argueNow_27 : decode cX9_argueNow 27 = .ok (.aload_n 0, 1) := by decide +kernel
theorem dX9_argueNow_28 : decode cX9_argueNow 28 = .ok (.invokevirtual 311, 3) := by decide +kernel
theorem dX9_argueNow_31 : decode cX9_argueNow 31 = .ok (.aload_n 0, 1) := by decide +kernel
theorem dX9_argueNow_32 : decode cX9_argueNow 32 = .ok (.aload_n 0, 1) := by decide +kernel
theorem dX9_argueNow_33 : decode cX9_argueNow 33 = .ok (.getfield 7, 3) := by decide +kernel
theorem dX9_argueNow_36 : decode cX9_argueNow 36 = .ok (.iconst 3, 1) := by decide +kernel
theorem dX9_argueNow_37 : decode cX9_argueNow 37 = .ok (.iaload, 1) := by decide +kernel
theorem dX9_argueNow_38 : decode cX9_argueNow 38 = .ok (.iload_n 1, 1) := by decide +kernel
theorem dX9_argueNow_39 : decode cX9_argueNow 39 = .ok (.iload 4, 2) := by decide +kernel
theorem dX9_argueNow_41 : decode cX9_argueNow 41 = .ok (.invokevirtual 323, 3) := by decide +kernel
theorem dX9_argueNow_44 : decode cX9_argueNow 44 = .ok (.istore 5, 2) := by decide +kernel
theorem dX9_argueNow_46 : decode cX9_argueNow 46 = .ok (.iload 5, 2) := by decide +kernel
theorem dX9_argueNow_48 : decode cX9_argueNow 48 = .ok (.aload_n 0, 1) := by decide +kernel
theorem dX9_argueNow_49 : decode cX9_argueNow 49 = .ok (.iload 4, 2) := by decide +kernel
theorem dX9_argueNow_51 : decode cX9_argueNow 51 = .ok (.invokevirtual 73, 3) := by decide +kernel
theorem dX9_argueNow_54 : decode cX9_argueNow 54 = .ok (.if_icmp .ge 8, 3) := by decide +kernel
theorem dX9_argueNow_57 : decode cX9_argueNow 57 = .ok (.iload 5, 2) := by decide +kernel
theorem dX9_argueNow_59 : decode cX9_argueNow 59 = .ok (.goto 9, 3) := by decide +kernel
theorem dX9_argueNow_62 : decode cX9_argueNow 62 = .ok (.aload_n 0, 1) := by decide +kernel
theorem dX9_argueNow_63 : decode cX9_argueNow 63 = .ok (.iload 4, 2) := by decide +kernel
theorem dX9_argueNow_65 : decode cX9_argueNow 65 = .ok (.invokevirtual 73, 3) := by decide +kernel
theorem dX9_argueNow_68 : decode cX9_argueNow 68 = .ok (.istore 6, 2) := by decide +kernel
theorem dX9_argueNow_70 : decode cX9_argueNow 70 = .ok (.aload_n 0, 1) := by decide +kernel
theorem dX9_argueNow_71 : decode cX9_argueNow 71 = .ok (.getfield 7, 3) := by decide +kernel
theorem dX9_argueNow_74 : decode cX9_argueNow 74 = .ok (.bipush 13, 2) := by decide +kernel
theorem dX9_argueNow_76 : decode cX9_argueNow 76 = .ok (.iconst 2, 1) := by decide +kernel
theorem dX9_argueNow_77 : decode cX9_argueNow 77 = .ok (.iload 4, 2) := by decide +kernel
theorem dX9_argueNow_79 : decode cX9_argueNow 79 = .ok (.imul, 1) := by decide +kernel
theorem dX9_argueNow_80 : decode cX9_argueNow 80 = .ok (.iadd, 1) := by decide +kernel
theorem dX9_argueNow_81 : decode cX9_argueNow 81 = .ok (.dup2, 1) := by decide +kernel
theorem dX9_argueNow_82 : decode cX9_argueNow 82 = .ok (.iaload, 1) := by decide +kernel
theorem dX9_argueNow_83 : decode cX9_argueNow 83 = .ok (.iload 6, 2) := by decide +kernel
theorem dX9_argueNow_85 : decode cX9_argueNow 85 = .ok (.isub, 1) := by decide +kernel
theorem dX9_argueNow_86 : decode cX9_argueNow 86 = .ok (.iastore, 1) := by decide +kernel
theorem dX9_argueNow_87 : decode cX9_argueNow 87 = .ok (.aload_n 0, 1) := by decide +kernel
theorem dX9_argueNow_88 : decode cX9_argueNow 88 = .ok (.getfield 7, 3) := by decide +kernel
theorem dX9_argueNow_91 : decode cX9_argueNow 91 = .ok (.bipush 13, 2) := by decide +kernel
theorem dX9_argueNow_93 : decode cX9_argueNow 93 = .ok (.iconst 2, 1) := by decide +kernel
theorem dX9_argueNow_94 : decode cX9_argueNow 94 = .ok (.iload 4, 2) := by decide +kernel
theorem dX9_argueNow_96 : decode cX9_argueNow 96 = .ok (.imul, 1) := by decide +kernel
theorem dX9_argueNow_97 : decode cX9_argueNow 97 = .ok (.iadd, 1) := by decide +kernel
theorem dX9_argueNow_98 : decode cX9_argueNow 98 = .ok (.iconst 1, 1) := by decide +kernel
theorem dX9_argueNow_99 : decode cX9_argueNow 99 = .ok (.iadd, 1) := by decide +kernel
theorem dX9_argueNow_100 : decode cX9_argueNow 100 = .ok (.aload_n 0, 1) := by decide +kernel
theorem dX9_argueNow_101 : decode cX9_argueNow 101 = .ok (.iload 4, 2) := by decide +kernel
theorem dX9_argueNow_103 : decode cX9_argueNow 103 = .ok (.invokevirtual 301, 3) := by decide +kernel
theorem dX9_argueNow_106 : decode cX9_argueNow 106 = .ok (.iconst 1, 1) := by decide +kernel
theorem dX9_argueNow_107 : decode cX9_argueNow 107 = .ok (.iadd, 1) := by decide +kernel
theorem dX9_argueNow_108 : decode cX9_argueNow 108 = .ok (.i2l, 1) := by decide +kernel
theorem dX9_argueNow_109 : decode cX9_argueNow 109 = .ok (.iconst 0, 1) := by decide +kernel
theorem dX9_argueNow_110 : decode cX9_argueNow 110 = .ok (.sipush 9999, 3) := by decide +kernel
theorem dX9_argueNow_113 : decode cX9_argueNow 113 = .ok (.invokestatic 294, 3) := by decide +kernel
theorem dX9_argueNow_116 : decode cX9_argueNow 116 = .ok (.iastore, 1) := by decide +kernel
theorem dX9_argueNow_117 : decode cX9_argueNow 117 = .ok (.aload_n 0, 1) := by decide +kernel
theorem dX9_argueNow_118 : decode cX9_argueNow 118 = .ok (.dup, 1) := by decide +kernel
theorem dX9_argueNow_119 : decode cX9_argueNow 119 = .ok (.getfield 326, 3) := by decide +kernel
theorem dX9_argueNow_122 : decode cX9_argueNow 122 = .ok (.iload 6, 2) := by decide +kernel
theorem dX9_argueNow_124 : decode cX9_argueNow 124 = .ok (.iadd, 1) := by decide +kernel
theorem dX9_argueNow_125 : decode cX9_argueNow 125 = .ok (.putfield 326, 3) := by decide +kernel
theorem dX9_argueNow_128 : decode cX9_argueNow 128 = .ok (.aload_n 0, 1) := by decide +kernel
theorem dX9_argueNow_129 : decode cX9_argueNow 129 = .ok (.getfield 7, 3) := by decide +kernel
theorem dX9_argueNow_132 : decode cX9_argueNow 132 = .ok (.bipush 10, 2) := by decide +kernel
theorem dX9_argueNow_134 : decode cX9_argueNow 134 = .ok (.dup2, 1) := by decide +kernel
theorem dX9_argueNow_135 : decode cX9_argueNow 135 = .ok (.iaload, 1) := by decide +kernel
theorem dX9_argueNow_136 : decode cX9_argueNow 136 = .ok (.aload_n 0, 1) := by decide +kernel
theorem dX9_argueNow_137 : decode cX9_argueNow 137 = .ok (.getfield 7, 3) := by decide +kernel
theorem dX9_argueNow_140 : decode cX9_argueNow 140 = .ok (.bipush 29, 2) := by decide +kernel
theorem dX9_argueNow_142 : decode cX9_argueNow 142 = .ok (.iload_n 1, 1) := by decide +kernel
theorem dX9_argueNow_143 : decode cX9_argueNow 143 = .ok (.iadd, 1) := by decide +kernel
theorem dX9_argueNow_144 : decode cX9_argueNow 144 = .ok (.iaload, 1) := by decide +kernel
theorem dX9_argueNow_145 : decode cX9_argueNow 145 = .ok (.ixor, 1) := by decide +kernel
theorem dX9_argueNow_146 : decode cX9_argueNow 146 = .ok (.iastore, 1) := by decide +kernel
theorem dX9_argueNow_147 : decode cX9_argueNow 147 = .ok (.aload_n 0, 1) := by decide +kernel
theorem dX9_argueNow_148 : decode cX9_argueNow 148 = .ok (.iload_n 1, 1) := by decide +kernel
theorem dX9_argueNow_149 : decode cX9_argueNow 149 = .ok (.iload 4, 2) := by decide +kernel
theorem dX9_argueNow_151 : decode cX9_argueNow 151 = .ok (.invokevirtual 329, 3) := by decide +kernel
theorem dX9_argueNow_154 : decode cX9_argueNow 154 = .ok (.iload 4, 2) := by decide +kernel
theorem dX9_argueNow_156 : decode cX9_argueNow 156 = .ok (.ireturn, 1) := by decide +kernel
theorem dX9_canArgue_0 : decode cX9_canArgue 0 = .ok (.aload_n 0, 1) := by decide +kernel
theorem dX9_canArgue_1 : decode cX9_canArgue 1 = .ok (.iload_n 1, 1) := by decide +kernel
theorem dX9_canArgue_2 : decode cX9_canArgue 2 = .ok (.invokevirtual 332, 3) := by decide +kernel
theorem dX9_canArgue_5 : decode cX9_canArgue 5 = .ok (.ifCond .eq 28, 3) := by decide +kernel
theorem dX9_canArgue_8 : decode cX9_canArgue 8 = .ok (.aload_n 0, 1) := by decide +kernel
theorem dX9_canArgue_9 : decode cX9_canArgue 9 = .ok (.iload_n 2, 1) := by decide +kernel
theorem dX9_canArgue_10 : decode cX9_canArgue 10 = .ok (.invokevirtual 335, 3) := by decide +kernel
theorem dX9_canArgue_13 : decode cX9_canArgue 13 = .ok (.ifCond .eq 20, 3) := by decide +kernel
theorem dX9_canArgue_16 : decode cX9_canArgue 16 = .ok (.aload_n 0, 1) := by decide +kernel
theorem dX9_canArgue_17 : decode cX9_canArgue 17 = .ok (.iload_n 3, 1) := by decide +kernel
theorem dX9_canArgue_18 : decode cX9_canArgue 18 = .ok (.invokevirtual 335, 3) := by decide +kernel
theorem dX9_canArgue_21 : decode cX9_canArgue 21 = .ok (.ifCond .eq 12, 3) := by decide +kernel
theorem dX9_canArgue_24 : decode cX9_canArgue 24 = .ok (.iload_n 2, 1) := by decide +kernel
theorem dX9_canArgue_25 : decode cX9_canArgue 25 = .ok (.iload_n 3, 1) := by decide +kernel
theorem dX9_canArgue_26 : decode cX9_canArgue 26 = .ok (.if_icmp .eq 7, 3) := by decide +kernel
theorem dX9_canArgue_29 : decode cX9_canArgue 29 = .ok (.iconst 1, 1) := by decide +kernel
theorem dX9_canArgue_30 : decode cX9_canArgue 30 = .ok (.goto 4, 3) := by decide +kernel
theorem dX9_canArgue_33 : decode cX9_canArgue 33 = .ok (.iconst 0, 1) := by decide +kernel
theorem dX9_canArgue_34 : decode cX9_canArgue 34 = .ok (.ireturn, 1) := by decide +kernel
theorem dX9_canPour_0 : decode cX9_canPour 0 = .ok (.aload_n 0, 1) := by decide +kernel
theorem dX9_canPour_1 : decode cX9_canPour 1 = .ok (.iload_n 1, 1) := by decide +kernel
theorem dX9_canPour_2 : decode cX9_canPour 2 = .ok (.invokevirtual 335, 3) := by decide +kernel
theorem dX9_canPour_5 : decode cX9_canPour 5 = .ok (.ifCond .eq 38, 3) := by decide +kernel
