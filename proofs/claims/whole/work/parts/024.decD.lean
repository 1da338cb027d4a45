theorem dX9_canPour_8 : decode cX9_canPour 8 = .ok (.iload_n 2, 1) := by decide +kernel
theorem dX9_canPour_9 : decode cX9_canPour 9 = .ok (.bipush (-99), 2) := by decide +kernel
theorem dX9_canPour_11 : decode cX9_canPour 11 = .ok (.bipush 99, 2) := by decide +kernel
theorem dX9_canPour_13 : decode cX9_canPour 13 = .ok (.invokestatic 69, 3) := by decide +kernel
theorem dX9_canPour_16 : decode cX9_canPour 16 = .ok (.ifCond .eq 27, 3) := by decide +kernel
theorem dX9_canPour_19 : decode cX9_canPour 19 = .ok (.iload_n 2, 1) := by decide +kernel
theorem dX9_canPour_20 : decode cX9_canPour 20 = .ok (.ifCond .eq 23, 3) := by decide +kernel
theorem dX9_canPour_23 : decode cX9_canPour 23 = .ok (.aload_n 0, 1) := by decide +kernel
theorem dX9_canPour_24 : decode cX9_canPour 24 = .ok (.iload_n 1, 1) := by decide +kernel
theorem dX9_canPour_25 : decode cX9_canPour 25 = .ok (.invokevirtual 73, 3) := by decide +kernel
theorem dX9_canPour_28 : decode cX9_canPour 28 = .ok (.iload_n 2, 1) := by decide +kernel
theorem dX9_canPour_29 : decode cX9_canPour 29 = .ok (.iadd, 1) := by decide +kernel
theorem dX9_canPour_30 : decode cX9_canPour 30 = .ok (.iconst 0, 1) := by decide +kernel
theorem dX9_canPour_31 : decode cX9_canPour 31 = .ok (.bipush 99, 2) := by decide +kernel
theorem dX9_canPour_33 : decode cX9_canPour 33 = .ok (.invokestatic 69, 3) := by decide +kernel
theorem dX9_canPour_36 : decode cX9_canPour 36 = .ok (.ifCond .eq 7, 3) := by decide +kernel
theorem dX9_canPour_39 : decode cX9_canPour 39 = .ok (.iconst 1, 1) := by decide +kernel
theorem dX9_canPour_40 : decode cX9_canPour 40 = .ok (.goto 4, 3) := by decide +kernel
theorem dX9_canPour_43 : decode cX9_canPour 43 = .ok (.iconst 0, 1) := by decide +kernel
theorem dX9_canPour_44 : decode cX9_canPour 44 = .ok (.ireturn, 1) := by decide +kernel
theorem dX9_pass_0 : decode cX9_pass 0 = .ok (.aload_n 0, 1) := by decide +kernel
theorem dX9_pass_1 : decode cX9_pass 1 = .ok (.getfield 326, 3) := by decide +kernel
theorem dX9_pass_4 : decode cX9_pass 4 = .ok (.istore_n 1, 1) := by decide +kernel
theorem dX9_pass_5 : decode cX9_pass 5 = .ok (.aload_n 0, 1) := by decide +kernel
theorem dX9_pass_6 : decode cX9_pass 6 = .ok (.getfield 7, 3) := by decide +kernel
theorem dX9_pass_9 : decode cX9_pass 9 = .ok (.iconst 1, 1) := by decide +kernel
theorem dX9_pass_10 : decode cX9_pass 10 = .ok (.iaload, 1) := by decide +kernel
theorem dX9_pass_11 : decode cX9_pass 11 = .ok (.ifCond .le 70, 3) := by decide +kernel
theorem dX9_pass_14 : decode cX9_pass 14 = .ok (.aload_n 0, 1) := by decide +kernel
theorem dX9_pass_15 : decode cX9_pass 15 = .ok (.getfield 7, 3) := by decide +kernel
theorem dX9_pass_18 : decode cX9_pass 18 = .ok (.iconst 0, 1) := by decide +kernel
theorem dX9_pass_19 : decode cX9_pass 19 = .ok (.iaload, 1) := by decide +kernel
theorem dX9_pass_20 : decode cX9_pass 20 = .ok (.iconst 1, 1) := by decide +kernel
theorem dX9_pass_21 : decode cX9_pass 21 = .ok (.if_icmp .le 60, 3) := by decide +kernel
theorem dX9_pass_24 : decode cX9_pass 24 = .ok (.aload_n 0, 1) := by decide +kernel
theorem dX9_pass_25 : decode cX9_pass 25 = .ok (.aload_n 0, 1) := by decide +kernel
theorem dX9_pass_26 : decode cX9_pass 26 = .ok (.getfield 7, 3) := by decide +kernel
theorem dX9_pass_29 : decode cX9_pass 29 = .ok (.iconst 1, 1) := by decide +kernel
theorem dX9_pass_30 : decode cX9_pass 30 = .ok (.iaload, 1) := by decide +kernel
theorem dX9_pass_31 : decode cX9_pass 31 = .ok (.invokevirtual 338, 3) := by decide +kernel
theorem dX9_pass_34 : decode cX9_pass 34 = .ok (.istore_n 2, 1) := by decide +kernel
theorem dX9_pass_35 : decode cX9_pass 35 = .ok (.aload_n 0, 1) := by decide +kernel
theorem dX9_pass_36 : decode cX9_pass 36 = .ok (.aload_n 0, 1) := by decide +kernel
theorem dX9_pass_37 : decode cX9_pass 37 = .ok (.getfield 7, 3) := by decide +kernel
theorem dX9_pass_40 : decode cX9_pass 40 = .ok (.iconst 0, 1) := by decide +kernel
theorem dX9_pass_41 : decode cX9_pass 41 = .ok (.iaload, 1) := by decide +kernel
theorem dX9_pass_42 : decode cX9_pass 42 = .ok (.invokevirtual 338, 3) := by decide +kernel
theorem dX9_pass_45 : decode cX9_pass 45 = .ok (.istore_n 3, 1) := by decide +kernel
theorem dX9_pass_46 : decode cX9_pass 46 = .ok (.aload_n 0, 1) := by decide +kernel
theorem dX9_pass_47 : decode cX9_pass 47 = .ok (.aload_n 0, 1) := by decide +kernel
theorem dX9_pass_48 : decode cX9_pass 48 = .ok (.getfield 7, 3) := by decide +kernel
theorem dX9_pass_51 : decode cX9_pass 51 = .ok (.iconst 0, 1) := by decide +kernel
theorem dX9_pass_52 : decode cX9_pass 52 = .ok (.iaload, 1) := by decide +kernel
theorem dX9_pass_53 : decode cX9_pass 53 = .ok (.iconst 1, 1) := by decide +kernel
theorem dX9_pass_54 : decode cX9_pass 54 = .ok (.isub, 1) := by decide +kernel
theorem dX9_pass_55 : decode cX9_pass 55 = .ok (.invokevirtual 338, 3) := by decide +kernel
theorem dX9_pass_58 : decode cX9_pass 58 = .ok (.istore 4, 2) := by decide +kernel
theorem dX9_pass_60 : decode cX9_pass 60 = .ok (.iload 4, 2) := by decide +kernel
theorem dX9_pass_62 : decode cX9_pass 62 = .ok (.iload_n 3, 1) := by decide +kernel
theorem dX9_pass_63 : decode cX9_pass 63 = .ok (.if_icmp .lt 6, 3) := by decide +kernel
theorem dX9_pass_66 : decode cX9_pass 66 = .ok (.iinc 4 1, 3) := by decide +kernel
theorem dX9_pass_69 : decode cX9_pass 69 = .ok (.aload_n 0, 1) := by decide +kernel
theorem dX9_pass_70 : decode cX9_pass 70 = .ok (.iload_n 2, 1) := by decide +kernel
theorem dX9_pass_71 : decode cX9_pass 71 = .ok (.iload_n 3, 1) := by decide +kernel
theorem dX9_pass_72 : decode cX9_pass 72 = .ok (.iload 4, 2) := by decide +kernel
theorem dX9_pass_74 : decode cX9_pass 74 = .ok (.invokevirtual 341, 3) := by decide +kernel
theorem dX9_pass_77 : decode cX9_pass 77 = .ok (.ifCond .ge 4, 3) := by decide +kernel
theorem dX9_pass_80 : decode cX9_pass 80 = .ok (.return_, 1) := by decide +kernel
theorem dX9_pass_81 : decode cX9_pass 81 = .ok (.aload_n 0, 1) := by decide +kernel
theorem dX9_pass_82 : decode cX9_pass 82 = .ok (.getfield 7, 3) := by decide +kernel
theorem dX9_pass_85 : decode cX9_pass 85 = .ok (.bipush 10, 2) := by decide +kernel
theorem dX9_pass_87 : decode cX9_pass 87 = .ok (.dup2, 1) := by decide +kernel
theorem dX9_pass_88 : decode cX9_pass 88 = .ok (.iaload, 1) := by decide +kernel
theorem dX9_pass_89 : decode cX9_pass 89 = .ok (.iconst 1, 1) := by decide +kernel
theorem dX9_pass_90 : decode cX9_pass 90 = .ok (.aload_n 0, 1) := by decide +kernel
theorem dX9_pass_91 : decode cX9_pass 91 = .ok (.bipush 10, 2) := by decide +kernel
theorem dX9_pass_93 : decode cX9_pass 93 = .ok (.invokevirtual 338, 3) := by decide +kernel
theorem dX9_pass_96 : decode cX9_pass 96 = .ok (.ishl, 1) := by decide +kernel
theorem dX9_pass_97 : decode cX9_pass 97 = .ok (.iconst (-1), 1) := by decide +kernel
theorem dX9_pass_98 : decode cX9_pass 98 = .ok (.ixor, 1) := by decide +kernel
theorem dX9_pass_99 : decode cX9_pass 99 = .ok (.iand, 1) := by decide +kernel
theorem dX9_pass_100 : decode cX9_pass 100 = .ok (.iastore, 1) := by decide +kernel
theorem dX9_pass_101 : decode cX9_pass 101 = .ok (.aload_n 0, 1) := by decide +kernel
theorem dX9_pass_102 : decode cX9_pass 102 = .ok (.getfield 7, 3) := by decide +kernel
theorem dX9_pass_105 : decode cX9_pass 105 = .ok (.bipush 11, 2) := by decide +kernel
theorem dX9_pass_107 : decode cX9_pass 107 = .ok (.aload_n 0, 1) := by decide +kernel
theorem dX9_pass_108 : decode cX9_pass 108 = .ok (.getfield 326, 3) := by decide +kernel
theorem dX9_pass_111 : decode cX9_pass 111 = .ok (.iload_n 1, 1) := by decide +kernel
theorem dX9_pass_112 : decode cX9_pass 112 = .ok (.isub, 1) := by decide +kernel
theorem dX9_pass_113 : decode cX9_pass 113 = .ok (.iastore, 1) := by decide +kernel
theorem dX9_pass_114 : decode cX9_pass 114 = .ok (.aload_n 0, 1) := by decide +kernel
theorem dX9_pass_115 : decode cX9_pass 115 = .ok (.getfield 7, 3) := by decide +kernel
theorem dX9_pass_118 : decode cX9_pass 118 = .ok (.bipush 8, 2) := by decide +kernel
theorem dX9_pass_120 : decode cX9_pass 120 = .ok (.dup2, 1) := by decide +kernel
theorem dX9_pass_121 : decode cX9_pass 121 = .ok (.iaload, 1) := by decide +kernel
theorem dX9_pass_122 : decode cX9_pass 122 = .ok (.iconst 1, 1) := by decide +kernel
theorem dX9_pass_123 : decode cX9_pass 123 = .ok (.iadd, 1) := by decide +kernel
theorem dX9_pass_124 : decode cX9_pass 124 = .ok (.iastore, 1) := by decide +kernel
theorem dX9_pass_125 : decode cX9_pass 125 = .ok (.return_, 1) := by decide +kernel
theorem dX9_keep_0 : decode cX9_keep 0 = .ok (.aload_n 0, 1) := by decide +kernel
theorem dX9_keep_1 : decode cX9_keep 1 = .ok (.getfield 7, 3) := by decide +kernel
theorem dX9_keep_4 : decode cX9_keep 4 = .ok (.iconst 4, 1) := by decide +kernel
theorem dX9_keep_5 : decode cX9_keep 5 = .ok (.iaload, 1) := by decide +kernel
theorem dX9_keep_6 : decode cX9_keep 6 = .ok (.bipush 30, 2) := by decide +kernel
theorem dX9_keep_8 : decode cX9_keep 8 = .ok (.if_icmp .ne 46, 3) := by decide +kernel
theorem dX9_keep_11 : decode cX9_keep 11 = .ok (.iconst 0, 1) := by decide +kernel
theorem dX9_keep_12 : decode cX9_keep 12 = .ok (.istore_n 1, 1) := by decide +kernel
theorem dX9_keep_13 : decode cX9_keep 13 = .ok (.iload_n 1, 1) := by decide +kernel
theorem dX9_keep_14 : decode cX9_keep 14 = .ok (.sipush 1131, 3) := by decide +kernel
theorem dX9_keep_17 : decode cX9_keep 17 = .ok (.if_icmp .ge 27, 3) := by decide +kernel
theorem dX9_keep_20 : decode cX9_keep 20 = .ok (.aload_n 0, 1) := by decide +kernel
theorem dX9_keep_21 : decode cX9_keep 21 = .ok (.getfield 7, 3) := by decide +kernel
theorem dX9_keep_24 : decode cX9_keep 24 = .ok (.bipush 83, 2) := by decide +kernel
theorem dX9_keep_26 : decode cX9_keep 26 = .ok (.iload_n 1, 1) := by decide +kernel
theorem dX9_keep_27 : decode cX9_keep 27 = .ok (.iadd, 1) := by decide +kernel
theorem dX9_keep_28 : decode cX9_keep 28 = .ok (.aload_n 0, 1) := by decide +kernel
theorem dX9_keep_29 : decode cX9_keep 29 = .ok (.getfield 7, 3) := by decide +kernel
theorem dX9_keep_32 : decode cX9_keep 32 = .ok (.bipush 122, 2) := by decide +kernel
theorem dX9_keep_34 : decode cX9_keep 34 = .ok (.iload_n 1, 1) := by decide +kernel
theorem dX9_keep_35 : decode cX9_keep 35 = .ok (.iadd, 1) := by decide +kernel
theorem dX9_keep_36 : decode cX9_keep 36 = .ok (.iaload, 1) := by decide +kernel
theorem dX9_keep_37 : decode cX9_keep 37 = .ok (.iastore, 1) := by decide +kernel
theorem dX9_keep_38 : decode cX9_keep 38 = .ok (.iinc 1 1, 3) := by decide +kernel
theorem dX9_keep_41 : decode cX9_keep 41 = .ok (.goto (-28), 3) := by decide +kernel
theorem dX9_keep_44 : decode cX9_keep 44 = .ok (.aload_n 0, 1) := by decide +kernel
theorem dX9_keep_45 : decode cX9_keep 45 = .ok (.getfield 7, 3) := by decide +kernel
theorem dX9_keep_48 : decode cX9_keep 48 = .ok (.iconst 4, 1) := by decide +kernel
theorem dX9_keep_49 : decode cX9_keep 49 = .ok (.dup2, 1) := by decide +kernel
theorem dX9_keep_50 : decode cX9_keep 50 = .ok (.iaload, 1) := by decide +kernel
theorem dX9_keep_51 : decode cX9_keep 51 = .ok (.iconst 1, 1) := by decide +kernel
theorem dX9_keep_52 : decode cX9_keep 52 = .ok (.isub, 1) := by decide +kernel
theorem dX9_keep_53 : decode cX9_keep 53 = .ok (.iastore, 1) := by decide +kernel
theorem dX9_keep_54 : decode cX9_keep 54 = .ok (.bipush 83, 2) := by decide +kernel
theorem dX9_keep_56 : decode cX9_keep 56 = .ok (.bipush 39, 2) := by decide +kernel
theorem dX9_keep_58 : decode cX9_keep 58 = .ok (.aload_n 0, 1) := by decide +kernel
theorem dX9_keep_59 : decode cX9_keep 59 = .ok (.getfield 7, 3) := by decide +kernel
theorem dX9_keep_62 : decode cX9_keep 62 = .ok (.iconst 4, 1) := by decide +kernel
theorem dX9_keep_63 : decode cX9_keep 63 = .ok (.iaload, 1) := by decide +kernel
theorem dX9_keep_64 : decode cX9_keep 64 = .ok (.imul, 1) := by decide +kernel
theorem dX9_keep_65 : decode cX9_keep 65 = .ok (.iadd, 1) := by decide +kernel
theorem dX9_keep_66 : decode cX9_keep 66 = .ok (.istore_n 1, 1) := by decide +kernel
theorem dX9_keep_67 : decode cX9_keep 67 = .ok (.aload_n 0, 1) := by decide +kernel
theorem dX9_keep_68 : decode cX9_keep 68 = .ok (.getfield 7, 3) := by decide +kernel
theorem dX9_keep_71 : decode cX9_keep 71 = .ok (.iload_n 1, 1) := by decide +kernel
theorem dX9_keep_72 : decode cX9_keep 72 = .ok (.aload_n 0, 1) := by decide +kernel
theorem dX9_keep_73 : decode cX9_keep 73 = .ok (.getfield 7, 3) := by decide +kernel
theorem dX9_keep_76 : decode cX9_keep 76 = .ok (.iconst 0, 1) := by decide +kernel
theorem dX9_keep_77 : decode cX9_keep 77 = .ok (.iaload, 1) := by decide +kernel
theorem dX9_keep_78 : decode cX9_keep 78 = .ok (.iastore, 1) := by decide +kernel
theorem dX9_keep_79 : decode cX9_keep 79 = .ok (.iconst 0, 1) := by decide +kernel
theorem dX9_keep_80 : decode cX9_keep 80 = .ok (.istore_n 2, 1) := by decide +kernel
theorem dX9_keep_81 : decode cX9_keep 81 = .ok (.iload_n 2, 1) := by decide +kernel
theorem dX9_keep_82 : decode cX9_keep 82 = .ok (.bipush 13, 2) := by decide +kernel
theorem dX9_keep_84 : decode cX9_keep 84 = .ok (.if_icmp .ge 28, 3) := by decide +kernel
theorem dX9_keep_87 : decode cX9_keep 87 = .ok (.aload_n 0, 1) := by decide +kernel
theorem dX9_keep_88 : decode cX9_keep 88 = .ok (.getfield 7, 3) := by decide +kernel
theorem dX9_keep_91 : decode cX9_keep 91 = .ok (.iload_n 1, 1) := by decide +kernel
theorem dX9_keep_92 : decode cX9_keep 92 = .ok (.iconst 1, 1) := by decide +kernel
theorem dX9_keep_93 : decode cX9_keep 93 = .ok (.iadd, 1) := by decide +kernel
theorem dX9_keep_94 : decode cX9_keep 94 = .ok (.iload_n 2, 1) := by decide +kernel
theorem dX9_keep_95 : decode cX9_keep 95 = .ok (.iadd, 1) := by decide +kernel
theorem dX9_keep_96 : decode cX9_keep 96 = .ok (.aload_n 0, 1) := by decide +kernel
theorem dX9_keep_97 : decode cX9_keep 97 = .ok (.getfield 7, 3) := by decide +kernel
theorem dX9_keep_100 : decode cX9_keep 100 = .ok (.bipush 8, 2) := by decide +kernel
theorem dX9_keep_102 : decode cX9_keep 102 = .ok (.iload_n 2, 1) := by decide +kernel
theorem dX9_keep_103 : decode cX9_keep 103 = .ok (.iadd, 1) := by decide +kernel
theorem dX9_keep_104 : decode cX9_keep 104 = .ok (.iaload, 1) := by decide +kernel
theorem dX9_keep_105 : decode cX9_keep 105 = .ok (.iastore, 1) := by decide +kernel
theorem dX9_keep_106 : decode cX9_keep 106 = .ok (.iinc 2 1, 3) := by decide +kernel
theorem dX9_keep_109 : decode cX9_keep 109 = .ok (.goto (-28), 3) := by decide +kernel
theorem dX9_keep_112 : decode cX9_keep 112 = .ok (.iconst 0, 1) := by decide +kernel
theorem dX9_keep_113 : decode cX9_keep 113 = .ok (.istore_n 2, 1) := by decide +kernel
theorem dX9_keep_114 : decode cX9_keep 114 = .ok (.iload_n 2, 1) := by decide +kernel
theorem dX9_keep_115 : decode cX9_keep 115 = .ok (.bipush 25, 2) := by decide +kernel
theorem dX9_keep_117 : decode cX9_keep 117 = .ok (.if_icmp .ge 32, 3) := by decide +kernel
theorem dX9_keep_120 : decode cX9_keep 120 = .ok (.aload_n 0, 1) := by decide +kernel
theorem dX9_keep_121 : decode cX9_keep 121 = .ok (.getfield 7, 3) := by decide +kernel
theorem dX9_keep_124 : decode cX9_keep 124 = .ok (.iload_n 1, 1) := by decide +kernel
theorem dX9_keep_125 : decode cX9_keep 125 = .ok (.iconst 1, 1) := by decide +kernel
theorem dX9_keep_126 : decode cX9_keep 126 = .ok (.iadd, 1) := by decide +kernel
theorem dX9_keep_127 : decode cX9_keep 127 = .ok (.bipush 13, 2) := by decide +kernel
theorem dX9_keep_129 : decode cX9_keep 129 = .ok (.iadd, 1) := by decide +kernel
theorem dX9_keep_130 : decode cX9_keep 130 = .ok (.iload_n 2, 1) := by decide +kernel
theorem dX9_keep_131 : decode cX9_keep 131 = .ok (.iadd, 1) := by decide +kernel
theorem dX9_keep_132 : decode cX9_keep 132 = .ok (.aload_n 0, 1) := by decide +kernel
theorem dX9_keep_133 : decode cX9_keep 133 = .ok (.getfield 7, 3) := by decide +kernel
theorem dX9_keep_136 : decode cX9_keep 136 = .ok (.sipush 1253, 3) := by decide +kernel
theorem dX9_keep_139 : decode cX9_keep 139 = .ok (.iload_n 2, 1) := by decide +kernel
theorem dX9_keep_140 : decode cX9_keep 140 = .ok (.iadd, 1) := by decide +kernel
theorem dX9_keep_141 : decode cX9_keep 141 = .ok (.iaload, 1) := by decide +kernel
theorem dX9_keep_142 : decode cX9_keep 142 = .ok (.iastore, 1) := by decide +kernel
theorem dX9_keep_143 : decode cX9_keep 143 = .ok (.iinc 2 1, 3) := by decide +kernel
theorem dX9_keep_146 : decode cX9_keep 146 = .ok (.goto (-32), 3) := by decide +kernel
theorem dX9_keep_149 : decode cX9_keep 149 = .ok (.aload_n 0, 1) := by decide +kernel
theorem dX9_keep_150 : decode cX9_keep 150 = .ok (.getfield 7, 3) := by decide +kernel
theorem dX9_keep_153 : decode cX9_keep 153 = .ok (.iconst 4, 1) := by decide +kernel
theorem dX9_keep_154 : decode cX9_keep 154 = .ok (.dup2, 1) := by decide +kernel
theorem dX9_keep_155 : decode cX9_keep 155 = .ok (.iaload, 1) := by decide +kernel
theorem dX9_keep_156 : decode cX9_keep 156 = .ok (.iconst 1, 1) := by decide +kernel
theorem dX9_keep_157 : decode cX9_keep 157 = .ok (.iadd, 1) := by decide +kernel
theorem dX9_keep_158 : decode cX9_keep 158 = .ok (.iastore, 1) := by decide +kernel
theorem dX9_keep_159 : decode cX9_keep 159 = .ok (.return_, 1) := by decide +kernel
theorem dX9_undo_0 : decode cX9_undo 0 = .ok (.aload_n 0, 1) := by decide +kernel
theorem dX9_undo_1 : decode cX9_undo 1 = .ok (.getfield 7, 3) := by decide +kernel
theorem dX9_undo_4 : decode cX9_undo 4 = .ok (.iconst 4, 1) := by decide +kernel
theorem dX9_undo_5 : decode cX9_undo 5 = .ok (.iaload, 1) := by decide +kernel
theorem dX9_undo_6 : decode cX9_undo 6 = .ok (.ifCond .ne 5, 3) := by decide +kernel
theorem dX9_undo_9 : decode cX9_undo 9 = .ok (.iconst (-1), 1) := by decide +kernel
theorem dX9_undo_10 : decode cX9_undo 10 = .ok (.ireturn, 1) := by decide +kernel
theorem dX9_undo_11 : decode cX9_undo 11 = .ok (.aload_n 0, 1) := by decide +kernel
theorem dX9_undo_12 : decode cX9_undo 12 = .ok (.getfield 7, 3) := by decide +kernel
theorem dX9_undo_15 : decode cX9_undo 15 = .ok (.iconst 4, 1) := by decide +kernel
theorem dX9_undo_16 : decode cX9_undo 16 = .ok (.dup2, 1) := by decide +kernel
theorem dX9_undo_17 : decode cX9_undo 17 = .ok (.iaload, 1) := by decide +kernel
theorem dX9_undo_18 : decode cX9_undo 18 = .ok (.iconst 1, 1) := by decide +kernel
theorem dX9_undo_19 : decode cX9_undo 19 = .ok (.isub, 1) := by decide +kernel
theorem dX9_undo_20 : decode cX9_undo 20 = .ok (.iastore, 1) := by decide +kernel
theorem dX9_undo_21 : decode cX9_undo 21 = .ok (.bipush 83, 2) := by decide +kernel
theorem dX9_undo_23 : decode cX9_undo 23 = .ok (.bipush 39, 2) := by decide +kernel
theorem dX9_undo_25 : decode cX9_undo 25 = .ok (.aload_n 0, 1) := by decide +kernel
theorem dX9_undo_26 : decode cX9_undo 26 = .ok (.getfield 7, 3) := by decide +kernel
theorem dX9_undo_29 : decode cX9_undo 29 = .ok (.iconst 4, 1) := by decide +kernel
theorem dX9_undo_30 : decode cX9_undo 30 = .ok (.iaload, 1) := by decide +kernel
theorem dX9_undo_31 : decode cX9_undo 31 = .ok (.imul, 1) := by decide +kernel
theorem dX9_undo_32 : decode cX9_undo 32 = .ok (.iadd, 1) := by decide +kernel
theorem dX9_undo_33 : decode cX9_undo 33 = .ok (.istore_n 1, 1) := by decide +kernel
theorem dX9_undo_34 : decode cX9_undo 34 = .ok (.iconst 0, 1) := by decide +kernel
theorem dX9_undo_35 : decode cX9_undo 35 = .ok (.istore_n 2, 1) := by decide +kernel
theorem dX9_undo_36 : decode cX9_undo 36 = .ok (.iload_n 2, 1) := by decide +kernel
theorem dX9_undo_37 : decode cX9_undo 37 = .ok (.bipush 13, 2) := by decide +kernel
theorem dX9_undo_39 : decode cX9_undo 39 = .ok (.if_icmp .ge 28, 3) := by decide +kernel
theorem dX9_undo_42 : decode cX9_undo 42 = .ok (.aload_n 0, 1) := by decide +kernel
theorem dX9_undo_43 : decode cX9_undo 43 = .ok (.getfield 7, 3) := by decide +kernel
theorem dX9_undo_46 : decode cX9_undo 46 = .ok (.bipush 8, 2) := by decide +kernel
theorem dX9_undo_48 : decode cX9_undo 48 = .ok (.iload_n 2, 1) := by decide +kernel
theorem dX9_undo_49 : decode cX9_undo 49 = .ok (.iadd, 1) := by decide +kernel
theorem dX9_undo_50 : decode cX9_undo 50 = .ok (.aload_n 0, 1) := by decide +kernel
theorem dX9_undo_51 : decode cX9_undo 51 = .ok (.getfield 7, 3) := by decide +kernel
theorem dX9_undo_54 : decode cX9_undo 54 = .ok (.iload_n 1, 1) := by decide +kernel
theorem dX9_undo_55 : decode cX9_undo 55 = .ok (.iconst 1, 1) := by decide +kernel
theorem dX9_undo_56 : decode cX9_undo 56 = .ok (.iadd, 1) := by decide +kernel
theorem dX9_undo_57 : decode cX9_undo 57 = .ok (.iload_n 2, 1) := by decide +kernel
theorem dX9_undo_58 : decode cX9_undo 58 = .ok (.iadd, 1) := by decide +kernel
theorem dX9_undo_59 : decode cX9_undo 59 = .ok (.iaload, 1) := by decide +kernel
theorem dX9_undo_60 : decode cX9_undo 60 = .ok (.iastore, 1) := by decide +kernel
theorem dX9_undo_61 : decode cX9_undo 61 = .ok (.iinc 2 1, 3) := by decide +kernel
theorem dX9_undo_64 : decode cX9_undo 64 = .ok (.goto (-28), 3) := by decide +kernel
theorem dX9_undo_67 : decode cX9_undo 67 = .ok (.aload_n 0, 1) := by decide +kernel
theorem dX9_undo_68 : decode cX9_undo 68 = .ok (.getfield 7, 3) := by decide +kernel
theorem dX9_undo_71 : decode cX9_undo 71 = .ok (.iload_n 1, 1) := by decide +kernel
theorem dX9_undo_72 : decode cX9_undo 72 = .ok (.iaload, 1) := by decide +kernel
theorem dX9_undo_73 : decode cX9_undo 73 = .ok (.istore_n 2, 1) := by decide +kernel
theorem dX9_undo_74 : decode cX9_undo 74 = .ok (.iload_n 2, 1) := by decide +kernel
theorem dX9_undo_75 : decode cX9_undo 75 = .ok (.aload_n 0, 1) := by decide +kernel
theorem dX9_undo_76 : decode cX9_undo 76 = .ok (.getfield 7, 3) := by decide +kernel
theorem dX9_undo_79 : decode cX9_undo 79 = .ok (.iconst 0, 1) := by decide +kernel
theorem dX9_undo_80 : decode cX9_undo 80 = .ok (.iaload, 1) := by decide +kernel
theorem dX9_undo_81 : decode cX9_undo 81 = .ok (.if_icmp .ge 14, 3) := by decide +kernel
theorem dX9_undo_84 : decode cX9_undo 84 = .ok (.aload_n 0, 1) := by decide +kernel
theorem dX9_undo_85 : decode cX9_undo 85 = .ok (.iload_n 2, 1) := by decide +kernel
theorem dX9_undo_86 : decode cX9_undo 86 = .ok (.invokevirtual 77, 3) := by decide +kernel
theorem dX9_undo_89 : decode cX9_undo 89 = .ok (.iinc 2 1, 3) := by decide +kernel
theorem dX9_undo_92 : decode cX9_undo 92 = .ok (.goto (-18), 3) := by decide +kernel
theorem dX9_undo_95 : decode cX9_undo 95 = .ok (.iconst 0, 1) := by decide +kernel
theorem dX9_undo_96 : decode cX9_undo 96 = .ok (.istore_n 2, 1) := by decide +kernel
theorem dX9_undo_97 : decode cX9_undo 97 = .ok (.iload_n 2, 1) := by decide +kernel
theorem dX9_undo_98 : decode cX9_undo 98 = .ok (.bipush 25, 2) := by decide +kernel
theorem dX9_undo_100 : decode cX9_undo 100 = .ok (.if_icmp .ge 32, 3) := by decide +kernel
theorem dX9_undo_103 : decode cX9_undo 103 = .ok (.aload_n 0, 1) := by decide +kernel
theorem dX9_undo_104 : decode cX9_undo 104 = .ok (.getfield 7, 3) := by decide +kernel
theorem dX9_undo_107 : decode cX9_undo 107 = .ok (.sipush 1253, 3) := by decide +kernel
theorem dX9_undo_110 : decode cX9_undo 110 = .ok (.iload_n 2, 1) := by decide +kernel
theorem dX9_undo_111 : decode cX9_undo 111 = .ok (.iadd, 1) := by decide +kernel
theorem dX9_undo_112 : decode cX9_undo 112 = .ok (.aload_n 0, 1) := by decide +kernel
theorem dX9_undo_113 : decode cX9_undo 113 = .ok (.getfield 7, 3) := by decide +kernel
theorem dX9_undo_116 : decode cX9_undo 116 = .ok (.iload_n 1, 1) := by decide +kernel
theorem dX9_undo_117 : decode cX9_undo 117 = .ok (.iconst 1, 1) := by decide +kernel
theorem dX9_undo_118 : decode cX9_undo 118 = .ok (.iadd, 1) := by decide +kernel
theorem dX9_undo_119 : decode cX9_undo 119 = .ok (.bipush 13, 2) := by decide +kernel
theorem dX9_undo_121 : decode cX9_undo 121 = .ok (.iadd, 1) := by decide +kernel
theorem dX9_undo_122 : decode cX9_undo 122 = .ok (.iload_n 2, 1) := by decide +kernel
theorem dX9_undo_123 : decode cX9_undo 123 = .ok (.iadd, 1) := by decide +kernel
theorem dX9_undo_124 : decode cX9_undo 124 = .ok (.iaload, 1) := by decide +kernel
theorem dX9_undo_125 : decode cX9_undo 125 = .ok (.iastore, 1) := by decide +kernel
theorem dX9_undo_126 : decode cX9_undo 126 = .ok (.iinc 2 1, 3) := by decide +kernel
theorem dX9_undo_129 : decode cX9_undo 129 = .ok (.goto (-32), 3) := by decide +kernel
theorem dX9_undo_132 : decode cX9_undo 132 = .ok (.aload_n 0, 1) := by decide +kernel
theorem dX9_undo_133 : decode cX9_undo 133 = .ok (.getfield 7, 3) := by decide +kernel
theorem dX9_undo_136 : decode cX9_undo 136 = .ok (.iconst 4, 1) := by decide +kernel
theorem dX9_undo_137 : decode cX9_undo 137 = .ok (.iaload, 1) := by decide +kernel
theorem dX9_undo_138 : decode cX9_undo 138 = .ok (.ireturn, 1) := by decide +kernel
theorem dX9_argue_0 : decode cX9_argue 0 = .ok (.aload_n 0, 1) := by decide +kernel
theorem dX9_argue_1 : decode cX9_argue 1 = .ok (.iload_n 1, 1) := by decide +kernel
theorem dX9_argue_2 : decode cX9_argue 2 = .ok (.iload_n 2, 1) := by decide +kernel
theorem dX9_argue_3 : decode cX9_argue 3 = .ok (.iload_n 3, 1) := by decide +kernel
theorem dX9_argue_4 : decode cX9_argue 4 = .ok (.invokevirtual 344, 3) := by decide +kernel
theorem dX9_argue_7 : decode cX9_argue 7 = .ok (.ifCond .ne 5, 3) := by decide +kernel
theorem dX9_argue_10 : decode cX9_argue 10 = .ok (.iconst (-1), 1) := by decide +kernel
theorem dX9_argue_11 : decode cX9_argue 11 = .ok (.ireturn, 1) := by decide +kernel
theorem dX9_argue_12 : decode cX9_argue 12 = .ok (.aload_n 0, 1) := by decide +kernel
theorem dX9_argue_13 : decode cX9_argue 13 = .ok (.invokevirtual 347, 3) := by decide +kernel
theorem dX9_argue_16 : decode cX9_argue 16 = .ok (.aload_n 0, 1) := by decide +kernel
theorem dX9_argue_17 : decode cX9_argue 17 = .ok (.iload_n 1, 1) := by decide +kernel
theorem dX9_argue_18 : decode cX9_argue 18 = .ok (.iload_n 2, 1) := by decide +kernel
theorem dX9_argue_19 : decode cX9_argue 19 = .ok (.iload_n 3, 1) := by decide +kernel
theorem dX9_argue_20 : decode cX9_argue 20 = .ok (.invokevirtual 341, 3) := by decide +kernel
theorem dX9_argue_23 : decode cX9_argue 23 = .ok (.ireturn, 1) := by decide +kernel
theorem dX9_pour_0 : decode cX9_pour 0 = .ok (.aload_n 0, 1) := by decide +kernel
theorem dX9_pour_1 : decode cX9_pour 1 = .ok (.iload_n 1, 1) := by decide +kernel
theorem dX9_pour_2 : decode cX9_pour 2 = .ok (.iload_n 2, 1) := by decide +kernel
theorem dX9_pour_3 : decode cX9_pour 3 = .ok (.invokevirtual 350, 3) := by decide +kernel
theorem dX9_pour_6 : decode cX9_pour 6 = .ok (.ifCond .ne 5, 3) := by decide +kernel
theorem dX9_pour_9 : decode cX9_pour 9 = .ok (.iconst 0, 1) := by decide +kernel
theorem dX9_pour_10 : decode cX9_pour 10 = .ok (.ireturn, 1) := by decide +kernel
theorem dX9_pour_11 : decode cX9_pour 11 = .ok (.aload_n 0, 1) := by decide +kernel
theorem dX9_pour_12 : decode cX9_pour 12 = .ok (.invokevirtual 347, 3) := by decide +kernel
theorem dX9_pour_15 : decode cX9_pour 15 = .ok (.aload_n 0, 1) := by decide +kernel
theorem dX9_pour_16 : decode cX9_pour 16 = .ok (.getfield 7, 3) := by decide +kernel
theorem dX9_pour_19 : decode cX9_pour 19 = .ok (.bipush 13, 2) := by decide +kernel
theorem dX9_pour_21 : decode cX9_pour 21 = .ok (.iconst 2, 1) := by decide +kernel
theorem dX9_pour_22 : decode cX9_pour 22 = .ok (.iload_n 1, 1) := by decide +kernel
theorem dX9_pour_23 : decode cX9_pour 23 = .ok (.imul, 1) := by decide +kernel
theorem dX9_pour_24 : decode cX9_pour 24 = .ok (.iadd, 1) := by decide +kernel
theorem dX9_pour_25 : decode cX9_pour 25 = .ok (.dup2, 1) := by decide +kernel
theorem dX9_pour_26 : decode cX9_pour 26 = .ok (.iaload, 1) := by decide +kernel
theorem dX9_pour_27 : decode cX9_pour 27 = .ok (.iload_n 2, 1) := by decide +kernel
theorem dX9_pour_28 : decode cX9_pour 28 = .ok (.iadd, 1) := by decide +kernel
theorem dX9_pour_29 : decode cX9_pour 29 = .ok (.iastore, 1) := by decide +kernel
theorem dX9_pour_30 : decode cX9_pour 30 = .ok (.iconst 1, 1) := by decide +kernel
theorem dX9_pour_31 : decode cX9_pour 31 = .ok (.ireturn, 1) := by decide +kernel
theorem dX9_snuff_0 : decode cX9_snuff 0 = .ok (.iload_n 1, 1) := by decide +kernel
theorem dX9_snuff_1 : decode cX9_snuff 1 = .ok (.invokestatic 353, 3) := by decide +kernel
theorem dX9_snuff_4 : decode cX9_snuff 4 = .ok (.ifCond .eq 17, 3) := by decide +kernel
theorem dX9_snuff_7 : decode cX9_snuff 7 = .ok (.aload_n 0, 1) := by decide +kernel
theorem dX9_snuff_8 : decode cX9_snuff 8 = .ok (.getfield 7, 3) := by decide +kernel
theorem dX9_snuff_11 : decode cX9_snuff 11 = .ok (.bipush 10, 2) := by decide +kernel
theorem dX9_snuff_13 : decode cX9_snuff 13 = .ok (.iaload, 1) := by decide +kernel
theorem dX9_snuff_14 : decode cX9_snuff 14 = .ok (.iload_n 1, 1) := by decide +kernel
theorem dX9_snuff_15 : decode cX9_snuff 15 = .ok (.invokestatic 248, 3) := by decide +kernel
theorem dX9_snuff_18 : decode cX9_snuff 18 = .ok (.ifCond .ne 5, 3) := by decide +kernel
theorem dX9_snuff_21 : decode cX9_snuff 21 = .ok (.iconst 0, 1) := by decide +kernel
theorem dX9_snuff_22 : decode cX9_snuff 22 = .ok (.ireturn, 1) := by decide +kernel
theorem dX9_snuff_23 : decode cX9_snuff 23 = .ok (.aload_n 0, 1) := by decide +kernel
theorem dX9_snuff_24 : decode cX9_snuff 24 = .ok (.invokevirtual 347, 3) := by decide +kernel
theorem dX9_snuff_27 : decode cX9_snuff 27 = .ok (.aload_n 0, 1) := by decide +kernel
theorem dX9_snuff_28 : decode cX9_snuff 28 = .ok (.getfield 7, 3) := by decide +kernel
theorem dX9_snuff_31 : decode cX9_snuff 31 = .ok (.bipush 10, 2) := by decide +kernel
theorem dX9_snuff_33 : decode cX9_snuff 33 = .ok (.dup2, 1) := by decide +kernel
theorem dX9_snuff_34 : decode cX9_snuff 34 = .ok (.iaload, 1) := by decide +kernel
theorem dX9_snuff_35 : decode cX9_snuff 35 = .ok (.iconst 1, 1) := by decide +kernel
theorem dX9_snuff_36 : decode cX9_snuff 36 = .ok (.iload_n 1, 1) := by decide +kernel
theorem dX9_snuff_37 : decode cX9_snuff 37 = .ok (.ishl, 1) := by decide +kernel
theorem dX9_snuff_38 : decode cX9_snuff 38 = .ok (.ixor, 1) := by decide +kernel
theorem dX9_snuff_39 : decode cX9_snuff 39 = .ok (.iastore, 1) := by decide +kernel
theorem dX9_snuff_40 : decode cX9_snuff 40 = .ok (.iconst 1, 1) := by decide +kernel
theorem dX9_snuff_41 : decode cX9_snuff 41 = .ok (.ireturn, 1) := by decide +kernel
theorem dX9_arePassed_0 : decode cX9_arePassed 0 = .ok (.aload_n 0, 1) := by decide +kernel
theorem dX9_arePassed_1 : decode cX9_arePassed 1 = .ok (.iconst 0, 1) := by decide +kernel
theorem dX9_arePassed_2 : decode cX9_arePassed 2 = .ok (.putfield 326, 3) := by decide +kernel
theorem dX9_arePassed_5 : decode cX9_arePassed 5 = .ok (.iconst 0, 1) := by decide +kernel
theorem dX9_arePassed_6 : decode cX9_arePassed 6 = .ok (.istore_n 2, 1) := by decide +kernel
theorem dX9_arePassed_7 : decode cX9_arePassed 7 = .ok (.iload_n 2, 1) := by decide +kernel
theorem dX9_arePassed_8 : decode cX9_arePassed 8 = .ok (.iload_n 1, 1) := by decide +kernel
theorem dX9_arePassed_9 : decode cX9_arePassed 9 = .ok (.if_icmp .ge 32, 3) := by decide +kernel
theorem dX9_arePassed_12 : decode cX9_arePassed 12 = .ok (.aload_n 0, 1) := by decide +kernel
theorem dX9_arePassed_13 : decode cX9_arePassed 13 = .ok (.getfield 7, 3) := by decide +kernel
theorem dX9_arePassed_16 : decode cX9_arePassed 16 = .ok (.bipush 8, 2) := by decide +kernel
theorem dX9_arePassed_18 : decode cX9_arePassed 18 = .ok (.iaload, 1) := by decide +kernel
theorem dX9_arePassed_19 : decode cX9_arePassed 19 = .ok (.sipush 9999, 3) := by decide +kernel
theorem dX9_arePassed_22 : decode cX9_arePassed 22 = .ok (.if_icmp .ne 5, 3) := by decide +kernel
theorem dX9_arePassed_25 : decode cX9_arePassed 25 = .ok (.iconst 0, 1) := by decide +kernel
theorem dX9_arePassed_26 : decode cX9_arePassed 26 = .ok (.ireturn, 1) := by decide +kernel
theorem dX9_arePassed_27 : decode cX9_arePassed 27 = .ok (.aload_n 0, 1) := by decide +kernel
theorem dX9_arePassed_28 : decode cX9_arePassed 28 = .ok (.invokevirtual 347, 3) := by decide +kernel
theorem dX9_arePassed_31 : decode cX9_arePassed 31 = .ok (.aload_n 0, 1) := by decide +kernel
theorem dX9_arePassed_32 : decode cX9_arePassed 32 = .ok (.invokevirtual 356, 3) := by decide +kernel
theorem dX9_arePassed_35 : decode cX9_arePassed 35 = .ok (.iinc 2 1, 3) := by decide +kernel
theorem dX9_arePassed_38 : decode cX9_arePassed 38 = .ok (.goto (-31), 3) := by decide +kernel
theorem dX9_arePassed_41 : decode cX9_arePassed 41 = .ok (.iconst 1, 1) := by decide +kernel
theorem dX9_arePassed_42 : decode cX9_arePassed 42 = .ok (.ireturn, 1) := by decide +kernel
theorem dX9_night_0 : decode cX9_night 0 = .ok (.iload_n 1, 1) := by decide +kernel
theorem dX9_night_1 : decode cX9_night 1 = .ok (.iconst 1, 1) := by decide +kernel
theorem dX9_night_2 : decode cX9_night 2 = .ok (.bipush 60, 2) := by decide +kernel
theorem dX9_night_4 : decode cX9_night 4 = .ok (.invokestatic 69, 3) := by decide +kernel
theorem dX9_night_7 : decode cX9_night 7 = .ok (.ifCond .eq 33, 3) := by decide +kernel
theorem dX9_night_10 : decode cX9_night 10 = .ok (.aload_n 0, 1) := by decide +kernel
theorem dX9_night_11 : decode cX9_night 11 = .ok (.getfield 7, 3) := by decide +kernel
theorem dX9_night_14 : decode cX9_night 14 = .ok (.bipush 8, 2) := by decide +kernel
theorem dX9_night_16 : decode cX9_night 16 = .ok (.iaload, 1) := by decide +kernel
theorem dX9_night_17 : decode cX9_night 17 = .ok (.iload_n 1, 1) := by decide +kernel
theorem dX9_night_18 : decode cX9_night 18 = .ok (.iadd, 1) := by decide +kernel
theorem dX9_night_19 : decode cX9_night 19 = .ok (.sipush 9999, 3) := by decide +kernel
theorem dX9_night_22 : decode cX9_night 22 = .ok (.if_icmp .gt 18, 3) := by decide +kernel
theorem dX9_night_25 : decode cX9_night 25 = .ok (.aload_n 0, 1) := by decide +kernel
theorem dX9_night_26 : decode cX9_night 26 = .ok (.iload_n 1, 1) := by decide +kernel
theorem dX9_night_27 : decode cX9_night 27 = .ok (.invokevirtual 359, 3) := by decide +kernel
theorem dX9_night_30 : decode cX9_night 30 = .ok (.ifCond .eq 10, 3) := by decide +kernel
theorem dX9_night_33 : decode cX9_night 33 = .ok (.aload_n 0, 1) := by decide +kernel
theorem dX9_night_34 : decode cX9_night 34 = .ok (.getfield 326, 3) := by decide +kernel
theorem dX9_night_37 : decode cX9_night 37 = .ok (.goto 4, 3) := by decide +kernel
theorem dX9_night_40 : decode cX9_night 40 = .ok (.iconst (-1), 1) := by decide +kernel
theorem dX9_night_41 : decode cX9_night 41 = .ok (.ireturn, 1) := by decide +kernel
theorem dX9_turnsOf_0 : decode cX9_turnsOf 0 = .ok (.iconst 0, 1) := by decide +kernel
theorem dX9_turnsOf_1 : decode cX9_turnsOf 1 = .ok (.istore_n 2, 1) := by decide +kernel
theorem dX9_turnsOf_2 : decode cX9_turnsOf 2 = .ok (.iconst 0, 1) := by decide +kernel
theorem dX9_turnsOf_3 : decode cX9_turnsOf 3 = .ok (.istore_n 3, 1) := by decide +kernel
theorem dX9_turnsOf_4 : decode cX9_turnsOf 4 = .ok (.iload_n 3, 1) := by decide +kernel
theorem dX9_turnsOf_5 : decode cX9_turnsOf 5 = .ok (.iload_n 1, 1) := by decide +kernel
theorem dX9_turnsOf_6 : decode cX9_turnsOf 6 = .ok (.if_icmp .gt 20, 3) := by decide +kernel
theorem dX9_turnsOf_9 : decode cX9_turnsOf 9 = .ok (.iload_n 2, 1) := by decide +kernel
theorem dX9_turnsOf_10 : decode cX9_turnsOf 10 = .ok (.iconst 1, 1) := by decide +kernel
theorem dX9_turnsOf_11 : decode cX9_turnsOf 11 = .ok (.iload_n 0, 1) := by decide +kernel
theorem dX9_turnsOf_12 : decode cX9_turnsOf 12 = .ok (.iload_n 3, 1) := by decide +kernel
theorem dX9_turnsOf_13 : decode cX9_turnsOf 13 = .ok (.iadd, 1) := by decide +kernel
theorem dX9_turnsOf_14 : decode cX9_turnsOf 14 = .ok (.bipush 10, 2) := by decide +kernel
theorem dX9_turnsOf_16 : decode cX9_turnsOf 16 = .ok (.irem, 1) := by decide +kernel
theorem dX9_turnsOf_17 : decode cX9_turnsOf 17 = .ok (.ishl, 1) := by decide +kernel
theorem dX9_turnsOf_18 : decode cX9_turnsOf 18 = .ok (.ior, 1) := by decide +kernel
theorem dX9_turnsOf_19 : decode cX9_turnsOf 19 = .ok (.istore_n 2, 1) := by decide +kernel
theorem dX9_turnsOf_20 : decode cX9_turnsOf 20 = .ok (.iinc 3 1, 3) := by decide +kernel
theorem dX9_turnsOf_23 : decode cX9_turnsOf 23 = .ok (.goto (-19), 3) := by decide +kernel
theorem dX9_turnsOf_26 : decode cX9_turnsOf 26 = .ok (.iload_n 2, 1) := by decide +kernel
theorem dX9_turnsOf_27 : decode cX9_turnsOf 27 = .ok (.ireturn, 1) := by decide +kernel
theorem dX9_isPlayed_0 : decode cX9_isPlayed 0 = .ok (.aload_n 0, 1) := by decide +kernel
theorem dX9_isPlayed_1 : decode cX9_isPlayed 1 = .ok (.getfield 16, 3) := by decide +kernel
theorem dX9_isPlayed_4 : decode cX9_isPlayed 4 = .ok (.iload_n 1, 1) := by decide +kernel
theorem dX9_isPlayed_5 : decode cX9_isPlayed 5 = .ok (.iconst 1, 1) := by decide +kernel
theorem dX9_isPlayed_6 : decode cX9_isPlayed 6 = .ok (.iadd, 1) := by decide +kernel
theorem dX9_isPlayed_7 : decode cX9_isPlayed 7 = .ok (.iaload, 1) := by decide +kernel
theorem dX9_isPlayed_8 : decode cX9_isPlayed 8 = .ok (.istore_n 2, 1) := by decide +kernel
theorem dX9_isPlayed_9 : decode cX9_isPlayed 9 = .ok (.aload_n 0, 1) := by decide +kernel
theorem dX9_isPlayed_10 : decode cX9_isPlayed 10 = .ok (.getfield 16, 3) := by decide +kernel
theorem dX9_isPlayed_13 : decode cX9_isPlayed 13 = .ok (.iload_n 1, 1) := by decide +kernel
theorem dX9_isPlayed_14 : decode cX9_isPlayed 14 = .ok (.iconst 2, 1) := by decide +kernel
theorem dX9_isPlayed_15 : decode cX9_isPlayed 15 = .ok (.iadd, 1) := by decide +kernel
theorem dX9_isPlayed_16 : decode cX9_isPlayed 16 = .ok (.iaload, 1) := by decide +kernel
theorem dX9_isPlayed_17 : decode cX9_isPlayed 17 = .ok (.istore_n 3, 1) := by decide +kernel
theorem dX9_isPlayed_18 : decode cX9_isPlayed 18 = .ok (.aload_n 0, 1) := by decide +kernel
theorem dX9_isPlayed_19 : decode cX9_isPlayed 19 = .ok (.getfield 16, 3) := by decide +kernel
theorem dX9_isPlayed_22 : decode cX9_isPlayed 22 = .ok (.iload_n 1, 1) := by decide +kernel
theorem dX9_isPlayed_23 : decode cX9_isPlayed 23 = .ok (.iaload, 1) := by decide +kernel
theorem dX9_isPlayed_24 : decode cX9_isPlayed 24 = .ok (.tableswitch 115 2 7 #[40, 55, 73, 96, 103, 109], 40) := by decide +kernel
theorem dX9_isPlayed_64 : decode cX9_isPlayed 64 = .ok (.aload_n 0, 1) := by decide +kernel
theorem dX9_isPlayed_65 : decode cX9_isPlayed 65 = .ok (.iload_n 2, 1) := by decide +kernel
theorem dX9_isPlayed_66 : decode cX9_isPlayed 66 = .ok (.iload_n 3, 1) := by decide +kernel
theorem dX9_isPlayed_67 : decode cX9_isPlayed 67 = .ok (.invokevirtual 362, 3) := by decide +kernel
theorem dX9_isPlayed_70 : decode cX9_isPlayed 70 = .ok (.ifCond .lt 7, 3) := by decide +kernel
theorem dX9_isPlayed_73 : decode cX9_isPlayed 73 = .ok (.iconst 1, 1) := by decide +kernel
theorem dX9_isPlayed_74 : decode cX9_isPlayed 74 = .ok (.goto 4, 3) := by decide +kernel
theorem dX9_isPlayed_77 : decode cX9_isPlayed 77 = .ok (.iconst 0, 1) := by decide +kernel
theorem dX9_isPlayed_78 : decode cX9_isPlayed 78 = .ok (.ireturn, 1) := by decide +kernel
theorem dX9_isPlayed_79 : decode cX9_isPlayed 79 = .ok (.aload_n 0, 1) := by decide +kernel
theorem dX9_isPlayed_80 : decode cX9_isPlayed 80 = .ok (.iload_n 2, 1) := by decide +kernel
theorem dX9_isPlayed_81 : decode cX9_isPlayed 81 = .ok (.iload_n 3, 1) := by decide +kernel
theorem dX9_isPlayed_82 : decode cX9_isPlayed 82 = .ok (.invokestatic 365, 3) := by decide +kernel
theorem dX9_isPlayed_85 : decode cX9_isPlayed 85 = .ok (.invokevirtual 368, 3) := by decide +kernel
theorem dX9_isPlayed_88 : decode cX9_isPlayed 88 = .ok (.ifCond .lt 7, 3) := by decide +kernel
theorem dX9_isPlayed_91 : decode cX9_isPlayed 91 = .ok (.iconst 1, 1) := by decide +kernel
theorem dX9_isPlayed_92 : decode cX9_isPlayed 92 = .ok (.goto 4, 3) := by decide +kernel
theorem dX9_isPlayed_95 : decode cX9_isPlayed 95 = .ok (.iconst 0, 1) := by decide +kernel
theorem dX9_isPlayed_96 : decode cX9_isPlayed 96 = .ok (.ireturn, 1) := by decide +kernel
theorem dX9_isPlayed_97 : decode cX9_isPlayed 97 = .ok (.aload_n 0, 1) := by decide +kernel
theorem dX9_isPlayed_98 : decode cX9_isPlayed 98 = .ok (.iload_n 2, 1) := by decide +kernel
theorem dX9_isPlayed_99 : decode cX9_isPlayed 99 = .ok (.iload_n 3, 1) := by decide +kernel
theorem dX9_isPlayed_100 : decode cX9_isPlayed 100 = .ok (.aload_n 0, 1) := by decide +kernel
theorem dX9_isPlayed_101 : decode cX9_isPlayed 101 = .ok (.getfield 16, 3) := by decide +kernel
theorem dX9_isPlayed_104 : decode cX9_isPlayed 104 = .ok (.iload_n 1, 1) := by decide +kernel
theorem dX9_isPlayed_105 : decode cX9_isPlayed 105 = .ok (.iconst 3, 1) := by decide +kernel
theorem dX9_isPlayed_106 : decode cX9_isPlayed 106 = .ok (.iadd, 1) := by decide +kernel
theorem dX9_isPlayed_107 : decode cX9_isPlayed 107 = .ok (.iaload, 1) := by decide +kernel
theorem dX9_isPlayed_108 : decode cX9_isPlayed 108 = .ok (.invokevirtual 371, 3) := by decide +kernel
theorem dX9_isPlayed_111 : decode cX9_isPlayed 111 = .ok (.ifCond .lt 7, 3) := by decide +kernel
theorem dX9_isPlayed_114 : decode cX9_isPlayed 114 = .ok (.iconst 1, 1) := by decide +kernel
theorem dX9_isPlayed_115 : decode cX9_isPlayed 115 = .ok (.goto 4, 3) := by decide +kernel
theorem dX9_isPlayed_118 : decode cX9_isPlayed 118 = .ok (.iconst 0, 1) := by decide +kernel
theorem dX9_isPlayed_119 : decode cX9_isPlayed 119 = .ok (.ireturn, 1) := by decide +kernel
theorem dX9_isPlayed_120 : decode cX9_isPlayed 120 = .ok (.aload_n 0, 1) := by decide +kernel
theorem dX9_isPlayed_121 : decode cX9_isPlayed 121 = .ok (.iload_n 3, 1) := by decide +kernel
theorem dX9_isPlayed_122 : decode cX9_isPlayed 122 = .ok (.iload_n 2, 1) := by decide +kernel
theorem dX9_isPlayed_123 : decode cX9_isPlayed 123 = .ok (.invokevirtual 374, 3) := by decide +kernel
theorem dX9_isPlayed_126 : decode cX9_isPlayed 126 = .ok (.ireturn, 1) := by decide +kernel
theorem dX9_isPlayed_127 : decode cX9_isPlayed 127 = .ok (.aload_n 0, 1) := by decide +kernel
theorem dX9_isPlayed_128 : decode cX9_isPlayed 128 = .ok (.iload_n 2, 1) := by decide +kernel
theorem dX9_isPlayed_129 : decode cX9_isPlayed 129 = .ok (.invokevirtual 377, 3) := by decide +kernel
theorem dX9_isPlayed_132 : decode cX9_isPlayed 132 = .ok (.ireturn, 1) := by decide +kernel
theorem dX9_isPlayed_133 : decode cX9_isPlayed 133 = .ok (.aload_n 0, 1) := by decide +kernel
theorem dX9_isPlayed_134 : decode cX9_isPlayed 134 = .ok (.iload_n 2, 1) := by decide +kernel
theorem dX9_isPlayed_135 : decode cX9_isPlayed 135 = .ok (.invokevirtual 359, 3) := by decide +kernel
theorem dX9_isPlayed_138 : decode cX9_isPlayed 138 = .ok (.ireturn, 1) := by decide +kernel
theorem dX9_isPlayed_139 : decode cX9_isPlayed 139 = .ok (.iconst 1, 1) := by decide +kernel
theorem dX9_isPlayed_140 : decode cX9_isPlayed 140 = .ok (.ireturn, 1) := by decide +kernel
theorem dX9_played_0 : decode cX9_played 0 = .ok (.iload_n 1, 1) := by decide +kernel
theorem dX9_played_1 : decode cX9_played 1 = .ok (.iconst 0, 1) := by decide +kernel
theorem dX9_played_2 : decode cX9_played 2 = .ok (.aload_n 0, 1) := by decide +kernel
theorem dX9_played_3 : decode cX9_played 3 = .ok (.getfield 7, 3) := by decide +kernel
theorem dX9_played_6 : decode cX9_played 6 = .ok (.iconst 2, 1) := by decide +kernel
theorem dX9_played_7 : decode cX9_played 7 = .ok (.iaload, 1) := by decide +kernel
theorem dX9_played_8 : decode cX9_played 8 = .ok (.iconst 1, 1) := by decide +kernel
theorem dX9_played_9 : decode cX9_played 9 = .ok (.isub, 1) := by decide +kernel
theorem dX9_played_10 : decode cX9_played 10 = .ok (.invokestatic 69, 3) := by decide +kernel
theorem dX9_played_13 : decode cX9_played 13 = .ok (.ifCond .ne 6, 3) := by decide +kernel
theorem dX9_played_16 : decode cX9_played 16 = .ok (.bipush (-2), 2) := by decide +kernel
theorem dX9_played_18 : decode cX9_played 18 = .ok (.ireturn, 1) := by decide +kernel
theorem dX9_played_19 : decode cX9_played 19 = .ok (.iconst 0, 1) := by decide +kernel
theorem dX9_played_20 : decode cX9_played 20 = .ok (.istore_n 2, 1) := by decide +kernel
theorem dX9_played_21 : decode cX9_played 21 = .ok (.iload_n 2, 1) := by decide +kernel
theorem dX9_played_22 : decode cX9_played 22 = .ok (.aload_n 0, 1) := by decide +kernel
theorem dX9_played_23 : decode cX9_played 23 = .ok (.getfield 16, 3) := by decide +kernel
theorem dX9_played_26 : decode cX9_played 26 = .ok (.sipush 705, 3) := by decide +kernel
theorem dX9_played_29 : decode cX9_played 29 = .ok (.iload_n 1, 1) := by decide +kernel
theorem dX9_played_30 : decode cX9_played 30 = .ok (.imul, 1) := by decide +kernel
theorem dX9_played_31 : decode cX9_played 31 = .ok (.iaload, 1) := by decide +kernel
theorem dX9_played_32 : decode cX9_played 32 = .ok (.if_icmp .ge 29, 3) := by decide +kernel
theorem dX9_played_35 : decode cX9_played 35 = .ok (.aload_n 0, 1) := by decide +kernel
theorem dX9_played_36 : decode cX9_played 36 = .ok (.sipush 705, 3) := by decide +kernel
theorem dX9_played_39 : decode cX9_played 39 = .ok (.iload_n 1, 1) := by decide +kernel
theorem dX9_played_40 : decode cX9_played 40 = .ok (.imul, 1) := by decide +kernel
theorem dX9_played_41 : decode cX9_played 41 = .ok (.iconst 1, 1) := by decide +kernel
theorem dX9_played_42 : decode cX9_played 42 = .ok (.iadd, 1) := by decide +kernel
theorem dX9_played_43 : decode cX9_played 43 = .ok (.iconst 4, 1) := by decide +kernel
theorem dX9_played_44 : decode cX9_played 44 = .ok (.iload_n 2, 1) := by decide +kernel
theorem dX9_played_45 : decode cX9_played 45 = .ok (.imul, 1) := by decide +kernel
theorem dX9_played_46 : decode cX9_played 46 = .ok (.iadd, 1) := by decide +kernel
theorem dX9_played_47 : decode cX9_played 47 = .ok (.invokevirtual 380, 3) := by decide +kernel
theorem dX9_played_50 : decode cX9_played 50 = .ok (.ifCond .ne 5, 3) := by decide +kernel
theorem dX9_played_53 : decode cX9_played 53 = .ok (.iload_n 2, 1) := by decide +kernel
theorem dX9_played_54 : decode cX9_played 54 = .ok (.ireturn, 1) := by decide +kernel
theorem dX9_played_55 : decode cX9_played 55 = .ok (.iinc 2 1, 3) := by decide +kernel
theorem dX9_played_58 : decode cX9_played 58 = .ok (.goto (-37), 3) := by decide +kernel
theorem dX9_played_61 : decode cX9_played 61 = .ok (.iconst (-1), 1) := by decide +kernel
theorem dX9_played_62 : decode cX9_played 62 = .ok (.ireturn, 1) := by decide +kernel
theorem dX9_happens_0 : decode cX9_happens 0 = .ok (.aload_n 0, 1) := by decide +kernel
theorem dX9_happens_1 : decode cX9_happens 1 = .ok (.getfield 7, 3) := by decide +kernel
theorem dX9_happens_4 : decode cX9_happens 4 = .ok (.iconst 0, 1) := by decide +kernel
theorem dX9_happens_5 : decode cX9_happens 5 = .ok (.iaload, 1) := by decide +kernel
theorem dX9_happens_6 : decode cX9_happens 6 = .ok (.istore_n 2, 1) := by decide +kernel
theorem dX9_happens_7 : decode cX9_happens 7 = .ok (.iload_n 1, 1) := by decide +kernel
theorem dX9_happens_8 : decode cX9_happens 8 = .ok (.bipush 6, 2) := by decide +kernel
theorem dX9_happens_10 : decode cX9_happens 10 = .ok (.idiv, 1) := by decide +kernel
theorem dX9_happens_11 : decode cX9_happens 11 = .ok (.istore_n 3, 1) := by decide +kernel
theorem dX9_happens_12 : decode cX9_happens 12 = .ok (.iload_n 1, 1) := by decide +kernel
theorem dX9_happens_13 : decode cX9_happens 13 = .ok (.bipush 6, 2) := by decide +kernel
theorem dX9_happens_15 : decode cX9_happens 15 = .ok (.irem, 1) := by decide +kernel
theorem dX9_happens_16 : decode cX9_happens 16 = .ok (.tableswitch 152 0 3 #[32, 32, 88, 109], 32) := by decide +kernel
theorem dX9_happens_48 : decode cX9_happens 48 = .ok (.iload_n 2, 1) := by decide +kernel
theorem dX9_happens_49 : decode cX9_happens 49 = .ok (.ifCond .le 136, 3) := by decide +kernel
theorem dX9_happens_52 : decode cX9_happens 52 = .ok (.aload_n 0, 1) := by decide +kernel
theorem dX9_happens_53 : decode cX9_happens 53 = .ok (.getfield 7, 3) := by decide +kernel
theorem dX9_happens_56 : decode cX9_happens 56 = .ok (.iconst 1, 1) := by decide +kernel
theorem dX9_happens_57 : decode cX9_happens 57 = .ok (.iaload, 1) := by decide +kernel
theorem dX9_happens_58 : decode cX9_happens 58 = .ok (.ifCond .le 127, 3) := by decide +kernel
theorem dX9_happens_61 : decode cX9_happens 61 = .ok (.aload_n 0, 1) := by decide +kernel
theorem dX9_happens_62 : decode cX9_happens 62 = .ok (.iload_n 3, 1) := by decide +kernel
theorem dX9_happens_63 : decode cX9_happens 63 = .ok (.aload_n 0, 1) := by decide +kernel
theorem dX9_happens_64 : decode cX9_happens 64 = .ok (.getfield 7, 3) := by decide +kernel
theorem dX9_happens_67 : decode cX9_happens 67 = .ok (.iconst 1, 1) := by decide +kernel
theorem dX9_happens_68 : decode cX9_happens 68 = .ok (.iaload, 1) := by decide +kernel
theorem dX9_happens_69 : decode cX9_happens 69 = .ok (.irem, 1) := by decide +kernel
theorem dX9_happens_70 : decode cX9_happens 70 = .ok (.iload_n 1, 1) := by decide +kernel
theorem dX9_happens_71 : decode cX9_happens 71 = .ok (.iload_n 2, 1) := by decide +kernel
theorem dX9_happens_72 : decode cX9_happens 72 = .ok (.irem, 1) := by decide +kernel
theorem dX9_happens_73 : decode cX9_happens 73 = .ok (.iload_n 3, 1) := by decide +kernel
theorem dX9_happens_74 : decode cX9_happens 74 = .ok (.iload_n 2, 1) := by decide +kernel
theorem dX9_happens_75 : decode cX9_happens 75 = .ok (.irem, 1) := by decide +kernel
theorem dX9_happens_76 : decode cX9_happens 76 = .ok (.invokevirtual 344, 3) := by decide +kernel
theorem dX9_happens_79 : decode cX9_happens 79 = .ok (.ifCond .eq 106, 3) := by decide +kernel
theorem dX9_happens_82 : decode cX9_happens 82 = .ok (.aload_n 0, 1) := by decide +kernel
theorem dX9_happens_83 : decode cX9_happens 83 = .ok (.iload_n 3, 1) := by decide +kernel
theorem dX9_happens_84 : decode cX9_happens 84 = .ok (.aload_n 0, 1) := by decide +kernel
theorem dX9_happens_85 : decode cX9_happens 85 = .ok (.getfield 7, 3) := by decide +kernel
theorem dX9_happens_88 : decode cX9_happens 88 = .ok (.iconst 1, 1) := by decide +kernel
theorem dX9_happens_89 : decode cX9_happens 89 = .ok (.iaload, 1) := by decide +kernel
theorem dX9_happens_90 : decode cX9_happens 90 = .ok (.irem, 1) := by decide +kernel
theorem dX9_happens_91 : decode cX9_happens 91 = .ok (.iload_n 1, 1) := by decide +kernel
theorem dX9_happens_92 : decode cX9_happens 92 = .ok (.iload_n 2, 1) := by decide +kernel
theorem dX9_happens_93 : decode cX9_happens 93 = .ok (.irem, 1) := by decide +kernel
theorem dX9_happens_94 : decode cX9_happens 94 = .ok (.iload_n 3, 1) := by decide +kernel
theorem dX9_happens_95 : decode cX9_happens 95 = .ok (.iload_n 2, 1) := by decide +kernel
theorem dX9_happens_96 : decode cX9_happens 96 = .ok (.irem, 1) := by decide +kernel
theorem dX9_happens_97 : decode cX9_happens 97 = .ok (.invokevirtual 341, 3) := by decide +kernel
theorem dX9_happens_100 : decode cX9_happens 100 = .ok (.ifCond .ge 85, 3) := by decide +kernel
theorem dX9_happens_103 : decode cX9_happens 103 = .ok (.return_, 1) := by decide +kernel
theorem dX9_happens_104 : decode cX9_happens 104 = .ok (.aload_n 0, 1) := by decide +kernel
theorem dX9_happens_105 : decode cX9_happens 105 = .ok (.getfield 7, 3) := by decide +kernel
theorem dX9_happens_108 : decode cX9_happens 108 = .ok (.bipush 10, 2) := by decide +kernel
theorem dX9_happens_110 : decode cX9_happens 110 = .ok (.dup2, 1) := by decide +kernel
theorem dX9_happens_111 : decode cX9_happens 111 = .ok (.iaload, 1) := by decide +kernel
theorem dX9_happens_112 : decode cX9_happens 112 = .ok (.iconst 1, 1) := by decide +kernel
theorem dX9_happens_113 : decode cX9_happens 113 = .ok (.iload_n 3, 1) := by decide +kernel
theorem dX9_happens_114 : decode cX9_happens 114 = .ok (.bipush 10, 2) := by decide +kernel
theorem dX9_happens_116 : decode cX9_happens 116 = .ok (.irem, 1) := by decide +kernel
theorem dX9_happens_117 : decode cX9_happens 117 = .ok (.ishl, 1) := by decide +kernel
theorem dX9_happens_118 : decode cX9_happens 118 = .ok (.iconst (-1), 1) := by decide +kernel
theorem dX9_happens_119 : decode cX9_happens 119 = .ok (.ixor, 1) := by decide +kernel
theorem dX9_happens_120 : decode cX9_happens 120 = .ok (.iand, 1) := by decide +kernel
theorem dX9_happens_121 : decode cX9_happens 121 = .ok (.iastore, 1) := by decide +kernel
theorem dX9_happens_122 : decode cX9_happens 122 = .ok (.goto 63, 3) := by decide +kernel
theorem dX9_happens_125 : decode cX9_happens 125 = .ok (.iload_n 2, 1) := by decide +kernel
theorem dX9_happens_126 : decode cX9_happens 126 = .ok (.ifCond .le 59, 3) := by decide +kernel
theorem dX9_happens_129 : decode cX9_happens 129 = .ok (.aload_n 0, 1) := by decide +kernel
theorem dX9_happens_130 : decode cX9_happens 130 = .ok (.iload_n 1, 1) := by decide +kernel
theorem dX9_happens_131 : decode cX9_happens 131 = .ok (.iload_n 2, 1) := by decide +kernel
theorem dX9_happens_132 : decode cX9_happens 132 = .ok (.irem, 1) := by decide +kernel
theorem dX9_happens_133 : decode cX9_happens 133 = .ok (.iconst 1, 1) := by decide +kernel
theorem dX9_happens_134 : decode cX9_happens 134 = .ok (.iload_n 3, 1) := by decide +kernel
theorem dX9_happens_135 : decode cX9_happens 135 = .ok (.iconst 5, 1) := by decide +kernel
theorem dX9_happens_136 : decode cX9_happens 136 = .ok (.irem, 1) := by decide +kernel
theorem dX9_happens_137 : decode cX9_happens 137 = .ok (.iadd, 1) := by decide +kernel
theorem dX9_happens_138 : decode cX9_happens 138 = .ok (.invokevirtual 350, 3) := by decide +kernel
theorem dX9_happens_141 : decode cX9_happens 141 = .ok (.ifCond .eq 44, 3) := by decide +kernel
theorem dX9_happens_144 : decode cX9_happens 144 = .ok (.aload_n 0, 1) := by decide +kernel
theorem dX9_happens_145 : decode cX9_happens 145 = .ok (.getfield 7, 3) := by decide +kernel
theorem dX9_happens_148 : decode cX9_happens 148 = .ok (.bipush 13, 2) := by decide +kernel
theorem dX9_happens_150 : decode cX9_happens 150 = .ok (.iconst 2, 1) := by decide +kernel
theorem dX9_happens_151 : decode cX9_happens 151 = .ok (.iload_n 1, 1) := by decide +kernel
theorem dX9_happens_152 : decode cX9_happens 152 = .ok (.iload_n 2, 1) := by decide +kernel
theorem dX9_happens_153 : decode cX9_happens 153 = .ok (.irem, 1) := by decide +kernel
theorem dX9_happens_154 : decode cX9_happens 154 = .ok (.imul, 1) := by decide +kernel
theorem dX9_happens_155 : decode cX9_happens 155 = .ok (.iadd, 1) := by decide +kernel
theorem dX9_happens_156 : decode cX9_happens 156 = .ok (.dup2, 1) := by decide +kernel
theorem dX9_happens_157 : decode cX9_happens 157 = .ok (.iaload, 1) := by decide +kernel
theorem dX9_happens_158 : decode cX9_happens 158 = .ok (.iconst 1, 1) := by decide +kernel
theorem dX9_happens_159 : decode cX9_happens 159 = .ok (.iload_n 3, 1) := by decide +kernel
theorem dX9_happens_160 : decode cX9_happens 160 = .ok (.iconst 5, 1) := by decide +kernel
theorem dX9_happens_161 : decode cX9_happens 161 = .ok (.irem, 1) := by decide +kernel
theorem dX9_happens_162 : decode cX9_happens 162 = .ok (.iadd, 1) := by decide +kernel
theorem dX9_happens_163 : decode cX9_happens 163 = .ok (.iadd, 1) := by decide +kernel
theorem dX9_happens_164 : decode cX9_happens 164 = .ok (.iastore, 1) := by decide +kernel
theorem dX9_happens_165 : decode cX9_happens 165 = .ok (.goto 20, 3) := by decide +kernel
theorem dX9_happens_168 : decode cX9_happens 168 = .ok (.aload_n 0, 1) := by decide +kernel
theorem dX9_happens_169 : decode cX9_happens 169 = .ok (.getfield 7, 3) := by decide +kernel
theorem dX9_happens_172 : decode cX9_happens 172 = .ok (.bipush 8, 2) := by decide +kernel
theorem dX9_happens_174 : decode cX9_happens 174 = .ok (.iaload, 1) := by decide +kernel
theorem dX9_happens_175 : decode cX9_happens 175 = .ok (.sipush 9999, 3) := by decide +kernel
theorem dX9_happens_178 : decode cX9_happens 178 = .ok (.if_icmp .ge 7, 3) := by decide +kernel
theorem dX9_happens_181 : decode cX9_happens 181 = .ok (.aload_n 0, 1) := by decide +kernel
theorem dX9_happens_182 : decode cX9_happens 182 = .ok (.invokevirtual 356, 3) := by decide +kernel
theorem dX9_happens_185 : decode cX9_happens 185 = .ok (.return_, 1) := by decide +kernel
theorem dX9_years_0 : decode cX9_years 0 = .ok (.iload_n 1, 1) := by decide +kernel
theorem dX9_years_1 : decode cX9_years 1 = .ok (.iconst 0, 1) := by decide +kernel
theorem dX9_years_2 : decode cX9_years 2 = .ok (.sipush 9999, 3) := by decide +kernel
theorem dX9_years_5 : decode cX9_years 5 = .ok (.invokestatic 69, 3) := by decide +kernel
theorem dX9_years_8 : decode cX9_years 8 = .ok (.ifCond .eq 13, 3) := by decide +kernel
theorem dX9_years_11 : decode cX9_years 11 = .ok (.iload_n 2, 1) := by decide +kernel
theorem dX9_years_12 : decode cX9_years 12 = .ok (.iconst 1, 1) := by decide +kernel
theorem dX9_years_13 : decode cX9_years 13 = .ok (.bipush 40, 2) := by decide +kernel
theorem dX9_years_15 : decode cX9_years 15 = .ok (.invokestatic 69, 3) := by decide +kernel
theorem dX9_years_18 : decode cX9_years 18 = .ok (.ifCond .ne 5, 3) := by decide +kernel
theorem dX9_years_21 : decode cX9_years 21 = .ok (.iconst (-1), 1) := by decide +kernel
theorem dX9_years_22 : decode cX9_years 22 = .ok (.ireturn, 1) := by decide +kernel
theorem dX9_years_23 : decode cX9_years 23 = .ok (.aload_n 0, 1) := by decide +kernel
theorem dX9_years_24 : decode cX9_years 24 = .ok (.invokevirtual 347, 3) := by decide +kernel
theorem dX9_years_27 : decode cX9_years 27 = .ok (.aload_n 0, 1) := by decide +kernel
theorem dX9_years_28 : decode cX9_years 28 = .ok (.getfield 7, 3) := by decide +kernel
theorem dX9_years_31 : decode cX9_years 31 = .ok (.bipush 9, 2) := by decide +kernel
theorem dX9_years_33 : decode cX9_years 33 = .ok (.iload_n 1, 1) := by decide +kernel
theorem dX9_years_34 : decode cX9_years 34 = .ok (.iconst 2, 1) := by decide +kernel
theorem dX9_years_35 : decode cX9_years 35 = .ok (.imul, 1) := by decide +kernel
theorem dX9_years_36 : decode cX9_years 36 = .ok (.sipush 367, 3) := by decide +kernel
theorem dX9_years_39 : decode cX9_years 39 = .ok (.iadd, 1) := by decide +kernel
theorem dX9_years_40 : decode cX9_years 40 = .ok (.iastore, 1) := by decide +kernel
theorem dX9_years_41 : decode cX9_years 41 = .ok (.iconst 0, 1) := by decide +kernel
theorem dX9_years_42 : decode cX9_years 42 = .ok (.istore_n 3, 1) := by decide +kernel
theorem dX9_years_43 : decode cX9_years 43 = .ok (.iload_n 3, 1) := by decide +kernel
theorem dX9_years_44 : decode cX9_years 44 = .ok (.iload_n 2, 1) := by decide +kernel
theorem dX9_years_45 : decode cX9_years 45 = .ok (.if_icmp .ge 28, 3) := by decide +kernel
theorem dX9_years_48 : decode cX9_years 48 = .ok (.aload_n 0, 1) := by decide +kernel
theorem dX9_years_49 : decode cX9_years 49 = .ok (.getfield 7, 3) := by decide +kernel
theorem dX9_years_52 : decode cX9_years 52 = .ok (.bipush 9, 2) := by decide +kernel
theorem dX9_years_54 : decode cX9_years 54 = .ok (.iaload, 1) := by decide +kernel
theorem dX9_years_55 : decode cX9_years 55 = .ok (.istore 4, 2) := by decide +kernel
theorem dX9_years_57 : decode cX9_years 57 = .ok (.aload_n 0, 1) := by decide +kernel
theorem dX9_years_58 : decode cX9_years 58 = .ok (.invokevirtual 311, 3) := by decide +kernel
theorem dX9_years_61 : decode cX9_years 61 = .ok (.aload_n 0, 1) := by decide +kernel
theorem dX9_years_62 : decode cX9_years 62 = .ok (.iload 4, 2) := by decide +kernel
theorem dX9_years_64 : decode cX9_years 64 = .ok (.invokevirtual 383, 3) := by decide +kernel
theorem dX9_years_67 : decode cX9_years 67 = .ok (.iinc 3 1, 3) := by decide +kernel
theorem dX9_years_70 : decode cX9_years 70 = .ok (.goto (-27), 3) := by decide +kernel
theorem dX9_years_73 : decode cX9_years 73 = .ok (.aload_n 0, 1) := by decide +kernel
theorem dX9_years_74 : decode cX9_years 74 = .ok (.getfield 7, 3) := by decide +kernel
theorem dX9_years_77 : decode cX9_years 77 = .ok (.bipush 8, 2) := by decide +kernel
theorem dX9_years_79 : decode cX9_years 79 = .ok (.iaload, 1) := by decide +kernel
theorem dX9_years_80 : decode cX9_years 80 = .ok (.ireturn, 1) := by decide +kernel
theorem dX9_of_0 : decode cX9_of 0 = .ok (.aload_n 0, 1) := by decide +kernel
theorem dX9_of_1 : decode cX9_of 1 = .ok (.iload_n 1, 1) := by decide +kernel
theorem dX9_of_2 : decode cX9_of 2 = .ok (.invokevirtual 335, 3) := by decide +kernel
theorem dX9_of_5 : decode cX9_of 5 = .ok (.ifCond .ne 6, 3) := by decide +kernel
theorem dX9_of_8 : decode cX9_of 8 = .ok (.bipush (-2), 2) := by decide +kernel
theorem dX9_of_10 : decode cX9_of 10 = .ok (.ireturn, 1) := by decide +kernel
theorem dX9_of_11 : decode cX9_of 11 = .ok (.iload_n 2, 1) := by decide +kernel
theorem dX9_of_12 : decode cX9_of 12 = .ok (.ifCond .ne 11, 3) := by decide +kernel
theorem dX9_of_15 : decode cX9_of 15 = .ok (.aload_n 0, 1) := by decide +kernel
theorem dX9_of_16 : decode cX9_of 16 = .ok (.iload_n 1, 1) := by decide +kernel
theorem dX9_of_17 : decode cX9_of 17 = .ok (.invokevirtual 73, 3) := by decide +kernel
theorem dX9_of_20 : decode cX9_of 20 = .ok (.goto 35, 3) := by decide +kernel
theorem dX9_of_23 : decode cX9_of 23 = .ok (.iload_n 2, 1) := by decide +kernel
theorem dX9_of_24 : decode cX9_of 24 = .ok (.iconst 1, 1) := by decide +kernel
theorem dX9_of_25 : decode cX9_of 25 = .ok (.if_icmp .ne 15, 3) := by decide +kernel
theorem dX9_of_28 : decode cX9_of 28 = .ok (.aload_n 0, 1) := by decide +kernel
theorem dX9_of_29 : decode cX9_of 29 = .ok (.getfield 7, 3) := by decide +kernel
theorem dX9_of_32 : decode cX9_of 32 = .ok (.bipush 21, 2) := by decide +kernel
theorem dX9_of_34 : decode cX9_of 34 = .ok (.iload_n 1, 1) := by decide +kernel
theorem dX9_of_35 : decode cX9_of 35 = .ok (.iadd, 1) := by decide +kernel
theorem dX9_of_36 : decode cX9_of 36 = .ok (.iaload, 1) := by decide +kernel
theorem dX9_of_37 : decode cX9_of 37 = .ok (.goto 18, 3) := by decide +kernel
theorem dX9_of_40 : decode cX9_of 40 = .ok (.iload_n 2, 1) := by decide +kernel
theorem dX9_of_41 : decode cX9_of 41 = .ok (.iconst 2, 1) := by decide +kernel
theorem dX9_of_42 : decode cX9_of 42 = .ok (.if_icmp .ne 11, 3) := by decide +kernel
theorem dX9_of_45 : decode cX9_of 45 = .ok (.aload_n 0, 1) := by decide +kernel
theorem dX9_of_46 : decode cX9_of 46 = .ok (.iload_n 1, 1) := by decide +kernel
theorem dX9_of_47 : decode cX9_of 47 = .ok (.invokevirtual 301, 3) := by decide +kernel
theorem dX9_of_50 : decode cX9_of 50 = .ok (.goto 5, 3) := by decide +kernel
theorem dX9_of_53 : decode cX9_of 53 = .ok (.bipush (-2), 2) := by decide +kernel
theorem dX9_of_55 : decode cX9_of 55 = .ok (.ireturn, 1) := by decide +kernel
theorem dX9_lamps_0 : decode cX9_lamps 0 = .ok (.aload_n 0, 1) := by decide +kernel
theorem dX9_lamps_1 : decode cX9_lamps 1 = .ok (.iload_n 1, 1) := by decide +kernel
theorem dX9_lamps_2 : decode cX9_lamps 2 = .ok (.invokevirtual 332, 3) := by decide +kernel
theorem dX9_lamps_5 : decode cX9_lamps 5 = .ok (.ifCond .eq 15, 3) := by decide +kernel
theorem dX9_lamps_8 : decode cX9_lamps 8 = .ok (.aload_n 0, 1) := by decide +kernel
theorem dX9_lamps_9 : decode cX9_lamps 9 = .ok (.getfield 7, 3) := by decide +kernel
theorem dX9_lamps_12 : decode cX9_lamps 12 = .ok (.bipush 29, 2) := by decide +kernel
theorem dX9_lamps_14 : decode cX9_lamps 14 = .ok (.iload_n 1, 1) := by decide +kernel
theorem dX9_lamps_15 : decode cX9_lamps 15 = .ok (.iadd, 1) := by decide +kernel
theorem dX9_lamps_16 : decode cX9_lamps 16 = .ok (.iaload, 1) := by decide +kernel
theorem dX9_lamps_17 : decode cX9_lamps 17 = .ok (.goto 4, 3) := by decide +kernel
theorem dX9_lamps_20 : decode cX9_lamps 20 = .ok (.iconst (-1), 1) := by decide +kernel
theorem dX9_lamps_21 : decode cX9_lamps 21 = .ok (.ireturn, 1) := by decide +kernel
theorem dX9_is_0 : decode cX9_is 0 = .ok (.iload_n 1, 1) := by decide +kernel
theorem dX9_is_1 : decode cX9_is 1 = .ok (.iconst 0, 1) := by decide +kernel
theorem dX9_is_2 : decode cX9_is 2 = .ok (.iconst 2, 1) := by decide +kernel
theorem dX9_is_3 : decode cX9_is 3 = .ok (.invokestatic 69, 3) := by decide +kernel
theorem dX9_is_6 : decode cX9_is 6 = .ok (.ifCond .eq 15, 3) := by decide +kernel
theorem dX9_is_9 : decode cX9_is 9 = .ok (.aload_n 0, 1) := by decide +kernel
theorem dX9_is_10 : decode cX9_is 10 = .ok (.getfield 7, 3) := by decide +kernel
theorem dX9_is_13 : decode cX9_is 13 = .ok (.bipush 8, 2) := by decide +kernel
theorem dX9_is_15 : decode cX9_is 15 = .ok (.iload_n 1, 1) := by decide +kernel
theorem dX9_is_16 : decode cX9_is 16 = .ok (.iadd, 1) := by decide +kernel
theorem dX9_is_17 : decode cX9_is 17 = .ok (.iaload, 1) := by decide +kernel
theorem dX9_is_18 : decode cX9_is 18 = .ok (.goto 32, 3) := by decide +kernel
theorem dX9_is_21 : decode cX9_is 21 = .ok (.iload_n 1, 1) := by decide +kernel
theorem dX9_is_22 : decode cX9_is 22 = .ok (.iconst 3, 1) := by decide +kernel
theorem dX9_is_23 : decode cX9_is 23 = .ok (.if_icmp .ne 10, 3) := by decide +kernel
theorem dX9_is_26 : decode cX9_is 26 = .ok (.aload_n 0, 1) := by decide +kernel
theorem dX9_is_27 : decode cX9_is 27 = .ok (.invokevirtual 386, 3) := by decide +kernel
theorem dX9_is_30 : decode cX9_is 30 = .ok (.goto 20, 3) := by decide +kernel
theorem dX9_is_33 : decode cX9_is 33 = .ok (.iload_n 1, 1) := by decide +kernel
theorem dX9_is_34 : decode cX9_is 34 = .ok (.iconst 4, 1) := by decide +kernel
theorem dX9_is_35 : decode cX9_is 35 = .ok (.if_icmp .ne 13, 3) := by decide +kernel
theorem dX9_is_38 : decode cX9_is 38 = .ok (.aload_n 0, 1) := by decide +kernel
theorem dX9_is_39 : decode cX9_is 39 = .ok (.getfield 7, 3) := by decide +kernel
theorem dX9_is_42 : decode cX9_is 42 = .ok (.bipush 11, 2) := by decide +kernel
theorem dX9_is_44 : decode cX9_is 44 = .ok (.iaload, 1) := by decide +kernel
theorem dX9_is_45 : decode cX9_is 45 = .ok (.goto 5, 3) := by decide +kernel
theorem dX9_is_48 : decode cX9_is 48 = .ok (.bipush (-2), 2) := by decide +kernel
theorem dX9_is_50 : decode cX9_is 50 = .ok (.ireturn, 1) := by decide +kernel
theorem dX9_loses_0 : decode cX9_loses 0 = .ok (.aload_n 0, 1) := by decide +kernel
theorem dX9_loses_1 : decode cX9_loses 1 = .ok (.iload_n 1, 1) := by decide +kernel
theorem dX9_loses_2 : decode cX9_loses 2 = .ok (.iload_n 2, 1) := by decide +kernel
theorem dX9_loses_3 : decode cX9_loses 3 = .ok (.iload_n 3, 1) := by decide +kernel
theorem dX9_loses_4 : decode cX9_loses 4 = .ok (.invokevirtual 344, 3) := by decide +kernel
theorem dX9_loses_7 : decode cX9_loses 7 = .ok (.ifCond .eq 13, 3) := by decide +kernel
theorem dX9_loses_10 : decode cX9_loses 10 = .ok (.aload_n 0, 1) := by decide +kernel
theorem dX9_loses_11 : decode cX9_loses 11 = .ok (.iload_n 1, 1) := by decide +kernel
theorem dX9_loses_12 : decode cX9_loses 12 = .ok (.iload_n 2, 1) := by decide +kernel
theorem dX9_loses_13 : decode cX9_loses 13 = .ok (.iload_n 3, 1) := by decide +kernel
theorem dX9_loses_14 : decode cX9_loses 14 = .ok (.invokevirtual 320, 3) := by decide +kernel
theorem dX9_loses_17 : decode cX9_loses 17 = .ok (.goto 5, 3) := by decide +kernel
theorem dX9_loses_20 : decode cX9_loses 20 = .ok (.bipush (-100), 2) := by decide +kernel
theorem dX9_loses_22 : decode cX9_loses 22 = .ok (.ireturn, 1) := by decide +kernel
theorem dX9_fills_0 : decode cX9_fills 0 = .ok (.aload_n 0, 1) := by decide +kernel
theorem dX9_fills_1 : decode cX9_fills 1 = .ok (.iload_n 1, 1) := by decide +kernel
theorem dX9_fills_2 : decode cX9_fills 2 = .ok (.invokevirtual 332, 3) := by decide +kernel
theorem dX9_fills_5 : decode cX9_fills 5 = .ok (.ifCond .eq 26, 3) := by decide +kernel
theorem dX9_fills_8 : decode cX9_fills 8 = .ok (.aload_n 0, 1) := by decide +kernel
theorem dX9_fills_9 : decode cX9_fills 9 = .ok (.iload_n 2, 1) := by decide +kernel
theorem dX9_fills_10 : decode cX9_fills 10 = .ok (.invokevirtual 335, 3) := by decide +kernel
theorem dX9_fills_13 : decode cX9_fills 13 = .ok (.ifCond .eq 18, 3) := by decide +kernel
theorem dX9_fills_16 : decode cX9_fills 16 = .ok (.aload_n 0, 1) := by decide +kernel
theorem dX9_fills_17 : decode cX9_fills 17 = .ok (.aload_n 0, 1) := by decide +kernel
theorem dX9_fills_18 : decode cX9_fills 18 = .ok (.getfield 7, 3) := by decide +kernel
theorem dX9_fills_21 : decode cX9_fills 21 = .ok (.iconst 3, 1) := by decide +kernel
theorem dX9_fills_22 : decode cX9_fills 22 = .ok (.iaload, 1) := by decide +kernel
theorem dX9_fills_23 : decode cX9_fills 23 = .ok (.iload_n 1, 1) := by decide +kernel
theorem dX9_fills_24 : decode cX9_fills 24 = .ok (.iload_n 2, 1) := by decide +kernel
theorem dX9_fills_25 : decode cX9_fills 25 = .ok (.invokevirtual 323, 3) := by decide +kernel
theorem dX9_fills_28 : decode cX9_fills 28 = .ok (.goto 5, 3) := by decide +kernel
theorem dX9_fills_31 : decode cX9_fills 31 = .ok (.bipush (-100), 2) := by decide +kernel
theorem dX9_fills_33 : decode cX9_fills 33 = .ok (.ireturn, 1) := by decide +kernel
theorem dX9_entry_0 : decode cX9_entry 0 = .ok (.aload_n 0, 1) := by decide +kernel
theorem dX9_entry_1 : decode cX9_entry 1 = .ok (.getfield 7, 3) := by decide +kernel
theorem dX9_entry_4 : decode cX9_entry 4 = .ok (.sipush 1253, 3) := by decide +kernel
theorem dX9_entry_7 : decode cX9_entry 7 = .ok (.iload_n 1, 1) := by decide +kernel
theorem dX9_entry_8 : decode cX9_entry 8 = .ok (.iadd, 1) := by decide +kernel
theorem dX9_entry_9 : decode cX9_entry 9 = .ok (.iaload, 1) := by decide +kernel
theorem dX9_entry_10 : decode cX9_entry 10 = .ok (.istore_n 3, 1) := by decide +kernel
theorem dX9_entry_11 : decode cX9_entry 11 = .ok (.iload_n 2, 1) := by decide +kernel
theorem dX9_entry_12 : decode cX9_entry 12 = .ok (.ifCond .ne 11, 3) := by decide +kernel
theorem dX9_entry_15 : decode cX9_entry 15 = .ok (.iload_n 3, 1) := by decide +kernel
theorem dX9_entry_16 : decode cX9_entry 16 = .ok (.ldc_w 389, 3) := by decide +kernel
theorem dX9_entry_19 : decode cX9_entry 19 = .ok (.idiv, 1) := by decide +kernel
theorem dX9_entry_20 : decode cX9_entry 20 = .ok (.goto 39, 3) := by decide +kernel
theorem dX9_entry_23 : decode cX9_entry 23 = .ok (.iload_n 2, 1) := by decide +kernel
theorem dX9_entry_24 : decode cX9_entry 24 = .ok (.iconst 1, 1) := by decide +kernel
theorem dX9_entry_25 : decode cX9_entry 25 = .ok (.if_icmp .ne 14, 3) := by decide +kernel
theorem dX9_entry_28 : decode cX9_entry 28 = .ok (.iload_n 3, 1) := by decide +kernel
theorem dX9_entry_29 : decode cX9_entry 29 = .ok (.sipush 4096, 3) := by decide +kernel
theorem dX9_entry_32 : decode cX9_entry 32 = .ok (.idiv, 1) := by decide +kernel
theorem dX9_entry_33 : decode cX9_entry 33 = .ok (.bipush 8, 2) := by decide +kernel
theorem dX9_entry_35 : decode cX9_entry 35 = .ok (.irem, 1) := by decide +kernel
theorem dX9_entry_36 : decode cX9_entry 36 = .ok (.goto 23, 3) := by decide +kernel
theorem dX9_entry_39 : decode cX9_entry 39 = .ok (.iload_n 2, 1) := by decide +kernel
theorem dX9_entry_40 : decode cX9_entry 40 = .ok (.iconst 2, 1) := by decide +kernel
theorem dX9_entry_41 : decode cX9_entry 41 = .ok (.if_icmp .ne 13, 3) := by decide +kernel
theorem dX9_entry_44 : decode cX9_entry 44 = .ok (.iload_n 3, 1) := by decide +kernel
theorem dX9_entry_45 : decode cX9_entry 45 = .ok (.sipush 1024, 3) := by decide +kernel
theorem dX9_entry_48 : decode cX9_entry 48 = .ok (.idiv, 1) := by decide +kernel
theorem dX9_entry_49 : decode cX9_entry 49 = .ok (.iconst 4, 1) := by decide +kernel
theorem dX9_entry_50 : decode cX9_entry 50 = .ok (.irem, 1) := by decide +kernel
theorem dX9_entry_51 : decode cX9_entry 51 = .ok (.goto 8, 3) := by decide +kernel
theorem dX9_entry_54 : decode cX9_entry 54 = .ok (.iload_n 3, 1) := by decide +kernel
theorem dX9_entry_55 : decode cX9_entry 55 = .ok (.sipush 1024, 3) := by decide +kernel
theorem dX9_entry_58 : decode cX9_entry 58 = .ok (.irem, 1) := by decide +kernel
theorem dX9_entry_59 : decode cX9_entry 59 = .ok (.ireturn, 1) := by decide +kernel
theorem dX9_book_0 : decode cX9_book 0 = .ok (.iload_n 1, 1) := by decide +kernel
theorem dX9_book_1 : decode cX9_book 1 = .ok (.iconst (-1), 1) := by decide +kernel
theorem dX9_book_2 : decode cX9_book 2 = .ok (.if_icmp .ne 11, 3) := by decide +kernel
theorem dX9_book_5 : decode cX9_book 5 = .ok (.aload_n 0, 1) := by decide +kernel
theorem dX9_book_6 : decode cX9_book 6 = .ok (.getfield 7, 3) := by decide +kernel
theorem dX9_book_9 : decode cX9_book 9 = .ok (.bipush 12, 2) := by decide +kernel
theorem dX9_book_11 : decode cX9_book 11 = .ok (.iaload, 1) := by decide +kernel
theorem dX9_book_12 : decode cX9_book 12 = .ok (.ireturn, 1) := by decide +kernel
theorem dX9_book_13 : decode cX9_book 13 = .ok (.iload_n 1, 1) := by decide +kernel
theorem dX9_book_14 : decode cX9_book 14 = .ok (.iconst 0, 1) := by decide +kernel
theorem dX9_book_15 : decode cX9_book 15 = .ok (.aload_n 0, 1) := by decide +kernel
theorem dX9_book_16 : decode cX9_book 16 = .ok (.getfield 7, 3) := by decide +kernel
theorem dX9_book_19 : decode cX9_book 19 = .ok (.bipush 12, 2) := by decide +kernel
theorem dX9_book_21 : decode cX9_book 21 = .ok (.iaload, 1) := by decide +kernel
theorem dX9_book_22 : decode cX9_book 22 = .ok (.iconst 1, 1) := by decide +kernel
theorem dX9_book_23 : decode cX9_book 23 = .ok (.isub, 1) := by decide +kernel
theorem dX9_book_24 : decode cX9_book 24 = .ok (.invokestatic 69, 3) := by decide +kernel
theorem dX9_book_27 : decode cX9_book 27 = .ok (.ifCond .eq 21, 3) := by decide +kernel
theorem dX9_book_30 : decode cX9_book 30 = .ok (.iload_n 2, 1) := by decide +kernel
theorem dX9_book_31 : decode cX9_book 31 = .ok (.iconst 0, 1) := by decide +kernel
theorem dX9_book_32 : decode cX9_book 32 = .ok (.iconst 3, 1) := by decide +kernel
theorem dX9_book_33 : decode cX9_book 33 = .ok (.invokestatic 69, 3) := by decide +kernel
theorem dX9_book_36 : decode cX9_book 36 = .ok (.ifCond .eq 12, 3) := by decide +kernel
theorem dX9_book_39 : decode cX9_book 39 = .ok (.aload_n 0, 1) := by decide +kernel
theorem dX9_book_40 : decode cX9_book 40 = .ok (.iload_n 1, 1) := by decide +kernel
theorem dX9_book_41 : decode cX9_book 41 = .ok (.iload_n 2, 1) := by decide +kernel
theorem dX9_book_42 : decode cX9_book 42 = .ok (.invokevirtual 390, 3) := by decide +kernel
theorem dX9_book_45 : decode cX9_book 45 = .ok (.goto 5, 3) := by decide +kernel
theorem dX9_book_48 : decode cX9_book 48 = .ok (.bipush (-2), 2) := by decide +kernel
theorem dX9_book_50 : decode cX9_book 50 = .ok (.ireturn, 1) := by decide +kernel
theorem dX9_ledger_0 : decode cX9_ledger 0 = .ok (.iload_n 1, 1) := by decide +kernel
theorem dX9_ledger_1 : decode cX9_ledger 1 = .ok (.iconst (-1), 1) := by decide +kernel
theorem dX9_ledger_2 : decode cX9_ledger 2 = .ok (.if_icmp .eq 14, 3) := by decide +kernel
theorem dX9_ledger_5 : decode cX9_ledger 5 = .ok (.aload_n 0, 1) := by decide +kernel
theorem dX9_ledger_6 : decode cX9_ledger 6 = .ok (.iload_n 1, 1) := by decide +kernel
theorem dX9_ledger_7 : decode cX9_ledger 7 = .ok (.invokevirtual 335, 3) := by decide +kernel
theorem dX9_ledger_10 : decode cX9_ledger 10 = .ok (.ifCond .ne 6, 3) := by decide +kernel
theorem dX9_ledger_13 : decode cX9_ledger 13 = .ok (.bipush (-2), 2) := by decide +kernel
theorem dX9_ledger_15 : decode cX9_ledger 15 = .ok (.ireturn, 1) := by decide +kernel
theorem dX9_ledger_16 : decode cX9_ledger 16 = .ok (.iconst 0, 1) := by decide +kernel
theorem dX9_ledger_17 : decode cX9_ledger 17 = .ok (.istore_n 2, 1) := by decide +kernel
theorem dX9_ledger_18 : decode cX9_ledger 18 = .ok (.iconst 0, 1) := by decide +kernel
theorem dX9_ledger_19 : decode cX9_ledger 19 = .ok (.istore_n 3, 1) := by decide +kernel
theorem dX9_ledger_20 : decode cX9_ledger 20 = .ok (.iload_n 3, 1) := by decide +kernel
theorem dX9_ledger_21 : decode cX9_ledger 21 = .ok (.aload_n 0, 1) := by decide +kernel
theorem dX9_ledger_22 : decode cX9_ledger 22 = .ok (.getfield 7, 3) := by decide +kernel
theorem dX9_ledger_25 : decode cX9_ledger 25 = .ok (.bipush 12, 2) := by decide +kernel
theorem dX9_ledger_27 : decode cX9_ledger 27 = .ok (.iaload, 1) := by decide +kernel
theorem dX9_ledger_28 : decode cX9_ledger 28 = .ok (.if_icmp .ge 32, 3) := by decide +kernel
theorem dX9_ledger_31 : decode cX9_ledger 31 = .ok (.iload_n 2, 1) := by decide +kernel
theorem dX9_ledger_32 : decode cX9_ledger 32 = .ok (.iload_n 1, 1) := by decide +kernel
theorem dX9_ledger_33 : decode cX9_ledger 33 = .ok (.iconst (-1), 1) := by decide +kernel
theorem dX9_ledger_34 : decode cX9_ledger 34 = .ok (.if_icmp .eq 13, 3) := by decide +kernel
theorem dX9_ledger_37 : decode cX9_ledger 37 = .ok (.aload_n 0, 1) := by decide +kernel
theorem dX9_ledger_38 : decode cX9_ledger 38 = .ok (.iload_n 3, 1) := by decide +kernel
theorem dX9_ledger_39 : decode cX9_ledger 39 = .ok (.iconst 2, 1) := by decide +kernel
theorem dX9_ledger_40 : decode cX9_ledger 40 = .ok (.invokevirtual 390, 3) := by decide +kernel
theorem dX9_ledger_43 : decode cX9_ledger 43 = .ok (.iload_n 1, 1) := by decide +kernel
theorem dX9_ledger_44 : decode cX9_ledger 44 = .ok (.if_icmp .ne 7, 3) := by decide +kernel
theorem dX9_ledger_47 : decode cX9_ledger 47 = .ok (.iconst 1, 1) := by decide +kernel
theorem dX9_ledger_48 : decode cX9_ledger 48 = .ok (.goto 4, 3) := by decide +kernel
theorem dX9_ledger_51 : decode cX9_ledger 51 = .ok (.iconst 0, 1) := by decide +kernel
theorem dX9_ledger_52 : decode cX9_ledger 52 = .ok (.iadd, 1) := by decide +kernel
theorem dX9_ledger_53 : decode cX9_ledger 53 = .ok (.istore_n 2, 1) := by decide +kernel
theorem dX9_ledger_54 : decode cX9_ledger 54 = .ok (.iinc 3 1, 3) := by decide +kernel
theorem dX9_ledger_57 : decode cX9_ledger 57 = .ok (.goto (-37), 3) := by decide +kernel
theorem dX9_ledger_60 : decode cX9_ledger 60 = .ok (.iload_n 2, 1) := by decide +kernel
theorem dX9_ledger_61 : decode cX9_ledger 61 = .ok (.ireturn, 1) := by decide +kernel
theorem dX9_surest_0 : decode cX9_surest 0 = .ok (.iconst (-1), 1) := by decide +kernel
theorem dX9_surest_1 : decode cX9_surest 1 = .ok (.istore_n 1, 1) := by decide +kernel
theorem dX9_surest_2 : decode cX9_surest 2 = .ok (.iconst 0, 1) := by decide +kernel
theorem dX9_surest_3 : decode cX9_surest 3 = .ok (.istore_n 2, 1) := by decide +kernel
theorem dX9_surest_4 : decode cX9_surest 4 = .ok (.iload_n 2, 1) := by decide +kernel
theorem dX9_surest_5 : decode cX9_surest 5 = .ok (.aload_n 0, 1) := by decide +kernel
theorem dX9_surest_6 : decode cX9_surest 6 = .ok (.getfield 7, 3) := by decide +kernel
theorem dX9_surest_9 : decode cX9_surest 9 = .ok (.iconst 0, 1) := by decide +kernel
theorem dX9_surest_10 : decode cX9_surest 10 = .ok (.iaload, 1) := by decide +kernel
theorem dX9_surest_11 : decode cX9_surest 11 = .ok (.if_icmp .ge 37, 3) := by decide +kernel
theorem dX9_surest_14 : decode cX9_surest 14 = .ok (.iload_n 1, 1) := by decide +kernel
theorem dX9_surest_15 : decode cX9_surest 15 = .ok (.iconst (-1), 1) := by decide +kernel
theorem dX9_surest_16 : decode cX9_surest 16 = .ok (.if_icmp .eq 24, 3) := by decide +kernel
theorem dX9_surest_19 : decode cX9_surest 19 = .ok (.aload_n 0, 1) := by decide +kernel
theorem dX9_surest_20 : decode cX9_surest 20 = .ok (.getfield 7, 3) := by decide +kernel
theorem dX9_surest_23 : decode cX9_surest 23 = .ok (.bipush 21, 2) := by decide +kernel
theorem dX9_surest_25 : decode cX9_surest 25 = .ok (.iload_n 2, 1) := by decide +kernel
theorem dX9_surest_26 : decode cX9_surest 26 = .ok (.iadd, 1) := by decide +kernel
theorem dX9_surest_27 : decode cX9_surest 27 = .ok (.iaload, 1) := by decide +kernel
theorem dX9_surest_28 : decode cX9_surest 28 = .ok (.aload_n 0, 1) := by decide +kernel
theorem dX9_surest_29 : decode cX9_surest 29 = .ok (.getfield 7, 3) := by decide +kernel
theorem dX9_surest_32 : decode cX9_surest 32 = .ok (.bipush 21, 2) := by decide +kernel
theorem dX9_surest_34 : decode cX9_surest 34 = .ok (.iload_n 1, 1) := by decide +kernel
theorem dX9_surest_35 : decode cX9_surest 35 = .ok (.iadd, 1) := by decide +kernel
theorem dX9_surest_36 : decode cX9_surest 36 = .ok (.iaload, 1) := by decide +kernel
theorem dX9_surest_37 : decode cX9_surest 37 = .ok (.if_icmp .ge 5, 3) := by decide +kernel
theorem dX9_surest_40 : decode cX9_surest 40 = .ok (.iload_n 2, 1) := by decide +kernel
theorem dX9_surest_41 : decode cX9_surest 41 = .ok (.istore_n 1, 1) := by decide +kernel
theorem dX9_surest_42 : decode cX9_surest 42 = .ok (.iinc 2 1, 3) := by decide +kernel
theorem dX9_surest_45 : decode cX9_surest 45 = .ok (.goto (-41), 3) := by decide +kernel
theorem dX9_surest_48 : decode cX9_surest 48 = .ok (.iload_n 1, 1) := by decide +kernel
theorem dX9_surest_49 : decode cX9_surest 49 = .ok (.ireturn, 1) := by decide +kernel
theorem dX9_poorest_0 : decode cX9_poorest 0 = .ok (.iconst (-1), 1) := by decide +kernel
theorem dX9_poorest_1 : decode cX9_poorest 1 = .ok (.istore_n 1, 1) := by decide +kernel
theorem dX9_poorest_2 : decode cX9_poorest 2 = .ok (.iconst 0, 1) := by decide +kernel
theorem dX9_poorest_3 : decode cX9_poorest 3 = .ok (.istore_n 2, 1) := by decide +kernel
theorem dX9_poorest_4 : decode cX9_poorest 4 = .ok (.iload_n 2, 1) := by decide +kernel
theorem dX9_poorest_5 : decode cX9_poorest 5 = .ok (.aload_n 0, 1) := by decide +kernel
theorem dX9_poorest_6 : decode cX9_poorest 6 = .ok (.getfield 7, 3) := by decide +kernel
theorem dX9_poorest_9 : decode cX9_poorest 9 = .ok (.iconst 0, 1) := by decide +kernel
theorem dX9_poorest_10 : decode cX9_poorest 10 = .ok (.iaload, 1) := by decide +kernel
theorem dX9_poorest_11 : decode cX9_poorest 11 = .ok (.if_icmp .ge 29, 3) := by decide +kernel
theorem dX9_poorest_14 : decode cX9_poorest 14 = .ok (.iload_n 1, 1) := by decide +kernel
theorem dX9_poorest_15 : decode cX9_poorest 15 = .ok (.iconst (-1), 1) := by decide +kernel
theorem dX9_poorest_16 : decode cX9_poorest 16 = .ok (.if_icmp .eq 16, 3) := by decide +kernel
theorem dX9_poorest_19 : decode cX9_poorest 19 = .ok (.aload_n 0, 1) := by decide +kernel
theorem dX9_poorest_20 : decode cX9_poorest 20 = .ok (.iload_n 2, 1) := by decide +kernel
theorem dX9_poorest_21 : decode cX9_poorest 21 = .ok (.invokevirtual 73, 3) := by decide +kernel
theorem dX9_poorest_24 : decode cX9_poorest 24 = .ok (.aload_n 0, 1) := by decide +kernel
theorem dX9_poorest_25 : decode cX9_poorest 25 = .ok (.iload_n 1, 1) := by decide +kernel
theorem dX9_poorest_26 : decode cX9_poorest 26 = .ok (.invokevirtual 73, 3) := by decide +kernel
theorem dX9_poorest_29 : decode cX9_poorest 29 = .ok (.if_icmp .ge 5, 3) := by decide +kernel
theorem dX9_poorest_32 : decode cX9_poorest 32 = .ok (.iload_n 2, 1) := by decide +kernel
theorem dX9_poorest_33 : decode cX9_poorest 33 = .ok (.istore_n 1, 1) := by decide +kernel
theorem dX9_poorest_34 : decode cX9_poorest 34 = .ok (.iinc 2 1, 3) := by decide +kernel
theorem dX9_poorest_37 : decode cX9_poorest 37 = .ok (.goto (-33), 3) := by decide +kernel
theorem dX9_poorest_40 : decode cX9_poorest 40 = .ok (.iload_n 1, 1) := by decide +kernel
theorem dX9_poorest_41 : decode cX9_poorest 41 = .ok (.ireturn, 1) := by decide +kernel
theorem dX9_fool_0 : decode cX9_fool 0 = .ok (.iconst (-1), 1) := by decide +kernel
theorem dX9_fool_1 : decode cX9_fool 1 = .ok (.istore_n 1, 1) := by decide +kernel
theorem dX9_fool_2 : decode cX9_fool 2 = .ok (.iconst 0, 1) := by decide +kernel
theorem dX9_fool_3 : decode cX9_fool 3 = .ok (.istore_n 2, 1) := by decide +kernel
theorem dX9_fool_4 : decode cX9_fool 4 = .ok (.iload_n 2, 1) := by decide +kernel
theorem dX9_fool_5 : decode cX9_fool 5 = .ok (.aload_n 0, 1) := by decide +kernel
theorem dX9_fool_6 : decode cX9_fool 6 = .ok (.getfield 7, 3) := by decide +kernel
theorem dX9_fool_9 : decode cX9_fool 9 = .ok (.iconst 0, 1) := by decide +kernel
theorem dX9_fool_10 : decode cX9_fool 10 = .ok (.iaload, 1) := by decide +kernel
theorem dX9_fool_11 : decode cX9_fool 11 = .ok (.if_icmp .ge 33, 3) := by decide +kernel
theorem dX9_fool_14 : decode cX9_fool 14 = .ok (.aload_n 0, 1) := by decide +kernel
theorem dX9_fool_15 : decode cX9_fool 15 = .ok (.iload_n 2, 1) := by decide +kernel
theorem dX9_fool_16 : decode cX9_fool 16 = .ok (.invokevirtual 301, 3) := by decide +kernel
theorem dX9_fool_19 : decode cX9_fool 19 = .ok (.iload_n 1, 1) := by decide +kernel
theorem dX9_fool_20 : decode cX9_fool 20 = .ok (.iconst (-1), 1) := by decide +kernel
theorem dX9_fool_21 : decode cX9_fool 21 = .ok (.if_icmp .ne 7, 3) := by decide +kernel
theorem dX9_fool_24 : decode cX9_fool 24 = .ok (.iconst 0, 1) := by decide +kernel
theorem dX9_fool_25 : decode cX9_fool 25 = .ok (.goto 8, 3) := by decide +kernel
theorem dX9_fool_28 : decode cX9_fool 28 = .ok (.aload_n 0, 1) := by decide +kernel
theorem dX9_fool_29 : decode cX9_fool 29 = .ok (.iload_n 1, 1) := by decide +kernel
theorem dX9_fool_30 : decode cX9_fool 30 = .ok (.invokevirtual 301, 3) := by decide +kernel
theorem dX9_fool_33 : decode cX9_fool 33 = .ok (.if_icmp .le 5, 3) := by decide +kernel
theorem dX9_fool_36 : decode cX9_fool 36 = .ok (.iload_n 2, 1) := by decide +kernel
theorem dX9_fool_37 : decode cX9_fool 37 = .ok (.istore_n 1, 1) := by decide +kernel
theorem dX9_fool_38 : decode cX9_fool 38 = .ok (.iinc 2 1, 3) := by decide +kernel
theorem dX9_fool_41 : decode cX9_fool 41 = .ok (.goto (-37), 3) := by decide +kernel
theorem dX9_fool_44 : decode cX9_fool 44 = .ok (.iload_n 1, 1) := by decide +kernel
theorem dX9_fool_45 : decode cX9_fool 45 = .ok (.ireturn, 1) := by decide +kernel
theorem dX9_solvent_0 : decode cX9_solvent 0 = .ok (.iconst 0, 1) := by decide +kernel
theorem dX9_solvent_1 : decode cX9_solvent 1 = .ok (.istore_n 1, 1) := by decide +kernel
theorem dX9_solvent_2 : decode cX9_solvent 2 = .ok (.iconst 0, 1) := by decide +kernel
theorem dX9_solvent_3 : decode cX9_solvent 3 = .ok (.istore_n 2, 1) := by decide +kernel
theorem dX9_solvent_4 : decode cX9_solvent 4 = .ok (.iload_n 2, 1) := by decide +kernel
theorem dX9_solvent_5 : decode cX9_solvent 5 = .ok (.aload_n 0, 1) := by decide +kernel
theorem dX9_solvent_6 : decode cX9_solvent 6 = .ok (.getfield 7, 3) := by decide +kernel
theorem dX9_solvent_9 : decode cX9_solvent 9 = .ok (.iconst 0, 1) := by decide +kernel
theorem dX9_solvent_10 : decode cX9_solvent 10 = .ok (.iaload, 1) := by decide +kernel
theorem dX9_solvent_11 : decode cX9_solvent 11 = .ok (.if_icmp .ge 76, 3) := by decide +kernel
theorem dX9_solvent_14 : decode cX9_solvent 14 = .ok (.iconst 1, 1) := by decide +kernel
theorem dX9_solvent_15 : decode cX9_solvent 15 = .ok (.istore_n 3, 1) := by decide +kernel
theorem dX9_solvent_16 : decode cX9_solvent 16 = .ok (.iconst 0, 1) := by decide +kernel
theorem dX9_solvent_17 : decode cX9_solvent 17 = .ok (.istore 4, 2) := by decide +kernel
theorem dX9_solvent_19 : decode cX9_solvent 19 = .ok (.iload 4, 2) := by decide +kernel
theorem dX9_solvent_21 : decode cX9_solvent 21 = .ok (.aload_n 0, 1) := by decide +kernel
theorem dX9_solvent_22 : decode cX9_solvent 22 = .ok (.getfield 7, 3) := by decide +kernel
theorem dX9_solvent_25 : decode cX9_solvent 25 = .ok (.iconst 1, 1) := by decide +kernel
theorem dX9_solvent_26 : decode cX9_solvent 26 = .ok (.iaload, 1) := by decide +kernel
theorem dX9_solvent_27 : decode cX9_solvent 27 = .ok (.if_icmp .ge 40, 3) := by decide +kernel
theorem dX9_solvent_30 : decode cX9_solvent 30 = .ok (.iload_n 3, 1) := by decide +kernel
theorem dX9_solvent_31 : decode cX9_solvent 31 = .ok (.ifCond .eq 28, 3) := by decide +kernel
theorem dX9_solvent_34 : decode cX9_solvent 34 = .ok (.aload_n 0, 1) := by decide +kernel
theorem dX9_solvent_35 : decode cX9_solvent 35 = .ok (.iload_n 2, 1) := by decide +kernel
theorem dX9_solvent_36 : decode cX9_solvent 36 = .ok (.invokevirtual 73, 3) := by decide +kernel
theorem dX9_solvent_39 : decode cX9_solvent 39 = .ok (.aload_n 0, 1) := by decide +kernel
theorem dX9_solvent_40 : decode cX9_solvent 40 = .ok (.aload_n 0, 1) := by decide +kernel
theorem dX9_solvent_41 : decode cX9_solvent 41 = .ok (.getfield 7, 3) := by decide +kernel
theorem dX9_solvent_44 : decode cX9_solvent 44 = .ok (.iconst 3, 1) := by decide +kernel
theorem dX9_solvent_45 : decode cX9_solvent 45 = .ok (.iaload, 1) := by decide +kernel
theorem dX9_solvent_46 : decode cX9_solvent 46 = .ok (.iload 4, 2) := by decide +kernel
theorem dX9_solvent_48 : decode cX9_solvent 48 = .ok (.iload_n 2, 1) := by decide +kernel
theorem dX9_solvent_49 : decode cX9_solvent 49 = .ok (.invokevirtual 323, 3) := by decide +kernel
theorem dX9_solvent_52 : decode cX9_solvent 52 = .ok (.if_icmp .lt 7, 3) := by decide +kernel
theorem dX9_solvent_55 : decode cX9_solvent 55 = .ok (.iconst 1, 1) := by decide +kernel
theorem dX9_solvent_56 : decode cX9_solvent 56 = .ok (.goto 4, 3) := by decide +kernel
theorem dX9_solvent_59 : decode cX9_solvent 59 = .ok (.iconst 0, 1) := by decide +kernel
theorem dX9_solvent_60 : decode cX9_solvent 60 = .ok (.istore_n 3, 1) := by decide +kernel
theorem dX9_solvent_61 : decode cX9_solvent 61 = .ok (.iinc 4 1, 3) := by decide +kernel
theorem dX9_solvent_64 : decode cX9_solvent 64 = .ok (.goto (-45), 3) := by decide +kernel
theorem dX9_solvent_67 : decode cX9_solvent 67 = .ok (.iload_n 1, 1) := by decide +kernel
theorem dX9_solvent_68 : decode cX9_solvent 68 = .ok (.iload_n 3, 1) := by decide +kernel
theorem dX9_solvent_69 : decode cX9_solvent 69 = .ok (.ifCond .eq 9, 3) := by decide +kernel
theorem dX9_solvent_72 : decode cX9_solvent 72 = .ok (.iconst 1, 1) := by decide +kernel
theorem dX9_solvent_73 : decode cX9_solvent 73 = .ok (.iload_n 2, 1) := by decide +kernel
theorem dX9_solvent_74 : decode cX9_solvent 74 = .ok (.ishl, 1) := by decide +kernel
theorem dX9_solvent_75 : decode cX9_solvent 75 = .ok (.goto 4, 3) := by decide +kernel
theorem dX9_solvent_78 : decode cX9_solvent 78 = .ok (.iconst 0, 1) := by decide +kernel
theorem dX9_solvent_79 : decode cX9_solvent 79 = .ok (.ior, 1) := by decide +kernel
theorem dX9_solvent_80 : decode cX9_solvent 80 = .ok (.istore_n 1, 1) := by decide +kernel
theorem dX9_solvent_81 : decode cX9_solvent 81 = .ok (.iinc 2 1, 3) := by decide +kernel
theorem dX9_solvent_84 : decode cX9_solvent 84 = .ok (.goto (-80), 3) := by decide +kernel
theorem dX9_solvent_87 : decode cX9_solvent 87 = .ok (.iload_n 1, 1) := by decide +kernel
theorem dX9_solvent_88 : decode cX9_solvent 88 = .ok (.ireturn, 1) := by decide +kernel
theorem dX9_blaze_0 : decode cX9_blaze 0 = .ok (.iconst (-1), 1) := by decide +kernel
theorem dX9_blaze_1 : decode cX9_blaze 1 = .ok (.istore_n 2, 1) := by decide +kernel
theorem dX9_blaze_2 : decode cX9_blaze 2 = .ok (.iconst 0, 1) := by decide +kernel
theorem dX9_blaze_3 : decode cX9_blaze 3 = .ok (.istore_n 3, 1) := by decide +kernel
theorem dX9_blaze_4 : decode cX9_blaze 4 = .ok (.iconst 0, 1) := by decide +kernel
theorem dX9_blaze_5 : decode cX9_blaze 5 = .ok (.istore 4, 2) := by decide +kernel
theorem dX9_blaze_7 : decode cX9_blaze 7 = .ok (.iload 4, 2) := by decide +kernel
theorem dX9_blaze_9 : decode cX9_blaze 9 = .ok (.aload_n 0, 1) := by decide +kernel
theorem dX9_blaze_10 : decode cX9_blaze 10 = .ok (.getfield 7, 3) := by decide +kernel
theorem dX9_blaze_13 : decode cX9_blaze 13 = .ok (.iconst 1, 1) := by decide +kernel
theorem dX9_blaze_14 : decode cX9_blaze 14 = .ok (.iaload, 1) := by decide +kernel
theorem dX9_blaze_15 : decode cX9_blaze 15 = .ok (.if_icmp .ge 65, 3) := by decide +kernel
theorem dX9_blaze_18 : decode cX9_blaze 18 = .ok (.aload_n 0, 1) := by decide +kernel
theorem dX9_blaze_19 : decode cX9_blaze 19 = .ok (.getfield 7, 3) := by decide +kernel
theorem dX9_blaze_22 : decode cX9_blaze 22 = .ok (.bipush 10, 2) := by decide +kernel
theorem dX9_blaze_24 : decode cX9_blaze 24 = .ok (.iaload, 1) := by decide +kernel
theorem dX9_blaze_25 : decode cX9_blaze 25 = .ok (.aload_n 0, 1) := by decide +kernel
theorem dX9_blaze_26 : decode cX9_blaze 26 = .ok (.getfield 7, 3) := by decide +kernel
theorem dX9_blaze_29 : decode cX9_blaze 29 = .ok (.bipush 29, 2) := by decide +kernel
theorem dX9_blaze_31 : decode cX9_blaze 31 = .ok (.iload 4, 2) := by decide +kernel
theorem dX9_blaze_33 : decode cX9_blaze 33 = .ok (.iadd, 1) := by decide +kernel
theorem dX9_blaze_34 : decode cX9_blaze 34 = .ok (.iaload, 1) := by decide +kernel
theorem dX9_blaze_35 : decode cX9_blaze 35 = .ok (.ixor, 1) := by decide +kernel
theorem dX9_blaze_36 : decode cX9_blaze 36 = .ok (.invokestatic 298, 3) := by decide +kernel
theorem dX9_blaze_39 : decode cX9_blaze 39 = .ok (.istore 5, 2) := by decide +kernel
theorem dX9_blaze_41 : decode cX9_blaze 41 = .ok (.iload_n 2, 1) := by decide +kernel
theorem dX9_blaze_42 : decode cX9_blaze 42 = .ok (.iconst (-1), 1) := by decide +kernel
theorem dX9_blaze_43 : decode cX9_blaze 43 = .ok (.if_icmp .eq 25, 3) := by decide +kernel
theorem dX9_blaze_46 : decode cX9_blaze 46 = .ok (.iload_n 1, 1) := by decide +kernel
theorem dX9_blaze_47 : decode cX9_blaze 47 = .ok (.ifCond .eq 12, 3) := by decide +kernel
theorem dX9_blaze_50 : decode cX9_blaze 50 = .ok (.iload 5, 2) := by decide +kernel
theorem dX9_blaze_52 : decode cX9_blaze 52 = .ok (.iload_n 3, 1) := by decide +kernel
theorem dX9_blaze_53 : decode cX9_blaze 53 = .ok (.if_icmp .gt 15, 3) := by decide +kernel
theorem dX9_blaze_56 : decode cX9_blaze 56 = .ok (.goto 18, 3) := by decide +kernel
theorem dX9_blaze_59 : decode cX9_blaze 59 = .ok (.iload 5, 2) := by decide +kernel
theorem dX9_blaze_61 : decode cX9_blaze 61 = .ok (.iload_n 3, 1) := by decide +kernel
theorem dX9_blaze_62 : decode cX9_blaze 62 = .ok (.if_icmp .lt 6, 3) := by decide +kernel
theorem dX9_blaze_65 : decode cX9_blaze 65 = .ok (.goto 9, 3) := by decide +kernel
theorem dX9_blaze_68 : decode cX9_blaze 68 = .ok (.iload 4, 2) := by decide +kernel
theorem dX9_blaze_70 : decode cX9_blaze 70 = .ok (.istore_n 2, 1) := by decide +kernel
theorem dX9_blaze_71 : decode cX9_blaze 71 = .ok (.iload 5, 2) := by decide +kernel
theorem dX9_blaze_73 : decode cX9_blaze 73 = .ok (.istore_n 3, 1) := by decide +kernel
theorem dX9_blaze_74 : decode cX9_blaze 74 = .ok (.iinc 4 1, 3) := by decide +kernel
theorem dX9_blaze_77 : decode cX9_blaze 77 = .ok (.goto (-70), 3) := by decide +kernel
theorem dX9_blaze_80 : decode cX9_blaze 80 = .ok (.iload_n 2, 1) := by decide +kernel
theorem dX9_blaze_81 : decode cX9_blaze 81 = .ok (.ireturn, 1) := by decide +kernel
theorem dX9_stretches_0 : decode cX9_stretches 0 = .ok (.aload_n 0, 1) := by decide +kernel
theorem dX9_stretches_1 : decode cX9_stretches 1 = .ok (.getfield 7, 3) := by decide +kernel
theorem dX9_stretches_4 : decode cX9_stretches 4 = .ok (.bipush 10, 2) := by decide +kernel
theorem dX9_stretches_6 : decode cX9_stretches 6 = .ok (.iaload, 1) := by decide +kernel
theorem dX9_stretches_7 : decode cX9_stretches 7 = .ok (.sipush 1023, 3) := by decide +kernel
theorem dX9_stretches_10 : decode cX9_stretches 10 = .ok (.if_icmp .ne 5, 3) := by decide +kernel
theorem dX9_stretches_13 : decode cX9_stretches 13 = .ok (.iconst 1, 1) := by decide +kernel
theorem dX9_stretches_14 : decode cX9_stretches 14 = .ok (.ireturn, 1) := by decide +kernel
theorem dX9_stretches_15 : decode cX9_stretches 15 = .ok (.iconst 0, 1) := by decide +kernel
theorem dX9_stretches_16 : decode cX9_stretches 16 = .ok (.istore_n 1, 1) := by decide +kernel
theorem dX9_stretches_17 : decode cX9_stretches 17 = .ok (.iconst 0, 1) := by decide +kernel
theorem dX9_stretches_18 : decode cX9_stretches 18 = .ok (.istore_n 2, 1) := by decide +kernel
theorem dX9_stretches_19 : decode cX9_stretches 19 = .ok (.iload_n 2, 1) := by decide +kernel
theorem dX9_stretches_20 : decode cX9_stretches 20 = .ok (.bipush 10, 2) := by decide +kernel
theorem dX9_stretches_22 : decode cX9_stretches 22 = .ok (.if_icmp .ge 50, 3) := by decide +kernel
theorem dX9_stretches_25 : decode cX9_stretches 25 = .ok (.iload_n 1, 1) := by decide +kernel
theorem dX9_stretches_26 : decode cX9_stretches 26 = .ok (.aload_n 0, 1) := by decide +kernel
theorem dX9_stretches_27 : decode cX9_stretches 27 = .ok (.getfield 7, 3) := by decide +kernel
theorem dX9_stretches_30 : decode cX9_stretches 30 = .ok (.bipush 10, 2) := by decide +kernel
theorem dX9_stretches_32 : decode cX9_stretches 32 = .ok (.iaload, 1) := by decide +kernel
theorem dX9_stretches_33 : decode cX9_stretches 33 = .ok (.iload_n 2, 1) := by decide +kernel
theorem dX9_stretches_34 : decode cX9_stretches 34 = .ok (.invokestatic 248, 3) := by decide +kernel
theorem dX9_stretches_37 : decode cX9_stretches 37 = .ok (.ifCond .eq 26, 3) := by decide +kernel
theorem dX9_stretches_40 : decode cX9_stretches 40 = .ok (.aload_n 0, 1) := by decide +kernel
theorem dX9_stretches_41 : decode cX9_stretches 41 = .ok (.getfield 7, 3) := by decide +kernel
theorem dX9_stretches_44 : decode cX9_stretches 44 = .ok (.bipush 10, 2) := by decide +kernel
theorem dX9_stretches_46 : decode cX9_stretches 46 = .ok (.iaload, 1) := by decide +kernel
theorem dX9_stretches_47 : decode cX9_stretches 47 = .ok (.iload_n 2, 1) := by decide +kernel
theorem dX9_stretches_48 : decode cX9_stretches 48 = .ok (.iconst 1, 1) := by decide +kernel
theorem dX9_stretches_49 : decode cX9_stretches 49 = .ok (.iadd, 1) := by decide +kernel
theorem dX9_stretches_50 : decode cX9_stretches 50 = .ok (.bipush 10, 2) := by decide +kernel
theorem dX9_stretches_52 : decode cX9_stretches 52 = .ok (.irem, 1) := by decide +kernel
theorem dX9_stretches_53 : decode cX9_stretches 53 = .ok (.invokestatic 248, 3) := by decide +kernel
theorem dX9_stretches_56 : decode cX9_stretches 56 = .ok (.ifCond .ne 7, 3) := by decide +kernel
theorem dX9_stretches_59 : decode cX9_stretches 59 = .ok (.iconst 1, 1) := by decide +kernel
theorem dX9_stretches_60 : decode cX9_stretches 60 = .ok (.goto 4, 3) := by decide +kernel
theorem dX9_stretches_63 : decode cX9_stretches 63 = .ok (.iconst 0, 1) := by decide +kernel
theorem dX9_stretches_64 : decode cX9_stretches 64 = .ok (.iadd, 1) := by decide +kernel
theorem dX9_stretches_65 : decode cX9_stretches 65 = .ok (.istore_n 1, 1) := by decide +kernel
theorem dX9_stretches_66 : decode cX9_stretches 66 = .ok (.iinc 2 1, 3) := by decide +kernel
theorem dX9_stretches_69 : decode cX9_stretches 69 = .ok (.goto (-50), 3) := by decide +kernel
theorem dX9_stretches_72 : decode cX9_stretches 72 = .ok (.iload_n 1, 1) := by decide +kernel
theorem dX9_stretches_73 : decode cX9_stretches 73 = .ok (.ireturn, 1) := by decide +kernel
theorem dX9_stretch_0 : decode cX9_stretch 0 = .ok (.iconst 0, 1) := by decide +kernel
theorem dX9_stretch_1 : decode cX9_stretch 1 = .ok (.istore_n 2, 1) := by decide +kernel
theorem dX9_stretch_2 : decode cX9_stretch 2 = .ok (.iconst 0, 1) := by decide +kernel
theorem dX9_stretch_3 : decode cX9_stretch 3 = .ok (.istore_n 3, 1) := by decide +kernel
theorem dX9_stretch_4 : decode cX9_stretch 4 = .ok (.iconst 0, 1) := by decide +kernel
theorem dX9_stretch_5 : decode cX9_stretch 5 = .ok (.istore 4, 2) := by decide +kernel
theorem dX9_stretch_7 : decode cX9_stretch 7 = .ok (.iload 4, 2) := by decide +kernel
theorem dX9_stretch_9 : decode cX9_stretch 9 = .ok (.bipush 20, 2) := by decide +kernel
theorem dX9_stretch_11 : decode cX9_stretch 11 = .ok (.if_icmp .ge 47, 3) := by decide +kernel
theorem dX9_stretch_14 : decode cX9_stretch 14 = .ok (.aload_n 0, 1) := by decide +kernel
theorem dX9_stretch_15 : decode cX9_stretch 15 = .ok (.getfield 7, 3) := by decide +kernel
theorem dX9_stretch_18 : decode cX9_stretch 18 = .ok (.bipush 10, 2) := by decide +kernel
theorem dX9_stretch_20 : decode cX9_stretch 20 = .ok (.iaload, 1) := by decide +kernel
theorem dX9_stretch_21 : decode cX9_stretch 21 = .ok (.iload 4, 2) := by decide +kernel
theorem dX9_stretch_23 : decode cX9_stretch 23 = .ok (.bipush 10, 2) := by decide +kernel
theorem dX9_stretch_25 : decode cX9_stretch 25 = .ok (.irem, 1) := by decide +kernel
theorem dX9_stretch_26 : decode cX9_stretch 26 = .ok (.invokestatic 248, 3) := by decide +kernel
theorem dX9_stretch_29 : decode cX9_stretch 29 = .ok (.iload_n 1, 1) := by decide +kernel
theorem dX9_stretch_30 : decode cX9_stretch 30 = .ok (.if_icmp .ne 9, 3) := by decide +kernel
theorem dX9_stretch_33 : decode cX9_stretch 33 = .ok (.iload_n 3, 1) := by decide +kernel
theorem dX9_stretch_34 : decode cX9_stretch 34 = .ok (.iconst 1, 1) := by decide +kernel
theorem dX9_stretch_35 : decode cX9_stretch 35 = .ok (.iadd, 1) := by decide +kernel
theorem dX9_stretch_36 : decode cX9_stretch 36 = .ok (.goto 4, 3) := by decide +kernel
theorem dX9_stretch_39 : decode cX9_stretch 39 = .ok (.iconst 0, 1) := by decide +kernel
theorem dX9_stretch_40 : decode cX9_stretch 40 = .ok (.istore_n 3, 1) := by decide +kernel
theorem dX9_stretch_41 : decode cX9_stretch 41 = .ok (.iload_n 3, 1) := by decide +kernel
theorem dX9_stretch_42 : decode cX9_stretch 42 = .ok (.iload_n 2, 1) := by decide +kernel
theorem dX9_stretch_43 : decode cX9_stretch 43 = .ok (.if_icmp .le 7, 3) := by decide +kernel
theorem dX9_stretch_46 : decode cX9_stretch 46 = .ok (.iload_n 3, 1) := by decide +kernel
theorem dX9_stretch_47 : decode cX9_stretch 47 = .ok (.goto 4, 3) := by decide +kernel
theorem dX9_stretch_50 : decode cX9_stretch 50 = .ok (.iload_n 2, 1) := by decide +kernel
theorem dX9_stretch_51 : decode cX9_stretch 51 = .ok (.istore_n 2, 1) := by decide +kernel
theorem dX9_stretch_52 : decode cX9_stretch 52 = .ok (.iinc 4 1, 3) := by decide +kernel
theorem dX9_stretch_55 : decode cX9_stretch 55 = .ok (.goto (-48), 3) := by decide +kernel
theorem dX9_stretch_58 : decode cX9_stretch 58 = .ok (.iload_n 2, 1) := by decide +kernel
theorem dX9_stretch_59 : decode cX9_stretch 59 = .ok (.bipush 10, 2) := by decide +kernel
theorem dX9_stretch_61 : decode cX9_stretch 61 = .ok (.if_icmp .le 8, 3) := by decide +kernel
theorem dX9_stretch_64 : decode cX9_stretch 64 = .ok (.bipush 10, 2) := by decide +kernel
theorem dX9_stretch_66 : decode cX9_stretch 66 = .ok (.goto 4, 3) := by decide +kernel
theorem dX9_stretch_69 : decode cX9_stretch 69 = .ok (.iload_n 2, 1) := by decide +kernel
theorem dX9_stretch_70 : decode cX9_stretch 70 = .ok (.ireturn, 1) := by decide +kernel
theorem dX9_foretold_0 : decode cX9_foretold 0 = .ok (.iload_n 1, 1) := by decide +kernel
theorem dX9_foretold_1 : decode cX9_foretold 1 = .ok (.iconst 1, 1) := by decide +kernel
theorem dX9_foretold_2 : decode cX9_foretold 2 = .ok (.bipush 60, 2) := by decide +kernel
theorem dX9_foretold_4 : decode cX9_foretold 4 = .ok (.invokestatic 69, 3) := by decide +kernel
theorem dX9_foretold_7 : decode cX9_foretold 7 = .ok (.ifCond .eq 12, 3) := by decide +kernel
theorem dX9_foretold_10 : decode cX9_foretold 10 = .ok (.iload_n 2, 1) := by decide +kernel
theorem dX9_foretold_11 : decode cX9_foretold 11 = .ok (.iconst 0, 1) := by decide +kernel
theorem dX9_foretold_12 : decode cX9_foretold 12 = .ok (.iconst 1, 1) := by decide +kernel
theorem dX9_foretold_13 : decode cX9_foretold 13 = .ok (.invokestatic 69, 3) := by decide +kernel
theorem dX9_foretold_16 : decode cX9_foretold 16 = .ok (.ifCond .ne 5, 3) := by decide +kernel
theorem dX9_foretold_19 : decode cX9_foretold 19 = .ok (.iconst (-1), 1) := by decide +kernel
theorem dX9_foretold_20 : decode cX9_foretold 20 = .ok (.ireturn, 1) := by decide +kernel
theorem dX9_foretold_21 : decode cX9_foretold 21 = .ok (.bipush 8, 2) := by decide +kernel
theorem dX9_foretold_23 : decode cX9_foretold 23 = .ok (.istore_n 3, 1) := by decide +kernel
theorem dX9_foretold_24 : decode cX9_foretold 24 = .ok (.iload_n 3, 1) := by decide +kernel
theorem dX9_foretold_25 : decode cX9_foretold 25 = .ok (.bipush 21, 2) := by decide +kernel
theorem dX9_foretold_27 : decode cX9_foretold 27 = .ok (.if_icmp .ge 21, 3) := by decide +kernel
theorem dX9_foretold_30 : decode cX9_foretold 30 = .ok (.aload_n 0, 1) := by decide +kernel
theorem dX9_foretold_31 : decode cX9_foretold 31 = .ok (.getfield 47, 3) := by decide +kernel
theorem dX9_foretold_34 : decode cX9_foretold 34 = .ok (.iload_n 3, 1) := by decide +kernel
theorem dX9_foretold_35 : decode cX9_foretold 35 = .ok (.aload_n 0, 1) := by decide +kernel
theorem dX9_foretold_36 : decode cX9_foretold 36 = .ok (.getfield 7, 3) := by decide +kernel
theorem dX9_foretold_39 : decode cX9_foretold 39 = .ok (.iload_n 3, 1) := by decide +kernel
theorem dX9_foretold_40 : decode cX9_foretold 40 = .ok (.iaload, 1) := by decide +kernel
theorem dX9_foretold_41 : decode cX9_foretold 41 = .ok (.iastore, 1) := by decide +kernel
theorem dX9_foretold_42 : decode cX9_foretold 42 = .ok (.iinc 3 1, 3) := by decide +kernel
theorem dX9_foretold_45 : decode cX9_foretold 45 = .ok (.goto (-21), 3) := by decide +kernel
theorem dX9_foretold_48 : decode cX9_foretold 48 = .ok (.aload_n 0, 1) := by decide +kernel
theorem dX9_foretold_49 : decode cX9_foretold 49 = .ok (.iconst 0, 1) := by decide +kernel
theorem dX9_foretold_50 : decode cX9_foretold 50 = .ok (.putfield 43, 3) := by decide +kernel
theorem dX9_foretold_53 : decode cX9_foretold 53 = .ok (.iconst 0, 1) := by decide +kernel
theorem dX9_foretold_54 : decode cX9_foretold 54 = .ok (.istore_n 3, 1) := by decide +kernel
theorem dX9_foretold_55 : decode cX9_foretold 55 = .ok (.iload_n 3, 1) := by decide +kernel
theorem dX9_foretold_56 : decode cX9_foretold 56 = .ok (.iload_n 1, 1) := by decide +kernel
theorem dX9_foretold_57 : decode cX9_foretold 57 = .ok (.if_icmp .ge 26, 3) := by decide +kernel
theorem dX9_foretold_60 : decode cX9_foretold 60 = .ok (.aload_n 0, 1) := by decide +kernel
theorem dX9_foretold_61 : decode cX9_foretold 61 = .ok (.getfield 7, 3) := by decide +kernel
theorem dX9_foretold_64 : decode cX9_foretold 64 = .ok (.bipush 8, 2) := by decide +kernel
theorem dX9_foretold_66 : decode cX9_foretold 66 = .ok (.iaload, 1) := by decide +kernel
theorem dX9_foretold_67 : decode cX9_foretold 67 = .ok (.sipush 9999, 3) := by decide +kernel
theorem dX9_foretold_70 : decode cX9_foretold 70 = .ok (.if_icmp .ge 7, 3) := by decide +kernel
theorem dX9_foretold_73 : decode cX9_foretold 73 = .ok (.aload_n 0, 1) := by decide +kernel
theorem dX9_foretold_74 : decode cX9_foretold 74 = .ok (.invokevirtual 356, 3) := by decide +kernel
theorem dX9_foretold_77 : decode cX9_foretold 77 = .ok (.iinc 3 1, 3) := by decide +kernel
theorem dX9_foretold_80 : decode cX9_foretold 80 = .ok (.goto (-25), 3) := by decide +kernel
theorem dX9_foretold_83 : decode cX9_foretold 83 = .ok (.iload_n 2, 1) := by decide +kernel
theorem dX9_foretold_84 : decode cX9_foretold 84 = .ok (.ifCond .ne 13, 3) := by decide +kernel
theorem dX9_foretold_87 : decode cX9_foretold 87 = .ok (.aload_n 0, 1) := by decide +kernel
theorem dX9_foretold_88 : decode cX9_foretold 88 = .ok (.getfield 7, 3) := by decide +kernel
theorem dX9_foretold_91 : decode cX9_foretold 91 = .ok (.bipush 10, 2) := by decide +kernel
theorem dX9_foretold_93 : decode cX9_foretold 93 = .ok (.iaload, 1) := by decide +kernel
theorem dX9_foretold_94 : decode cX9_foretold 94 = .ok (.goto 7, 3) := by decide +kernel
theorem dX9_foretold_97 : decode cX9_foretold 97 = .ok (.aload_n 0, 1) := by decide +kernel
theorem dX9_foretold_98 : decode cX9_foretold 98 = .ok (.invokevirtual 386, 3) := by decide +kernel
theorem dX9_foretold_101 : decode cX9_foretold 101 = .ok (.istore_n 3, 1) := by decide +kernel
theorem dX9_foretold_102 : decode cX9_foretold 102 = .ok (.bipush 8, 2) := by decide +kernel
theorem dX9_foretold_104 : decode cX9_foretold 104 = .ok (.istore 4, 2) := by decide +kernel
theorem dX9_foretold_106 : decode cX9_foretold 106 = .ok (.iload 4, 2) := by decide +kernel
theorem dX9_foretold_108 : decode cX9_foretold 108 = .ok (.bipush 21, 2) := by decide +kernel
theorem dX9_foretold_110 : decode cX9_foretold 110 = .ok (.if_icmp .ge 23, 3) := by decide +kernel
theorem dX9_foretold_113 : decode cX9_foretold 113 = .ok (.aload_n 0, 1) := by decide +kernel
theorem dX9_foretold_114 : decode cX9_foretold 114 = .ok (.getfield 7, 3) := by decide +kernel
theorem dX9_foretold_117 : decode cX9_foretold 117 = .ok (.iload 4, 2) := by decide +kernel
theorem dX9_foretold_119 : decode cX9_foretold 119 = .ok (.aload_n 0, 1) := by decide +kernel
theorem dX9_foretold_120 : decode cX9_foretold 120 = .ok (.getfield 47, 3) := by decide +kernel
theorem dX9_foretold_123 : decode cX9_foretold 123 = .ok (.iload 4, 2) := by decide +kernel
theorem dX9_foretold_125 : decode cX9_foretold 125 = .ok (.iaload, 1) := by decide +kernel
theorem dX9_foretold_126 : decode cX9_foretold 126 = .ok (.iastore, 1) := by decide +kernel
theorem dX9_foretold_127 : decode cX9_foretold 127 = .ok (.iinc 4 1, 3) := by decide +kernel
theorem dX9_foretold_130 : decode cX9_foretold 130 = .ok (.goto (-24), 3) := by decide +kernel
theorem dX9_foretold_133 : decode cX9_foretold 133 = .ok (.aload_n 0, 1) := by decide +kernel
theorem dX9_foretold_134 : decode cX9_foretold 134 = .ok (.iconst 1, 1) := by decide +kernel
theorem dX9_foretold_135 : decode cX9_foretold 135 = .ok (.putfield 43, 3) := by decide +kernel
theorem dX9_foretold_138 : decode cX9_foretold 138 = .ok (.iload_n 3, 1) := by decide +kernel
theorem dX9_foretold_139 : decode cX9_foretold 139 = .ok (.ireturn, 1) := by decide +kernel
theorem dX9_sets_0 : decode cX9_sets 0 = .ok (.iconst 1, 1) := by decide +kernel
theorem dX9_sets_1 : decode cX9_sets 1 = .ok (.aload_n 0, 1) := by decide +kernel
theorem dX9_sets_2 : decode cX9_sets 2 = .ok (.getfield 7, 3) := by decide +kernel
theorem dX9_sets_5 : decode cX9_sets 5 = .ok (.iconst 1, 1) := by decide +kernel
theorem dX9_sets_6 : decode cX9_sets 6 = .ok (.iaload, 1) := by decide +kernel
theorem dX9_sets_7 : decode cX9_sets 7 = .ok (.ishl, 1) := by decide +kernel
theorem dX9_sets_8 : decode cX9_sets 8 = .ok (.ireturn, 1) := by decide +kernel
theorem dX9_turned_0 : decode cX9_turned 0 = .ok (.iconst 0, 1) := by decide +kernel
theorem dX9_turned_1 : decode cX9_turned 1 = .ok (.istore_n 2, 1) := by decide +kernel
theorem dX9_turned_2 : decode cX9_turned 2 = .ok (.iconst 0, 1) := by decide +kernel
theorem dX9_turned_3 : decode cX9_turned 3 = .ok (.istore_n 3, 1) := by decide +kernel
theorem dX9_turned_4 : decode cX9_turned 4 = .ok (.iload_n 3, 1) := by decide +kernel
theorem dX9_turned_5 : decode cX9_turned 5 = .ok (.aload_n 0, 1) := by decide +kernel
theorem dX9_turned_6 : decode cX9_turned 6 = .ok (.getfield 7, 3) := by decide +kernel
theorem dX9_turned_9 : decode cX9_turned 9 = .ok (.iconst 1, 1) := by decide +kernel
theorem dX9_turned_10 : decode cX9_turned 10 = .ok (.iaload, 1) := by decide +kernel
theorem dX9_turned_11 : decode cX9_turned 11 = .ok (.if_icmp .ge 33, 3) := by decide +kernel
theorem dX9_turned_14 : decode cX9_turned 14 = .ok (.iload_n 2, 1) := by decide +kernel
theorem dX9_turned_15 : decode cX9_turned 15 = .ok (.iload_n 1, 1) := by decide +kernel
theorem dX9_turned_16 : decode cX9_turned 16 = .ok (.iload_n 3, 1) := by decide +kernel
theorem dX9_turned_17 : decode cX9_turned 17 = .ok (.invokestatic 248, 3) := by decide +kernel
theorem dX9_turned_20 : decode cX9_turned 20 = .ok (.ifCond .eq 15, 3) := by decide +kernel
theorem dX9_turned_23 : decode cX9_turned 23 = .ok (.aload_n 0, 1) := by decide +kernel
theorem dX9_turned_24 : decode cX9_turned 24 = .ok (.getfield 7, 3) := by decide +kernel
theorem dX9_turned_27 : decode cX9_turned 27 = .ok (.bipush 29, 2) := by decide +kernel
theorem dX9_turned_29 : decode cX9_turned 29 = .ok (.iload_n 3, 1) := by decide +kernel
theorem dX9_turned_30 : decode cX9_turned 30 = .ok (.iadd, 1) := by decide +kernel
theorem dX9_turned_31 : decode cX9_turned 31 = .ok (.iaload, 1) := by decide +kernel
theorem dX9_turned_32 : decode cX9_turned 32 = .ok (.goto 4, 3) := by decide +kernel
theorem dX9_turned_35 : decode cX9_turned 35 = .ok (.iconst 0, 1) := by decide +kernel
theorem dX9_turned_36 : decode cX9_turned 36 = .ok (.ixor, 1) := by decide +kernel
theorem dX9_turned_37 : decode cX9_turned 37 = .ok (.istore_n 2, 1) := by decide +kernel
theorem dX9_turned_38 : decode cX9_turned 38 = .ok (.iinc 3 1, 3) := by decide +kernel
theorem dX9_turned_41 : decode cX9_turned 41 = .ok (.goto (-37), 3) := by decide +kernel
theorem dX9_turned_44 : decode cX9_turned 44 = .ok (.iload_n 2, 1) := by decide +kernel
theorem dX9_turned_45 : decode cX9_turned 45 = .ok (.ireturn, 1) := by decide +kernel
theorem dX9_isTurned_0 : decode cX9_isTurned 0 = .ok (.iload_n 1, 1) := by decide +kernel
theorem dX9_isTurned_1 : decode cX9_isTurned 1 = .ok (.istore_n 3, 1) := by decide +kernel
theorem dX9_isTurned_2 : decode cX9_isTurned 2 = .ok (.iload_n 3, 1) := by decide +kernel
theorem dX9_isTurned_3 : decode cX9_isTurned 3 = .ok (.ifCond .lt 28, 3) := by decide +kernel
theorem dX9_isTurned_6 : decode cX9_isTurned 6 = .ok (.iload_n 3, 1) := by decide +kernel
theorem dX9_isTurned_7 : decode cX9_isTurned 7 = .ok (.iload_n 1, 1) := by decide +kernel
theorem dX9_isTurned_8 : decode cX9_isTurned 8 = .ok (.iconst (-1), 1) := by decide +kernel
theorem dX9_isTurned_9 : decode cX9_isTurned 9 = .ok (.ixor, 1) := by decide +kernel
theorem dX9_isTurned_10 : decode cX9_isTurned 10 = .ok (.iand, 1) := by decide +kernel
theorem dX9_isTurned_11 : decode cX9_isTurned 11 = .ok (.ifCond .ne 14, 3) := by decide +kernel
theorem dX9_isTurned_14 : decode cX9_isTurned 14 = .ok (.aload_n 0, 1) := by decide +kernel
theorem dX9_isTurned_15 : decode cX9_isTurned 15 = .ok (.iload_n 3, 1) := by decide +kernel
theorem dX9_isTurned_16 : decode cX9_isTurned 16 = .ok (.invokevirtual 393, 3) := by decide +kernel
theorem dX9_isTurned_19 : decode cX9_isTurned 19 = .ok (.iload_n 2, 1) := by decide +kernel
theorem dX9_isTurned_20 : decode cX9_isTurned 20 = .ok (.if_icmp .ne 5, 3) := by decide +kernel
theorem dX9_isTurned_23 : decode cX9_isTurned 23 = .ok (.iconst 1, 1) := by decide +kernel
theorem dX9_isTurned_24 : decode cX9_isTurned 24 = .ok (.ireturn, 1) := by decide +kernel
theorem dX9_isTurned_25 : decode cX9_isTurned 25 = .ok (.iinc 3 (-1), 3) := by decide +kernel
theorem dX9_isTurned_28 : decode cX9_isTurned 28 = .ok (.goto (-26), 3) := by decide +kernel
theorem dX9_isTurned_31 : decode cX9_isTurned 31 = .ok (.iconst 0, 1) := by decide +kernel
theorem dX9_isTurned_32 : decode cX9_isTurned 32 = .ok (.ireturn, 1) := by decide +kernel
theorem dX9_basis_0 : decode cX9_basis 0 = .ok (.iconst 0, 1) := by decide +kernel
theorem dX9_basis_1 : decode cX9_basis 1 = .ok (.istore_n 1, 1) := by decide +kernel
theorem dX9_basis_2 : decode cX9_basis 2 = .ok (.iconst 0, 1) := by decide +kernel
theorem dX9_basis_3 : decode cX9_basis 3 = .ok (.istore_n 2, 1) := by decide +kernel
theorem dX9_basis_4 : decode cX9_basis 4 = .ok (.iload_n 2, 1) := by decide +kernel
theorem dX9_basis_5 : decode cX9_basis 5 = .ok (.aload_n 0, 1) := by decide +kernel
theorem dX9_basis_6 : decode cX9_basis 6 = .ok (.getfield 7, 3) := by decide +kernel
theorem dX9_basis_9 : decode cX9_basis 9 = .ok (.iconst 1, 1) := by decide +kernel
theorem dX9_basis_10 : decode cX9_basis 10 = .ok (.iaload, 1) := by decide +kernel
theorem dX9_basis_11 : decode cX9_basis 11 = .ok (.if_icmp .ge 32, 3) := by decide +kernel
theorem dX9_basis_14 : decode cX9_basis 14 = .ok (.aload_n 0, 1) := by decide +kernel
theorem dX9_basis_15 : decode cX9_basis 15 = .ok (.iload_n 1, 1) := by decide +kernel
theorem dX9_basis_16 : decode cX9_basis 16 = .ok (.aload_n 0, 1) := by decide +kernel
theorem dX9_basis_17 : decode cX9_basis 17 = .ok (.getfield 7, 3) := by decide +kernel
theorem dX9_basis_20 : decode cX9_basis 20 = .ok (.bipush 29, 2) := by decide +kernel
theorem dX9_basis_22 : decode cX9_basis 22 = .ok (.iload_n 2, 1) := by decide +kernel
theorem dX9_basis_23 : decode cX9_basis 23 = .ok (.iadd, 1) := by decide +kernel
theorem dX9_basis_24 : decode cX9_basis 24 = .ok (.iaload, 1) := by decide +kernel
theorem dX9_basis_25 : decode cX9_basis 25 = .ok (.invokevirtual 396, 3) := by decide +kernel
theorem dX9_basis_28 : decode cX9_basis 28 = .ok (.ifCond .ne 9, 3) := by decide +kernel
theorem dX9_basis_31 : decode cX9_basis 31 = .ok (.iload_n 1, 1) := by decide +kernel
theorem dX9_basis_32 : decode cX9_basis 32 = .ok (.iconst 1, 1) := by decide +kernel
theorem dX9_basis_33 : decode cX9_basis 33 = .ok (.iload_n 2, 1) := by decide +kernel
theorem dX9_basis_34 : decode cX9_basis 34 = .ok (.ishl, 1) := by decide +kernel
theorem dX9_basis_35 : decode cX9_basis 35 = .ok (.ior, 1) := by decide +kernel
theorem dX9_basis_36 : decode cX9_basis 36 = .ok (.istore_n 1, 1) := by decide +kernel
theorem dX9_basis_37 : decode cX9_basis 37 = .ok (.iinc 2 1, 3) := by decide +kernel
theorem dX9_basis_40 : decode cX9_basis 40 = .ok (.goto (-36), 3) := by decide +kernel
theorem dX9_basis_43 : decode cX9_basis 43 = .ok (.iload_n 1, 1) := by decide +kernel
theorem dX9_basis_44 : decode cX9_basis 44 = .ok (.ireturn, 1) := by decide +kernel
theorem dX9_rank_0 : decode cX9_rank 0 = .ok (.aload_n 0, 1) := by decide +kernel
theorem dX9_rank_1 : decode cX9_rank 1 = .ok (.invokevirtual 399, 3) := by decide +kernel
theorem dX9_rank_4 : decode cX9_rank 4 = .ok (.invokestatic 298, 3) := by decide +kernel
theorem dX9_rank_7 : decode cX9_rank 7 = .ok (.ireturn, 1) := by decide +kernel
theorem dX9_spare_0 : decode cX9_spare 0 = .ok (.aload_n 0, 1) := by decide +kernel
theorem dX9_spare_1 : decode cX9_spare 1 = .ok (.iload_n 1, 1) := by decide +kernel
theorem dX9_spare_2 : decode cX9_spare 2 = .ok (.invokevirtual 332, 3) := by decide +kernel
theorem dX9_spare_5 : decode cX9_spare 5 = .ok (.ifCond .ne 7, 3) := by decide +kernel
theorem dX9_spare_8 : decode cX9_spare 8 = .ok (.iconst (-1), 1) := by decide +kernel
theorem dX9_spare_9 : decode cX9_spare 9 = .ok (.goto 36, 3) := by decide +kernel
theorem dX9_spare_12 : decode cX9_spare 12 = .ok (.aload_n 0, 1) := by decide +kernel
theorem dX9_spare_13 : decode cX9_spare 13 = .ok (.aload_n 0, 1) := by decide +kernel
theorem dX9_spare_14 : decode cX9_spare 14 = .ok (.invokevirtual 402, 3) := by decide +kernel
theorem dX9_spare_17 : decode cX9_spare 17 = .ok (.iconst 1, 1) := by decide +kernel
theorem dX9_spare_18 : decode cX9_spare 18 = .ok (.isub, 1) := by decide +kernel
theorem dX9_spare_19 : decode cX9_spare 19 = .ok (.iconst 1, 1) := by decide +kernel
theorem dX9_spare_20 : decode cX9_spare 20 = .ok (.iload_n 1, 1) := by decide +kernel
theorem dX9_spare_21 : decode cX9_spare 21 = .ok (.ishl, 1) := by decide +kernel
theorem dX9_spare_22 : decode cX9_spare 22 = .ok (.iconst (-1), 1) := by decide +kernel
theorem dX9_spare_23 : decode cX9_spare 23 = .ok (.ixor, 1) := by decide +kernel
theorem dX9_spare_24 : decode cX9_spare 24 = .ok (.iand, 1) := by decide +kernel
theorem dX9_spare_25 : decode cX9_spare 25 = .ok (.aload_n 0, 1) := by decide +kernel
theorem dX9_spare_26 : decode cX9_spare 26 = .ok (.getfield 7, 3) := by decide +kernel
theorem dX9_spare_29 : decode cX9_spare 29 = .ok (.bipush 29, 2) := by decide +kernel
theorem dX9_spare_31 : decode cX9_spare 31 = .ok (.iload_n 1, 1) := by decide +kernel
theorem dX9_spare_32 : decode cX9_spare 32 = .ok (.iadd, 1) := by decide +kernel
theorem dX9_spare_33 : decode cX9_spare 33 = .ok (.iaload, 1) := by decide +kernel
theorem dX9_spare_34 : decode cX9_spare 34 = .ok (.invokevirtual 396, 3) := by decide +kernel
theorem dX9_spare_37 : decode cX9_spare 37 = .ok (.ifCond .eq 7, 3) := by decide +kernel
theorem dX9_spare_40 : decode cX9_spare 40 = .ok (.iconst 1, 1) := by decide +kernel
theorem dX9_spare_41 : decode cX9_spare 41 = .ok (.goto 4, 3) := by decide +kernel
theorem dX9_spare_44 : decode cX9_spare 44 = .ok (.iconst 0, 1) := by decide +kernel
theorem dX9_spare_45 : decode cX9_spare 45 = .ok (.ireturn, 1) := by decide +kernel
theorem dX9_bring_0 : decode cX9_bring 0 = .ok (.iload_n 1, 1) := by decide +kernel
theorem dX9_bring_1 : decode cX9_bring 1 = .ok (.invokestatic 81, 3) := by decide +kernel
theorem dX9_bring_4 : decode cX9_bring 4 = .ok (.ifCond .ne 5, 3) := by decide +kernel
theorem dX9_bring_7 : decode cX9_bring 7 = .ok (.iconst (-1), 1) := by decide +kernel
theorem dX9_bring_8 : decode cX9_bring 8 = .ok (.ireturn, 1) := by decide +kernel
theorem dX9_bring_9 : decode cX9_bring 9 = .ok (.iconst (-1), 1) := by decide +kernel
theorem dX9_bring_10 : decode cX9_bring 10 = .ok (.istore_n 3, 1) := by decide +kernel
theorem dX9_bring_11 : decode cX9_bring 11 = .ok (.aload_n 0, 1) := by decide +kernel
theorem dX9_bring_12 : decode cX9_bring 12 = .ok (.invokevirtual 402, 3) := by decide +kernel
theorem dX9_bring_15 : decode cX9_bring 15 = .ok (.iconst 1, 1) := by decide +kernel
theorem dX9_bring_16 : decode cX9_bring 16 = .ok (.isub, 1) := by decide +kernel
theorem dX9_bring_17 : decode cX9_bring 17 = .ok (.istore 4, 2) := by decide +kernel
theorem dX9_bring_19 : decode cX9_bring 19 = .ok (.iload 4, 2) := by decide +kernel
theorem dX9_bring_21 : decode cX9_bring 21 = .ok (.ifCond .lt 47, 3) := by decide +kernel
theorem dX9_bring_24 : decode cX9_bring 24 = .ok (.aload_n 0, 1) := by decide +kernel
theorem dX9_bring_25 : decode cX9_bring 25 = .ok (.iload 4, 2) := by decide +kernel
theorem dX9_bring_27 : decode cX9_bring 27 = .ok (.invokevirtual 393, 3) := by decide +kernel
theorem dX9_bring_30 : decode cX9_bring 30 = .ok (.aload_n 0, 1) := by decide +kernel
theorem dX9_bring_31 : decode cX9_bring 31 = .ok (.getfield 7, 3) := by decide +kernel
theorem dX9_bring_34 : decode cX9_bring 34 = .ok (.bipush 10, 2) := by decide +kernel
theorem dX9_bring_36 : decode cX9_bring 36 = .ok (.iaload, 1) := by decide +kernel
theorem dX9_bring_37 : decode cX9_bring 37 = .ok (.ixor, 1) := by decide +kernel
theorem dX9_bring_38 : decode cX9_bring 38 = .ok (.iload_n 1, 1) := by decide +kernel
theorem dX9_bring_39 : decode cX9_bring 39 = .ok (.if_icmp .ne 23, 3) := by decide +kernel
theorem dX9_bring_42 : decode cX9_bring 42 = .ok (.iload_n 3, 1) := by decide +kernel
theorem dX9_bring_43 : decode cX9_bring 43 = .ok (.iconst (-1), 1) := by decide +kernel
theorem dX9_bring_44 : decode cX9_bring 44 = .ok (.if_icmp .eq 15, 3) := by decide +kernel
theorem dX9_bring_47 : decode cX9_bring 47 = .ok (.iload 4, 2) := by decide +kernel
theorem dX9_bring_49 : decode cX9_bring 49 = .ok (.invokestatic 298, 3) := by decide +kernel
theorem dX9_bring_52 : decode cX9_bring 52 = .ok (.iload_n 3, 1) := by decide +kernel
theorem dX9_bring_53 : decode cX9_bring 53 = .ok (.invokestatic 298, 3) := by decide +kernel
theorem dX9_bring_56 : decode cX9_bring 56 = .ok (.if_icmp .gt 6, 3) := by decide +kernel
theorem dX9_bring_59 : decode cX9_bring 59 = .ok (.iload 4, 2) := by decide +kernel
theorem dX9_bring_61 : decode cX9_bring 61 = .ok (.istore_n 3, 1) := by decide +kernel
theorem dX9_bring_62 : decode cX9_bring 62 = .ok (.iinc 4 (-1), 3) := by decide +kernel
theorem dX9_bring_65 : decode cX9_bring 65 = .ok (.goto (-46), 3) := by decide +kernel
theorem dX9_bring_68 : decode cX9_bring 68 = .ok (.iload_n 3, 1) := by decide +kernel
theorem dX9_bring_69 : decode cX9_bring 69 = .ok (.iconst (-1), 1) := by decide +kernel
theorem dX9_bring_70 : decode cX9_bring 70 = .ok (.if_icmp .ne 7, 3) := by decide +kernel
theorem dX9_bring_73 : decode cX9_bring 73 = .ok (.iconst (-1), 1) := by decide +kernel
theorem dX9_bring_74 : decode cX9_bring 74 = .ok (.goto 15, 3) := by decide +kernel
theorem dX9_bring_77 : decode cX9_bring 77 = .ok (.iload_n 2, 1) := by decide +kernel
theorem dX9_bring_78 : decode cX9_bring 78 = .ok (.ifCond .eq 10, 3) := by decide +kernel
theorem dX9_bring_81 : decode cX9_bring 81 = .ok (.iload_n 3, 1) := by decide +kernel
theorem dX9_bring_82 : decode cX9_bring 82 = .ok (.invokestatic 298, 3) := by decide +kernel
theorem dX9_bring_85 : decode cX9_bring 85 = .ok (.goto 4, 3) := by decide +kernel
theorem dX9_bring_88 : decode cX9_bring 88 = .ok (.iload_n 3, 1) := by decide +kernel
theorem dX9_bring_89 : decode cX9_bring 89 = .ok (.ireturn, 1) := by decide +kernel
theorem dX9_ways_0 : decode cX9_ways 0 = .ok (.iload_n 1, 1) := by decide +kernel
theorem dX9_ways_1 : decode cX9_ways 1 = .ok (.invokestatic 81, 3) := by decide +kernel
theorem dX9_ways_4 : decode cX9_ways 4 = .ok (.ifCond .ne 5, 3) := by decide +kernel
theorem dX9_ways_7 : decode cX9_ways 7 = .ok (.iconst (-1), 1) := by decide +kernel
theorem dX9_ways_8 : decode cX9_ways 8 = .ok (.ireturn, 1) := by decide +kernel
theorem dX9_ways_9 : decode cX9_ways 9 = .ok (.iconst 0, 1) := by decide +kernel
theorem dX9_ways_10 : decode cX9_ways 10 = .ok (.istore_n 2, 1) := by decide +kernel
theorem dX9_ways_11 : decode cX9_ways 11 = .ok (.iconst 0, 1) := by decide +kernel
theorem dX9_ways_12 : decode cX9_ways 12 = .ok (.istore_n 3, 1) := by decide +kernel
theorem dX9_ways_13 : decode cX9_ways 13 = .ok (.iload_n 3, 1) := by decide +kernel
theorem dX9_ways_14 : decode cX9_ways 14 = .ok (.aload_n 0, 1) := by decide +kernel
theorem dX9_ways_15 : decode cX9_ways 15 = .ok (.invokevirtual 402, 3) := by decide +kernel
theorem dX9_ways_18 : decode cX9_ways 18 = .ok (.if_icmp .ge 34, 3) := by decide +kernel
theorem dX9_ways_21 : decode cX9_ways 21 = .ok (.iload_n 2, 1) := by decide +kernel
theorem dX9_ways_22 : decode cX9_ways 22 = .ok (.aload_n 0, 1) := by decide +kernel
theorem dX9_ways_23 : decode cX9_ways 23 = .ok (.iload_n 3, 1) := by decide +kernel
theorem dX9_ways_24 : decode cX9_ways 24 = .ok (.invokevirtual 393, 3) := by decide +kernel
theorem dX9_ways_27 : decode cX9_ways 27 = .ok (.aload_n 0, 1) := by decide +kernel
theorem dX9_ways_28 : decode cX9_ways 28 = .ok (.getfield 7, 3) := by decide +kernel
theorem dX9_ways_31 : decode cX9_ways 31 = .ok (.bipush 10, 2) := by decide +kernel
theorem dX9_ways_33 : decode cX9_ways 33 = .ok (.iaload, 1) := by decide +kernel
theorem dX9_ways_34 : decode cX9_ways 34 = .ok (.ixor, 1) := by decide +kernel
theorem dX9_ways_35 : decode cX9_ways 35 = .ok (.iload_n 1, 1) := by decide +kernel
theorem dX9_ways_36 : decode cX9_ways 36 = .ok (.if_icmp .ne 7, 3) := by decide +kernel
theorem dX9_ways_39 : decode cX9_ways 39 = .ok (.iconst 1, 1) := by decide +kernel
theorem dX9_ways_40 : decode cX9_ways 40 = .ok (.goto 4, 3) := by decide +kernel
theorem dX9_ways_43 : decode cX9_ways 43 = .ok (.iconst 0, 1) := by decide +kernel
theorem dX9_ways_44 : decode cX9_ways 44 = .ok (.iadd, 1) := by decide +kernel
theorem dX9_ways_45 : decode cX9_ways 45 = .ok (.istore_n 2, 1) := by decide +kernel
theorem dX9_ways_46 : decode cX9_ways 46 = .ok (.iinc 3 1, 3) := by decide +kernel
theorem dX9_ways_49 : decode cX9_ways 49 = .ok (.goto (-36), 3) := by decide +kernel
theorem dX9_ways_52 : decode cX9_ways 52 = .ok (.iload_n 2, 1) := by decide +kernel
theorem dX9_ways_53 : decode cX9_ways 53 = .ok (.ireturn, 1) := by decide +kernel
theorem dX9_weight_0 : decode cX9_weight 0 = .ok (.iconst (-1), 1) := by decide +kernel
theorem dX9_weight_1 : decode cX9_weight 1 = .ok (.istore_n 1, 1) := by decide +kernel
theorem dX9_weight_2 : decode cX9_weight 2 = .ok (.iconst 1, 1) := by decide +kernel
theorem dX9_weight_3 : decode cX9_weight 3 = .ok (.istore_n 2, 1) := by decide +kernel
theorem dX9_weight_4 : decode cX9_weight 4 = .ok (.iload_n 2, 1) := by decide +kernel
theorem dX9_weight_5 : decode cX9_weight 5 = .ok (.aload_n 0, 1) := by decide +kernel
theorem dX9_weight_6 : decode cX9_weight 6 = .ok (.invokevirtual 402, 3) := by decide +kernel
theorem dX9_weight_9 : decode cX9_weight 9 = .ok (.if_icmp .ge 34, 3) := by decide +kernel
theorem dX9_weight_12 : decode cX9_weight 12 = .ok (.aload_n 0, 1) := by decide +kernel
theorem dX9_weight_13 : decode cX9_weight 13 = .ok (.iload_n 2, 1) := by decide +kernel
theorem dX9_weight_14 : decode cX9_weight 14 = .ok (.invokevirtual 393, 3) := by decide +kernel
theorem dX9_weight_17 : decode cX9_weight 17 = .ok (.invokestatic 298, 3) := by decide +kernel
theorem dX9_weight_20 : decode cX9_weight 20 = .ok (.istore_n 3, 1) := by decide +kernel
theorem dX9_weight_21 : decode cX9_weight 21 = .ok (.iload_n 3, 1) := by decide +kernel
theorem dX9_weight_22 : decode cX9_weight 22 = .ok (.ifCond .le 15, 3) := by decide +kernel
theorem dX9_weight_25 : decode cX9_weight 25 = .ok (.iload_n 1, 1) := by decide +kernel
theorem dX9_weight_26 : decode cX9_weight 26 = .ok (.iconst (-1), 1) := by decide +kernel
theorem dX9_weight_27 : decode cX9_weight 27 = .ok (.if_icmp .eq 8, 3) := by decide +kernel
theorem dX9_weight_30 : decode cX9_weight 30 = .ok (.iload_n 3, 1) := by decide +kernel
theorem dX9_weight_31 : decode cX9_weight 31 = .ok (.iload_n 1, 1) := by decide +kernel
theorem dX9_weight_32 : decode cX9_weight 32 = .ok (.if_icmp .ge 5, 3) := by decide +kernel
theorem dX9_weight_35 : decode cX9_weight 35 = .ok (.iload_n 3, 1) := by decide +kernel
theorem dX9_weight_36 : decode cX9_weight 36 = .ok (.istore_n 1, 1) := by decide +kernel
theorem dX9_weight_37 : decode cX9_weight 37 = .ok (.iinc 2 1, 3) := by decide +kernel
theorem dX9_weight_40 : decode cX9_weight 40 = .ok (.goto (-36), 3) := by decide +kernel
theorem dX9_weight_43 : decode cX9_weight 43 = .ok (.iload_n 1, 1) := by decide +kernel
theorem dX9_weight_44 : decode cX9_weight 44 = .ok (.ireturn, 1) := by decide +kernel
theorem dX9_layReached_0 : decode cX9_layReached 0 = .ok (.iconst 0, 1) := by decide +kernel
theorem dX9_layReached_1 : decode cX9_layReached 1 = .ok (.istore_n 1, 1) := by decide +kernel
theorem dX9_layReached_2 : decode cX9_layReached 2 = .ok (.iload_n 1, 1) := by decide +kernel
theorem dX9_layReached_3 : decode cX9_layReached 3 = .ok (.sipush 1024, 3) := by decide +kernel
theorem dX9_layReached_6 : decode cX9_layReached 6 = .ok (.if_icmp .ge 16, 3) := by decide +kernel
theorem dX9_layReached_9 : decode cX9_layReached 9 = .ok (.aload_n 0, 1) := by decide +kernel
theorem dX9_layReached_10 : decode cX9_layReached 10 = .ok (.getfield 50, 3) := by decide +kernel
theorem dX9_layReached_13 : decode cX9_layReached 13 = .ok (.iload_n 1, 1) := by decide +kernel
theorem dX9_layReached_14 : decode cX9_layReached 14 = .ok (.iconst 0, 1) := by decide +kernel
theorem dX9_layReached_15 : decode cX9_layReached 15 = .ok (.bastore, 1) := by decide +kernel
theorem dX9_layReached_16 : decode cX9_layReached 16 = .ok (.iinc 1 1, 3) := by decide +kernel
theorem dX9_layReached_19 : decode cX9_layReached 19 = .ok (.goto (-17), 3) := by decide +kernel
theorem dX9_layReached_22 : decode cX9_layReached 22 = .ok (.iconst 0, 1) := by decide +kernel
theorem dX9_layReached_23 : decode cX9_layReached 23 = .ok (.istore_n 1, 1) := by decide +kernel
theorem dX9_layReached_24 : decode cX9_layReached 24 = .ok (.iload_n 1, 1) := by decide +kernel
theorem dX9_layReached_25 : decode cX9_layReached 25 = .ok (.aload_n 0, 1) := by decide +kernel
theorem dX9_layReached_26 : decode cX9_layReached 26 = .ok (.invokevirtual 402, 3) := by decide +kernel
theorem dX9_layReached_29 : decode cX9_layReached 29 = .ok (.if_icmp .ge 28, 3) := by decide +kernel
theorem dX9_layReached_32 : decode cX9_layReached 32 = .ok (.aload_n 0, 1) := by decide +kernel
theorem dX9_layReached_33 : decode cX9_layReached 33 = .ok (.getfield 50, 3) := by decide +kernel
theorem dX9_layReached_36 : decode cX9_layReached 36 = .ok (.aload_n 0, 1) := by decide +kernel
theorem dX9_layReached_37 : decode cX9_layReached 37 = .ok (.iload_n 1, 1) := by decide +kernel
theorem dX9_layReached_38 : decode cX9_layReached 38 = .ok (.invokevirtual 393, 3) := by decide +kernel
theorem dX9_layReached_41 : decode cX9_layReached 41 = .ok (.aload_n 0, 1) := by decide +kernel
theorem dX9_layReached_42 : decode cX9_layReached 42 = .ok (.getfield 7, 3) := by decide +kernel
theorem dX9_layReached_45 : decode cX9_layReached 45 = .ok (.bipush 10, 2) := by decide +kernel
theorem dX9_layReached_47 : decode cX9_layReached 47 = .ok (.iaload, 1) := by decide +kernel
theorem dX9_layReached_48 : decode cX9_layReached 48 = .ok (.ixor, 1) := by decide +kernel
theorem dX9_layReached_49 : decode cX9_layReached 49 = .ok (.iconst 1, 1) := by decide +kernel
theorem dX9_layReached_50 : decode cX9_layReached 50 = .ok (.bastore, 1) := by decide +kernel
theorem dX9_layReached_51 : decode cX9_layReached 51 = .ok (.iinc 1 1, 3) := by decide +kernel
theorem dX9_layReached_54 : decode cX9_layReached 54 = .ok (.goto (-30), 3) := by decide +kernel
theorem dX9_layReached_57 : decode cX9_layReached 57 = .ok (.return_, 1) := by decide +kernel
theorem dX9_reach_0 : decode cX9_reach 0 = .ok (.iload_n 1, 1) := by decide +kernel
theorem dX9_reach_1 : decode cX9_reach 1 = .ok (.iconst 0, 1) := by decide +kernel
theorem dX9_reach_2 : decode cX9_reach 2 = .ok (.iconst 2, 1) := by decide +kernel
theorem dX9_reach_3 : decode cX9_reach 3 = .ok (.invokestatic 69, 3) := by decide +kernel
theorem dX9_reach_6 : decode cX9_reach 6 = .ok (.ifCond .ne 5, 3) := by decide +kernel
theorem dX9_reach_9 : decode cX9_reach 9 = .ok (.iconst (-1), 1) := by decide +kernel
theorem dX9_reach_10 : decode cX9_reach 10 = .ok (.ireturn, 1) := by decide +kernel
theorem dX9_reach_11 : decode cX9_reach 11 = .ok (.aload_n 0, 1) := by decide +kernel
theorem dX9_reach_12 : decode cX9_reach 12 = .ok (.invokevirtual 405, 3) := by decide +kernel
theorem dX9_reach_15 : decode cX9_reach 15 = .ok (.iconst 0, 1) := by decide +kernel
theorem dX9_reach_16 : decode cX9_reach 16 = .ok (.istore_n 2, 1) := by decide +kernel
theorem dX9_reach_17 : decode cX9_reach 17 = .ok (.bipush 10, 2) := by decide +kernel
theorem dX9_reach_19 : decode cX9_reach 19 = .ok (.istore_n 3, 1) := by decide +kernel
theorem dX9_reach_20 : decode cX9_reach 20 = .ok (.iconst 0, 1) := by decide +kernel
theorem dX9_reach_21 : decode cX9_reach 21 = .ok (.istore 4, 2) := by decide +kernel
theorem dX9_reach_23 : decode cX9_reach 23 = .ok (.iconst 0, 1) := by decide +kernel
theorem dX9_reach_24 : decode cX9_reach 24 = .ok (.istore 5, 2) := by decide +kernel
theorem dX9_reach_26 : decode cX9_reach 26 = .ok (.iload 5, 2) := by decide +kernel
theorem dX9_reach_28 : decode cX9_reach 28 = .ok (.sipush 1024, 3) := by decide +kernel
theorem dX9_reach_31 : decode cX9_reach 31 = .ok (.if_icmp .ge 66, 3) := by decide +kernel
theorem dX9_reach_34 : decode cX9_reach 34 = .ok (.aload_n 0, 1) := by decide +kernel
theorem dX9_reach_35 : decode cX9_reach 35 = .ok (.getfield 50, 3) := by decide +kernel
theorem dX9_reach_38 : decode cX9_reach 38 = .ok (.iload 5, 2) := by decide +kernel
theorem dX9_reach_40 : decode cX9_reach 40 = .ok (.baload, 1) := by decide +kernel
theorem dX9_reach_41 : decode cX9_reach 41 = .ok (.ifCond .ne 6, 3) := by decide +kernel
theorem dX9_reach_44 : decode cX9_reach 44 = .ok (.goto 47, 3) := by decide +kernel
theorem dX9_reach_47 : decode cX9_reach 47 = .ok (.iinc 2 1, 3) := by decide +kernel
theorem dX9_reach_50 : decode cX9_reach 50 = .ok (.iload 5, 2) := by decide +kernel
theorem dX9_reach_52 : decode cX9_reach 52 = .ok (.invokestatic 298, 3) := by decide +kernel
theorem dX9_reach_55 : decode cX9_reach 55 = .ok (.iload_n 3, 1) := by decide +kernel
theorem dX9_reach_56 : decode cX9_reach 56 = .ok (.if_icmp .ge 11, 3) := by decide +kernel
theorem dX9_reach_59 : decode cX9_reach 59 = .ok (.iload 5, 2) := by decide +kernel
theorem dX9_reach_61 : decode cX9_reach 61 = .ok (.invokestatic 298, 3) := by decide +kernel
theorem dX9_reach_64 : decode cX9_reach 64 = .ok (.goto 4, 3) := by decide +kernel
theorem dX9_reach_67 : decode cX9_reach 67 = .ok (.iload_n 3, 1) := by decide +kernel
theorem dX9_reach_68 : decode cX9_reach 68 = .ok (.istore_n 3, 1) := by decide +kernel
theorem dX9_reach_69 : decode cX9_reach 69 = .ok (.iload 5, 2) := by decide +kernel
theorem dX9_reach_71 : decode cX9_reach 71 = .ok (.invokestatic 298, 3) := by decide +kernel
theorem dX9_reach_74 : decode cX9_reach 74 = .ok (.iload 4, 2) := by decide +kernel
theorem dX9_reach_76 : decode cX9_reach 76 = .ok (.if_icmp .le 11, 3) := by decide +kernel
theorem dX9_reach_79 : decode cX9_reach 79 = .ok (.iload 5, 2) := by decide +kernel
theorem dX9_reach_81 : decode cX9_reach 81 = .ok (.invokestatic 298, 3) := by decide +kernel
theorem dX9_reach_84 : decode cX9_reach 84 = .ok (.goto 5, 3) := by decide +kernel
theorem dX9_reach_87 : decode cX9_reach 87 = .ok (.iload 4, 2) := by decide +kernel
theorem dX9_reach_89 : decode cX9_reach 89 = .ok (.istore 4, 2) := by decide +kernel
theorem dX9_reach_91 : decode cX9_reach 91 = .ok (.iinc 5 1, 3) := by decide +kernel
theorem dX9_reach_94 : decode cX9_reach 94 = .ok (.goto (-68), 3) := by decide +kernel
theorem dX9_reach_97 : decode cX9_reach 97 = .ok (.iload_n 1, 1) := by decide +kernel
theorem dX9_reach_98 : decode cX9_reach 98 = .ok (.ifCond .ne 7, 3) := by decide +kernel
theorem dX9_reach_101 : decode cX9_reach 101 = .ok (.iload_n 2, 1) := by decide +kernel
theorem dX9_reach_102 : decode cX9_reach 102 = .ok (.goto 14, 3) := by decide +kernel
theorem dX9_reach_105 : decode cX9_reach 105 = .ok (.iload_n 1, 1) := by decide +kernel
theorem dX9_reach_106 : decode cX9_reach 106 = .ok (.iconst 1, 1) := by decide +kernel
theorem dX9_reach_107 : decode cX9_reach 107 = .ok (.if_icmp .ne 7, 3) := by decide +kernel
theorem dX9_reach_110 : decode cX9_reach 110 = .ok (.iload_n 3, 1) := by decide +kernel
theorem dX9_reach_111 : decode cX9_reach 111 = .ok (.goto 5, 3) := by decide +kernel
theorem dX9_reach_114 : decode cX9_reach 114 = .ok (.iload 4, 2) := by decide +kernel
theorem dX9_reach_116 : decode cX9_reach 116 = .ok (.ireturn, 1) := by decide +kernel
theorem dX9_pattern_0 : decode cX9_pattern 0 = .ok (.aload_n 0, 1) := by decide +kernel
theorem dX9_pattern_1 : decode cX9_pattern 1 = .ok (.invokevirtual 405, 3) := by decide +kernel
theorem dX9_pattern_4 : decode cX9_pattern 4 = .ok (.iconst 0, 1) := by decide +kernel
theorem dX9_pattern_5 : decode cX9_pattern 5 = .ok (.istore_n 2, 1) := by decide +kernel
theorem dX9_pattern_6 : decode cX9_pattern 6 = .ok (.iload_n 2, 1) := by decide +kernel
theorem dX9_pattern_7 : decode cX9_pattern 7 = .ok (.sipush 1024, 3) := by decide +kernel
theorem dX9_pattern_10 : decode cX9_pattern 10 = .ok (.if_icmp .ge 28, 3) := by decide +kernel
theorem dX9_pattern_13 : decode cX9_pattern 13 = .ok (.aload_n 0, 1) := by decide +kernel
theorem dX9_pattern_14 : decode cX9_pattern 14 = .ok (.getfield 50, 3) := by decide +kernel
theorem dX9_pattern_17 : decode cX9_pattern 17 = .ok (.iload_n 2, 1) := by decide +kernel
theorem dX9_pattern_18 : decode cX9_pattern 18 = .ok (.baload, 1) := by decide +kernel
theorem dX9_pattern_19 : decode cX9_pattern 19 = .ok (.ifCond .eq 13, 3) := by decide +kernel
theorem dX9_pattern_22 : decode cX9_pattern 22 = .ok (.iload_n 2, 1) := by decide +kernel
theorem dX9_pattern_23 : decode cX9_pattern 23 = .ok (.invokestatic 298, 3) := by decide +kernel
theorem dX9_pattern_26 : decode cX9_pattern 26 = .ok (.iload_n 1, 1) := by decide +kernel
theorem dX9_pattern_27 : decode cX9_pattern 27 = .ok (.if_icmp .ne 5, 3) := by decide +kernel
theorem dX9_pattern_30 : decode cX9_pattern 30 = .ok (.iload_n 2, 1) := by decide +kernel
theorem dX9_pattern_31 : decode cX9_pattern 31 = .ok (.ireturn, 1) := by decide +kernel
theorem dX9_pattern_32 : decode cX9_pattern 32 = .ok (.iinc 2 1, 3) := by decide +kernel
theorem dX9_pattern_35 : decode cX9_pattern 35 = .ok (.goto (-29), 3) := by decide +kernel
theorem dX9_pattern_38 : decode cX9_pattern 38 = .ok (.iconst (-1), 1) := by decide +kernel
theorem dX9_pattern_39 : decode cX9_pattern 39 = .ok (.ireturn, 1) := by decide +kernel
theorem dX9_nearest_0 : decode cX9_nearest 0 = .ok (.iload_n 1, 1) := by decide +kernel
theorem dX9_nearest_1 : decode cX9_nearest 1 = .ok (.invokestatic 81, 3) := by decide +kernel
theorem dX9_nearest_4 : decode cX9_nearest 4 = .ok (.ifCond .ne 5, 3) := by decide +kernel
theorem dX9_nearest_7 : decode cX9_nearest 7 = .ok (.iconst (-1), 1) := by decide +kernel
theorem dX9_nearest_8 : decode cX9_nearest 8 = .ok (.ireturn, 1) := by decide +kernel
theorem dX9_nearest_9 : decode cX9_nearest 9 = .ok (.aload_n 0, 1) := by decide +kernel
theorem dX9_nearest_10 : decode cX9_nearest 10 = .ok (.invokevirtual 405, 3) := by decide +kernel
theorem dX9_nearest_13 : decode cX9_nearest 13 = .ok (.iconst (-1), 1) := by decide +kernel
theorem dX9_nearest_14 : decode cX9_nearest 14 = .ok (.istore_n 2, 1) := by decide +kernel
theorem dX9_nearest_15 : decode cX9_nearest 15 = .ok (.iconst 0, 1) := by decide +kernel
theorem dX9_nearest_16 : decode cX9_nearest 16 = .ok (.istore_n 3, 1) := by decide +kernel
theorem dX9_nearest_17 : decode cX9_nearest 17 = .ok (.iload_n 3, 1) := by decide +kernel
theorem dX9_nearest_18 : decode cX9_nearest 18 = .ok (.sipush 1024, 3) := by decide +kernel
theorem dX9_nearest_21 : decode cX9_nearest 21 = .ok (.if_icmp .ge 40, 3) := by decide +kernel
theorem dX9_nearest_24 : decode cX9_nearest 24 = .ok (.aload_n 0, 1) := by decide +kernel
theorem dX9_nearest_25 : decode cX9_nearest 25 = .ok (.getfield 50, 3) := by decide +kernel
theorem dX9_nearest_28 : decode cX9_nearest 28 = .ok (.iload_n 3, 1) := by decide +kernel
theorem dX9_nearest_29 : decode cX9_nearest 29 = .ok (.baload, 1) := by decide +kernel
theorem dX9_nearest_30 : decode cX9_nearest 30 = .ok (.ifCond .eq 25, 3) := by decide +kernel
theorem dX9_nearest_33 : decode cX9_nearest 33 = .ok (.iload_n 2, 1) := by decide +kernel
theorem dX9_nearest_34 : decode cX9_nearest 34 = .ok (.iconst (-1), 1) := by decide +kernel
theorem dX9_nearest_35 : decode cX9_nearest 35 = .ok (.if_icmp .eq 18, 3) := by decide +kernel
theorem dX9_nearest_38 : decode cX9_nearest 38 = .ok (.iload_n 3, 1) := by decide +kernel
theorem dX9_nearest_39 : decode cX9_nearest 39 = .ok (.iload_n 1, 1) := by decide +kernel
theorem dX9_nearest_40 : decode cX9_nearest 40 = .ok (.ixor, 1) := by decide +kernel
theorem dX9_nearest_41 : decode cX9_nearest 41 = .ok (.invokestatic 298, 3) := by decide +kernel
theorem dX9_nearest_44 : decode cX9_nearest 44 = .ok (.iload_n 2, 1) := by decide +kernel
theorem dX9_nearest_45 : decode cX9_nearest 45 = .ok (.iload_n 1, 1) := by decide +kernel
theorem dX9_nearest_46 : decode cX9_nearest 46 = .ok (.ixor, 1) := by decide +kernel
theorem dX9_nearest_47 : decode cX9_nearest 47 = .ok (.invokestatic 298, 3) := by decide +kernel
theorem dX9_nearest_50 : decode cX9_nearest 50 = .ok (.if_icmp .ge 5, 3) := by decide +kernel
theorem dX9_nearest_53 : decode cX9_nearest 53 = .ok (.iload_n 3, 1) := by decide +kernel
theorem dX9_nearest_54 : decode cX9_nearest 54 = .ok (.istore_n 2, 1) := by decide +kernel
theorem dX9_nearest_55 : decode cX9_nearest 55 = .ok (.iinc 3 1, 3) := by decide +kernel
theorem dX9_nearest_58 : decode cX9_nearest 58 = .ok (.goto (-41), 3) := by decide +kernel
theorem dX9_nearest_61 : decode cX9_nearest 61 = .ok (.iload_n 2, 1) := by decide +kernel
theorem dX9_nearest_62 : decode cX9_nearest 62 = .ok (.ireturn, 1) := by decide +kernel
theorem dX9_kernel_0 : decode cX9_kernel 0 = .ok (.iconst 0, 1) := by decide +kernel
theorem dX9_kernel_1 : decode cX9_kernel 1 = .ok (.istore_n 2, 1) := by decide +kernel
theorem dX9_kernel_2 : decode cX9_kernel 2 = .ok (.bipush (-2), 2) := by decide +kernel
theorem dX9_kernel_4 : decode cX9_kernel 4 = .ok (.istore_n 3, 1) := by decide +kernel
theorem dX9_kernel_5 : decode cX9_kernel 5 = .ok (.iconst 1, 1) := by decide +kernel
theorem dX9_kernel_6 : decode cX9_kernel 6 = .ok (.istore 4, 2) := by decide +kernel
theorem dX9_kernel_8 : decode cX9_kernel 8 = .ok (.iload 4, 2) := by decide +kernel
theorem dX9_kernel_10 : decode cX9_kernel 10 = .ok (.aload_n 0, 1) := by decide +kernel
theorem dX9_kernel_11 : decode cX9_kernel 11 = .ok (.invokevirtual 402, 3) := by decide +kernel
theorem dX9_kernel_14 : decode cX9_kernel 14 = .ok (.if_icmp .ge 32, 3) := by decide +kernel
theorem dX9_kernel_17 : decode cX9_kernel 17 = .ok (.aload_n 0, 1) := by decide +kernel
theorem dX9_kernel_18 : decode cX9_kernel 18 = .ok (.iload 4, 2) := by decide +kernel
theorem dX9_kernel_20 : decode cX9_kernel 20 = .ok (.invokevirtual 393, 3) := by decide +kernel
theorem dX9_kernel_23 : decode cX9_kernel 23 = .ok (.ifCond .eq 6, 3) := by decide +kernel
theorem dX9_kernel_26 : decode cX9_kernel 26 = .ok (.goto 14, 3) := by decide +kernel
theorem dX9_kernel_29 : decode cX9_kernel 29 = .ok (.iload_n 2, 1) := by decide +kernel
theorem dX9_kernel_30 : decode cX9_kernel 30 = .ok (.iload_n 1, 1) := by decide +kernel
theorem dX9_kernel_31 : decode cX9_kernel 31 = .ok (.if_icmp .ne 6, 3) := by decide +kernel
theorem dX9_kernel_34 : decode cX9_kernel 34 = .ok (.iload 4, 2) := by decide +kernel
theorem dX9_kernel_36 : decode cX9_kernel 36 = .ok (.istore_n 3, 1) := by decide +kernel
theorem dX9_kernel_37 : decode cX9_kernel 37 = .ok (.iinc 2 1, 3) := by decide +kernel
theorem dX9_kernel_40 : decode cX9_kernel 40 = .ok (.iinc 4 1, 3) := by decide +kernel
theorem dX9_kernel_43 : decode cX9_kernel 43 = .ok (.goto (-35), 3) := by decide +kernel
theorem dX9_kernel_46 : decode cX9_kernel 46 = .ok (.iload_n 1, 1) := by decide +kernel
theorem dX9_kernel_47 : decode cX9_kernel 47 = .ok (.iconst (-1), 1) := by decide +kernel
theorem dX9_kernel_48 : decode cX9_kernel 48 = .ok (.if_icmp .ne 7, 3) := by decide +kernel
theorem dX9_kernel_51 : decode cX9_kernel 51 = .ok (.iload_n 2, 1) := by decide +kernel
theorem dX9_kernel_52 : decode cX9_kernel 52 = .ok (.goto 4, 3) := by decide +kernel
theorem dX9_kernel_55 : decode cX9_kernel 55 = .ok (.iload_n 3, 1) := by decide +kernel
theorem dX9_kernel_56 : decode cX9_kernel 56 = .ok (.ireturn, 1) := by decide +kernel
theorem dX9_whodid_0 : decode cX9_whodid 0 = .ok (.iload_n 1, 1) := by decide +kernel
theorem dX9_whodid_1 : decode cX9_whodid 1 = .ok (.iconst 0, 1) := by decide +kernel
theorem dX9_whodid_2 : decode cX9_whodid 2 = .ok (.bipush 8, 2) := by decide +kernel
theorem dX9_whodid_4 : decode cX9_whodid 4 = .ok (.invokestatic 69, 3) := by decide +kernel
theorem dX9_whodid_7 : decode cX9_whodid 7 = .ok (.ifCond .ne 5, 3) := by decide +kernel
theorem dX9_whodid_10 : decode cX9_whodid 10 = .ok (.iconst (-1), 1) := by decide +kernel
theorem dX9_whodid_11 : decode cX9_whodid 11 = .ok (.ireturn, 1) := by decide +kernel
theorem dX9_whodid_12 : decode cX9_whodid 12 = .ok (.iconst 0, 1) := by decide +kernel
theorem dX9_whodid_13 : decode cX9_whodid 13 = .ok (.istore_n 3, 1) := by decide +kernel
theorem dX9_whodid_14 : decode cX9_whodid 14 = .ok (.iconst (-1), 1) := by decide +kernel
theorem dX9_whodid_15 : decode cX9_whodid 15 = .ok (.istore 4, 2) := by decide +kernel
theorem dX9_whodid_17 : decode cX9_whodid 17 = .ok (.iconst 0, 1) := by decide +kernel
theorem dX9_whodid_18 : decode cX9_whodid 18 = .ok (.istore 5, 2) := by decide +kernel
theorem dX9_whodid_20 : decode cX9_whodid 20 = .ok (.iload 5, 2) := by decide +kernel
theorem dX9_whodid_22 : decode cX9_whodid 22 = .ok (.aload_n 0, 1) := by decide +kernel
theorem dX9_whodid_23 : decode cX9_whodid 23 = .ok (.invokevirtual 402, 3) := by decide +kernel
theorem dX9_whodid_26 : decode cX9_whodid 26 = .ok (.if_icmp .ge 63, 3) := by decide +kernel
theorem dX9_whodid_29 : decode cX9_whodid 29 = .ok (.iload 5, 2) := by decide +kernel
theorem dX9_whodid_31 : decode cX9_whodid 31 = .ok (.invokestatic 298, 3) := by decide +kernel
theorem dX9_whodid_34 : decode cX9_whodid 34 = .ok (.iload_n 1, 1) := by decide +kernel
theorem dX9_whodid_35 : decode cX9_whodid 35 = .ok (.if_icmp .ne 48, 3) := by decide +kernel
theorem dX9_whodid_38 : decode cX9_whodid 38 = .ok (.aload_n 0, 1) := by decide +kernel
theorem dX9_whodid_39 : decode cX9_whodid 39 = .ok (.iload 5, 2) := by decide +kernel
theorem dX9_whodid_41 : decode cX9_whodid 41 = .ok (.invokevirtual 393, 3) := by decide +kernel
theorem dX9_whodid_44 : decode cX9_whodid 44 = .ok (.aload_n 0, 1) := by decide +kernel
theorem dX9_whodid_45 : decode cX9_whodid 45 = .ok (.getfield 7, 3) := by decide +kernel
theorem dX9_whodid_48 : decode cX9_whodid 48 = .ok (.bipush 10, 2) := by decide +kernel
theorem dX9_whodid_50 : decode cX9_whodid 50 = .ok (.iaload, 1) := by decide +kernel
theorem dX9_whodid_51 : decode cX9_whodid 51 = .ok (.aload_n 0, 1) := by decide +kernel
theorem dX9_whodid_52 : decode cX9_whodid 52 = .ok (.getfield 13, 3) := by decide +kernel
theorem dX9_whodid_55 : decode cX9_whodid 55 = .ok (.bipush 10, 2) := by decide +kernel
theorem dX9_whodid_57 : decode cX9_whodid 57 = .ok (.iaload, 1) := by decide +kernel
theorem dX9_whodid_58 : decode cX9_whodid 58 = .ok (.ixor, 1) := by decide +kernel
theorem dX9_whodid_59 : decode cX9_whodid 59 = .ok (.if_icmp .eq 6, 3) := by decide +kernel
theorem dX9_whodid_62 : decode cX9_whodid 62 = .ok (.goto 21, 3) := by decide +kernel
theorem dX9_whodid_65 : decode cX9_whodid 65 = .ok (.iload 4, 2) := by decide +kernel
theorem dX9_whodid_67 : decode cX9_whodid 67 = .ok (.iconst (-1), 1) := by decide +kernel
theorem dX9_whodid_68 : decode cX9_whodid 68 = .ok (.if_icmp .ne 8, 3) := by decide +kernel
theorem dX9_whodid_71 : decode cX9_whodid 71 = .ok (.iload 5, 2) := by decide +kernel
theorem dX9_whodid_73 : decode cX9_whodid 73 = .ok (.goto 5, 3) := by decide +kernel
theorem dX9_whodid_76 : decode cX9_whodid 76 = .ok (.iload 4, 2) := by decide +kernel
theorem dX9_whodid_78 : decode cX9_whodid 78 = .ok (.istore 4, 2) := by decide +kernel
theorem dX9_whodid_80 : decode cX9_whodid 80 = .ok (.iinc 3 1, 3) := by decide +kernel
theorem dX9_whodid_83 : decode cX9_whodid 83 = .ok (.iinc 5 1, 3) := by decide +kernel
theorem dX9_whodid_86 : decode cX9_whodid 86 = .ok (.goto (-66), 3) := by decide +kernel
theorem dX9_whodid_89 : decode cX9_whodid 89 = .ok (.iload_n 2, 1) := by decide +kernel
theorem dX9_whodid_90 : decode cX9_whodid 90 = .ok (.ifCond .eq 8, 3) := by decide +kernel
theorem dX9_whodid_93 : decode cX9_whodid 93 = .ok (.iload 4, 2) := by decide +kernel
theorem dX9_whodid_95 : decode cX9_whodid 95 = .ok (.goto 4, 3) := by decide +kernel
theorem dX9_whodid_98 : decode cX9_whodid 98 = .ok (.iload_n 3, 1) := by decide +kernel
theorem dX9_whodid_99 : decode cX9_whodid 99 = .ok (.ireturn, 1) := by decide +kernel
theorem dX9_street_0 : decode cX9_street 0 = .ok (.iload_n 1, 1) := by decide +kernel
theorem dX9_street_1 : decode cX9_street 1 = .ok (.iconst (-1), 1) := by decide +kernel
theorem dX9_street_2 : decode cX9_street 2 = .ok (.if_icmp .ne 12, 3) := by decide +kernel
theorem dX9_street_5 : decode cX9_street 5 = .ok (.aload_n 0, 1) := by decide +kernel
theorem dX9_street_6 : decode cX9_street 6 = .ok (.getfield 7, 3) := by decide +kernel
theorem dX9_street_9 : decode cX9_street 9 = .ok (.iconst 5, 1) := by decide +kernel
theorem dX9_street_10 : decode cX9_street 10 = .ok (.iconst 0, 1) := by decide +kernel
theorem dX9_street_11 : decode cX9_street 11 = .ok (.iastore, 1) := by decide +kernel
theorem dX9_street_12 : decode cX9_street 12 = .ok (.iconst 0, 1) := by decide +kernel
theorem dX9_street_13 : decode cX9_street 13 = .ok (.ireturn, 1) := by decide +kernel
theorem dX9_street_14 : decode cX9_street 14 = .ok (.iload_n 1, 1) := by decide +kernel
theorem dX9_street_15 : decode cX9_street 15 = .ok (.invokestatic 81, 3) := by decide +kernel
theorem dX9_street_18 : decode cX9_street 18 = .ok (.ifCond .eq 18, 3) := by decide +kernel
theorem dX9_street_21 : decode cX9_street 21 = .ok (.iload_n 1, 1) := by decide +kernel
theorem dX9_street_22 : decode cX9_street 22 = .ok (.ifCond .eq 14, 3) := by decide +kernel
theorem dX9_street_25 : decode cX9_street 25 = .ok (.aload_n 0, 1) := by decide +kernel
theorem dX9_street_26 : decode cX9_street 26 = .ok (.getfield 7, 3) := by decide +kernel
theorem dX9_street_29 : decode cX9_street 29 = .ok (.iconst 5, 1) := by decide +kernel
theorem dX9_street_30 : decode cX9_street 30 = .ok (.iaload, 1) := by decide +kernel
theorem dX9_street_31 : decode cX9_street 31 = .ok (.bipush 6, 2) := by decide +kernel
theorem dX9_street_33 : decode cX9_street 33 = .ok (.if_icmp .ne 6, 3) := by decide +kernel
theorem dX9_street_36 : decode cX9_street 36 = .ok (.bipush (-2), 2) := by decide +kernel
theorem dX9_street_38 : decode cX9_street 38 = .ok (.ireturn, 1) := by decide +kernel
theorem dX9_street_39 : decode cX9_street 39 = .ok (.aload_n 0, 1) := by decide +kernel
theorem dX9_street_40 : decode cX9_street 40 = .ok (.getfield 7, 3) := by decide +kernel
theorem dX9_street_43 : decode cX9_street 43 = .ok (.bipush 37, 2) := by decide +kernel
theorem dX9_street_45 : decode cX9_street 45 = .ok (.aload_n 0, 1) := by decide +kernel
theorem dX9_street_46 : decode cX9_street 46 = .ok (.getfield 7, 3) := by decide +kernel
theorem dX9_street_49 : decode cX9_street 49 = .ok (.iconst 5, 1) := by decide +kernel
theorem dX9_street_50 : decode cX9_street 50 = .ok (.iaload, 1) := by decide +kernel
theorem dX9_street_51 : decode cX9_street 51 = .ok (.iadd, 1) := by decide +kernel
theorem dX9_street_52 : decode cX9_street 52 = .ok (.iload_n 1, 1) := by decide +kernel
theorem dX9_street_53 : decode cX9_street 53 = .ok (.iastore, 1) := by decide +kernel
theorem dX9_street_54 : decode cX9_street 54 = .ok (.aload_n 0, 1) := by decide +kernel
theorem dX9_street_55 : decode cX9_street 55 = .ok (.getfield 7, 3) := by decide +kernel
theorem dX9_street_58 : decode cX9_street 58 = .ok (.iconst 5, 1) := by decide +kernel
theorem dX9_street_59 : decode cX9_street 59 = .ok (.dup2, 1) := by decide +kernel
theorem dX9_street_60 : decode cX9_street 60 = .ok (.iaload, 1) := by decide +kernel
theorem dX9_street_61 : decode cX9_street 61 = .ok (.iconst 1, 1) := by decide +kernel
theorem dX9_street_62 : decode cX9_street 62 = .ok (.iadd, 1) := by decide +kernel
theorem dX9_street_63 : decode cX9_street 63 = .ok (.iastore, 1) := by decide +kernel
theorem dX9_street_64 : decode cX9_street 64 = .ok (.aload_n 0, 1) := by decide +kernel
theorem dX9_street_65 : decode cX9_street 65 = .ok (.getfield 7, 3) := by decide +kernel
theorem dX9_street_68 : decode cX9_street 68 = .ok (.iconst 5, 1) := by decide +kernel
theorem dX9_street_69 : decode cX9_street 69 = .ok (.iaload, 1) := by decide +kernel
theorem dX9_street_70 : decode cX9_street 70 = .ok (.ireturn, 1) := by decide +kernel
theorem dX9_areLit_0 : decode cX9_areLit 0 = .ok (.iconst 0, 1) := by decide +kernel
theorem dX9_areLit_1 : decode cX9_areLit 1 = .ok (.istore_n 2, 1) := by decide +kernel
theorem dX9_areLit_2 : decode cX9_areLit 2 = .ok (.iload_n 2, 1) := by decide +kernel
theorem dX9_areLit_3 : decode cX9_areLit 3 = .ok (.aload_n 0, 1) := by decide +kernel
theorem dX9_areLit_4 : decode cX9_areLit 4 = .ok (.getfield 7, 3) := by decide +kernel
theorem dX9_areLit_7 : decode cX9_areLit 7 = .ok (.iconst 5, 1) := by decide +kernel
theorem dX9_areLit_8 : decode cX9_areLit 8 = .ok (.iaload, 1) := by decide +kernel
theorem dX9_areLit_9 : decode cX9_areLit 9 = .ok (.if_icmp .ge 25, 3) := by decide +kernel
theorem dX9_areLit_12 : decode cX9_areLit 12 = .ok (.aload_n 0, 1) := by decide +kernel
theorem dX9_areLit_13 : decode cX9_areLit 13 = .ok (.getfield 7, 3) := by decide +kernel
theorem dX9_areLit_16 : decode cX9_areLit 16 = .ok (.bipush 37, 2) := by decide +kernel
theorem dX9_areLit_18 : decode cX9_areLit 18 = .ok (.iload_n 2, 1) := by decide +kernel
theorem dX9_areLit_19 : decode cX9_areLit 19 = .ok (.iadd, 1) := by decide +kernel
theorem dX9_areLit_20 : decode cX9_areLit 20 = .ok (.iaload, 1) := by decide +kernel
theorem dX9_areLit_21 : decode cX9_areLit 21 = .ok (.iload_n 1, 1) := by decide +kernel
theorem dX9_areLit_22 : decode cX9_areLit 22 = .ok (.iand, 1) := by decide +kernel
theorem dX9_areLit_23 : decode cX9_areLit 23 = .ok (.ifCond .ne 5, 3) := by decide +kernel
theorem dX9_areLit_26 : decode cX9_areLit 26 = .ok (.iconst 0, 1) := by decide +kernel
theorem dX9_areLit_27 : decode cX9_areLit 27 = .ok (.ireturn, 1) := by decide +kernel
theorem dX9_areLit_28 : decode cX9_areLit 28 = .ok (.iinc 2 1, 3) := by decide +kernel
theorem dX9_areLit_31 : decode cX9_areLit 31 = .ok (.goto (-29), 3) := by decide +kernel
theorem dX9_areLit_34 : decode cX9_areLit 34 = .ok (.iconst 1, 1) := by decide +kernel
theorem dX9_areLit_35 : decode cX9_areLit 35 = .ok (.ireturn, 1) := by decide +kernel
theorem dX9_lights_0 : decode cX9_lights 0 = .ok (.iconst (-1), 1) := by decide +kernel
theorem dX9_lights_1 : decode cX9_lights 1 = .ok (.istore_n 2, 1) := by decide +kernel
theorem dX9_lights_2 : decode cX9_lights 2 = .ok (.aload_n 0, 1) := by decide +kernel
theorem dX9_lights_3 : decode cX9_lights 3 = .ok (.invokevirtual 402, 3) := by decide +kernel
theorem dX9_lights_6 : decode cX9_lights 6 = .ok (.iconst 1, 1) := by decide +kernel
theorem dX9_lights_7 : decode cX9_lights 7 = .ok (.isub, 1) := by decide +kernel
theorem dX9_lights_8 : decode cX9_lights 8 = .ok (.istore_n 3, 1) := by decide +kernel
theorem dX9_lights_9 : decode cX9_lights 9 = .ok (.iload_n 3, 1) := by decide +kernel
theorem dX9_lights_10 : decode cX9_lights 10 = .ok (.ifCond .lt 47, 3) := by decide +kernel
theorem dX9_lights_13 : decode cX9_lights 13 = .ok (.aload_n 0, 1) := by decide +kernel
theorem dX9_lights_14 : decode cX9_lights 14 = .ok (.aload_n 0, 1) := by decide +kernel
theorem dX9_lights_15 : decode cX9_lights 15 = .ok (.iload_n 3, 1) := by decide +kernel
theorem dX9_lights_16 : decode cX9_lights 16 = .ok (.invokevirtual 393, 3) := by decide +kernel
theorem dX9_lights_19 : decode cX9_lights 19 = .ok (.aload_n 0, 1) := by decide +kernel
theorem dX9_lights_20 : decode cX9_lights 20 = .ok (.getfield 7, 3) := by decide +kernel
theorem dX9_lights_23 : decode cX9_lights 23 = .ok (.bipush 10, 2) := by decide +kernel
theorem dX9_lights_25 : decode cX9_lights 25 = .ok (.iaload, 1) := by decide +kernel
theorem dX9_lights_26 : decode cX9_lights 26 = .ok (.ixor, 1) := by decide +kernel
theorem dX9_lights_27 : decode cX9_lights 27 = .ok (.invokevirtual 408, 3) := by decide +kernel
theorem dX9_lights_30 : decode cX9_lights 30 = .ok (.ifCond .eq 21, 3) := by decide +kernel
theorem dX9_lights_33 : decode cX9_lights 33 = .ok (.iload_n 2, 1) := by decide +kernel
theorem dX9_lights_34 : decode cX9_lights 34 = .ok (.iconst (-1), 1) := by decide +kernel
theorem dX9_lights_35 : decode cX9_lights 35 = .ok (.if_icmp .eq 14, 3) := by decide +kernel
theorem dX9_lights_38 : decode cX9_lights 38 = .ok (.iload_n 3, 1) := by decide +kernel
theorem dX9_lights_39 : decode cX9_lights 39 = .ok (.invokestatic 298, 3) := by decide +kernel
theorem dX9_lights_42 : decode cX9_lights 42 = .ok (.iload_n 2, 1) := by decide +kernel
theorem dX9_lights_43 : decode cX9_lights 43 = .ok (.invokestatic 298, 3) := by decide +kernel
theorem dX9_lights_46 : decode cX9_lights 46 = .ok (.if_icmp .gt 5, 3) := by decide +kernel
theorem dX9_lights_49 : decode cX9_lights 49 = .ok (.iload_n 3, 1) := by decide +kernel
theorem dX9_lights_50 : decode cX9_lights 50 = .ok (.istore_n 2, 1) := by decide +kernel
theorem dX9_lights_51 : decode cX9_lights 51 = .ok (.iinc 3 (-1), 3) := by decide +kernel
theorem dX9_lights_54 : decode cX9_lights 54 = .ok (.goto (-45), 3) := by decide +kernel
theorem dX9_lights_57 : decode cX9_lights 57 = .ok (.iload_n 2, 1) := by decide +kernel
theorem dX9_lights_58 : decode cX9_lights 58 = .ok (.iconst (-1), 1) := by decide +kernel
theorem dX9_lights_59 : decode cX9_lights 59 = .ok (.if_icmp .ne 7, 3) := by decide +kernel
theorem dX9_lights_62 : decode cX9_lights 62 = .ok (.iconst (-1), 1) := by decide +kernel
theorem dX9_lights_63 : decode cX9_lights 63 = .ok (.goto 15, 3) := by decide +kernel
theorem dX9_lights_66 : decode cX9_lights 66 = .ok (.iload_n 1, 1) := by decide +kernel
theorem dX9_lights_67 : decode cX9_lights 67 = .ok (.ifCond .eq 10, 3) := by decide +kernel
theorem dX9_lights_70 : decode cX9_lights 70 = .ok (.iload_n 2, 1) := by decide +kernel
theorem dX9_lights_71 : decode cX9_lights 71 = .ok (.invokestatic 298, 3) := by decide +kernel
theorem dX9_lights_74 : decode cX9_lights 74 = .ok (.goto 4, 3) := by decide +kernel
theorem dX9_lights_77 : decode cX9_lights 77 = .ok (.iload_n 2, 1) := by decide +kernel
theorem dX9_lights_78 : decode cX9_lights 78 = .ok (.ireturn, 1) := by decide +kernel
theorem dX9_billBy_0 : decode cX9_billBy 0 = .ok (.iload_n 1, 1) := by decide +kernel
theorem dX9_billBy_1 : decode cX9_billBy 1 = .ok (.invokestatic 298, 3) := by decide +kernel
theorem dX9_billBy_4 : decode cX9_billBy 4 = .ok (.istore_n 3, 1) := by decide +kernel
theorem dX9_billBy_5 : decode cX9_billBy 5 = .ok (.iconst 0, 1) := by decide +kernel
theorem dX9_billBy_6 : decode cX9_billBy 6 = .ok (.istore 4, 2) := by decide +kernel
theorem dX9_billBy_8 : decode cX9_billBy 8 = .ok (.iconst 0, 1) := by decide +kernel
theorem dX9_billBy_9 : decode cX9_billBy 9 = .ok (.istore 5, 2) := by decide +kernel
theorem dX9_billBy_11 : decode cX9_billBy 11 = .ok (.iload 5, 2) := by decide +kernel
theorem dX9_billBy_13 : decode cX9_billBy 13 = .ok (.iconst 4, 1) := by decide +kernel
theorem dX9_billBy_14 : decode cX9_billBy 14 = .ok (.if_icmp .ge 17, 3) := by decide +kernel
theorem dX9_billBy_17 : decode cX9_billBy 17 = .ok (.aload_n 0, 1) := by decide +kernel
theorem dX9_billBy_18 : decode cX9_billBy 18 = .ok (.getfield 53, 3) := by decide +kernel
theorem dX9_billBy_21 : decode cX9_billBy 21 = .ok (.iload 5, 2) := by decide +kernel
theorem dX9_billBy_23 : decode cX9_billBy 23 = .ok (.iconst 0, 1) := by decide +kernel
theorem dX9_billBy_24 : decode cX9_billBy 24 = .ok (.iastore, 1) := by decide +kernel
theorem dX9_billBy_25 : decode cX9_billBy 25 = .ok (.iinc 5 1, 3) := by decide +kernel
theorem dX9_billBy_28 : decode cX9_billBy 28 = .ok (.goto (-17), 3) := by decide +kernel
theorem dX9_billBy_31 : decode cX9_billBy 31 = .ok (.iconst 0, 1) := by decide +kernel
theorem dX9_billBy_32 : decode cX9_billBy 32 = .ok (.istore 5, 2) := by decide +kernel
theorem dX9_billBy_34 : decode cX9_billBy 34 = .ok (.iload 5, 2) := by decide +kernel
theorem dX9_billBy_36 : decode cX9_billBy 36 = .ok (.aload_n 0, 1) := by decide +kernel
theorem dX9_billBy_37 : decode cX9_billBy 37 = .ok (.getfield 7, 3) := by decide +kernel
theorem dX9_billBy_40 : decode cX9_billBy 40 = .ok (.iconst 1, 1) := by decide +kernel
theorem dX9_billBy_41 : decode cX9_billBy 41 = .ok (.iaload, 1) := by decide +kernel
theorem dX9_billBy_42 : decode cX9_billBy 42 = .ok (.if_icmp .ge 105, 3) := by decide +kernel
theorem dX9_billBy_45 : decode cX9_billBy 45 = .ok (.iload_n 1, 1) := by decide +kernel
theorem dX9_billBy_46 : decode cX9_billBy 46 = .ok (.iload 5, 2) := by decide +kernel
theorem dX9_billBy_48 : decode cX9_billBy 48 = .ok (.invokestatic 248, 3) := by decide +kernel
theorem dX9_billBy_51 : decode cX9_billBy 51 = .ok (.ifCond .ne 6, 3) := by decide +kernel
theorem dX9_billBy_54 : decode cX9_billBy 54 = .ok (.goto 87, 3) := by decide +kernel
theorem dX9_billBy_57 : decode cX9_billBy 57 = .ok (.iinc 3 (-1), 3) := by decide +kernel
theorem dX9_billBy_60 : decode cX9_billBy 60 = .ok (.iload_n 2, 1) := by decide +kernel
theorem dX9_billBy_61 : decode cX9_billBy 61 = .ok (.iconst 2, 1) := by decide +kernel
theorem dX9_billBy_62 : decode cX9_billBy 62 = .ok (.iload_n 3, 1) := by decide +kernel
theorem dX9_billBy_63 : decode cX9_billBy 63 = .ok (.imul, 1) := by decide +kernel
theorem dX9_billBy_64 : decode cX9_billBy 64 = .ok (.ishr, 1) := by decide +kernel
theorem dX9_billBy_65 : decode cX9_billBy 65 = .ok (.iconst 3, 1) := by decide +kernel
theorem dX9_billBy_66 : decode cX9_billBy 66 = .ok (.iand, 1) := by decide +kernel
theorem dX9_billBy_67 : decode cX9_billBy 67 = .ok (.istore 6, 2) := by decide +kernel
theorem dX9_billBy_69 : decode cX9_billBy 69 = .ok (.aload_n 0, 1) := by decide +kernel
theorem dX9_billBy_70 : decode cX9_billBy 70 = .ok (.iload 6, 2) := by decide +kernel
theorem dX9_billBy_72 : decode cX9_billBy 72 = .ok (.invokevirtual 335, 3) := by decide +kernel
theorem dX9_billBy_75 : decode cX9_billBy 75 = .ok (.ifCond .ne 5, 3) := by decide +kernel
theorem dX9_billBy_78 : decode cX9_billBy 78 = .ok (.iconst (-1), 1) := by decide +kernel
theorem dX9_billBy_79 : decode cX9_billBy 79 = .ok (.ireturn, 1) := by decide +kernel
theorem dX9_billBy_80 : decode cX9_billBy 80 = .ok (.aload_n 0, 1) := by decide +kernel
theorem dX9_billBy_81 : decode cX9_billBy 81 = .ok (.getfield 53, 3) := by decide +kernel
theorem dX9_billBy_84 : decode cX9_billBy 84 = .ok (.iload 6, 2) := by decide +kernel
theorem dX9_billBy_86 : decode cX9_billBy 86 = .ok (.dup2, 1) := by decide +kernel
theorem dX9_billBy_87 : decode cX9_billBy 87 = .ok (.iaload, 1) := by decide +kernel
theorem dX9_billBy_88 : decode cX9_billBy 88 = .ok (.aload_n 0, 1) := by decide +kernel
theorem dX9_billBy_89 : decode cX9_billBy 89 = .ok (.aload_n 0, 1) := by decide +kernel
theorem dX9_billBy_90 : decode cX9_billBy 90 = .ok (.getfield 7, 3) := by decide +kernel
theorem dX9_billBy_93 : decode cX9_billBy 93 = .ok (.iconst 3, 1) := by decide +kernel
theorem dX9_billBy_94 : decode cX9_billBy 94 = .ok (.iaload, 1) := by decide +kernel
theorem dX9_billBy_95 : decode cX9_billBy 95 = .ok (.iload 5, 2) := by decide +kernel
theorem dX9_billBy_97 : decode cX9_billBy 97 = .ok (.iload 6, 2) := by decide +kernel
theorem dX9_billBy_99 : decode cX9_billBy 99 = .ok (.invokevirtual 323, 3) := by decide +kernel
theorem dX9_billBy_102 : decode cX9_billBy 102 = .ok (.iadd, 1) := by decide +kernel
theorem dX9_billBy_103 : decode cX9_billBy 103 = .ok (.iastore, 1) := by decide +kernel
theorem dX9_billBy_104 : decode cX9_billBy 104 = .ok (.iload 4, 2) := by decide +kernel
theorem dX9_billBy_106 : decode cX9_billBy 106 = .ok (.aload_n 0, 1) := by decide +kernel
theorem dX9_billBy_107 : decode cX9_billBy 107 = .ok (.aload_n 0, 1) := by decide +kernel
theorem dX9_billBy_108 : decode cX9_billBy 108 = .ok (.getfield 7, 3) := by decide +kernel
theorem dX9_billBy_111 : decode cX9_billBy 111 = .ok (.iconst 3, 1) := by decide +kernel
theorem dX9_billBy_112 : decode cX9_billBy 112 = .ok (.iaload, 1) := by decide +kernel
theorem dX9_billBy_113 : decode cX9_billBy 113 = .ok (.iload 5, 2) := by decide +kernel
theorem dX9_billBy_115 : decode cX9_billBy 115 = .ok (.iload 6, 2) := by decide +kernel
theorem dX9_billBy_117 : decode cX9_billBy 117 = .ok (.invokevirtual 323, 3) := by decide +kernel
theorem dX9_billBy_120 : decode cX9_billBy 120 = .ok (.iadd, 1) := by decide +kernel
theorem dX9_billBy_121 : decode cX9_billBy 121 = .ok (.istore 4, 2) := by decide +kernel
theorem dX9_billBy_123 : decode cX9_billBy 123 = .ok (.aload_n 0, 1) := by decide +kernel
theorem dX9_billBy_124 : decode cX9_billBy 124 = .ok (.getfield 53, 3) := by decide +kernel
theorem dX9_billBy_127 : decode cX9_billBy 127 = .ok (.iload 6, 2) := by decide +kernel
theorem dX9_billBy_129 : decode cX9_billBy 129 = .ok (.iaload, 1) := by decide +kernel
theorem dX9_billBy_130 : decode cX9_billBy 130 = .ok (.aload_n 0, 1) := by decide +kernel
theorem dX9_billBy_131 : decode cX9_billBy 131 = .ok (.iload 6, 2) := by decide +kernel
theorem dX9_billBy_133 : decode cX9_billBy 133 = .ok (.invokevirtual 73, 3) := by decide +kernel
theorem dX9_billBy_136 : decode cX9_billBy 136 = .ok (.if_icmp .le 5, 3) := by decide +kernel
theorem dX9_billBy_139 : decode cX9_billBy 139 = .ok (.iconst (-1), 1) := by decide +kernel
theorem dX9_billBy_140 : decode cX9_billBy 140 = .ok (.ireturn, 1) := by decide +kernel
theorem dX9_billBy_141 : decode cX9_billBy 141 = .ok (.iinc 5 1, 3) := by decide +kernel
theorem dX9_billBy_144 : decode cX9_billBy 144 = .ok (.goto (-110), 3) := by decide +kernel
theorem dX9_billBy_147 : decode cX9_billBy 147 = .ok (.iload 4, 2) := by decide +kernel
theorem dX9_billBy_149 : decode cX9_billBy 149 = .ok (.ireturn, 1) := by decide +kernel
theorem dX9_bill_0 : decode cX9_bill 0 = .ok (.iload_n 1, 1) := by decide +kernel
theorem dX9_bill_1 : decode cX9_bill 1 = .ok (.iconst 0, 1) := by decide +kernel
theorem dX9_bill_2 : decode cX9_bill 2 = .ok (.aload_n 0, 1) := by decide +kernel
theorem dX9_bill_3 : decode cX9_bill 3 = .ok (.invokevirtual 402, 3) := by decide +kernel
theorem dX9_bill_6 : decode cX9_bill 6 = .ok (.iconst 1, 1) := by decide +kernel
theorem dX9_bill_7 : decode cX9_bill 7 = .ok (.isub, 1) := by decide +kernel
theorem dX9_bill_8 : decode cX9_bill 8 = .ok (.invokestatic 69, 3) := by decide +kernel
theorem dX9_bill_11 : decode cX9_bill 11 = .ok (.ifCond .eq 24, 3) := by decide +kernel
theorem dX9_bill_14 : decode cX9_bill 14 = .ok (.iload_n 2, 1) := by decide +kernel
theorem dX9_bill_15 : decode cX9_bill 15 = .ok (.iconst (-1), 1) := by decide +kernel
theorem dX9_bill_16 : decode cX9_bill 16 = .ok (.if_icmp .eq 22, 3) := by decide +kernel
theorem dX9_bill_19 : decode cX9_bill 19 = .ok (.aload_n 0, 1) := by decide +kernel
theorem dX9_bill_20 : decode cX9_bill 20 = .ok (.iload_n 2, 1) := by decide +kernel
theorem dX9_bill_21 : decode cX9_bill 21 = .ok (.invokevirtual 332, 3) := by decide +kernel
theorem dX9_bill_24 : decode cX9_bill 24 = .ok (.ifCond .eq 11, 3) := by decide +kernel
theorem dX9_bill_27 : decode cX9_bill 27 = .ok (.iload_n 1, 1) := by decide +kernel
theorem dX9_bill_28 : decode cX9_bill 28 = .ok (.iload_n 2, 1) := by decide +kernel
theorem dX9_bill_29 : decode cX9_bill 29 = .ok (.invokestatic 248, 3) := by decide +kernel
theorem dX9_bill_32 : decode cX9_bill 32 = .ok (.ifCond .ne 6, 3) := by decide +kernel
theorem dX9_bill_35 : decode cX9_bill 35 = .ok (.bipush (-2), 2) := by decide +kernel
theorem dX9_bill_37 : decode cX9_bill 37 = .ok (.ireturn, 1) := by decide +kernel
theorem dX9_bill_38 : decode cX9_bill 38 = .ok (.iload_n 1, 1) := by decide +kernel
theorem dX9_bill_39 : decode cX9_bill 39 = .ok (.invokestatic 298, 3) := by decide +kernel
theorem dX9_bill_42 : decode cX9_bill 42 = .ok (.istore_n 3, 1) := by decide +kernel
theorem dX9_bill_43 : decode cX9_bill 43 = .ok (.iconst (-1), 1) := by decide +kernel
theorem dX9_bill_44 : decode cX9_bill 44 = .ok (.istore 4, 2) := by decide +kernel
theorem dX9_bill_46 : decode cX9_bill 46 = .ok (.ldc_w 411, 3) := by decide +kernel
theorem dX9_bill_49 : decode cX9_bill 49 = .ok (.istore 5, 2) := by decide +kernel
theorem dX9_bill_51 : decode cX9_bill 51 = .ok (.iconst 0, 1) := by decide +kernel
theorem dX9_bill_52 : decode cX9_bill 52 = .ok (.istore 6, 2) := by decide +kernel
theorem dX9_bill_54 : decode cX9_bill 54 = .ok (.iload 6, 2) := by decide +kernel
theorem dX9_bill_56 : decode cX9_bill 56 = .ok (.iconst 1, 1) := by decide +kernel
theorem dX9_bill_57 : decode cX9_bill 57 = .ok (.iconst 2, 1) := by decide +kernel
theorem dX9_bill_58 : decode cX9_bill 58 = .ok (.iload_n 3, 1) := by decide +kernel
theorem dX9_bill_59 : decode cX9_bill 59 = .ok (.imul, 1) := by decide +kernel
theorem dX9_bill_60 : decode cX9_bill 60 = .ok (.ishl, 1) := by decide +kernel
theorem dX9_bill_61 : decode cX9_bill 61 = .ok (.if_icmp .ge 42, 3) := by decide +kernel
theorem dX9_bill_64 : decode cX9_bill 64 = .ok (.aload_n 0, 1) := by decide +kernel
theorem dX9_bill_65 : decode cX9_bill 65 = .ok (.iload_n 1, 1) := by decide +kernel
theorem dX9_bill_66 : decode cX9_bill 66 = .ok (.iload 6, 2) := by decide +kernel
theorem dX9_bill_68 : decode cX9_bill 68 = .ok (.invokevirtual 412, 3) := by decide +kernel
theorem dX9_bill_71 : decode cX9_bill 71 = .ok (.istore 7, 2) := by decide +kernel
theorem dX9_bill_73 : decode cX9_bill 73 = .ok (.iload 7, 2) := by decide +kernel
theorem dX9_bill_75 : decode cX9_bill 75 = .ok (.iconst (-1), 1) := by decide +kernel
theorem dX9_bill_76 : decode cX9_bill 76 = .ok (.if_icmp .eq 21, 3) := by decide +kernel
theorem dX9_bill_79 : decode cX9_bill 79 = .ok (.iload 7, 2) := by decide +kernel
theorem dX9_bill_81 : decode cX9_bill 81 = .ok (.iload 5, 2) := by decide +kernel
theorem dX9_bill_83 : decode cX9_bill 83 = .ok (.if_icmp .lt 6, 3) := by decide +kernel
theorem dX9_bill_86 : decode cX9_bill 86 = .ok (.goto 11, 3) := by decide +kernel
theorem dX9_bill_89 : decode cX9_bill 89 = .ok (.iload 7, 2) := by decide +kernel
theorem dX9_bill_91 : decode cX9_bill 91 = .ok (.istore 5, 2) := by decide +kernel
theorem dX9_bill_93 : decode cX9_bill 93 = .ok (.iload 6, 2) := by decide +kernel
theorem dX9_bill_95 : decode cX9_bill 95 = .ok (.istore 4, 2) := by decide +kernel
theorem dX9_bill_97 : decode cX9_bill 97 = .ok (.iinc 6 1, 3) := by decide +kernel
theorem dX9_bill_100 : decode cX9_bill 100 = .ok (.goto (-46), 3) := by decide +kernel
theorem dX9_bill_103 : decode cX9_bill 103 = .ok (.iload 4, 2) := by decide +kernel
theorem dX9_bill_105 : decode cX9_bill 105 = .ok (.iconst (-1), 1) := by decide +kernel
theorem dX9_bill_106 : decode cX9_bill 106 = .ok (.if_icmp .ne 6, 3) := by decide +kernel
theorem dX9_bill_109 : decode cX9_bill 109 = .ok (.bipush (-2), 2) := by decide +kernel
theorem dX9_bill_111 : decode cX9_bill 111 = .ok (.ireturn, 1) := by decide +kernel
theorem dX9_bill_112 : decode cX9_bill 112 = .ok (.iload_n 2, 1) := by decide +kernel
theorem dX9_bill_113 : decode cX9_bill 113 = .ok (.iconst (-1), 1) := by decide +kernel
theorem dX9_bill_114 : decode cX9_bill 114 = .ok (.if_icmp .ne 6, 3) := by decide +kernel
theorem dX9_bill_117 : decode cX9_bill 117 = .ok (.iload 5, 2) := by decide +kernel
theorem dX9_bill_119 : decode cX9_bill 119 = .ok (.ireturn, 1) := by decide +kernel
theorem dX9_bill_120 : decode cX9_bill 120 = .ok (.iload_n 1, 1) := by decide +kernel
theorem dX9_bill_121 : decode cX9_bill 121 = .ok (.iload_n 2, 1) := by decide +kernel
theorem dX9_bill_122 : decode cX9_bill 122 = .ok (.ishr, 1) := by decide +kernel
theorem dX9_bill_123 : decode cX9_bill 123 = .ok (.invokestatic 298, 3) := by decide +kernel
theorem dX9_bill_126 : decode cX9_bill 126 = .ok (.iconst 1, 1) := by decide +kernel
theorem dX9_bill_127 : decode cX9_bill 127 = .ok (.isub, 1) := by decide +kernel
theorem dX9_bill_128 : decode cX9_bill 128 = .ok (.istore 6, 2) := by decide +kernel
theorem dX9_bill_130 : decode cX9_bill 130 = .ok (.iload 4, 2) := by decide +kernel
theorem dX9_bill_132 : decode cX9_bill 132 = .ok (.iconst 2, 1) := by decide +kernel
theorem dX9_bill_133 : decode cX9_bill 133 = .ok (.iload 6, 2) := by decide +kernel
theorem dX9_bill_135 : decode cX9_bill 135 = .ok (.imul, 1) := by decide +kernel
theorem dX9_bill_136 : decode cX9_bill 136 = .ok (.ishr, 1) := by decide +kernel
theorem dX9_bill_137 : decode cX9_bill 137 = .ok (.iconst 3, 1) := by decide +kernel
theorem dX9_bill_138 : decode cX9_bill 138 = .ok (.iand, 1) := by decide +kernel
theorem dX9_bill_139 : decode cX9_bill 139 = .ok (.ireturn, 1) := by decide +kernel
theorem dX9_isHalf_0 : decode cX9_isHalf 0 = .ok (.aload_n 0, 1) := by decide +kernel
theorem dX9_isHalf_1 : decode cX9_isHalf 1 = .ok (.getfield 7, 3) := by decide +kernel
theorem dX9_isHalf_4 : decode cX9_isHalf 4 = .ok (.iconst 1, 1) := by decide +kernel
theorem dX9_isHalf_5 : decode cX9_isHalf 5 = .ok (.iaload, 1) := by decide +kernel
theorem dX9_isHalf_6 : decode cX9_isHalf 6 = .ok (.iconst 1, 1) := by decide +kernel
theorem dX9_isHalf_7 : decode cX9_isHalf 7 = .ok (.iadd, 1) := by decide +kernel
theorem dX9_isHalf_8 : decode cX9_isHalf 8 = .ok (.iconst 2, 1) := by decide +kernel
theorem dX9_isHalf_9 : decode cX9_isHalf 9 = .ok (.idiv, 1) := by decide +kernel
theorem dX9_isHalf_10 : decode cX9_isHalf 10 = .ok (.ireturn, 1) := by decide +kernel
theorem dX9_bestOf_0 : decode cX9_bestOf 0 = .ok (.iload_n 1, 1) := by decide +kernel
theorem dX9_bestOf_1 : decode cX9_bestOf 1 = .ok (.invokestatic 298, 3) := by decide +kernel
theorem dX9_bestOf_4 : decode cX9_bestOf 4 = .ok (.istore_n 2, 1) := by decide +kernel
theorem dX9_bestOf_5 : decode cX9_bestOf 5 = .ok (.iload_n 2, 1) := by decide +kernel
theorem dX9_bestOf_6 : decode cX9_bestOf 6 = .ok (.aload_n 0, 1) := by decide +kernel
theorem dX9_bestOf_7 : decode cX9_bestOf 7 = .ok (.invokevirtual 415, 3) := by decide +kernel
theorem dX9_bestOf_10 : decode cX9_bestOf 10 = .ok (.if_icmp .lt 20, 3) := by decide +kernel
theorem dX9_bestOf_13 : decode cX9_bestOf 13 = .ok (.aload_n 0, 1) := by decide +kernel
theorem dX9_bestOf_14 : decode cX9_bestOf 14 = .ok (.iload_n 1, 1) := by decide +kernel
theorem dX9_bestOf_15 : decode cX9_bestOf 15 = .ok (.invokevirtual 393, 3) := by decide +kernel
theorem dX9_bestOf_18 : decode cX9_bestOf 18 = .ok (.aload_n 0, 1) := by decide +kernel
theorem dX9_bestOf_19 : decode cX9_bestOf 19 = .ok (.getfield 7, 3) := by decide +kernel
theorem dX9_bestOf_22 : decode cX9_bestOf 22 = .ok (.bipush 10, 2) := by decide +kernel
theorem dX9_bestOf_24 : decode cX9_bestOf 24 = .ok (.iaload, 1) := by decide +kernel
theorem dX9_bestOf_25 : decode cX9_bestOf 25 = .ok (.ixor, 1) := by decide +kernel
theorem dX9_bestOf_26 : decode cX9_bestOf 26 = .ok (.invokestatic 298, 3) := by decide +kernel
theorem dX9_bestOf_29 : decode cX9_bestOf 29 = .ok (.ireturn, 1) := by decide +kernel
theorem dX9_bestOf_30 : decode cX9_bestOf 30 = .ok (.iconst (-1), 1) := by decide +kernel
theorem dX9_bestOf_31 : decode cX9_bestOf 31 = .ok (.istore_n 3, 1) := by decide +kernel
theorem dX9_bestOf_32 : decode cX9_bestOf 32 = .ok (.iconst 0, 1) := by decide +kernel
theorem dX9_bestOf_33 : decode cX9_bestOf 33 = .ok (.istore 4, 2) := by decide +kernel
theorem dX9_bestOf_35 : decode cX9_bestOf 35 = .ok (.iload 4, 2) := by decide +kernel
theorem dX9_bestOf_37 : decode cX9_bestOf 37 = .ok (.aload_n 0, 1) := by decide +kernel
theorem dX9_bestOf_38 : decode cX9_bestOf 38 = .ok (.getfield 7, 3) := by decide +kernel
theorem dX9_bestOf_41 : decode cX9_bestOf 41 = .ok (.iconst 1, 1) := by decide +kernel
theorem dX9_bestOf_42 : decode cX9_bestOf 42 = .ok (.iaload, 1) := by decide +kernel
theorem dX9_bestOf_43 : decode cX9_bestOf 43 = .ok (.if_icmp .ge 63, 3) := by decide +kernel
theorem dX9_bestOf_46 : decode cX9_bestOf 46 = .ok (.iload_n 1, 1) := by decide +kernel
theorem dX9_bestOf_47 : decode cX9_bestOf 47 = .ok (.iload 4, 2) := by decide +kernel
theorem dX9_bestOf_49 : decode cX9_bestOf 49 = .ok (.invokestatic 248, 3) := by decide +kernel
theorem dX9_bestOf_52 : decode cX9_bestOf 52 = .ok (.ifCond .eq 6, 3) := by decide +kernel
theorem dX9_bestOf_55 : decode cX9_bestOf 55 = .ok (.goto 45, 3) := by decide +kernel
theorem dX9_bestOf_58 : decode cX9_bestOf 58 = .ok (.aload_n 0, 1) := by decide +kernel
theorem dX9_bestOf_59 : decode cX9_bestOf 59 = .ok (.getfield 56, 3) := by decide +kernel
theorem dX9_bestOf_62 : decode cX9_bestOf 62 = .ok (.iload_n 1, 1) := by decide +kernel
theorem dX9_bestOf_63 : decode cX9_bestOf 63 = .ok (.iconst 1, 1) := by decide +kernel
theorem dX9_bestOf_64 : decode cX9_bestOf 64 = .ok (.iload 4, 2) := by decide +kernel
theorem dX9_bestOf_66 : decode cX9_bestOf 66 = .ok (.ishl, 1) := by decide +kernel
theorem dX9_bestOf_67 : decode cX9_bestOf 67 = .ok (.ior, 1) := by decide +kernel
theorem dX9_bestOf_68 : decode cX9_bestOf 68 = .ok (.iaload, 1) := by decide +kernel
theorem dX9_bestOf_69 : decode cX9_bestOf 69 = .ok (.istore 5, 2) := by decide +kernel
theorem dX9_bestOf_71 : decode cX9_bestOf 71 = .ok (.iload_n 3, 1) := by decide +kernel
theorem dX9_bestOf_72 : decode cX9_bestOf 72 = .ok (.iconst (-1), 1) := by decide +kernel
theorem dX9_bestOf_73 : decode cX9_bestOf 73 = .ok (.if_icmp .eq 24, 3) := by decide +kernel
theorem dX9_bestOf_76 : decode cX9_bestOf 76 = .ok (.iload_n 2, 1) := by decide +kernel
theorem dX9_bestOf_77 : decode cX9_bestOf 77 = .ok (.iconst 2, 1) := by decide +kernel
theorem dX9_bestOf_78 : decode cX9_bestOf 78 = .ok (.irem, 1) := by decide +kernel
theorem dX9_bestOf_79 : decode cX9_bestOf 79 = .ok (.ifCond .ne 12, 3) := by decide +kernel
theorem dX9_bestOf_82 : decode cX9_bestOf 82 = .ok (.iload 5, 2) := by decide +kernel
theorem dX9_bestOf_84 : decode cX9_bestOf 84 = .ok (.iload_n 3, 1) := by decide +kernel
theorem dX9_bestOf_85 : decode cX9_bestOf 85 = .ok (.if_icmp .le 15, 3) := by decide +kernel
theorem dX9_bestOf_88 : decode cX9_bestOf 88 = .ok (.goto 9, 3) := by decide +kernel
theorem dX9_bestOf_91 : decode cX9_bestOf 91 = .ok (.iload 5, 2) := by decide +kernel
theorem dX9_bestOf_93 : decode cX9_bestOf 93 = .ok (.iload_n 3, 1) := by decide +kernel
theorem dX9_bestOf_94 : decode cX9_bestOf 94 = .ok (.if_icmp .ge 6, 3) := by decide +kernel
theorem dX9_bestOf_97 : decode cX9_bestOf 97 = .ok (.iload 5, 2) := by decide +kernel
theorem dX9_bestOf_99 : decode cX9_bestOf 99 = .ok (.istore_n 3, 1) := by decide +kernel
theorem dX9_bestOf_100 : decode cX9_bestOf 100 = .ok (.iinc 4 1, 3) := by decide +kernel
theorem dX9_bestOf_103 : decode cX9_bestOf 103 = .ok (.goto (-68), 3) := by decide +kernel
theorem dX9_bestOf_106 : decode cX9_bestOf 106 = .ok (.iload_n 3, 1) := by decide +kernel
theorem dX9_bestOf_107 : decode cX9_bestOf 107 = .ok (.ireturn, 1) := by decide +kernel
theorem dX9_game_0 : decode cX9_game 0 = .ok (.aload_n 0, 1) := by decide +kernel
theorem dX9_game_1 : decode cX9_game 1 = .ok (.invokevirtual 402, 3) := by decide +kernel
theorem dX9_game_4 : decode cX9_game 4 = .ok (.iconst 1, 1) := by decide +kernel
theorem dX9_game_5 : decode cX9_game 5 = .ok (.isub, 1) := by decide +kernel
theorem dX9_game_6 : decode cX9_game 6 = .ok (.istore_n 2, 1) := by decide +kernel
theorem dX9_game_7 : decode cX9_game 7 = .ok (.iload_n 2, 1) := by decide +kernel
theorem dX9_game_8 : decode cX9_game 8 = .ok (.ifCond .lt 20, 3) := by decide +kernel
theorem dX9_game_11 : decode cX9_game 11 = .ok (.aload_n 0, 1) := by decide +kernel
theorem dX9_game_12 : decode cX9_game 12 = .ok (.getfield 56, 3) := by decide +kernel
theorem dX9_game_15 : decode cX9_game 15 = .ok (.iload_n 2, 1) := by decide +kernel
theorem dX9_game_16 : decode cX9_game 16 = .ok (.aload_n 0, 1) := by decide +kernel
theorem dX9_game_17 : decode cX9_game 17 = .ok (.iload_n 2, 1) := by decide +kernel
theorem dX9_game_18 : decode cX9_game 18 = .ok (.invokevirtual 418, 3) := by decide +kernel
theorem dX9_game_21 : decode cX9_game 21 = .ok (.iastore, 1) := by decide +kernel
theorem dX9_game_22 : decode cX9_game 22 = .ok (.iinc 2 (-1), 3) := by decide +kernel
theorem dX9_game_25 : decode cX9_game 25 = .ok (.goto (-18), 3) := by decide +kernel
theorem dX9_game_28 : decode cX9_game 28 = .ok (.iload_n 1, 1) := by decide +kernel
theorem dX9_game_29 : decode cX9_game 29 = .ok (.ifCond .ne 10, 3) := by decide +kernel
theorem dX9_game_32 : decode cX9_game 32 = .ok (.aload_n 0, 1) := by decide +kernel
theorem dX9_game_33 : decode cX9_game 33 = .ok (.getfield 56, 3) := by decide +kernel
theorem dX9_game_36 : decode cX9_game 36 = .ok (.iconst 0, 1) := by decide +kernel
theorem dX9_game_37 : decode cX9_game 37 = .ok (.iaload, 1) := by decide +kernel
theorem dX9_game_38 : decode cX9_game 38 = .ok (.ireturn, 1) := by decide +kernel
theorem dX9_game_39 : decode cX9_game 39 = .ok (.iconst 0, 1) := by decide +kernel
theorem dX9_game_40 : decode cX9_game 40 = .ok (.istore_n 2, 1) := by decide +kernel
theorem dX9_game_41 : decode cX9_game 41 = .ok (.iload_n 2, 1) := by decide +kernel
theorem dX9_game_42 : decode cX9_game 42 = .ok (.aload_n 0, 1) := by decide +kernel
theorem dX9_game_43 : decode cX9_game 43 = .ok (.getfield 7, 3) := by decide +kernel
theorem dX9_game_46 : decode cX9_game 46 = .ok (.iconst 1, 1) := by decide +kernel
theorem dX9_game_47 : decode cX9_game 47 = .ok (.iaload, 1) := by decide +kernel
theorem dX9_game_48 : decode cX9_game 48 = .ok (.if_icmp .ge 28, 3) := by decide +kernel
theorem dX9_game_51 : decode cX9_game 51 = .ok (.aload_n 0, 1) := by decide +kernel
theorem dX9_game_52 : decode cX9_game 52 = .ok (.getfield 56, 3) := by decide +kernel
theorem dX9_game_55 : decode cX9_game 55 = .ok (.iconst 1, 1) := by decide +kernel
theorem dX9_game_56 : decode cX9_game 56 = .ok (.iload_n 2, 1) := by decide +kernel
theorem dX9_game_57 : decode cX9_game 57 = .ok (.ishl, 1) := by decide +kernel
theorem dX9_game_58 : decode cX9_game 58 = .ok (.iaload, 1) := by decide +kernel
theorem dX9_game_59 : decode cX9_game 59 = .ok (.aload_n 0, 1) := by decide +kernel
theorem dX9_game_60 : decode cX9_game 60 = .ok (.getfield 56, 3) := by decide +kernel
theorem dX9_game_63 : decode cX9_game 63 = .ok (.iconst 0, 1) := by decide +kernel
theorem dX9_game_64 : decode cX9_game 64 = .ok (.iaload, 1) := by decide +kernel
theorem dX9_game_65 : decode cX9_game 65 = .ok (.if_icmp .ne 5, 3) := by decide +kernel
theorem dX9_game_68 : decode cX9_game 68 = .ok (.iload_n 2, 1) := by decide +kernel
theorem dX9_game_69 : decode cX9_game 69 = .ok (.ireturn, 1) := by decide +kernel
theorem dX9_game_70 : decode cX9_game 70 = .ok (.iinc 2 1, 3) := by decide +kernel
theorem dX9_game_73 : decode cX9_game 73 = .ok (.goto (-32), 3) := by decide +kernel
theorem dX9_game_76 : decode cX9_game 76 = .ok (.iconst (-1), 1) := by decide +kernel
theorem dX9_game_77 : decode cX9_game 77 = .ok (.ireturn, 1) := by decide +kernel
theorem dX9_divisor_0 : decode cX9_divisor 0 = .ok (.lload_n 0, 1) := by decide +kernel
theorem dX9_divisor_1 : decode cX9_divisor 1 = .ok (.lstore 4, 2) := by decide +kernel
theorem dX9_divisor_3 : decode cX9_divisor 3 = .ok (.lload_n 2, 1) := by decide +kernel
theorem dX9_divisor_4 : decode cX9_divisor 4 = .ok (.lstore 6, 2) := by decide +kernel
theorem dX9_divisor_6 : decode cX9_divisor 6 = .ok (.lload 6, 2) := by decide +kernel
theorem dX9_divisor_8 : decode cX9_divisor 8 = .ok (.lconst 0, 1) := by decide +kernel
theorem dX9_divisor_9 : decode cX9_divisor 9 = .ok (.lcmp, 1) := by decide +kernel
theorem dX9_divisor_10 : decode cX9_divisor 10 = .ok (.ifCond .eq 21, 3) := by decide +kernel
theorem dX9_divisor_13 : decode cX9_divisor 13 = .ok (.lload 4, 2) := by decide +kernel
theorem dX9_divisor_15 : decode cX9_divisor 15 = .ok (.lload 6, 2) := by decide +kernel
theorem dX9_divisor_17 : decode cX9_divisor 17 = .ok (.lrem, 1) := by decide +kernel
theorem dX9_divisor_18 : decode cX9_divisor 18 = .ok (.lstore 8, 2) := by decide +kernel
theorem dX9_divisor_20 : decode cX9_divisor 20 = .ok (.lload 6, 2) := by decide +kernel
theorem dX9_divisor_22 : decode cX9_divisor 22 = .ok (.lstore 4, 2) := by decide +kernel
theorem dX9_divisor_24 : decode cX9_divisor 24 = .ok (.lload 8, 2) := by decide +kernel
theorem dX9_divisor_26 : decode cX9_divisor 26 = .ok (.lstore 6, 2) := by decide +kernel
theorem dX9_divisor_28 : decode cX9_divisor 28 = .ok (.goto (-22), 3) := by decide +kernel
theorem dX9_divisor_31 : decode cX9_divisor 31 = .ok (.lload 4, 2) := by decide +kernel
theorem dX9_divisor_33 : decode cX9_divisor 33 = .ok (.lreturn, 1) := by decide +kernel
theorem dX9_part_0 : decode cX9_part 0 = .ok (.iload 4, 2) := by decide +kernel
theorem dX9_part_2 : decode cX9_part 2 = .ok (.ifCond .eq 7, 3) := by decide +kernel
theorem dX9_part_5 : decode cX9_part 5 = .ok (.lload_n 2, 1) := by decide +kernel
theorem dX9_part_6 : decode cX9_part 6 = .ok (.goto 4, 3) := by decide +kernel
theorem dX9_part_9 : decode cX9_part 9 = .ok (.lload_n 0, 1) := by decide +kernel
theorem dX9_part_10 : decode cX9_part 10 = .ok (.lload_n 0, 1) := by decide +kernel
theorem dX9_part_11 : decode cX9_part 11 = .ok (.lload_n 2, 1) := by decide +kernel
theorem dX9_part_12 : decode cX9_part 12 = .ok (.invokestatic 421, 3) := by decide +kernel
theorem dX9_part_15 : decode cX9_part 15 = .ok (.ldiv, 1) := by decide +kernel
theorem dX9_part_16 : decode cX9_part 16 = .ok (.lreturn, 1) := by decide +kernel
theorem dX9_isWar_0 : decode cX9_isWar 0 = .ok (.aload_n 0, 1) := by decide +kernel
theorem dX9_isWar_1 : decode cX9_isWar 1 = .ok (.iload_n 1, 1) := by decide +kernel
theorem dX9_isWar_2 : decode cX9_isWar 2 = .ok (.invokevirtual 335, 3) := by decide +kernel
theorem dX9_isWar_5 : decode cX9_isWar 5 = .ok (.ifCond .eq 29, 3) := by decide +kernel
theorem dX9_isWar_8 : decode cX9_isWar 8 = .ok (.aload_n 0, 1) := by decide +kernel
theorem dX9_isWar_9 : decode cX9_isWar 9 = .ok (.iload_n 2, 1) := by decide +kernel
theorem dX9_isWar_10 : decode cX9_isWar 10 = .ok (.invokevirtual 335, 3) := by decide +kernel
theorem dX9_isWar_13 : decode cX9_isWar 13 = .ok (.ifCond .eq 21, 3) := by decide +kernel
theorem dX9_isWar_16 : decode cX9_isWar 16 = .ok (.iload_n 1, 1) := by decide +kernel
theorem dX9_isWar_17 : decode cX9_isWar 17 = .ok (.iload_n 2, 1) := by decide +kernel
theorem dX9_isWar_18 : decode cX9_isWar 18 = .ok (.if_icmp .eq 16, 3) := by decide +kernel
theorem dX9_isWar_21 : decode cX9_isWar 21 = .ok (.iload_n 3, 1) := by decide +kernel
theorem dX9_isWar_22 : decode cX9_isWar 22 = .ok (.iconst 0, 1) := by decide +kernel
theorem dX9_isWar_23 : decode cX9_isWar 23 = .ok (.iconst 4, 1) := by decide +kernel
theorem dX9_isWar_24 : decode cX9_isWar 24 = .ok (.invokestatic 69, 3) := by decide +kernel
theorem dX9_isWar_27 : decode cX9_isWar 27 = .ok (.ifCond .eq 7, 3) := by decide +kernel
theorem dX9_isWar_30 : decode cX9_isWar 30 = .ok (.iconst 1, 1) := by decide +kernel
theorem dX9_isWar_31 : decode cX9_isWar 31 = .ok (.goto 4, 3) := by decide +kernel
theorem dX9_isWar_34 : decode cX9_isWar 34 = .ok (.iconst 0, 1) := by decide +kernel
theorem dX9_isWar_35 : decode cX9_isWar 35 = .ok (.ireturn, 1) := by decide +kernel
theorem dX9_war_0 : decode cX9_war 0 = .ok (.aload_n 0, 1) := by decide +kernel
theorem dX9_war_1 : decode cX9_war 1 = .ok (.iload_n 1, 1) := by decide +kernel
theorem dX9_war_2 : decode cX9_war 2 = .ok (.iload_n 2, 1) := by decide +kernel
theorem dX9_war_3 : decode cX9_war 3 = .ok (.iload_n 3, 1) := by decide +kernel
theorem dX9_war_4 : decode cX9_war 4 = .ok (.invokevirtual 424, 3) := by decide +kernel
theorem dX9_war_7 : decode cX9_war 7 = .ok (.ifCond .ne 7, 3) := by decide +kernel
theorem dX9_war_10 : decode cX9_war 10 = .ok (.ldc2_w 427, 3) := by decide +kernel
theorem dX9_war_13 : decode cX9_war 13 = .ok (.lreturn, 1) := by decide +kernel
theorem dX9_war_14 : decode cX9_war 14 = .ok (.lconst 0, 1) := by decide +kernel
theorem dX9_war_15 : decode cX9_war 15 = .ok (.lstore 5, 2) := by decide +kernel
theorem dX9_war_17 : decode cX9_war 17 = .ok (.lconst 1, 1) := by decide +kernel
theorem dX9_war_18 : decode cX9_war 18 = .ok (.lstore 7, 2) := by decide +kernel
theorem dX9_war_20 : decode cX9_war 20 = .ok (.lconst 1, 1) := by decide +kernel
theorem dX9_war_21 : decode cX9_war 21 = .ok (.lstore 9, 2) := by decide +kernel
theorem dX9_war_23 : decode cX9_war 23 = .ok (.iconst 0, 1) := by decide +kernel
theorem dX9_war_24 : decode cX9_war 24 = .ok (.istore 11, 2) := by decide +kernel
theorem dX9_war_26 : decode cX9_war 26 = .ok (.iload 11, 2) := by decide +kernel
theorem dX9_war_28 : decode cX9_war 28 = .ok (.iload_n 3, 1) := by decide +kernel
theorem dX9_war_29 : decode cX9_war 29 = .ok (.if_icmp .ge 84, 3) := by decide +kernel
theorem dX9_war_32 : decode cX9_war 32 = .ok (.lload 5, 2) := by decide +kernel
theorem dX9_war_34 : decode cX9_war 34 = .ok (.ldc2_w 429, 3) := by decide +kernel
theorem dX9_war_37 : decode cX9_war 37 = .ok (.lmul, 1) := by decide +kernel
theorem dX9_war_38 : decode cX9_war 38 = .ok (.lload 9, 2) := by decide +kernel
theorem dX9_war_40 : decode cX9_war 40 = .ok (.bipush 10, 2) := by decide +kernel
theorem dX9_war_42 : decode cX9_war 42 = .ok (.aload_n 0, 1) := by decide +kernel
theorem dX9_war_43 : decode cX9_war 43 = .ok (.getfield 7, 3) := by decide +kernel
theorem dX9_war_46 : decode cX9_war 46 = .ok (.bipush 21, 2) := by decide +kernel
theorem dX9_war_48 : decode cX9_war 48 = .ok (.iload_n 1, 1) := by decide +kernel
theorem dX9_war_49 : decode cX9_war 49 = .ok (.iadd, 1) := by decide +kernel
theorem dX9_war_50 : decode cX9_war 50 = .ok (.iaload, 1) := by decide +kernel
theorem dX9_war_51 : decode cX9_war 51 = .ok (.isub, 1) := by decide +kernel
theorem dX9_war_52 : decode cX9_war 52 = .ok (.i2l, 1) := by decide +kernel
theorem dX9_war_53 : decode cX9_war 53 = .ok (.lmul, 1) := by decide +kernel
theorem dX9_war_54 : decode cX9_war 54 = .ok (.aload_n 0, 1) := by decide +kernel
theorem dX9_war_55 : decode cX9_war 55 = .ok (.getfield 7, 3) := by decide +kernel
theorem dX9_war_58 : decode cX9_war 58 = .ok (.bipush 21, 2) := by decide +kernel
theorem dX9_war_60 : decode cX9_war 60 = .ok (.iload_n 2, 1) := by decide +kernel
theorem dX9_war_61 : decode cX9_war 61 = .ok (.iadd, 1) := by decide +kernel
theorem dX9_war_62 : decode cX9_war 62 = .ok (.iaload, 1) := by decide +kernel
theorem dX9_war_63 : decode cX9_war 63 = .ok (.i2l, 1) := by decide +kernel
theorem dX9_war_64 : decode cX9_war 64 = .ok (.lmul, 1) := by decide +kernel
theorem dX9_war_65 : decode cX9_war 65 = .ok (.ladd, 1) := by decide +kernel
theorem dX9_war_66 : decode cX9_war 66 = .ok (.lstore 5, 2) := by decide +kernel
theorem dX9_war_68 : decode cX9_war 68 = .ok (.lload 9, 2) := by decide +kernel
theorem dX9_war_70 : decode cX9_war 70 = .ok (.bipush 10, 2) := by decide +kernel
theorem dX9_war_72 : decode cX9_war 72 = .ok (.aload_n 0, 1) := by decide +kernel
theorem dX9_war_73 : decode cX9_war 73 = .ok (.getfield 7, 3) := by decide +kernel
theorem dX9_war_76 : decode cX9_war 76 = .ok (.bipush 21, 2) := by decide +kernel
theorem dX9_war_78 : decode cX9_war 78 = .ok (.iload_n 1, 1) := by decide +kernel
theorem dX9_war_79 : decode cX9_war 79 = .ok (.iadd, 1) := by decide +kernel
theorem dX9_war_80 : decode cX9_war 80 = .ok (.iaload, 1) := by decide +kernel
theorem dX9_war_81 : decode cX9_war 81 = .ok (.isub, 1) := by decide +kernel
theorem dX9_war_82 : decode cX9_war 82 = .ok (.bipush 10, 2) := by decide +kernel
theorem dX9_war_84 : decode cX9_war 84 = .ok (.aload_n 0, 1) := by decide +kernel
theorem dX9_war_85 : decode cX9_war 85 = .ok (.getfield 7, 3) := by decide +kernel
theorem dX9_war_88 : decode cX9_war 88 = .ok (.bipush 21, 2) := by decide +kernel
theorem dX9_war_90 : decode cX9_war 90 = .ok (.iload_n 2, 1) := by decide +kernel
theorem dX9_war_91 : decode cX9_war 91 = .ok (.iadd, 1) := by decide +kernel
theorem dX9_war_92 : decode cX9_war 92 = .ok (.iaload, 1) := by decide +kernel
theorem dX9_war_93 : decode cX9_war 93 = .ok (.isub, 1) := by decide +kernel
theorem dX9_war_94 : decode cX9_war 94 = .ok (.imul, 1) := by decide +kernel
theorem dX9_war_95 : decode cX9_war 95 = .ok (.i2l, 1) := by decide +kernel
theorem dX9_war_96 : decode cX9_war 96 = .ok (.lmul, 1) := by decide +kernel
theorem dX9_war_97 : decode cX9_war 97 = .ok (.lstore 9, 2) := by decide +kernel
theorem dX9_war_99 : decode cX9_war 99 = .ok (.lload 7, 2) := by decide +kernel
theorem dX9_war_101 : decode cX9_war 101 = .ok (.ldc2_w 429, 3) := by decide +kernel
theorem dX9_war_104 : decode cX9_war 104 = .ok (.lmul, 1) := by decide +kernel
theorem dX9_war_105 : decode cX9_war 105 = .ok (.lstore 7, 2) := by decide +kernel
theorem dX9_war_107 : decode cX9_war 107 = .ok (.iinc 11 1, 3) := by decide +kernel
theorem dX9_war_110 : decode cX9_war 110 = .ok (.goto (-84), 3) := by decide +kernel
theorem dX9_war_113 : decode cX9_war 113 = .ok (.lload 5, 2) := by decide +kernel
theorem dX9_war_115 : decode cX9_war 115 = .ok (.lload 7, 2) := by decide +kernel
theorem dX9_war_117 : decode cX9_war 117 = .ok (.iload 4, 2) := by decide +kernel
theorem dX9_war_119 : decode cX9_war 119 = .ok (.invokestatic 431, 3) := by decide +kernel
theorem dX9_war_122 : decode cX9_war 122 = .ok (.lreturn, 1) := by decide +kernel
theorem dX9_rest_0 : decode cX9_rest 0 = .ok (.aload_n 0, 1) := by decide +kernel
theorem dX9_rest_1 : decode cX9_rest 1 = .ok (.iload_n 1, 1) := by decide +kernel
theorem dX9_rest_2 : decode cX9_rest 2 = .ok (.iload_n 2, 1) := by decide +kernel
theorem dX9_rest_3 : decode cX9_rest 3 = .ok (.iload_n 3, 1) := by decide +kernel
theorem dX9_rest_4 : decode cX9_rest 4 = .ok (.invokevirtual 424, 3) := by decide +kernel
theorem dX9_rest_7 : decode cX9_rest 7 = .ok (.ifCond .ne 7, 3) := by decide +kernel
theorem dX9_rest_10 : decode cX9_rest 10 = .ok (.ldc2_w 427, 3) := by decide +kernel
theorem dX9_rest_13 : decode cX9_rest 13 = .ok (.lreturn, 1) := by decide +kernel
theorem dX9_rest_14 : decode cX9_rest 14 = .ok (.lconst 1, 1) := by decide +kernel
theorem dX9_rest_15 : decode cX9_rest 15 = .ok (.lstore 5, 2) := by decide +kernel
theorem dX9_rest_17 : decode cX9_rest 17 = .ok (.lconst 1, 1) := by decide +kernel
theorem dX9_rest_18 : decode cX9_rest 18 = .ok (.lstore 7, 2) := by decide +kernel
theorem dX9_rest_20 : decode cX9_rest 20 = .ok (.iconst 0, 1) := by decide +kernel
theorem dX9_rest_21 : decode cX9_rest 21 = .ok (.istore 9, 2) := by decide +kernel
theorem dX9_rest_23 : decode cX9_rest 23 = .ok (.iload 9, 2) := by decide +kernel
theorem dX9_rest_25 : decode cX9_rest 25 = .ok (.iload_n 3, 1) := by decide +kernel
theorem dX9_rest_26 : decode cX9_rest 26 = .ok (.if_icmp .ge 48, 3) := by decide +kernel
theorem dX9_rest_29 : decode cX9_rest 29 = .ok (.lload 7, 2) := by decide +kernel
theorem dX9_rest_31 : decode cX9_rest 31 = .ok (.bipush 10, 2) := by decide +kernel
theorem dX9_rest_33 : decode cX9_rest 33 = .ok (.aload_n 0, 1) := by decide +kernel
theorem dX9_rest_34 : decode cX9_rest 34 = .ok (.getfield 7, 3) := by decide +kernel
theorem dX9_rest_37 : decode cX9_rest 37 = .ok (.bipush 21, 2) := by decide +kernel
theorem dX9_rest_39 : decode cX9_rest 39 = .ok (.iload_n 1, 1) := by decide +kernel
theorem dX9_rest_40 : decode cX9_rest 40 = .ok (.iadd, 1) := by decide +kernel
theorem dX9_rest_41 : decode cX9_rest 41 = .ok (.iaload, 1) := by decide +kernel
theorem dX9_rest_42 : decode cX9_rest 42 = .ok (.isub, 1) := by decide +kernel
theorem dX9_rest_43 : decode cX9_rest 43 = .ok (.bipush 10, 2) := by decide +kernel
theorem dX9_rest_45 : decode cX9_rest 45 = .ok (.aload_n 0, 1) := by decide +kernel
theorem dX9_rest_46 : decode cX9_rest 46 = .ok (.getfield 7, 3) := by decide +kernel
theorem dX9_rest_49 : decode cX9_rest 49 = .ok (.bipush 21, 2) := by decide +kernel
theorem dX9_rest_51 : decode cX9_rest 51 = .ok (.iload_n 2, 1) := by decide +kernel
theorem dX9_rest_52 : decode cX9_rest 52 = .ok (.iadd, 1) := by decide +kernel
theorem dX9_rest_53 : decode cX9_rest 53 = .ok (.iaload, 1) := by decide +kernel
theorem dX9_rest_54 : decode cX9_rest 54 = .ok (.isub, 1) := by decide +kernel
theorem dX9_rest_55 : decode cX9_rest 55 = .ok (.imul, 1) := by decide +kernel
theorem dX9_rest_56 : decode cX9_rest 56 = .ok (.i2l, 1) := by decide +kernel
theorem dX9_rest_57 : decode cX9_rest 57 = .ok (.lmul, 1) := by decide +kernel
theorem dX9_rest_58 : decode cX9_rest 58 = .ok (.lstore 7, 2) := by decide +kernel
theorem dX9_rest_60 : decode cX9_rest 60 = .ok (.lload 5, 2) := by decide +kernel
theorem dX9_rest_62 : decode cX9_rest 62 = .ok (.ldc2_w 429, 3) := by decide +kernel
theorem dX9_rest_65 : decode cX9_rest 65 = .ok (.lmul, 1) := by decide +kernel
theorem dX9_rest_66 : decode cX9_rest 66 = .ok (.lstore 5, 2) := by decide +kernel
theorem dX9_rest_68 : decode cX9_rest 68 = .ok (.iinc 9 1, 3) := by decide +kernel
theorem dX9_rest_71 : decode cX9_rest 71 = .ok (.goto (-48), 3) := by decide +kernel
theorem dX9_rest_74 : decode cX9_rest 74 = .ok (.lload 7, 2) := by decide +kernel
theorem dX9_rest_76 : decode cX9_rest 76 = .ok (.lload 5, 2) := by decide +kernel
theorem dX9_rest_78 : decode cX9_rest 78 = .ok (.iload 4, 2) := by decide +kernel
theorem dX9_rest_80 : decode cX9_rest 80 = .ok (.invokestatic 431, 3) := by decide +kernel
theorem dX9_rest_83 : decode cX9_rest 83 = .ok (.lreturn, 1) := by decide +kernel
theorem dX9_verdict_0 : decode cX9_verdict 0 = .ok (.iload_n 1, 1) := by decide +kernel
theorem dX9_verdict_1 : decode cX9_verdict 1 = .ok (.iconst (-1), 1) := by decide +kernel
theorem dX9_verdict_2 : decode cX9_verdict 2 = .ok (.if_icmp .ne 13, 3) := by decide +kernel
theorem dX9_verdict_5 : decode cX9_verdict 5 = .ok (.aload_n 0, 1) := by decide +kernel
theorem dX9_verdict_6 : decode cX9_verdict 6 = .ok (.getfield 7, 3) := by decide +kernel
theorem dX9_verdict_9 : decode cX9_verdict 9 = .ok (.bipush 6, 2) := by decide +kernel
theorem dX9_verdict_11 : decode cX9_verdict 11 = .ok (.iconst 0, 1) := by decide +kernel
theorem dX9_verdict_12 : decode cX9_verdict 12 = .ok (.iastore, 1) := by decide +kernel
theorem dX9_verdict_13 : decode cX9_verdict 13 = .ok (.iconst 0, 1) := by decide +kernel
theorem dX9_verdict_14 : decode cX9_verdict 14 = .ok (.ireturn, 1) := by decide +kernel
theorem dX9_verdict_15 : decode cX9_verdict 15 = .ok (.aload_n 0, 1) := by decide +kernel
theorem dX9_verdict_16 : decode cX9_verdict 16 = .ok (.iload_n 1, 1) := by decide +kernel
theorem dX9_verdict_17 : decode cX9_verdict 17 = .ok (.invokevirtual 335, 3) := by decide +kernel
theorem dX9_verdict_20 : decode cX9_verdict 20 = .ok (.ifCond .eq 15, 3) := by decide +kernel
theorem dX9_verdict_23 : decode cX9_verdict 23 = .ok (.aload_n 0, 1) := by decide +kernel
theorem dX9_verdict_24 : decode cX9_verdict 24 = .ok (.getfield 7, 3) := by decide +kernel
theorem dX9_verdict_27 : decode cX9_verdict 27 = .ok (.bipush 6, 2) := by decide +kernel
theorem dX9_verdict_29 : decode cX9_verdict 29 = .ok (.iaload, 1) := by decide +kernel
theorem dX9_verdict_30 : decode cX9_verdict 30 = .ok (.bipush 8, 2) := by decide +kernel
theorem dX9_verdict_32 : decode cX9_verdict 32 = .ok (.if_icmp .ne 6, 3) := by decide +kernel
theorem dX9_verdict_35 : decode cX9_verdict 35 = .ok (.bipush (-2), 2) := by decide +kernel
theorem dX9_verdict_37 : decode cX9_verdict 37 = .ok (.ireturn, 1) := by decide +kernel
theorem dX9_verdict_38 : decode cX9_verdict 38 = .ok (.aload_n 0, 1) := by decide +kernel
theorem dX9_verdict_39 : decode cX9_verdict 39 = .ok (.getfield 7, 3) := by decide +kernel
theorem dX9_verdict_42 : decode cX9_verdict 42 = .ok (.bipush 43, 2) := by decide +kernel
theorem dX9_verdict_44 : decode cX9_verdict 44 = .ok (.iconst 2, 1) := by decide +kernel
theorem dX9_verdict_45 : decode cX9_verdict 45 = .ok (.aload_n 0, 1) := by decide +kernel
theorem dX9_verdict_46 : decode cX9_verdict 46 = .ok (.getfield 7, 3) := by decide +kernel
theorem dX9_verdict_49 : decode cX9_verdict 49 = .ok (.bipush 6, 2) := by decide +kernel
theorem dX9_verdict_51 : decode cX9_verdict 51 = .ok (.iaload, 1) := by decide +kernel
theorem dX9_verdict_52 : decode cX9_verdict 52 = .ok (.imul, 1) := by decide +kernel
theorem dX9_verdict_53 : decode cX9_verdict 53 = .ok (.iadd, 1) := by decide +kernel
theorem dX9_verdict_54 : decode cX9_verdict 54 = .ok (.iload_n 1, 1) := by decide +kernel
theorem dX9_verdict_55 : decode cX9_verdict 55 = .ok (.iastore, 1) := by decide +kernel
theorem dX9_verdict_56 : decode cX9_verdict 56 = .ok (.aload_n 0, 1) := by decide +kernel
theorem dX9_verdict_57 : decode cX9_verdict 57 = .ok (.getfield 7, 3) := by decide +kernel
theorem dX9_verdict_60 : decode cX9_verdict 60 = .ok (.bipush 43, 2) := by decide +kernel
theorem dX9_verdict_62 : decode cX9_verdict 62 = .ok (.iconst 2, 1) := by decide +kernel
theorem dX9_verdict_63 : decode cX9_verdict 63 = .ok (.aload_n 0, 1) := by decide +kernel
theorem dX9_verdict_64 : decode cX9_verdict 64 = .ok (.getfield 7, 3) := by decide +kernel
theorem dX9_verdict_67 : decode cX9_verdict 67 = .ok (.bipush 6, 2) := by decide +kernel
theorem dX9_verdict_69 : decode cX9_verdict 69 = .ok (.iaload, 1) := by decide +kernel
theorem dX9_verdict_70 : decode cX9_verdict 70 = .ok (.imul, 1) := by decide +kernel
theorem dX9_verdict_71 : decode cX9_verdict 71 = .ok (.iadd, 1) := by decide +kernel
theorem dX9_verdict_72 : decode cX9_verdict 72 = .ok (.iconst 1, 1) := by decide +kernel
theorem dX9_verdict_73 : decode cX9_verdict 73 = .ok (.iadd, 1) := by decide +kernel
theorem dX9_verdict_74 : decode cX9_verdict 74 = .ok (.iload_n 2, 1) := by decide +kernel
theorem dX9_verdict_75 : decode cX9_verdict 75 = .ok (.ifCond .eq 7, 3) := by decide +kernel
theorem dX9_verdict_78 : decode cX9_verdict 78 = .ok (.iconst 1, 1) := by decide +kernel
theorem dX9_verdict_79 : decode cX9_verdict 79 = .ok (.goto 4, 3) := by decide +kernel
theorem dX9_verdict_82 : decode cX9_verdict 82 = .ok (.iconst 0, 1) := by decide +kernel
theorem dX9_verdict_83 : decode cX9_verdict 83 = .ok (.iastore, 1) := by decide +kernel
theorem dX9_verdict_84 : decode cX9_verdict 84 = .ok (.aload_n 0, 1) := by decide +kernel
theorem dX9_verdict_85 : decode cX9_verdict 85 = .ok (.getfield 7, 3) := by decide +kernel
theorem dX9_verdict_88 : decode cX9_verdict 88 = .ok (.bipush 6, 2) := by decide +kernel
theorem dX9_verdict_90 : decode cX9_verdict 90 = .ok (.dup2, 1) := by decide +kernel
theorem dX9_verdict_91 : decode cX9_verdict 91 = .ok (.iaload, 1) := by decide +kernel
theorem dX9_verdict_92 : decode cX9_verdict 92 = .ok (.iconst 1, 1) := by decide +kernel
theorem dX9_verdict_93 : decode cX9_verdict 93 = .ok (.iadd, 1) := by decide +kernel
theorem dX9_verdict_94 : decode cX9_verdict 94 = .ok (.iastore, 1) := by decide +kernel
theorem dX9_verdict_95 : decode cX9_verdict 95 = .ok (.aload_n 0, 1) := by decide +kernel
theorem dX9_verdict_96 : decode cX9_verdict 96 = .ok (.getfield 7, 3) := by decide +kernel
theorem dX9_verdict_99 : decode cX9_verdict 99 = .ok (.bipush 6, 2) := by decide +kernel
theorem dX9_verdict_101 : decode cX9_verdict 101 = .ok (.iaload, 1) := by decide +kernel
theorem dX9_verdict_102 : decode cX9_verdict 102 = .ok (.ireturn, 1) := by decide +kernel
theorem dX9_belief_0 : decode cX9_belief 0 = .ok (.lconst 1, 1) := by decide +kernel
theorem dX9_belief_1 : decode cX9_belief 1 = .ok (.lstore_n 2, 1) := by decide +kernel
theorem dX9_belief_2 : decode cX9_belief 2 = .ok (.lconst 1, 1) := by decide +kernel
theorem dX9_belief_3 : decode cX9_belief 3 = .ok (.lstore 4, 2) := by decide +kernel
theorem dX9_belief_5 : decode cX9_belief 5 = .ok (.bipush 43, 2) := by decide +kernel
theorem dX9_belief_7 : decode cX9_belief 7 = .ok (.istore 6, 2) := by decide +kernel
theorem dX9_belief_9 : decode cX9_belief 9 = .ok (.iload 6, 2) := by decide +kernel
theorem dX9_belief_11 : decode cX9_belief 11 = .ok (.bipush 43, 2) := by decide +kernel
theorem dX9_belief_13 : decode cX9_belief 13 = .ok (.iconst 2, 1) := by decide +kernel
theorem dX9_belief_14 : decode cX9_belief 14 = .ok (.aload_n 0, 1) := by decide +kernel
theorem dX9_belief_15 : decode cX9_belief 15 = .ok (.getfield 7, 3) := by decide +kernel
theorem dX9_belief_18 : decode cX9_belief 18 = .ok (.bipush 6, 2) := by decide +kernel
theorem dX9_belief_20 : decode cX9_belief 20 = .ok (.iaload, 1) := by decide +kernel
theorem dX9_belief_21 : decode cX9_belief 21 = .ok (.imul, 1) := by decide +kernel
theorem dX9_belief_22 : decode cX9_belief 22 = .ok (.iadd, 1) := by decide +kernel
theorem dX9_belief_23 : decode cX9_belief 23 = .ok (.if_icmp .ge 84, 3) := by decide +kernel
theorem dX9_belief_26 : decode cX9_belief 26 = .ok (.aload_n 0, 1) := by decide +kernel
theorem dX9_belief_27 : decode cX9_belief 27 = .ok (.getfield 7, 3) := by decide +kernel
theorem dX9_belief_30 : decode cX9_belief 30 = .ok (.bipush 21, 2) := by decide +kernel
theorem dX9_belief_32 : decode cX9_belief 32 = .ok (.aload_n 0, 1) := by decide +kernel
theorem dX9_belief_33 : decode cX9_belief 33 = .ok (.getfield 7, 3) := by decide +kernel
theorem dX9_belief_36 : decode cX9_belief 36 = .ok (.iload 6, 2) := by decide +kernel
theorem dX9_belief_38 : decode cX9_belief 38 = .ok (.iaload, 1) := by decide +kernel
theorem dX9_belief_39 : decode cX9_belief 39 = .ok (.iadd, 1) := by decide +kernel
theorem dX9_belief_40 : decode cX9_belief 40 = .ok (.iaload, 1) := by decide +kernel
theorem dX9_belief_41 : decode cX9_belief 41 = .ok (.istore 7, 2) := by decide +kernel
theorem dX9_belief_43 : decode cX9_belief 43 = .ok (.lload_n 2, 1) := by decide +kernel
theorem dX9_belief_44 : decode cX9_belief 44 = .ok (.aload_n 0, 1) := by decide +kernel
theorem dX9_belief_45 : decode cX9_belief 45 = .ok (.getfield 7, 3) := by decide +kernel
theorem dX9_belief_48 : decode cX9_belief 48 = .ok (.iload 6, 2) := by decide +kernel
theorem dX9_belief_50 : decode cX9_belief 50 = .ok (.iconst 1, 1) := by decide +kernel
theorem dX9_belief_51 : decode cX9_belief 51 = .ok (.iadd, 1) := by decide +kernel
theorem dX9_belief_52 : decode cX9_belief 52 = .ok (.iaload, 1) := by decide +kernel
theorem dX9_belief_53 : decode cX9_belief 53 = .ok (.iconst 1, 1) := by decide +kernel
theorem dX9_belief_54 : decode cX9_belief 54 = .ok (.if_icmp .ne 12, 3) := by decide +kernel
theorem dX9_belief_57 : decode cX9_belief 57 = .ok (.bipush 10, 2) := by decide +kernel
theorem dX9_belief_59 : decode cX9_belief 59 = .ok (.iload 7, 2) := by decide +kernel
theorem dX9_belief_61 : decode cX9_belief 61 = .ok (.isub, 1) := by decide +kernel
theorem dX9_belief_62 : decode cX9_belief 62 = .ok (.i2l, 1) := by decide +kernel
theorem dX9_belief_63 : decode cX9_belief 63 = .ok (.goto 6, 3) := by decide +kernel
theorem dX9_belief_66 : decode cX9_belief 66 = .ok (.iload 7, 2) := by decide +kernel
theorem dX9_belief_68 : decode cX9_belief 68 = .ok (.i2l, 1) := by decide +kernel
theorem dX9_belief_69 : decode cX9_belief 69 = .ok (.lmul, 1) := by decide +kernel
theorem dX9_belief_70 : decode cX9_belief 70 = .ok (.lstore_n 2, 1) := by decide +kernel
theorem dX9_belief_71 : decode cX9_belief 71 = .ok (.lload 4, 2) := by decide +kernel
theorem dX9_belief_73 : decode cX9_belief 73 = .ok (.aload_n 0, 1) := by decide +kernel
theorem dX9_belief_74 : decode cX9_belief 74 = .ok (.getfield 7, 3) := by decide +kernel
theorem dX9_belief_77 : decode cX9_belief 77 = .ok (.iload 6, 2) := by decide +kernel
theorem dX9_belief_79 : decode cX9_belief 79 = .ok (.iconst 1, 1) := by decide +kernel
theorem dX9_belief_80 : decode cX9_belief 80 = .ok (.iadd, 1) := by decide +kernel
theorem dX9_belief_81 : decode cX9_belief 81 = .ok (.iaload, 1) := by decide +kernel
theorem dX9_belief_82 : decode cX9_belief 82 = .ok (.iconst 1, 1) := by decide +kernel
theorem dX9_belief_83 : decode cX9_belief 83 = .ok (.if_icmp .ne 9, 3) := by decide +kernel
theorem dX9_belief_86 : decode cX9_belief 86 = .ok (.iload 7, 2) := by decide +kernel
theorem dX9_belief_88 : decode cX9_belief 88 = .ok (.i2l, 1) := by decide +kernel
theorem dX9_belief_89 : decode cX9_belief 89 = .ok (.goto 9, 3) := by decide +kernel
theorem dX9_belief_92 : decode cX9_belief 92 = .ok (.bipush 10, 2) := by decide +kernel
theorem dX9_belief_94 : decode cX9_belief 94 = .ok (.iload 7, 2) := by decide +kernel
theorem dX9_belief_96 : decode cX9_belief 96 = .ok (.isub, 1) := by decide +kernel
theorem dX9_belief_97 : decode cX9_belief 97 = .ok (.i2l, 1) := by decide +kernel
theorem dX9_belief_98 : decode cX9_belief 98 = .ok (.lmul, 1) := by decide +kernel
theorem dX9_belief_99 : decode cX9_belief 99 = .ok (.lstore 4, 2) := by decide +kernel
theorem dX9_belief_101 : decode cX9_belief 101 = .ok (.iinc 6 2, 3) := by decide +kernel
theorem dX9_belief_104 : decode cX9_belief 104 = .ok (.goto (-95), 3) := by decide +kernel
theorem dX9_belief_107 : decode cX9_belief 107 = .ok (.lload_n 2, 1) := by decide +kernel
theorem dX9_belief_108 : decode cX9_belief 108 = .ok (.lload 4, 2) := by decide +kernel
theorem dX9_belief_110 : decode cX9_belief 110 = .ok (.ladd, 1) := by decide +kernel
theorem dX9_belief_111 : decode cX9_belief 111 = .ok (.lconst 0, 1) := by decide +kernel
theorem dX9_belief_112 : decode cX9_belief 112 = .ok (.lcmp, 1) := by decide +kernel
theorem dX9_belief_113 : decode cX9_belief 113 = .ok (.ifCond .ne 9, 3) := by decide +kernel
theorem dX9_belief_116 : decode cX9_belief 116 = .ok (.ldc2_w 427, 3) := by decide +kernel
theorem dX9_belief_119 : decode cX9_belief 119 = .ok (.goto 12, 3) := by decide +kernel
theorem dX9_belief_122 : decode cX9_belief 122 = .ok (.lload_n 2, 1) := by decide +kernel
theorem dX9_belief_123 : decode cX9_belief 123 = .ok (.lload_n 2, 1) := by decide +kernel
theorem dX9_belief_124 : decode cX9_belief 124 = .ok (.lload 4, 2) := by decide +kernel
theorem dX9_belief_126 : decode cX9_belief 126 = .ok (.ladd, 1) := by decide +kernel
theorem dX9_belief_127 : decode cX9_belief 127 = .ok (.iload_n 1, 1) := by decide +kernel
theorem dX9_belief_128 : decode cX9_belief 128 = .ok (.invokestatic 431, 3) := by decide +kernel
theorem dX9_belief_131 : decode cX9_belief 131 = .ok (.lreturn, 1) := by decide +kernel
theorem dX9_layRows_0 : decode cX9_layRows 0 = .ok (.lconst 1, 1) := by decide +kernel
theorem dX9_layRows_1 : decode cX9_layRows 1 = .ok (.lstore_n 2, 1) := by decide +kernel
theorem dX9_layRows_2 : decode cX9_layRows 2 = .ok (.iconst 0, 1) := by decide +kernel
theorem dX9_layRows_3 : decode cX9_layRows 3 = .ok (.istore 4, 2) := by decide +kernel
theorem dX9_layRows_5 : decode cX9_layRows 5 = .ok (.iload 4, 2) := by decide +kernel
theorem dX9_layRows_7 : decode cX9_layRows 7 = .ok (.sipush 1024, 3) := by decide +kernel
theorem dX9_layRows_10 : decode cX9_layRows 10 = .ok (.if_icmp .ge 33, 3) := by decide +kernel
theorem dX9_layRows_13 : decode cX9_layRows 13 = .ok (.aload_n 0, 1) := by decide +kernel
theorem dX9_layRows_14 : decode cX9_layRows 14 = .ok (.getfield 59, 3) := by decide +kernel
theorem dX9_layRows_17 : decode cX9_layRows 17 = .ok (.iload 4, 2) := by decide +kernel
theorem dX9_layRows_19 : decode cX9_layRows 19 = .ok (.iload 4, 2) := by decide +kernel
theorem dX9_layRows_21 : decode cX9_layRows 21 = .ok (.aload_n 0, 1) := by decide +kernel
theorem dX9_layRows_22 : decode cX9_layRows 22 = .ok (.getfield 7, 3) := by decide +kernel
theorem dX9_layRows_25 : decode cX9_layRows 25 = .ok (.bipush 10, 2) := by decide +kernel
theorem dX9_layRows_27 : decode cX9_layRows 27 = .ok (.iaload, 1) := by decide +kernel
theorem dX9_layRows_28 : decode cX9_layRows 28 = .ok (.if_icmp .ne 7, 3) := by decide +kernel
theorem dX9_layRows_31 : decode cX9_layRows 31 = .ok (.lconst 1, 1) := by decide +kernel
theorem dX9_layRows_32 : decode cX9_layRows 32 = .ok (.goto 4, 3) := by decide +kernel
theorem dX9_layRows_35 : decode cX9_layRows 35 = .ok (.lconst 0, 1) := by decide +kernel
theorem dX9_layRows_36 : decode cX9_layRows 36 = .ok (.lastore, 1) := by decide +kernel
theorem dX9_layRows_37 : decode cX9_layRows 37 = .ok (.iinc 4 1, 3) := by decide +kernel
theorem dX9_layRows_40 : decode cX9_layRows 40 = .ok (.goto (-35), 3) := by decide +kernel
theorem dX9_layRows_43 : decode cX9_layRows 43 = .ok (.iconst 0, 1) := by decide +kernel
theorem dX9_layRows_44 : decode cX9_layRows 44 = .ok (.istore 4, 2) := by decide +kernel
theorem dX9_layRows_46 : decode cX9_layRows 46 = .ok (.iload 4, 2) := by decide +kernel
theorem dX9_layRows_48 : decode cX9_layRows 48 = .ok (.iload_n 1, 1) := by decide +kernel
theorem dX9_layRows_49 : decode cX9_layRows 49 = .ok (.if_icmp .ge 132, 3) := by decide +kernel
theorem dX9_layRows_52 : decode cX9_layRows 52 = .ok (.aload_n 0, 1) := by decide +kernel
theorem dX9_layRows_53 : decode cX9_layRows 53 = .ok (.getfield 7, 3) := by decide +kernel
theorem dX9_layRows_56 : decode cX9_layRows 56 = .ok (.iconst 1, 1) := by decide +kernel
theorem dX9_layRows_57 : decode cX9_layRows 57 = .ok (.iaload, 1) := by decide +kernel
theorem dX9_layRows_58 : decode cX9_layRows 58 = .ok (.ifCond .le 123, 3) := by decide +kernel
theorem dX9_layRows_61 : decode cX9_layRows 61 = .ok (.iconst 0, 1) := by decide +kernel
theorem dX9_layRows_62 : decode cX9_layRows 62 = .ok (.istore 5, 2) := by decide +kernel
theorem dX9_layRows_64 : decode cX9_layRows 64 = .ok (.iload 5, 2) := by decide +kernel
theorem dX9_layRows_66 : decode cX9_layRows 66 = .ok (.sipush 1024, 3) := by decide +kernel
theorem dX9_layRows_69 : decode cX9_layRows 69 = .ok (.if_icmp .ge 65, 3) := by decide +kernel
theorem dX9_layRows_72 : decode cX9_layRows 72 = .ok (.aload_n 0, 1) := by decide +kernel
theorem dX9_layRows_73 : decode cX9_layRows 73 = .ok (.getfield 62, 3) := by decide +kernel
theorem dX9_layRows_76 : decode cX9_layRows 76 = .ok (.iload 5, 2) := by decide +kernel
theorem dX9_layRows_78 : decode cX9_layRows 78 = .ok (.lconst 0, 1) := by decide +kernel
theorem dX9_layRows_79 : decode cX9_layRows 79 = .ok (.lastore, 1) := by decide +kernel
theorem dX9_layRows_80 : decode cX9_layRows 80 = .ok (.iconst 0, 1) := by decide +kernel
theorem dX9_layRows_81 : decode cX9_layRows 81 = .ok (.istore 6, 2) := by decide +kernel
theorem dX9_layRows_83 : decode cX9_layRows 83 = .ok (.iload 6, 2) := by decide +kernel
theorem dX9_layRows_85 : decode cX9_layRows 85 = .ok (.aload_n 0, 1) := by decide +kernel
theorem dX9_layRows_86 : decode cX9_layRows 86 = .ok (.getfield 7, 3) := by decide +kernel
theorem dX9_layRows_89 : decode cX9_layRows 89 = .ok (.iconst 1, 1) := by decide +kernel
theorem dX9_layRows_90 : decode cX9_layRows 90 = .ok (.iaload, 1) := by decide +kernel
theorem dX9_layRows_91 : decode cX9_layRows 91 = .ok (.if_icmp .ge 37, 3) := by decide +kernel
theorem dX9_layRows_94 : decode cX9_layRows 94 = .ok (.aload_n 0, 1) := by decide +kernel
theorem dX9_layRows_95 : decode cX9_layRows 95 = .ok (.getfield 62, 3) := by decide +kernel
theorem dX9_layRows_98 : decode cX9_layRows 98 = .ok (.iload 5, 2) := by decide +kernel
theorem dX9_layRows_100 : decode cX9_layRows 100 = .ok (.dup2, 1) := by decide +kernel
theorem dX9_layRows_101 : decode cX9_layRows 101 = .ok (.laload, 1) := by decide +kernel
theorem dX9_layRows_102 : decode cX9_layRows 102 = .ok (.aload_n 0, 1) := by decide +kernel
theorem dX9_layRows_103 : decode cX9_layRows 103 = .ok (.getfield 59, 3) := by decide +kernel
theorem dX9_layRows_106 : decode cX9_layRows 106 = .ok (.iload 5, 2) := by decide +kernel
theorem dX9_layRows_108 : decode cX9_layRows 108 = .ok (.aload_n 0, 1) := by decide +kernel
theorem dX9_layRows_109 : decode cX9_layRows 109 = .ok (.getfield 7, 3) := by decide +kernel
theorem dX9_layRows_112 : decode cX9_layRows 112 = .ok (.bipush 29, 2) := by decide +kernel
theorem dX9_layRows_114 : decode cX9_layRows 114 = .ok (.iload 6, 2) := by decide +kernel
theorem dX9_layRows_116 : decode cX9_layRows 116 = .ok (.iadd, 1) := by decide +kernel
theorem dX9_layRows_117 : decode cX9_layRows 117 = .ok (.iaload, 1) := by decide +kernel
theorem dX9_layRows_118 : decode cX9_layRows 118 = .ok (.ixor, 1) := by decide +kernel
theorem dX9_layRows_119 : decode cX9_layRows 119 = .ok (.laload, 1) := by decide +kernel
theorem dX9_layRows_120 : decode cX9_layRows 120 = .ok (.ladd, 1) := by decide +kernel
theorem dX9_layRows_121 : decode cX9_layRows 121 = .ok (.lastore, 1) := by decide +kernel
theorem dX9_layRows_122 : decode cX9_layRows 122 = .ok (.iinc 6 1, 3) := by decide +kernel
theorem dX9_layRows_125 : decode cX9_layRows 125 = .ok (.goto (-42), 3) := by decide +kernel
theorem dX9_layRows_128 : decode cX9_layRows 128 = .ok (.iinc 5 1, 3) := by decide +kernel
theorem dX9_layRows_131 : decode cX9_layRows 131 = .ok (.goto (-67), 3) := by decide +kernel
theorem dX9_layRows_134 : decode cX9_layRows 134 = .ok (.iconst 0, 1) := by decide +kernel
theorem dX9_layRows_135 : decode cX9_layRows 135 = .ok (.istore 5, 2) := by decide +kernel
theorem dX9_layRows_137 : decode cX9_layRows 137 = .ok (.iload 5, 2) := by decide +kernel
theorem dX9_layRows_139 : decode cX9_layRows 139 = .ok (.sipush 1024, 3) := by decide +kernel
theorem dX9_layRows_142 : decode cX9_layRows 142 = .ok (.if_icmp .ge 23, 3) := by decide +kernel
theorem dX9_layRows_145 : decode cX9_layRows 145 = .ok (.aload_n 0, 1) := by decide +kernel
theorem dX9_layRows_146 : decode cX9_layRows 146 = .ok (.getfield 59, 3) := by decide +kernel
theorem dX9_layRows_149 : decode cX9_layRows 149 = .ok (.iload 5, 2) := by decide +kernel
theorem dX9_layRows_151 : decode cX9_layRows 151 = .ok (.aload_n 0, 1) := by decide +kernel
theorem dX9_layRows_152 : decode cX9_layRows 152 = .ok (.getfield 62, 3) := by decide +kernel
theorem dX9_layRows_155 : decode cX9_layRows 155 = .ok (.iload 5, 2) := by decide +kernel
theorem dX9_layRows_157 : decode cX9_layRows 157 = .ok (.laload, 1) := by decide +kernel
theorem dX9_layRows_158 : decode cX9_layRows 158 = .ok (.lastore, 1) := by decide +kernel
theorem dX9_layRows_159 : decode cX9_layRows 159 = .ok (.iinc 5 1, 3) := by decide +kernel
theorem dX9_layRows_162 : decode cX9_layRows 162 = .ok (.goto (-25), 3) := by decide +kernel
theorem dX9_layRows_165 : decode cX9_layRows 165 = .ok (.lload_n 2, 1) := by decide +kernel
theorem dX9_layRows_166 : decode cX9_layRows 166 = .ok (.aload_n 0, 1) := by decide +kernel
theorem dX9_layRows_167 : decode cX9_layRows 167 = .ok (.getfield 7, 3) := by decide +kernel
theorem dX9_layRows_170 : decode cX9_layRows 170 = .ok (.iconst 1, 1) := by decide +kernel
theorem dX9_layRows_171 : decode cX9_layRows 171 = .ok (.iaload, 1) := by decide +kernel
theorem dX9_layRows_172 : decode cX9_layRows 172 = .ok (.i2l, 1) := by decide +kernel
theorem dX9_layRows_173 : decode cX9_layRows 173 = .ok (.lmul, 1) := by decide +kernel
theorem dX9_layRows_174 : decode cX9_layRows 174 = .ok (.lstore_n 2, 1) := by decide +kernel
theorem dX9_layRows_175 : decode cX9_layRows 175 = .ok (.iinc 4 1, 3) := by decide +kernel
theorem dX9_layRows_178 : decode cX9_layRows 178 = .ok (.goto (-132), 3) := by decide +kernel
theorem dX9_layRows_181 : decode cX9_layRows 181 = .ok (.lload_n 2, 1) := by decide +kernel
theorem dX9_layRows_182 : decode cX9_layRows 182 = .ok (.lreturn, 1) := by decide +kernel
theorem dX9_isRows_0 : decode cX9_isRows 0 = .ok (.iload_n 0, 1) := by decide +kernel
theorem dX9_isRows_1 : decode cX9_isRows 1 = .ok (.iconst 0, 1) := by decide +kernel
theorem dX9_isRows_2 : decode cX9_isRows 2 = .ok (.bipush 6, 2) := by decide +kernel
theorem dX9_isRows_4 : decode cX9_isRows 4 = .ok (.invokestatic 69, 3) := by decide +kernel
theorem dX9_isRows_7 : decode cX9_isRows 7 = .ok (.ireturn, 1) := by decide +kernel
theorem dX9_lit_0 : decode cX9_lit 0 = .ok (.iload_n 1, 1) := by decide +kernel
theorem dX9_lit_1 : decode cX9_lit 1 = .ok (.invokestatic 435, 3) := by decide +kernel
theorem dX9_lit_4 : decode cX9_lit 4 = .ok (.ifCond .eq 10, 3) := by decide +kernel
theorem dX9_lit_7 : decode cX9_lit 7 = .ok (.iload_n 2, 1) := by decide +kernel
theorem dX9_lit_8 : decode cX9_lit 8 = .ok (.invokestatic 353, 3) := by decide +kernel
theorem dX9_lit_11 : decode cX9_lit 11 = .ok (.ifCond .ne 7, 3) := by decide +kernel
theorem dX9_lit_14 : decode cX9_lit 14 = .ok (.ldc2_w 427, 3) := by decide +kernel
theorem dX9_lit_17 : decode cX9_lit 17 = .ok (.lreturn, 1) := by decide +kernel
theorem dX9_lit_18 : decode cX9_lit 18 = .ok (.aload_n 0, 1) := by decide +kernel
theorem dX9_lit_19 : decode cX9_lit 19 = .ok (.iload_n 1, 1) := by decide +kernel
theorem dX9_lit_20 : decode cX9_lit 20 = .ok (.invokevirtual 438, 3) := by decide +kernel
theorem dX9_lit_23 : decode cX9_lit 23 = .ok (.lstore 4, 2) := by decide +kernel
theorem dX9_lit_25 : decode cX9_lit 25 = .ok (.lconst 0, 1) := by decide +kernel
theorem dX9_lit_26 : decode cX9_lit 26 = .ok (.lstore 6, 2) := by decide +kernel
theorem dX9_lit_28 : decode cX9_lit 28 = .ok (.iconst 0, 1) := by decide +kernel
theorem dX9_lit_29 : decode cX9_lit 29 = .ok (.istore 8, 2) := by decide +kernel
theorem dX9_lit_31 : decode cX9_lit 31 = .ok (.iload 8, 2) := by decide +kernel
theorem dX9_lit_33 : decode cX9_lit 33 = .ok (.sipush 1024, 3) := by decide +kernel
theorem dX9_lit_36 : decode cX9_lit 36 = .ok (.if_icmp .ge 34, 3) := by decide +kernel
theorem dX9_lit_39 : decode cX9_lit 39 = .ok (.lload 6, 2) := by decide +kernel
theorem dX9_lit_41 : decode cX9_lit 41 = .ok (.iload 8, 2) := by decide +kernel
theorem dX9_lit_43 : decode cX9_lit 43 = .ok (.iload_n 2, 1) := by decide +kernel
theorem dX9_lit_44 : decode cX9_lit 44 = .ok (.invokestatic 248, 3) := by decide +kernel
theorem dX9_lit_47 : decode cX9_lit 47 = .ok (.ifCond .eq 13, 3) := by decide +kernel
theorem dX9_lit_50 : decode cX9_lit 50 = .ok (.aload_n 0, 1) := by decide +kernel
theorem dX9_lit_51 : decode cX9_lit 51 = .ok (.getfield 59, 3) := by decide +kernel
theorem dX9_lit_54 : decode cX9_lit 54 = .ok (.iload 8, 2) := by decide +kernel
theorem dX9_lit_56 : decode cX9_lit 56 = .ok (.laload, 1) := by decide +kernel
theorem dX9_lit_57 : decode cX9_lit 57 = .ok (.goto 4, 3) := by decide +kernel
theorem dX9_lit_60 : decode cX9_lit 60 = .ok (.lconst 0, 1) := by decide +kernel
theorem dX9_lit_61 : decode cX9_lit 61 = .ok (.ladd, 1) := by decide +kernel
theorem dX9_lit_62 : decode cX9_lit 62 = .ok (.lstore 6, 2) := by decide +kernel
theorem dX9_lit_64 : decode cX9_lit 64 = .ok (.iinc 8 1, 3) := by decide +kernel
theorem dX9_lit_67 : decode cX9_lit 67 = .ok (.goto (-36), 3) := by decide +kernel
theorem dX9_lit_70 : decode cX9_lit 70 = .ok (.lload 6, 2) := by decide +kernel
theorem dX9_lit_72 : decode cX9_lit 72 = .ok (.lload 4, 2) := by decide +kernel
theorem dX9_lit_74 : decode cX9_lit 74 = .ok (.iload_n 3, 1) := by decide +kernel
theorem dX9_lit_75 : decode cX9_lit 75 = .ok (.invokestatic 431, 3) := by decide +kernel
theorem dX9_lit_78 : decode cX9_lit 78 = .ok (.lreturn, 1) := by decide +kernel
theorem dX9_dark_0 : decode cX9_dark 0 = .ok (.iload_n 1, 1) := by decide +kernel
theorem dX9_dark_1 : decode cX9_dark 1 = .ok (.invokestatic 435, 3) := by decide +kernel
theorem dX9_dark_4 : decode cX9_dark 4 = .ok (.ifCond .ne 7, 3) := by decide +kernel
theorem dX9_dark_7 : decode cX9_dark 7 = .ok (.ldc2_w 427, 3) := by decide +kernel
theorem dX9_dark_10 : decode cX9_dark 10 = .ok (.lreturn, 1) := by decide +kernel
theorem dX9_dark_11 : decode cX9_dark 11 = .ok (.aload_n 0, 1) := by decide +kernel
theorem dX9_dark_12 : decode cX9_dark 12 = .ok (.iload_n 1, 1) := by decide +kernel
theorem dX9_dark_13 : decode cX9_dark 13 = .ok (.invokevirtual 438, 3) := by decide +kernel
theorem dX9_dark_16 : decode cX9_dark 16 = .ok (.lstore_n 3, 1) := by decide +kernel
theorem dX9_dark_17 : decode cX9_dark 17 = .ok (.aload_n 0, 1) := by decide +kernel
theorem dX9_dark_18 : decode cX9_dark 18 = .ok (.getfield 59, 3) := by decide +kernel
theorem dX9_dark_21 : decode cX9_dark 21 = .ok (.iconst 0, 1) := by decide +kernel
theorem dX9_dark_22 : decode cX9_dark 22 = .ok (.laload, 1) := by decide +kernel
theorem dX9_dark_23 : decode cX9_dark 23 = .ok (.lload_n 3, 1) := by decide +kernel
theorem dX9_dark_24 : decode cX9_dark 24 = .ok (.iload_n 2, 1) := by decide +kernel
theorem dX9_dark_25 : decode cX9_dark 25 = .ok (.invokestatic 431, 3) := by decide +kernel
theorem dX9_dark_28 : decode cX9_dark 28 = .ok (.lreturn, 1) := by decide +kernel
theorem dX9_mean_0 : decode cX9_mean 0 = .ok (.iload_n 1, 1) := by decide +kernel
theorem dX9_mean_1 : decode cX9_mean 1 = .ok (.invokestatic 435, 3) := by decide +kernel
theorem dX9_mean_4 : decode cX9_mean 4 = .ok (.ifCond .ne 7, 3) := by decide +kernel
theorem dX9_mean_7 : decode cX9_mean 7 = .ok (.ldc2_w 427, 3) := by decide +kernel
theorem dX9_mean_10 : decode cX9_mean 10 = .ok (.lreturn, 1) := by decide +kernel
theorem dX9_mean_11 : decode cX9_mean 11 = .ok (.aload_n 0, 1) := by decide +kernel
theorem dX9_mean_12 : decode cX9_mean 12 = .ok (.iload_n 1, 1) := by decide +kernel
theorem dX9_mean_13 : decode cX9_mean 13 = .ok (.invokevirtual 438, 3) := by decide +kernel
theorem dX9_mean_16 : decode cX9_mean 16 = .ok (.lstore_n 3, 1) := by decide +kernel
theorem dX9_mean_17 : decode cX9_mean 17 = .ok (.lconst 0, 1) := by decide +kernel
theorem dX9_mean_18 : decode cX9_mean 18 = .ok (.lstore 5, 2) := by decide +kernel
theorem dX9_mean_20 : decode cX9_mean 20 = .ok (.iconst 0, 1) := by decide +kernel
theorem dX9_mean_21 : decode cX9_mean 21 = .ok (.istore 7, 2) := by decide +kernel
theorem dX9_mean_23 : decode cX9_mean 23 = .ok (.iload 7, 2) := by decide +kernel
theorem dX9_mean_25 : decode cX9_mean 25 = .ok (.sipush 1024, 3) := by decide +kernel
theorem dX9_mean_28 : decode cX9_mean 28 = .ok (.if_icmp .ge 28, 3) := by decide +kernel
theorem dX9_mean_31 : decode cX9_mean 31 = .ok (.lload 5, 2) := by decide +kernel
theorem dX9_mean_33 : decode cX9_mean 33 = .ok (.iload 7, 2) := by decide +kernel
theorem dX9_mean_35 : decode cX9_mean 35 = .ok (.invokestatic 298, 3) := by decide +kernel
theorem dX9_mean_38 : decode cX9_mean 38 = .ok (.i2l, 1) := by decide +kernel
theorem dX9_mean_39 : decode cX9_mean 39 = .ok (.aload_n 0, 1) := by decide +kernel
theorem dX9_mean_40 : decode cX9_mean 40 = .ok (.getfield 59, 3) := by decide +kernel
theorem dX9_mean_43 : decode cX9_mean 43 = .ok (.iload 7, 2) := by decide +kernel
theorem dX9_mean_45 : decode cX9_mean 45 = .ok (.laload, 1) := by decide +kernel
theorem dX9_mean_46 : decode cX9_mean 46 = .ok (.lmul, 1) := by decide +kernel
theorem dX9_mean_47 : decode cX9_mean 47 = .ok (.ladd, 1) := by decide +kernel
theorem dX9_mean_48 : decode cX9_mean 48 = .ok (.lstore 5, 2) := by decide +kernel
theorem dX9_mean_50 : decode cX9_mean 50 = .ok (.iinc 7 1, 3) := by decide +kernel
theorem dX9_mean_53 : decode cX9_mean 53 = .ok (.goto (-30), 3) := by decide +kernel
theorem dX9_mean_56 : decode cX9_mean 56 = .ok (.lload 5, 2) := by decide +kernel
theorem dX9_mean_58 : decode cX9_mean 58 = .ok (.lload_n 3, 1) := by decide +kernel
theorem dX9_mean_59 : decode cX9_mean 59 = .ok (.iload_n 2, 1) := by decide +kernel
theorem dX9_mean_60 : decode cX9_mean 60 = .ok (.invokestatic 431, 3) := by decide +kernel
theorem dX9_mean_63 : decode cX9_mean 63 = .ok (.lreturn, 1) := by decide +kernel
theorem dX9_said_0 : decode cX9_said 0 = .ok (.iload_n 1, 1) := by decide +kernel
theorem dX9_said_1 : decode cX9_said 1 = .ok (.iconst (-1), 1) := by decide +kernel
theorem dX9_said_2 : decode cX9_said 2 = .ok (.if_icmp .ne 13, 3) := by decide +kernel
theorem dX9_said_5 : decode cX9_said 5 = .ok (.aload_n 0, 1) := by decide +kernel
theorem dX9_said_6 : decode cX9_said 6 = .ok (.getfield 7, 3) := by decide +kernel
theorem dX9_said_9 : decode cX9_said 9 = .ok (.bipush 7, 2) := by decide +kernel
theorem dX9_said_11 : decode cX9_said 11 = .ok (.iconst 0, 1) := by decide +kernel
theorem dX9_said_12 : decode cX9_said 12 = .ok (.iastore, 1) := by decide +kernel
theorem dX9_said_13 : decode cX9_said 13 = .ok (.iconst 0, 1) := by decide +kernel
theorem dX9_said_14 : decode cX9_said 14 = .ok (.ireturn, 1) := by decide +kernel
theorem dX9_said_15 : decode cX9_said 15 = .ok (.aload_n 0, 1) := by decide +kernel
theorem dX9_said_16 : decode cX9_said 16 = .ok (.iload_n 1, 1) := by decide +kernel
theorem dX9_said_17 : decode cX9_said 17 = .ok (.invokevirtual 332, 3) := by decide +kernel
theorem dX9_said_20 : decode cX9_said 20 = .ok (.ifCond .eq 33, 3) := by decide +kernel
theorem dX9_said_23 : decode cX9_said 23 = .ok (.aload_n 0, 1) := by decide +kernel
theorem dX9_said_24 : decode cX9_said 24 = .ok (.iload_n 2, 1) := by decide +kernel
theorem dX9_said_25 : decode cX9_said 25 = .ok (.invokevirtual 335, 3) := by decide +kernel
theorem dX9_said_28 : decode cX9_said 28 = .ok (.ifCond .eq 25, 3) := by decide +kernel
theorem dX9_said_31 : decode cX9_said 31 = .ok (.iload_n 3, 1) := by decide +kernel
theorem dX9_said_32 : decode cX9_said 32 = .ok (.iconst 0, 1) := by decide +kernel
theorem dX9_said_33 : decode cX9_said 33 = .ok (.bipush 9, 2) := by decide +kernel
theorem dX9_said_35 : decode cX9_said 35 = .ok (.invokestatic 69, 3) := by decide +kernel
theorem dX9_said_38 : decode cX9_said 38 = .ok (.ifCond .eq 15, 3) := by decide +kernel
theorem dX9_said_41 : decode cX9_said 41 = .ok (.aload_n 0, 1) := by decide +kernel
theorem dX9_said_42 : decode cX9_said 42 = .ok (.getfield 7, 3) := by decide +kernel
theorem dX9_said_45 : decode cX9_said 45 = .ok (.bipush 7, 2) := by decide +kernel
theorem dX9_said_47 : decode cX9_said 47 = .ok (.iaload, 1) := by decide +kernel
theorem dX9_said_48 : decode cX9_said 48 = .ok (.bipush 8, 2) := by decide +kernel
theorem dX9_said_50 : decode cX9_said 50 = .ok (.if_icmp .ne 6, 3) := by decide +kernel
theorem dX9_said_53 : decode cX9_said 53 = .ok (.bipush (-2), 2) := by decide +kernel
theorem dX9_said_55 : decode cX9_said 55 = .ok (.ireturn, 1) := by decide +kernel
theorem dX9_said_56 : decode cX9_said 56 = .ok (.bipush 59, 2) := by decide +kernel
theorem dX9_said_58 : decode cX9_said 58 = .ok (.iconst 3, 1) := by decide +kernel
theorem dX9_said_59 : decode cX9_said 59 = .ok (.aload_n 0, 1) := by decide +kernel
theorem dX9_said_60 : decode cX9_said 60 = .ok (.getfield 7, 3) := by decide +kernel
theorem dX9_said_63 : decode cX9_said 63 = .ok (.bipush 7, 2) := by decide +kernel
theorem dX9_said_65 : decode cX9_said 65 = .ok (.iaload, 1) := by decide +kernel
theorem dX9_said_66 : decode cX9_said 66 = .ok (.imul, 1) := by decide +kernel
theorem dX9_said_67 : decode cX9_said 67 = .ok (.iadd, 1) := by decide +kernel
theorem dX9_said_68 : decode cX9_said 68 = .ok (.istore 4, 2) := by decide +kernel
theorem dX9_said_70 : decode cX9_said 70 = .ok (.aload_n 0, 1) := by decide +kernel
theorem dX9_said_71 : decode cX9_said 71 = .ok (.getfield 7, 3) := by decide +kernel
theorem dX9_said_74 : decode cX9_said 74 = .ok (.iload 4, 2) := by decide +kernel
theorem dX9_said_76 : decode cX9_said 76 = .ok (.iload_n 1, 1) := by decide +kernel
theorem dX9_said_77 : decode cX9_said 77 = .ok (.iastore, 1) := by decide +kernel
theorem dX9_said_78 : decode cX9_said 78 = .ok (.aload_n 0, 1) := by decide +kernel
theorem dX9_said_79 : decode cX9_said 79 = .ok (.getfield 7, 3) := by decide +kernel
theorem dX9_said_82 : decode cX9_said 82 = .ok (.iload 4, 2) := by decide +kernel
theorem dX9_said_84 : decode cX9_said 84 = .ok (.iconst 1, 1) := by decide +kernel
theorem dX9_said_85 : decode cX9_said 85 = .ok (.iadd, 1) := by decide +kernel
theorem dX9_said_86 : decode cX9_said 86 = .ok (.iload_n 2, 1) := by decide +kernel
theorem dX9_said_87 : decode cX9_said 87 = .ok (.iastore, 1) := by decide +kernel
theorem dX9_said_88 : decode cX9_said 88 = .ok (.aload_n 0, 1) := by decide +kernel
theorem dX9_said_89 : decode cX9_said 89 = .ok (.getfield 7, 3) := by decide +kernel
theorem dX9_said_92 : decode cX9_said 92 = .ok (.iload 4, 2) := by decide +kernel
theorem dX9_said_94 : decode cX9_said 94 = .ok (.iconst 2, 1) := by decide +kernel
theorem dX9_said_95 : decode cX9_said 95 = .ok (.iadd, 1) := by decide +kernel
theorem dX9_said_96 : decode cX9_said 96 = .ok (.iload_n 3, 1) := by decide +kernel
theorem dX9_said_97 : decode cX9_said 97 = .ok (.iastore, 1) := by decide +kernel
theorem dX9_said_98 : decode cX9_said 98 = .ok (.aload_n 0, 1) := by decide +kernel
theorem dX9_said_99 : decode cX9_said 99 = .ok (.getfield 7, 3) := by decide +kernel
theorem dX9_said_102 : decode cX9_said 102 = .ok (.bipush 7, 2) := by decide +kernel
theorem dX9_said_104 : decode cX9_said 104 = .ok (.dup2, 1) := by decide +kernel
theorem dX9_said_105 : decode cX9_said 105 = .ok (.iaload, 1) := by decide +kernel
theorem dX9_said_106 : decode cX9_said 106 = .ok (.iconst 1, 1) := by decide +kernel
theorem dX9_said_107 : decode cX9_said 107 = .ok (.iadd, 1) := by decide +kernel
theorem dX9_said_108 : decode cX9_said 108 = .ok (.iastore, 1) := by decide +kernel
theorem dX9_said_109 : decode cX9_said 109 = .ok (.aload_n 0, 1) := by decide +kernel
theorem dX9_said_110 : decode cX9_said 110 = .ok (.getfield 7, 3) := by decide +kernel
theorem dX9_said_113 : decode cX9_said 113 = .ok (.bipush 7, 2) := by decide +kernel
theorem dX9_said_115 : decode cX9_said 115 = .ok (.iaload, 1) := by decide +kernel
theorem dX9_said_116 : decode cX9_said 116 = .ok (.ireturn, 1) := by decide +kernel
theorem dX9_whose_0 : decode cX9_whose 0 = .ok (.iconst 0, 1) := by decide +kernel
theorem dX9_whose_1 : decode cX9_whose 1 = .ok (.istore_n 1, 1) := by decide +kernel
theorem dX9_whose_2 : decode cX9_whose 2 = .ok (.iconst 0, 1) := by decide +kernel
theorem dX9_whose_3 : decode cX9_whose 3 = .ok (.istore_n 2, 1) := by decide +kernel
theorem dX9_whose_4 : decode cX9_whose 4 = .ok (.iload_n 2, 1) := by decide +kernel
theorem dX9_whose_5 : decode cX9_whose 5 = .ok (.aload_n 0, 1) := by decide +kernel
theorem dX9_whose_6 : decode cX9_whose 6 = .ok (.getfield 7, 3) := by decide +kernel
theorem dX9_whose_9 : decode cX9_whose 9 = .ok (.iconst 2, 1) := by decide +kernel
theorem dX9_whose_10 : decode cX9_whose 10 = .ok (.iaload, 1) := by decide +kernel
theorem dX9_whose_11 : decode cX9_whose 11 = .ok (.if_icmp .ge 95, 3) := by decide +kernel
theorem dX9_whose_14 : decode cX9_whose 14 = .ok (.iconst 1, 1) := by decide +kernel
theorem dX9_whose_15 : decode cX9_whose 15 = .ok (.istore_n 3, 1) := by decide +kernel
theorem dX9_whose_16 : decode cX9_whose 16 = .ok (.bipush 59, 2) := by decide +kernel
theorem dX9_whose_18 : decode cX9_whose 18 = .ok (.istore 4, 2) := by decide +kernel
theorem dX9_whose_20 : decode cX9_whose 20 = .ok (.iload 4, 2) := by decide +kernel
theorem dX9_whose_22 : decode cX9_whose 22 = .ok (.bipush 59, 2) := by decide +kernel
theorem dX9_whose_24 : decode cX9_whose 24 = .ok (.iconst 3, 1) := by decide +kernel
theorem dX9_whose_25 : decode cX9_whose 25 = .ok (.aload_n 0, 1) := by decide +kernel
theorem dX9_whose_26 : decode cX9_whose 26 = .ok (.getfield 7, 3) := by decide +kernel
theorem dX9_whose_29 : decode cX9_whose 29 = .ok (.bipush 7, 2) := by decide +kernel
theorem dX9_whose_31 : decode cX9_whose 31 = .ok (.iaload, 1) := by decide +kernel
theorem dX9_whose_32 : decode cX9_whose 32 = .ok (.imul, 1) := by decide +kernel
theorem dX9_whose_33 : decode cX9_whose 33 = .ok (.iadd, 1) := by decide +kernel
theorem dX9_whose_34 : decode cX9_whose 34 = .ok (.if_icmp .ge 52, 3) := by decide +kernel
theorem dX9_whose_37 : decode cX9_whose 37 = .ok (.iload_n 3, 1) := by decide +kernel
theorem dX9_whose_38 : decode cX9_whose 38 = .ok (.ifCond .eq 40, 3) := by decide +kernel
theorem dX9_whose_41 : decode cX9_whose 41 = .ok (.aload_n 0, 1) := by decide +kernel
theorem dX9_whose_42 : decode cX9_whose 42 = .ok (.iload_n 2, 1) := by decide +kernel
theorem dX9_whose_43 : decode cX9_whose 43 = .ok (.aload_n 0, 1) := by decide +kernel
theorem dX9_whose_44 : decode cX9_whose 44 = .ok (.getfield 7, 3) := by decide +kernel
theorem dX9_whose_47 : decode cX9_whose 47 = .ok (.iload 4, 2) := by decide +kernel
theorem dX9_whose_49 : decode cX9_whose 49 = .ok (.iaload, 1) := by decide +kernel
theorem dX9_whose_50 : decode cX9_whose 50 = .ok (.aload_n 0, 1) := by decide +kernel
theorem dX9_whose_51 : decode cX9_whose 51 = .ok (.getfield 7, 3) := by decide +kernel
theorem dX9_whose_54 : decode cX9_whose 54 = .ok (.iload 4, 2) := by decide +kernel
theorem dX9_whose_56 : decode cX9_whose 56 = .ok (.iconst 1, 1) := by decide +kernel
theorem dX9_whose_57 : decode cX9_whose 57 = .ok (.iadd, 1) := by decide +kernel
theorem dX9_whose_58 : decode cX9_whose 58 = .ok (.iaload, 1) := by decide +kernel
theorem dX9_whose_59 : decode cX9_whose 59 = .ok (.invokevirtual 323, 3) := by decide +kernel
theorem dX9_whose_62 : decode cX9_whose 62 = .ok (.aload_n 0, 1) := by decide +kernel
theorem dX9_whose_63 : decode cX9_whose 63 = .ok (.getfield 7, 3) := by decide +kernel
theorem dX9_whose_66 : decode cX9_whose 66 = .ok (.iload 4, 2) := by decide +kernel
theorem dX9_whose_68 : decode cX9_whose 68 = .ok (.iconst 2, 1) := by decide +kernel
theorem dX9_whose_69 : decode cX9_whose 69 = .ok (.iadd, 1) := by decide +kernel
theorem dX9_whose_70 : decode cX9_whose 70 = .ok (.iaload, 1) := by decide +kernel
theorem dX9_whose_71 : decode cX9_whose 71 = .ok (.if_icmp .ne 7, 3) := by decide +kernel
theorem dX9_whose_74 : decode cX9_whose 74 = .ok (.iconst 1, 1) := by decide +kernel
theorem dX9_whose_75 : decode cX9_whose 75 = .ok (.goto 4, 3) := by decide +kernel
theorem dX9_whose_78 : decode cX9_whose 78 = .ok (.iconst 0, 1) := by decide +kernel
theorem dX9_whose_79 : decode cX9_whose 79 = .ok (.istore_n 3, 1) := by decide +kernel
theorem dX9_whose_80 : decode cX9_whose 80 = .ok (.iinc 4 3, 3) := by decide +kernel
theorem dX9_whose_83 : decode cX9_whose 83 = .ok (.goto (-63), 3) := by decide +kernel
theorem dX9_whose_86 : decode cX9_whose 86 = .ok (.iload_n 1, 1) := by decide +kernel
theorem dX9_whose_87 : decode cX9_whose 87 = .ok (.iload_n 3, 1) := by decide +kernel
theorem dX9_whose_88 : decode cX9_whose 88 = .ok (.ifCond .eq 9, 3) := by decide +kernel
theorem dX9_whose_91 : decode cX9_whose 91 = .ok (.iconst 1, 1) := by decide +kernel
theorem dX9_whose_92 : decode cX9_whose 92 = .ok (.iload_n 2, 1) := by decide +kernel
theorem dX9_whose_93 : decode cX9_whose 93 = .ok (.ishl, 1) := by decide +kernel
theorem dX9_whose_94 : decode cX9_whose 94 = .ok (.goto 4, 3) := by decide +kernel
theorem dX9_whose_97 : decode cX9_whose 97 = .ok (.iconst 0, 1) := by decide +kernel
theorem dX9_whose_98 : decode cX9_whose 98 = .ok (.ior, 1) := by decide +kernel
theorem dX9_whose_99 : decode cX9_whose 99 = .ok (.istore_n 1, 1) := by decide +kernel
theorem dX9_whose_100 : decode cX9_whose 100 = .ok (.iinc 2 1, 3) := by decide +kernel
theorem dX9_whose_103 : decode cX9_whose 103 = .ok (.goto (-99), 3) := by decide +kernel
theorem dX9_whose_106 : decode cX9_whose 106 = .ok (.iload_n 1, 1) := by decide +kernel
theorem dX9_whose_107 : decode cX9_whose 107 = .ok (.ireturn, 1) := by decide +kernel
theorem dX9_image_0 : decode cX9_image 0 = .ok (.aload_n 0, 1) := by decide +kernel
theorem dX9_image_1 : decode cX9_image 1 = .ok (.getfield 7, 3) := by decide +kernel
theorem dX9_image_4 : decode cX9_image 4 = .ok (.aload_n 0, 1) := by decide +kernel
theorem dX9_image_5 : decode cX9_image 5 = .ok (.getfield 13, 3) := by decide +kernel
theorem dX9_image_8 : decode cX9_image 8 = .ok (.invokestatic 65, 3) := by decide +kernel
theorem dX9_image_11 : decode cX9_image 11 = .ok (.aload_n 0, 1) := by decide +kernel
theorem dX9_image_12 : decode cX9_image 12 = .ok (.getfield 7, 3) := by decide +kernel
theorem dX9_image_15 : decode cX9_image 15 = .ok (.bipush 8, 2) := by decide +kernel
theorem dX9_image_17 : decode cX9_image 17 = .ok (.iaload, 1) := by decide +kernel
theorem dX9_image_18 : decode cX9_image 18 = .ok (.ireturn, 1) := by decide +kernel
theorem dX9_back_0 : decode cX9_back 0 = .ok (.aload_n 0, 1) := by decide +kernel
theorem dX9_back_1 : decode cX9_back 1 = .ok (.getfield 13, 3) := by decide +kernel
theorem dX9_back_4 : decode cX9_back 4 = .ok (.aload_n 0, 1) := by decide +kernel
theorem dX9_back_5 : decode cX9_back 5 = .ok (.getfield 7, 3) := by decide +kernel
theorem dX9_back_8 : decode cX9_back 8 = .ok (.invokestatic 65, 3) := by decide +kernel
theorem dX9_back_11 : decode cX9_back 11 = .ok (.aload_n 0, 1) := by decide +kernel
theorem dX9_back_12 : decode cX9_back 12 = .ok (.getfield 7, 3) := by decide +kernel
theorem dX9_back_15 : decode cX9_back 15 = .ok (.bipush 8, 2) := by decide +kernel
theorem dX9_back_17 : decode cX9_back 17 = .ok (.iaload, 1) := by decide +kernel
theorem dX9_back_18 : decode cX9_back 18 = .ok (.ireturn, 1) := by decide +kernel
theorem dX9_about_0 : decode cX9_about 0 = .ok (.iload_n 1, 1) := by decide +kernel
theorem dX9_about_1 : decode cX9_about 1 = .ok (.iconst 0, 1) := by decide +kernel
theorem dX9_about_2 : decode cX9_about 2 = .ok (.bipush 7, 2) := by decide +kernel
theorem dX9_about_4 : decode cX9_about 4 = .ok (.invokestatic 69, 3) := by decide +kernel
theorem dX9_about_7 : decode cX9_about 7 = .ok (.ifCond .eq 12, 3) := by decide +kernel
theorem dX9_about_10 : decode cX9_about 10 = .ok (.aload_n 0, 1) := by decide +kernel
theorem dX9_about_11 : decode cX9_about 11 = .ok (.getfield 7, 3) := by decide +kernel
theorem dX9_about_14 : decode cX9_about 14 = .ok (.iload_n 1, 1) := by decide +kernel
theorem dX9_about_15 : decode cX9_about 15 = .ok (.iaload, 1) := by decide +kernel
theorem dX9_about_16 : decode cX9_about 16 = .ok (.goto 18, 3) := by decide +kernel
theorem dX9_about_19 : decode cX9_about 19 = .ok (.iload_n 1, 1) := by decide +kernel
theorem dX9_about_20 : decode cX9_about 20 = .ok (.bipush 8, 2) := by decide +kernel
theorem dX9_about_22 : decode cX9_about 22 = .ok (.if_icmp .ne 10, 3) := by decide +kernel
theorem dX9_about_25 : decode cX9_about 25 = .ok (.aload_n 0, 1) := by decide +kernel
theorem dX9_about_26 : decode cX9_about 26 = .ok (.getfield 85, 3) := by decide +kernel
theorem dX9_about_29 : decode cX9_about 29 = .ok (.goto 5, 3) := by decide +kernel
theorem dX9_about_32 : decode cX9_about 32 = .ok (.bipush (-2), 2) := by decide +kernel
theorem dX9_about_34 : decode cX9_about 34 = .ok (.ireturn, 1) := by decide +kernel
