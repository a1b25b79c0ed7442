theorem dX9_thrown_0 : decode cX9_thrown 0 = .ok (.aload_n 0, 1) := by decide +kernel
theorem dX9_thrown_1 : decode cX9_thrown 1 = .ok (.getfield 3, 3) := by decide +kernel
theorem dX9_thrown_4 : decode cX9_thrown 4 = .ok (.ireturn, 1) := by decide +kernel
theorem dX9_in_0 : decode cX9_in 0 = .ok (.lload_n 0, 1) := by decide +kernel
theorem dX9_in_1 : decode cX9_in 1 = .ok (.lload_n 2, 1) := by decide +kernel
theorem dX9_in_2 : decode cX9_in 2 = .ok (.lcmp, 1) := by decide +kernel
theorem dX9_in_3 : decode cX9_in 3 = .ok (.ifCond .lt 14, 3) := by decide +kernel
theorem dX9_in_6 : decode cX9_in 6 = .ok (.lload_n 0, 1) := by decide +kernel
theorem dX9_in_7 : decode cX9_in 7 = .ok (.lload 4, 2) := by decide +kernel
theorem dX9_in_9 : decode cX9_in 9 = .ok (.lcmp, 1) := by decide +kernel
theorem dX9_in_10 : decode cX9_in 10 = .ok (.ifCond .gt 7, 3) := by decide +kernel
theorem dX9_in_13 : decode cX9_in 13 = .ok (.iconst 1, 1) := by decide +kernel
theorem dX9_in_14 : decode cX9_in 14 = .ok (.goto 4, 3) := by decide +kernel
theorem dX9_in_17 : decode cX9_in 17 = .ok (.iconst 0, 1) := by decide +kernel
theorem dX9_in_18 : decode cX9_in 18 = .ok (.ireturn, 1) := by decide +kernel
theorem dX9_fails_0 : decode cX9_fails 0 = .ok (.aload_n 0, 1) := by decide +kernel
theorem dX9_fails_1 : decode cX9_fails 1 = .ok (.iload_n 1, 1) := by decide +kernel
theorem dX9_fails_2 : decode cX9_fails 2 = .ok (.putfield 3, 3) := by decide +kernel
theorem dX9_fails_5 : decode cX9_fails 5 = .ok (.iconst 0, 1) := by decide +kernel
theorem dX9_fails_6 : decode cX9_fails 6 = .ok (.ireturn, 1) := by decide +kernel
theorem dX9_init_0 : decode cX9_init 0 = .ok (.aload_n 0, 1) := by decide +kernel
theorem dX9_init_1 : decode cX9_init 1 = .ok (.invokespecial 7, 3) := by decide +kernel
theorem dX9_init_4 : decode cX9_init 4 = .ok (.aload_n 0, 1) := by decide +kernel
theorem dX9_init_5 : decode cX9_init 5 = .ok (.iconst 0, 1) := by decide +kernel
theorem dX9_init_6 : decode cX9_init 6 = .ok (.putfield 3, 3) := by decide +kernel
theorem dX9_init_9 : decode cX9_init 9 = .ok (.aload_n 0, 1) := by decide +kernel
theorem dX9_init_10 : decode cX9_init 10 = .ok (.sipush 2058, 3) := by decide +kernel
theorem dX9_init_13 : decode cX9_init 13 = .ok (.newarray .long, 2) := by decide +kernel
theorem dX9_init_15 : decode cX9_init 15 = .ok (.putfield 13, 3) := by decide +kernel
theorem dX9_init_18 : decode cX9_init 18 = .ok (.aload_n 0, 1) := by decide +kernel
theorem dX9_init_19 : decode cX9_init 19 = .ok (.sipush 2058, 3) := by decide +kernel
theorem dX9_init_22 : decode cX9_init 22 = .ok (.newarray .long, 2) := by decide +kernel
theorem dX9_init_24 : decode cX9_init 24 = .ok (.putfield 17, 3) := by decide +kernel
theorem dX9_init_27 : decode cX9_init 27 = .ok (.aload_n 0, 1) := by decide +kernel
theorem dX9_init_28 : decode cX9_init 28 = .ok (.sipush 1800, 3) := by decide +kernel
theorem dX9_init_31 : decode cX9_init 31 = .ok (.newarray .int, 2) := by decide +kernel
theorem dX9_init_33 : decode cX9_init 33 = .ok (.putfield 20, 3) := by decide +kernel
theorem dX9_init_36 : decode cX9_init 36 = .ok (.aload_n 0, 1) := by decide +kernel
theorem dX9_init_37 : decode cX9_init 37 = .ok (.bipush 6, 2) := by decide +kernel
theorem dX9_init_39 : decode cX9_init 39 = .ok (.newarray .int, 2) := by decide +kernel
theorem dX9_init_41 : decode cX9_init 41 = .ok (.putfield 24, 3) := by decide +kernel
theorem dX9_init_44 : decode cX9_init 44 = .ok (.aload_n 0, 1) := by decide +kernel
theorem dX9_init_45 : decode cX9_init 45 = .ok (.bipush 6, 2) := by decide +kernel
theorem dX9_init_47 : decode cX9_init 47 = .ok (.newarray .int, 2) := by decide +kernel
theorem dX9_init_49 : decode cX9_init 49 = .ok (.putfield 27, 3) := by decide +kernel
theorem dX9_init_52 : decode cX9_init 52 = .ok (.aload_n 0, 1) := by decide +kernel
theorem dX9_init_53 : decode cX9_init 53 = .ok (.sipush 1800, 3) := by decide +kernel
theorem dX9_init_56 : decode cX9_init 56 = .ok (.newarray .int, 2) := by decide +kernel
theorem dX9_init_58 : decode cX9_init 58 = .ok (.putfield 30, 3) := by decide +kernel
theorem dX9_init_61 : decode cX9_init 61 = .ok (.aload_n 0, 1) := by decide +kernel
theorem dX9_init_62 : decode cX9_init 62 = .ok (.bipush 6, 2) := by decide +kernel
theorem dX9_init_64 : decode cX9_init 64 = .ok (.newarray .int, 2) := by decide +kernel
theorem dX9_init_66 : decode cX9_init 66 = .ok (.putfield 33, 3) := by decide +kernel
theorem dX9_init_69 : decode cX9_init 69 = .ok (.aload_n 0, 1) := by decide +kernel
theorem dX9_init_70 : decode cX9_init 70 = .ok (.bipush 6, 2) := by decide +kernel
theorem dX9_init_72 : decode cX9_init 72 = .ok (.newarray .int, 2) := by decide +kernel
theorem dX9_init_74 : decode cX9_init 74 = .ok (.putfield 36, 3) := by decide +kernel
theorem dX9_init_77 : decode cX9_init 77 = .ok (.aload_n 0, 1) := by decide +kernel
theorem dX9_init_78 : decode cX9_init 78 = .ok (.iconst 0, 1) := by decide +kernel
theorem dX9_init_79 : decode cX9_init 79 = .ok (.putfield 39, 3) := by decide +kernel
theorem dX9_init_82 : decode cX9_init 82 = .ok (.aload_n 0, 1) := by decide +kernel
theorem dX9_init_83 : decode cX9_init 83 = .ok (.iconst 0, 1) := by decide +kernel
theorem dX9_init_84 : decode cX9_init 84 = .ok (.putfield 42, 3) := by decide +kernel
theorem dX9_init_87 : decode cX9_init 87 = .ok (.aload_n 0, 1) := by decide +kernel
theorem dX9_init_88 : decode cX9_init 88 = .ok (.iconst 0, 1) := by decide +kernel
theorem dX9_init_89 : decode cX9_init 89 = .ok (.putfield 45, 3) := by decide +kernel
theorem dX9_init_92 : decode cX9_init 92 = .ok (.aload_n 0, 1) := by decide +kernel
theorem dX9_init_93 : decode cX9_init 93 = .ok (.iconst 0, 1) := by decide +kernel
theorem dX9_init_94 : decode cX9_init 94 = .ok (.putfield 48, 3) := by decide +kernel
theorem dX9_init_97 : decode cX9_init 97 = .ok (.aload_n 0, 1) := by decide +kernel
theorem dX9_init_98 : decode cX9_init 98 = .ok (.iconst (-1), 1) := by decide +kernel
theorem dX9_init_99 : decode cX9_init 99 = .ok (.putfield 51, 3) := by decide +kernel
theorem dX9_init_102 : decode cX9_init 102 = .ok (.aload_n 0, 1) := by decide +kernel
theorem dX9_init_103 : decode cX9_init 103 = .ok (.iconst 0, 1) := by decide +kernel
theorem dX9_init_104 : decode cX9_init 104 = .ok (.putfield 54, 3) := by decide +kernel
theorem dX9_init_107 : decode cX9_init 107 = .ok (.aload_n 0, 1) := by decide +kernel
theorem dX9_init_108 : decode cX9_init 108 = .ok (.iconst 0, 1) := by decide +kernel
theorem dX9_init_109 : decode cX9_init 109 = .ok (.putfield 57, 3) := by decide +kernel
theorem dX9_init_112 : decode cX9_init 112 = .ok (.aload_n 0, 1) := by decide +kernel
theorem dX9_init_113 : decode cX9_init 113 = .ok (.iconst 0, 1) := by decide +kernel
theorem dX9_init_114 : decode cX9_init 114 = .ok (.putfield 60, 3) := by decide +kernel
theorem dX9_init_117 : decode cX9_init 117 = .ok (.aload_n 0, 1) := by decide +kernel
theorem dX9_init_118 : decode cX9_init 118 = .ok (.bipush 6, 2) := by decide +kernel
theorem dX9_init_120 : decode cX9_init 120 = .ok (.newarray .long, 2) := by decide +kernel
theorem dX9_init_122 : decode cX9_init 122 = .ok (.putfield 64, 3) := by decide +kernel
theorem dX9_init_125 : decode cX9_init 125 = .ok (.aload_n 0, 1) := by decide +kernel
theorem dX9_init_126 : decode cX9_init 126 = .ok (.bipush 6, 2) := by decide +kernel
theorem dX9_init_128 : decode cX9_init 128 = .ok (.newarray .boolean, 2) := by decide +kernel
theorem dX9_init_130 : decode cX9_init 130 = .ok (.putfield 67, 3) := by decide +kernel
theorem dX9_init_133 : decode cX9_init 133 = .ok (.aload_n 0, 1) := by decide +kernel
theorem dX9_init_134 : decode cX9_init 134 = .ok (.bipush 60, 2) := by decide +kernel
theorem dX9_init_136 : decode cX9_init 136 = .ok (.newarray .int, 2) := by decide +kernel
theorem dX9_init_138 : decode cX9_init 138 = .ok (.putfield 71, 3) := by decide +kernel
theorem dX9_init_141 : decode cX9_init 141 = .ok (.aload_n 0, 1) := by decide +kernel
theorem dX9_init_142 : decode cX9_init 142 = .ok (.iconst 0, 1) := by decide +kernel
theorem dX9_init_143 : decode cX9_init 143 = .ok (.putfield 74, 3) := by decide +kernel
theorem dX9_init_146 : decode cX9_init 146 = .ok (.aload_n 0, 1) := by decide +kernel
theorem dX9_init_147 : decode cX9_init 147 = .ok (.iconst 0, 1) := by decide +kernel
theorem dX9_init_148 : decode cX9_init 148 = .ok (.putfield 77, 3) := by decide +kernel
theorem dX9_init_151 : decode cX9_init 151 = .ok (.aload_n 0, 1) := by decide +kernel
theorem dX9_init_152 : decode cX9_init 152 = .ok (.iconst 0, 1) := by decide +kernel
theorem dX9_init_153 : decode cX9_init 153 = .ok (.putfield 80, 3) := by decide +kernel
theorem dX9_init_156 : decode cX9_init 156 = .ok (.aload_n 0, 1) := by decide +kernel
theorem dX9_init_157 : decode cX9_init 157 = .ok (.iconst 4, 1) := by decide +kernel
theorem dX9_init_158 : decode cX9_init 158 = .ok (.newarray .int, 2) := by decide +kernel
theorem dX9_init_160 : decode cX9_init 160 = .ok (.putfield 83, 3) := by decide +kernel
theorem dX9_init_163 : decode cX9_init 163 = .ok (.iconst 1, 1) := by decide +kernel
theorem dX9_init_164 : decode cX9_init 164 = .ok (.istore_n 1, 1) := by decide +kernel
theorem dX9_init_165 : decode cX9_init 165 = .ok (.iload_n 1, 1) := by decide +kernel
theorem dX9_init_166 : decode cX9_init 166 = .ok (.bipush 6, 2) := by decide +kernel
theorem dX9_init_168 : decode cX9_init 168 = .ok (.if_icmp .ge 16, 3) := by decide +kernel
theorem dX9_init_171 : decode cX9_init 171 = .ok (.aload_n 0, 1) := by decide +kernel
theorem dX9_init_172 : decode cX9_init 172 = .ok (.getfield 24, 3) := by decide +kernel
theorem dX9_init_175 : decode cX9_init 175 = .ok (.iload_n 1, 1) := by decide +kernel
theorem dX9_init_176 : decode cX9_init 176 = .ok (.iconst (-1), 1) := by decide +kernel
theorem dX9_init_177 : decode cX9_init 177 = .ok (.iastore, 1) := by decide +kernel
theorem dX9_init_178 : decode cX9_init 178 = .ok (.iinc 1 1, 3) := by decide +kernel
theorem dX9_init_181 : decode cX9_init 181 = .ok (.goto (-16), 3) := by decide +kernel
theorem dX9_init_184 : decode cX9_init 184 = .ok (.aload_n 0, 1) := by decide +kernel
theorem dX9_init_185 : decode cX9_init 185 = .ok (.getfield 27, 3) := by decide +kernel
theorem dX9_init_188 : decode cX9_init 188 = .ok (.iconst 0, 1) := by decide +kernel
theorem dX9_init_189 : decode cX9_init 189 = .ok (.iconst (-1), 1) := by decide +kernel
theorem dX9_init_190 : decode cX9_init 190 = .ok (.iastore, 1) := by decide +kernel
theorem dX9_init_191 : decode cX9_init 191 = .ok (.return_, 1) := by decide +kernel
theorem dX9_p_0 : decode cX9_p 0 = .ok (.aload_n 0, 1) := by decide +kernel
theorem dX9_p_1 : decode cX9_p 1 = .ok (.getfield 13, 3) := by decide +kernel
theorem dX9_p_4 : decode cX9_p 4 = .ok (.aload_n 0, 1) := by decide +kernel
theorem dX9_p_5 : decode cX9_p 5 = .ok (.getfield 45, 3) := by decide +kernel
theorem dX9_p_8 : decode cX9_p 8 = .ok (.iload_n 1, 1) := by decide +kernel
theorem dX9_p_9 : decode cX9_p 9 = .ok (.iadd, 1) := by decide +kernel
theorem dX9_p_10 : decode cX9_p 10 = .ok (.laload, 1) := by decide +kernel
theorem dX9_p_11 : decode cX9_p 11 = .ok (.lreturn, 1) := by decide +kernel
theorem dX9_n_0 : decode cX9_n 0 = .ok (.aload_n 0, 1) := by decide +kernel
theorem dX9_n_1 : decode cX9_n 1 = .ok (.getfield 13, 3) := by decide +kernel
theorem dX9_n_4 : decode cX9_n 4 = .ok (.aload_n 0, 1) := by decide +kernel
theorem dX9_n_5 : decode cX9_n 5 = .ok (.getfield 45, 3) := by decide +kernel
theorem dX9_n_8 : decode cX9_n 8 = .ok (.iload_n 1, 1) := by decide +kernel
theorem dX9_n_9 : decode cX9_n 9 = .ok (.iadd, 1) := by decide +kernel
theorem dX9_n_10 : decode cX9_n 10 = .ok (.laload, 1) := by decide +kernel
theorem dX9_n_11 : decode cX9_n 11 = .ok (.l2i, 1) := by decide +kernel
theorem dX9_n_12 : decode cX9_n 12 = .ok (.ireturn, 1) := by decide +kernel
theorem dX9_puts_0 : decode cX9_puts 0 = .ok (.aload_n 0, 1) := by decide +kernel
theorem dX9_puts_1 : decode cX9_puts 1 = .ok (.getfield 13, 3) := by decide +kernel
theorem dX9_puts_4 : decode cX9_puts 4 = .ok (.aload_n 0, 1) := by decide +kernel
theorem dX9_puts_5 : decode cX9_puts 5 = .ok (.getfield 45, 3) := by decide +kernel
theorem dX9_puts_8 : decode cX9_puts 8 = .ok (.iload_n 1, 1) := by decide +kernel
theorem dX9_puts_9 : decode cX9_puts 9 = .ok (.iadd, 1) := by decide +kernel
theorem dX9_puts_10 : decode cX9_puts 10 = .ok (.lload_n 2, 1) := by decide +kernel
theorem dX9_puts_11 : decode cX9_puts 11 = .ok (.lastore, 1) := by decide +kernel
theorem dX9_puts_12 : decode cX9_puts 12 = .ok (.return_, 1) := by decide +kernel
theorem dX9_adds_0 : decode cX9_adds 0 = .ok (.aload_n 0, 1) := by decide +kernel
theorem dX9_adds_1 : decode cX9_adds 1 = .ok (.getfield 13, 3) := by decide +kernel
theorem dX9_adds_4 : decode cX9_adds 4 = .ok (.aload_n 0, 1) := by decide +kernel
theorem dX9_adds_5 : decode cX9_adds 5 = .ok (.getfield 45, 3) := by decide +kernel
theorem dX9_adds_8 : decode cX9_adds 8 = .ok (.iload_n 1, 1) := by decide +kernel
theorem dX9_adds_9 : decode cX9_adds 9 = .ok (.iadd, 1) := by decide +kernel
theorem dX9_adds_10 : decode cX9_adds 10 = .ok (.dup2, 1) := by decide +kernel
theorem dX9_adds_11 : decode cX9_adds 11 = .ok (.laload, 1) := by decide +kernel
theorem dX9_adds_12 : decode cX9_adds 12 = .ok (.lload_n 2, 1) := by decide +kernel
theorem dX9_adds_13 : decode cX9_adds 13 = .ok (.ladd, 1) := by decide +kernel
theorem dX9_adds_14 : decode cX9_adds 14 = .ok (.lastore, 1) := by decide +kernel
theorem dX9_adds_15 : decode cX9_adds 15 = .ok (.return_, 1) := by decide +kernel
theorem dX9_copies_0 : decode cX9_copies 0 = .ok (.iconst 0, 1) := by decide +kernel
theorem dX9_copies_1 : decode cX9_copies 1 = .ok (.istore_n 3, 1) := by decide +kernel
theorem dX9_copies_2 : decode cX9_copies 2 = .ok (.iload_n 3, 1) := by decide +kernel
theorem dX9_copies_3 : decode cX9_copies 3 = .ok (.sipush 147, 3) := by decide +kernel
theorem dX9_copies_6 : decode cX9_copies 6 = .ok (.if_icmp .ge 25, 3) := by decide +kernel
theorem dX9_copies_9 : decode cX9_copies 9 = .ok (.aload_n 0, 1) := by decide +kernel
theorem dX9_copies_10 : decode cX9_copies 10 = .ok (.getfield 13, 3) := by decide +kernel
theorem dX9_copies_13 : decode cX9_copies 13 = .ok (.iload_n 2, 1) := by decide +kernel
theorem dX9_copies_14 : decode cX9_copies 14 = .ok (.iload_n 3, 1) := by decide +kernel
theorem dX9_copies_15 : decode cX9_copies 15 = .ok (.iadd, 1) := by decide +kernel
theorem dX9_copies_16 : decode cX9_copies 16 = .ok (.aload_n 0, 1) := by decide +kernel
theorem dX9_copies_17 : decode cX9_copies 17 = .ok (.getfield 13, 3) := by decide +kernel
theorem dX9_copies_20 : decode cX9_copies 20 = .ok (.iload_n 1, 1) := by decide +kernel
theorem dX9_copies_21 : decode cX9_copies 21 = .ok (.iload_n 3, 1) := by decide +kernel
theorem dX9_copies_22 : decode cX9_copies 22 = .ok (.iadd, 1) := by decide +kernel
theorem dX9_copies_23 : decode cX9_copies 23 = .ok (.laload, 1) := by decide +kernel
theorem dX9_copies_24 : decode cX9_copies 24 = .ok (.lastore, 1) := by decide +kernel
theorem dX9_copies_25 : decode cX9_copies 25 = .ok (.iinc 3 1, 3) := by decide +kernel
theorem dX9_copies_28 : decode cX9_copies 28 = .ok (.goto (-26), 3) := by decide +kernel
theorem dX9_copies_31 : decode cX9_copies 31 = .ok (.return_, 1) := by decide +kernel
theorem dX9_planOf_0 : decode cX9_planOf 0 = .ok (.iconst 2, 1) := by decide +kernel
theorem dX9_planOf_1 : decode cX9_planOf 1 = .ok (.iload_n 0, 1) := by decide +kernel
theorem dX9_planOf_2 : decode cX9_planOf 2 = .ok (.imul, 1) := by decide +kernel
theorem dX9_planOf_3 : decode cX9_planOf 3 = .ok (.sipush 147, 3) := by decide +kernel
theorem dX9_planOf_6 : decode cX9_planOf 6 = .ok (.imul, 1) := by decide +kernel
theorem dX9_planOf_7 : decode cX9_planOf 7 = .ok (.ireturn, 1) := by decide +kernel
theorem dX9_startOf_0 : decode cX9_startOf 0 = .ok (.iconst 2, 1) := by decide +kernel
theorem dX9_startOf_1 : decode cX9_startOf 1 = .ok (.iload_n 0, 1) := by decide +kernel
theorem dX9_startOf_2 : decode cX9_startOf 2 = .ok (.imul, 1) := by decide +kernel
theorem dX9_startOf_3 : decode cX9_startOf 3 = .ok (.iconst 1, 1) := by decide +kernel
theorem dX9_startOf_4 : decode cX9_startOf 4 = .ok (.iadd, 1) := by decide +kernel
theorem dX9_startOf_5 : decode cX9_startOf 5 = .ok (.sipush 147, 3) := by decide +kernel
theorem dX9_startOf_8 : decode cX9_startOf 8 = .ok (.imul, 1) := by decide +kernel
theorem dX9_startOf_9 : decode cX9_startOf 9 = .ok (.ireturn, 1) := by decide +kernel
theorem dX9_isEnvelope_0 : decode cX9_isEnvelope 0 = .ok (.iload_n 1, 1) := by decide +kernel
theorem dX9_isEnvelope_1 : decode cX9_isEnvelope 1 = .ok (.i2l, 1) := by decide +kernel
theorem dX9_isEnvelope_2 : decode cX9_isEnvelope 2 = .ok (.lconst 0, 1) := by decide +kernel
theorem dX9_isEnvelope_3 : decode cX9_isEnvelope 3 = .ok (.aload_n 0, 1) := by decide +kernel
theorem dX9_isEnvelope_4 : decode cX9_isEnvelope 4 = .ok (.bipush 7, 2) := by decide +kernel
theorem dX9_isEnvelope_6 : decode cX9_isEnvelope 6 = .ok (.invokevirtual 86, 3) := by decide +kernel
theorem dX9_isEnvelope_9 : decode cX9_isEnvelope 9 = .ok (.iconst 1, 1) := by decide +kernel
theorem dX9_isEnvelope_10 : decode cX9_isEnvelope 10 = .ok (.isub, 1) := by decide +kernel
theorem dX9_isEnvelope_11 : decode cX9_isEnvelope 11 = .ok (.i2l, 1) := by decide +kernel
theorem dX9_isEnvelope_12 : decode cX9_isEnvelope 12 = .ok (.invokestatic 90, 3) := by decide +kernel
theorem dX9_isEnvelope_15 : decode cX9_isEnvelope 15 = .ok (.ireturn, 1) := by decide +kernel
theorem dX9_roomIn_0 : decode cX9_roomIn 0 = .ok (.aload_n 0, 1) := by decide +kernel
theorem dX9_roomIn_1 : decode cX9_roomIn 1 = .ok (.bipush 11, 2) := by decide +kernel
theorem dX9_roomIn_3 : decode cX9_roomIn 3 = .ok (.iconst 4, 1) := by decide +kernel
theorem dX9_roomIn_4 : decode cX9_roomIn 4 = .ok (.iload_n 1, 1) := by decide +kernel
theorem dX9_roomIn_5 : decode cX9_roomIn 5 = .ok (.imul, 1) := by decide +kernel
theorem dX9_roomIn_6 : decode cX9_roomIn 6 = .ok (.iadd, 1) := by decide +kernel
theorem dX9_roomIn_7 : decode cX9_roomIn 7 = .ok (.iconst 1, 1) := by decide +kernel
theorem dX9_roomIn_8 : decode cX9_roomIn 8 = .ok (.iadd, 1) := by decide +kernel
theorem dX9_roomIn_9 : decode cX9_roomIn 9 = .ok (.invokevirtual 94, 3) := by decide +kernel
theorem dX9_roomIn_12 : decode cX9_roomIn 12 = .ok (.lstore_n 2, 1) := by decide +kernel
theorem dX9_roomIn_13 : decode cX9_roomIn 13 = .ok (.lload_n 2, 1) := by decide +kernel
theorem dX9_roomIn_14 : decode cX9_roomIn 14 = .ok (.lconst 0, 1) := by decide +kernel
theorem dX9_roomIn_15 : decode cX9_roomIn 15 = .ok (.lcmp, 1) := by decide +kernel
theorem dX9_roomIn_16 : decode cX9_roomIn 16 = .ok (.ifCond .ge 9, 3) := by decide +kernel
theorem dX9_roomIn_19 : decode cX9_roomIn 19 = .ok (.ldc2_w 100, 3) := by decide +kernel
theorem dX9_roomIn_22 : decode cX9_roomIn 22 = .ok (.goto 19, 3) := by decide +kernel
theorem dX9_roomIn_25 : decode cX9_roomIn 25 = .ok (.lconst 0, 1) := by decide +kernel
theorem dX9_roomIn_26 : decode cX9_roomIn 26 = .ok (.lload_n 2, 1) := by decide +kernel
theorem dX9_roomIn_27 : decode cX9_roomIn 27 = .ok (.aload_n 0, 1) := by decide +kernel
theorem dX9_roomIn_28 : decode cX9_roomIn 28 = .ok (.bipush 11, 2) := by decide +kernel
theorem dX9_roomIn_30 : decode cX9_roomIn 30 = .ok (.iconst 4, 1) := by decide +kernel
theorem dX9_roomIn_31 : decode cX9_roomIn 31 = .ok (.iload_n 1, 1) := by decide +kernel
theorem dX9_roomIn_32 : decode cX9_roomIn 32 = .ok (.imul, 1) := by decide +kernel
theorem dX9_roomIn_33 : decode cX9_roomIn 33 = .ok (.iadd, 1) := by decide +kernel
theorem dX9_roomIn_34 : decode cX9_roomIn 34 = .ok (.invokevirtual 94, 3) := by decide +kernel
theorem dX9_roomIn_37 : decode cX9_roomIn 37 = .ok (.lsub, 1) := by decide +kernel
theorem dX9_roomIn_38 : decode cX9_roomIn 38 = .ok (.invokestatic 102, 3) := by decide +kernel
theorem dX9_roomIn_41 : decode cX9_roomIn 41 = .ok (.lreturn, 1) := by decide +kernel
theorem dX9_put_0 : decode cX9_put 0 = .ok (.lload_n 2, 1) := by decide +kernel
theorem dX9_put_1 : decode cX9_put 1 = .ok (.aload_n 0, 1) := by decide +kernel
theorem dX9_put_2 : decode cX9_put 2 = .ok (.iload_n 1, 1) := by decide +kernel
theorem dX9_put_3 : decode cX9_put 3 = .ok (.invokevirtual 108, 3) := by decide +kernel
theorem dX9_put_6 : decode cX9_put 6 = .ok (.invokestatic 111, 3) := by decide +kernel
theorem dX9_put_9 : decode cX9_put 9 = .ok (.lstore 4, 2) := by decide +kernel
theorem dX9_put_11 : decode cX9_put 11 = .ok (.aload_n 0, 1) := by decide +kernel
theorem dX9_put_12 : decode cX9_put 12 = .ok (.bipush 11, 2) := by decide +kernel
theorem dX9_put_14 : decode cX9_put 14 = .ok (.iconst 4, 1) := by decide +kernel
theorem dX9_put_15 : decode cX9_put 15 = .ok (.iload_n 1, 1) := by decide +kernel
theorem dX9_put_16 : decode cX9_put 16 = .ok (.imul, 1) := by decide +kernel
theorem dX9_put_17 : decode cX9_put 17 = .ok (.iadd, 1) := by decide +kernel
theorem dX9_put_18 : decode cX9_put 18 = .ok (.lload 4, 2) := by decide +kernel
theorem dX9_put_20 : decode cX9_put 20 = .ok (.invokevirtual 114, 3) := by decide +kernel
theorem dX9_put_23 : decode cX9_put 23 = .ok (.lload 4, 2) := by decide +kernel
theorem dX9_put_25 : decode cX9_put 25 = .ok (.lreturn, 1) := by decide +kernel
theorem dX9_shares_0 : decode cX9_shares 0 = .ok (.lconst 0, 1) := by decide +kernel
theorem dX9_shares_1 : decode cX9_shares 1 = .ok (.lstore 5, 2) := by decide +kernel
theorem dX9_shares_3 : decode cX9_shares 3 = .ok (.iload_n 1, 1) := by decide +kernel
theorem dX9_shares_4 : decode cX9_shares 4 = .ok (.istore 7, 2) := by decide +kernel
theorem dX9_shares_6 : decode cX9_shares 6 = .ok (.iload 7, 2) := by decide +kernel
theorem dX9_shares_8 : decode cX9_shares 8 = .ok (.iload_n 2, 1) := by decide +kernel
theorem dX9_shares_9 : decode cX9_shares 9 = .ok (.if_icmp .ge 27, 3) := by decide +kernel
theorem dX9_shares_12 : decode cX9_shares 12 = .ok (.lload 5, 2) := by decide +kernel
theorem dX9_shares_14 : decode cX9_shares 14 = .ok (.aload_n 0, 1) := by decide +kernel
theorem dX9_shares_15 : decode cX9_shares 15 = .ok (.bipush 51, 2) := by decide +kernel
theorem dX9_shares_17 : decode cX9_shares 17 = .ok (.iconst 3, 1) := by decide +kernel
theorem dX9_shares_18 : decode cX9_shares 18 = .ok (.iload 7, 2) := by decide +kernel
theorem dX9_shares_20 : decode cX9_shares 20 = .ok (.imul, 1) := by decide +kernel
theorem dX9_shares_21 : decode cX9_shares 21 = .ok (.iadd, 1) := by decide +kernel
theorem dX9_shares_22 : decode cX9_shares 22 = .ok (.iconst 2, 1) := by decide +kernel
theorem dX9_shares_23 : decode cX9_shares 23 = .ok (.iadd, 1) := by decide +kernel
theorem dX9_shares_24 : decode cX9_shares 24 = .ok (.invokevirtual 94, 3) := by decide +kernel
theorem dX9_shares_27 : decode cX9_shares 27 = .ok (.ladd, 1) := by decide +kernel
theorem dX9_shares_28 : decode cX9_shares 28 = .ok (.lstore 5, 2) := by decide +kernel
theorem dX9_shares_30 : decode cX9_shares 30 = .ok (.iinc 7 1, 3) := by decide +kernel
theorem dX9_shares_33 : decode cX9_shares 33 = .ok (.goto (-27), 3) := by decide +kernel
theorem dX9_shares_36 : decode cX9_shares 36 = .ok (.lload_n 3, 1) := by decide +kernel
theorem dX9_shares_37 : decode cX9_shares 37 = .ok (.lstore 7, 2) := by decide +kernel
theorem dX9_shares_39 : decode cX9_shares 39 = .ok (.iload_n 1, 1) := by decide +kernel
theorem dX9_shares_40 : decode cX9_shares 40 = .ok (.istore 9, 2) := by decide +kernel
theorem dX9_shares_42 : decode cX9_shares 42 = .ok (.iload 9, 2) := by decide +kernel
theorem dX9_shares_44 : decode cX9_shares 44 = .ok (.iload_n 2, 1) := by decide +kernel
theorem dX9_shares_45 : decode cX9_shares 45 = .ok (.if_icmp .ge 46, 3) := by decide +kernel
theorem dX9_shares_48 : decode cX9_shares 48 = .ok (.aload_n 0, 1) := by decide +kernel
theorem dX9_shares_49 : decode cX9_shares 49 = .ok (.getfield 64, 3) := by decide +kernel
theorem dX9_shares_52 : decode cX9_shares 52 = .ok (.iload 9, 2) := by decide +kernel
theorem dX9_shares_54 : decode cX9_shares 54 = .ok (.lload_n 3, 1) := by decide +kernel
theorem dX9_shares_55 : decode cX9_shares 55 = .ok (.aload_n 0, 1) := by decide +kernel
theorem dX9_shares_56 : decode cX9_shares 56 = .ok (.bipush 51, 2) := by decide +kernel
theorem dX9_shares_58 : decode cX9_shares 58 = .ok (.iconst 3, 1) := by decide +kernel
theorem dX9_shares_59 : decode cX9_shares 59 = .ok (.iload 9, 2) := by decide +kernel
theorem dX9_shares_61 : decode cX9_shares 61 = .ok (.imul, 1) := by decide +kernel
theorem dX9_shares_62 : decode cX9_shares 62 = .ok (.iadd, 1) := by decide +kernel
theorem dX9_shares_63 : decode cX9_shares 63 = .ok (.iconst 2, 1) := by decide +kernel
theorem dX9_shares_64 : decode cX9_shares 64 = .ok (.iadd, 1) := by decide +kernel
theorem dX9_shares_65 : decode cX9_shares 65 = .ok (.invokevirtual 94, 3) := by decide +kernel
theorem dX9_shares_68 : decode cX9_shares 68 = .ok (.lmul, 1) := by decide +kernel
theorem dX9_shares_69 : decode cX9_shares 69 = .ok (.lload 5, 2) := by decide +kernel
theorem dX9_shares_71 : decode cX9_shares 71 = .ok (.ldiv, 1) := by decide +kernel
theorem dX9_shares_72 : decode cX9_shares 72 = .ok (.lastore, 1) := by decide +kernel
theorem dX9_shares_73 : decode cX9_shares 73 = .ok (.lload 7, 2) := by decide +kernel
theorem dX9_shares_75 : decode cX9_shares 75 = .ok (.aload_n 0, 1) := by decide +kernel
theorem dX9_shares_76 : decode cX9_shares 76 = .ok (.getfield 64, 3) := by decide +kernel
theorem dX9_shares_79 : decode cX9_shares 79 = .ok (.iload 9, 2) := by decide +kernel
theorem dX9_shares_81 : decode cX9_shares 81 = .ok (.laload, 1) := by decide +kernel
theorem dX9_shares_82 : decode cX9_shares 82 = .ok (.lsub, 1) := by decide +kernel
theorem dX9_shares_83 : decode cX9_shares 83 = .ok (.lstore 7, 2) := by decide +kernel
theorem dX9_shares_85 : decode cX9_shares 85 = .ok (.iinc 9 1, 3) := by decide +kernel
theorem dX9_shares_88 : decode cX9_shares 88 = .ok (.goto (-46), 3) := by decide +kernel
theorem dX9_shares_91 : decode cX9_shares 91 = .ok (.lconst 0, 1) := by decide +kernel
theorem dX9_shares_92 : decode cX9_shares 92 = .ok (.lstore 9, 2) := by decide +kernel
theorem dX9_shares_94 : decode cX9_shares 94 = .ok (.iload_n 1, 1) := by decide +kernel
theorem dX9_shares_95 : decode cX9_shares 95 = .ok (.istore 11, 2) := by decide +kernel
theorem dX9_shares_97 : decode cX9_shares 97 = .ok (.iload 11, 2) := by decide +kernel
theorem dX9_shares_99 : decode cX9_shares 99 = .ok (.iload_n 2, 1) := by decide +kernel
theorem dX9_shares_100 : decode cX9_shares 100 = .ok (.if_icmp .ge 62, 3) := by decide +kernel
theorem dX9_shares_103 : decode cX9_shares 103 = .ok (.lload 7, 2) := by decide +kernel
theorem dX9_shares_105 : decode cX9_shares 105 = .ok (.lconst 0, 1) := by decide +kernel
theorem dX9_shares_106 : decode cX9_shares 106 = .ok (.lcmp, 1) := by decide +kernel
theorem dX9_shares_107 : decode cX9_shares 107 = .ok (.ifCond .le 7, 3) := by decide +kernel
theorem dX9_shares_110 : decode cX9_shares 110 = .ok (.lconst 1, 1) := by decide +kernel
theorem dX9_shares_111 : decode cX9_shares 111 = .ok (.goto 4, 3) := by decide +kernel
theorem dX9_shares_114 : decode cX9_shares 114 = .ok (.lconst 0, 1) := by decide +kernel
theorem dX9_shares_115 : decode cX9_shares 115 = .ok (.lstore 12, 2) := by decide +kernel
theorem dX9_shares_117 : decode cX9_shares 117 = .ok (.lload 7, 2) := by decide +kernel
theorem dX9_shares_119 : decode cX9_shares 119 = .ok (.lload 12, 2) := by decide +kernel
theorem dX9_shares_121 : decode cX9_shares 121 = .ok (.lsub, 1) := by decide +kernel
theorem dX9_shares_122 : decode cX9_shares 122 = .ok (.lstore 7, 2) := by decide +kernel
theorem dX9_shares_124 : decode cX9_shares 124 = .ok (.lload 9, 2) := by decide +kernel
theorem dX9_shares_126 : decode cX9_shares 126 = .ok (.aload_n 0, 1) := by decide +kernel
theorem dX9_shares_127 : decode cX9_shares 127 = .ok (.aload_n 0, 1) := by decide +kernel
theorem dX9_shares_128 : decode cX9_shares 128 = .ok (.bipush 51, 2) := by decide +kernel
theorem dX9_shares_130 : decode cX9_shares 130 = .ok (.iconst 3, 1) := by decide +kernel
theorem dX9_shares_131 : decode cX9_shares 131 = .ok (.iload 11, 2) := by decide +kernel
theorem dX9_shares_133 : decode cX9_shares 133 = .ok (.imul, 1) := by decide +kernel
theorem dX9_shares_134 : decode cX9_shares 134 = .ok (.iadd, 1) := by decide +kernel
theorem dX9_shares_135 : decode cX9_shares 135 = .ok (.iconst 1, 1) := by decide +kernel
theorem dX9_shares_136 : decode cX9_shares 136 = .ok (.iadd, 1) := by decide +kernel
theorem dX9_shares_137 : decode cX9_shares 137 = .ok (.invokevirtual 86, 3) := by decide +kernel
theorem dX9_shares_140 : decode cX9_shares 140 = .ok (.aload_n 0, 1) := by decide +kernel
theorem dX9_shares_141 : decode cX9_shares 141 = .ok (.getfield 64, 3) := by decide +kernel
theorem dX9_shares_144 : decode cX9_shares 144 = .ok (.iload 11, 2) := by decide +kernel
theorem dX9_shares_146 : decode cX9_shares 146 = .ok (.laload, 1) := by decide +kernel
theorem dX9_shares_147 : decode cX9_shares 147 = .ok (.lload 12, 2) := by decide +kernel
theorem dX9_shares_149 : decode cX9_shares 149 = .ok (.ladd, 1) := by decide +kernel
theorem dX9_shares_150 : decode cX9_shares 150 = .ok (.invokevirtual 118, 3) := by decide +kernel
theorem dX9_shares_153 : decode cX9_shares 153 = .ok (.ladd, 1) := by decide +kernel
theorem dX9_shares_154 : decode cX9_shares 154 = .ok (.lstore 9, 2) := by decide +kernel
theorem dX9_shares_156 : decode cX9_shares 156 = .ok (.iinc 11 1, 3) := by decide +kernel
theorem dX9_shares_159 : decode cX9_shares 159 = .ok (.goto (-62), 3) := by decide +kernel
theorem dX9_shares_162 : decode cX9_shares 162 = .ok (.lload_n 3, 1) := by decide +kernel
theorem dX9_shares_163 : decode cX9_shares 163 = .ok (.lload 9, 2) := by decide +kernel
theorem dX9_shares_165 : decode cX9_shares 165 = .ok (.lsub, 1) := by decide +kernel
theorem dX9_shares_166 : decode cX9_shares 166 = .ok (.lreturn, 1) := by decide +kernel
theorem dX9_receives_0 : decode cX9_receives 0 = .ok (.lload_n 1, 1) := by decide +kernel
theorem dX9_receives_1 : decode cX9_receives 1 = .ok (.lstore_n 3, 1) := by decide +kernel
theorem dX9_receives_2 : decode cX9_receives 2 = .ok (.iconst 0, 1) := by decide +kernel
theorem dX9_receives_3 : decode cX9_receives 3 = .ok (.istore 5, 2) := by decide +kernel
theorem dX9_receives_5 : decode cX9_receives 5 = .ok (.iload 5, 2) := by decide +kernel
theorem dX9_receives_7 : decode cX9_receives 7 = .ok (.aload_n 0, 1) := by decide +kernel
theorem dX9_receives_8 : decode cX9_receives 8 = .ok (.bipush 8, 2) := by decide +kernel
theorem dX9_receives_10 : decode cX9_receives 10 = .ok (.invokevirtual 86, 3) := by decide +kernel
theorem dX9_receives_13 : decode cX9_receives 13 = .ok (.if_icmp .ge 195, 3) := by decide +kernel
theorem dX9_receives_16 : decode cX9_receives 16 = .ok (.aload_n 0, 1) := by decide +kernel
theorem dX9_receives_17 : decode cX9_receives 17 = .ok (.bipush 51, 2) := by decide +kernel
theorem dX9_receives_19 : decode cX9_receives 19 = .ok (.iconst 3, 1) := by decide +kernel
theorem dX9_receives_20 : decode cX9_receives 20 = .ok (.iload 5, 2) := by decide +kernel
theorem dX9_receives_22 : decode cX9_receives 22 = .ok (.imul, 1) := by decide +kernel
theorem dX9_receives_23 : decode cX9_receives 23 = .ok (.iadd, 1) := by decide +kernel
theorem dX9_receives_24 : decode cX9_receives 24 = .ok (.invokevirtual 86, 3) := by decide +kernel
theorem dX9_receives_27 : decode cX9_receives 27 = .ok (.istore 6, 2) := by decide +kernel
theorem dX9_receives_29 : decode cX9_receives 29 = .ok (.aload_n 0, 1) := by decide +kernel
theorem dX9_receives_30 : decode cX9_receives 30 = .ok (.bipush 51, 2) := by decide +kernel
theorem dX9_receives_32 : decode cX9_receives 32 = .ok (.iconst 3, 1) := by decide +kernel
theorem dX9_receives_33 : decode cX9_receives 33 = .ok (.iload 5, 2) := by decide +kernel
theorem dX9_receives_35 : decode cX9_receives 35 = .ok (.imul, 1) := by decide +kernel
theorem dX9_receives_36 : decode cX9_receives 36 = .ok (.iadd, 1) := by decide +kernel
theorem dX9_receives_37 : decode cX9_receives 37 = .ok (.iconst 1, 1) := by decide +kernel
theorem dX9_receives_38 : decode cX9_receives 38 = .ok (.iadd, 1) := by decide +kernel
theorem dX9_receives_39 : decode cX9_receives 39 = .ok (.invokevirtual 86, 3) := by decide +kernel
theorem dX9_receives_42 : decode cX9_receives 42 = .ok (.istore 7, 2) := by decide +kernel
theorem dX9_receives_44 : decode cX9_receives 44 = .ok (.aload_n 0, 1) := by decide +kernel
theorem dX9_receives_45 : decode cX9_receives 45 = .ok (.bipush 51, 2) := by decide +kernel
theorem dX9_receives_47 : decode cX9_receives 47 = .ok (.iconst 3, 1) := by decide +kernel
theorem dX9_receives_48 : decode cX9_receives 48 = .ok (.iload 5, 2) := by decide +kernel
theorem dX9_receives_50 : decode cX9_receives 50 = .ok (.imul, 1) := by decide +kernel
theorem dX9_receives_51 : decode cX9_receives 51 = .ok (.iadd, 1) := by decide +kernel
theorem dX9_receives_52 : decode cX9_receives 52 = .ok (.iconst 2, 1) := by decide +kernel
theorem dX9_receives_53 : decode cX9_receives 53 = .ok (.iadd, 1) := by decide +kernel
theorem dX9_receives_54 : decode cX9_receives 54 = .ok (.invokevirtual 94, 3) := by decide +kernel
theorem dX9_receives_57 : decode cX9_receives 57 = .ok (.lstore 8, 2) := by decide +kernel
theorem dX9_receives_59 : decode cX9_receives 59 = .ok (.iload 6, 2) := by decide +kernel
theorem dX9_receives_61 : decode cX9_receives 61 = .ok (.iconst 4, 1) := by decide +kernel
theorem dX9_receives_62 : decode cX9_receives 62 = .ok (.if_icmp .ne 56, 3) := by decide +kernel
theorem dX9_receives_65 : decode cX9_receives 65 = .ok (.iload 5, 2) := by decide +kernel
theorem dX9_receives_67 : decode cX9_receives 67 = .ok (.istore 10, 2) := by decide +kernel
theorem dX9_receives_69 : decode cX9_receives 69 = .ok (.iload 10, 2) := by decide +kernel
theorem dX9_receives_71 : decode cX9_receives 71 = .ok (.aload_n 0, 1) := by decide +kernel
theorem dX9_receives_72 : decode cX9_receives 72 = .ok (.bipush 8, 2) := by decide +kernel
theorem dX9_receives_74 : decode cX9_receives 74 = .ok (.invokevirtual 86, 3) := by decide +kernel
theorem dX9_receives_77 : decode cX9_receives 77 = .ok (.if_icmp .ge 24, 3) := by decide +kernel
theorem dX9_receives_80 : decode cX9_receives 80 = .ok (.aload_n 0, 1) := by decide +kernel
theorem dX9_receives_81 : decode cX9_receives 81 = .ok (.bipush 51, 2) := by decide +kernel
theorem dX9_receives_83 : decode cX9_receives 83 = .ok (.iconst 3, 1) := by decide +kernel
theorem dX9_receives_84 : decode cX9_receives 84 = .ok (.iload 10, 2) := by decide +kernel
theorem dX9_receives_86 : decode cX9_receives 86 = .ok (.imul, 1) := by decide +kernel
theorem dX9_receives_87 : decode cX9_receives 87 = .ok (.iadd, 1) := by decide +kernel
theorem dX9_receives_88 : decode cX9_receives 88 = .ok (.invokevirtual 86, 3) := by decide +kernel
theorem dX9_receives_91 : decode cX9_receives 91 = .ok (.iconst 4, 1) := by decide +kernel
theorem dX9_receives_92 : decode cX9_receives 92 = .ok (.if_icmp .ne 9, 3) := by decide +kernel
theorem dX9_receives_95 : decode cX9_receives 95 = .ok (.iinc 10 1, 3) := by decide +kernel
theorem dX9_receives_98 : decode cX9_receives 98 = .ok (.goto (-29), 3) := by decide +kernel
theorem dX9_receives_101 : decode cX9_receives 101 = .ok (.aload_n 0, 1) := by decide +kernel
theorem dX9_receives_102 : decode cX9_receives 102 = .ok (.iload 5, 2) := by decide +kernel
theorem dX9_receives_104 : decode cX9_receives 104 = .ok (.iload 10, 2) := by decide +kernel
theorem dX9_receives_106 : decode cX9_receives 106 = .ok (.lload_n 3, 1) := by decide +kernel
theorem dX9_receives_107 : decode cX9_receives 107 = .ok (.invokevirtual 122, 3) := by decide +kernel
theorem dX9_receives_110 : decode cX9_receives 110 = .ok (.lstore_n 3, 1) := by decide +kernel
theorem dX9_receives_111 : decode cX9_receives 111 = .ok (.iload 10, 2) := by decide +kernel
theorem dX9_receives_113 : decode cX9_receives 113 = .ok (.istore 5, 2) := by decide +kernel
theorem dX9_receives_115 : decode cX9_receives 115 = .ok (.goto (-110), 3) := by decide +kernel
theorem dX9_receives_118 : decode cX9_receives 118 = .ok (.iload 6, 2) := by decide +kernel
theorem dX9_receives_120 : decode cX9_receives 120 = .ok (.ifCond .ne 8, 3) := by decide +kernel
theorem dX9_receives_123 : decode cX9_receives 123 = .ok (.lload 8, 2) := by decide +kernel
theorem dX9_receives_125 : decode cX9_receives 125 = .ok (.goto 60, 3) := by decide +kernel
theorem dX9_receives_128 : decode cX9_receives 128 = .ok (.iload 6, 2) := by decide +kernel
theorem dX9_receives_130 : decode cX9_receives 130 = .ok (.iconst 1, 1) := by decide +kernel
theorem dX9_receives_131 : decode cX9_receives 131 = .ok (.if_icmp .ne 14, 3) := by decide +kernel
theorem dX9_receives_134 : decode cX9_receives 134 = .ok (.lload_n 1, 1) := by decide +kernel
theorem dX9_receives_135 : decode cX9_receives 135 = .ok (.lload 8, 2) := by decide +kernel
theorem dX9_receives_137 : decode cX9_receives 137 = .ok (.lmul, 1) := by decide +kernel
theorem dX9_receives_138 : decode cX9_receives 138 = .ok (.ldc2_w 126, 3) := by decide +kernel
theorem dX9_receives_141 : decode cX9_receives 141 = .ok (.ldiv, 1) := by decide +kernel
theorem dX9_receives_142 : decode cX9_receives 142 = .ok (.goto 43, 3) := by decide +kernel
theorem dX9_receives_145 : decode cX9_receives 145 = .ok (.iload 6, 2) := by decide +kernel
theorem dX9_receives_147 : decode cX9_receives 147 = .ok (.iconst 2, 1) := by decide +kernel
theorem dX9_receives_148 : decode cX9_receives 148 = .ok (.if_icmp .ne 14, 3) := by decide +kernel
theorem dX9_receives_151 : decode cX9_receives 151 = .ok (.lload_n 3, 1) := by decide +kernel
theorem dX9_receives_152 : decode cX9_receives 152 = .ok (.lload 8, 2) := by decide +kernel
theorem dX9_receives_154 : decode cX9_receives 154 = .ok (.lmul, 1) := by decide +kernel
theorem dX9_receives_155 : decode cX9_receives 155 = .ok (.ldc2_w 126, 3) := by decide +kernel
theorem dX9_receives_158 : decode cX9_receives 158 = .ok (.ldiv, 1) := by decide +kernel
theorem dX9_receives_159 : decode cX9_receives 159 = .ok (.goto 26, 3) := by decide +kernel
theorem dX9_receives_162 : decode cX9_receives 162 = .ok (.aload_n 0, 1) := by decide +kernel
theorem dX9_receives_163 : decode cX9_receives 163 = .ok (.bipush 11, 2) := by decide +kernel
theorem dX9_receives_165 : decode cX9_receives 165 = .ok (.iconst 4, 1) := by decide +kernel
theorem dX9_receives_166 : decode cX9_receives 166 = .ok (.iload 7, 2) := by decide +kernel
theorem dX9_receives_168 : decode cX9_receives 168 = .ok (.imul, 1) := by decide +kernel
theorem dX9_receives_169 : decode cX9_receives 169 = .ok (.iadd, 1) := by decide +kernel
theorem dX9_receives_170 : decode cX9_receives 170 = .ok (.iconst 1, 1) := by decide +kernel
theorem dX9_receives_171 : decode cX9_receives 171 = .ok (.iadd, 1) := by decide +kernel
theorem dX9_receives_172 : decode cX9_receives 172 = .ok (.invokevirtual 94, 3) := by decide +kernel
theorem dX9_receives_175 : decode cX9_receives 175 = .ok (.lconst 0, 1) := by decide +kernel
theorem dX9_receives_176 : decode cX9_receives 176 = .ok (.lcmp, 1) := by decide +kernel
theorem dX9_receives_177 : decode cX9_receives 177 = .ok (.ifCond .ge 7, 3) := by decide +kernel
theorem dX9_receives_180 : decode cX9_receives 180 = .ok (.lconst 0, 1) := by decide +kernel
theorem dX9_receives_181 : decode cX9_receives 181 = .ok (.goto 4, 3) := by decide +kernel
theorem dX9_receives_184 : decode cX9_receives 184 = .ok (.lload_n 3, 1) := by decide +kernel
theorem dX9_receives_185 : decode cX9_receives 185 = .ok (.lstore 10, 2) := by decide +kernel
theorem dX9_receives_187 : decode cX9_receives 187 = .ok (.lload_n 3, 1) := by decide +kernel
theorem dX9_receives_188 : decode cX9_receives 188 = .ok (.aload_n 0, 1) := by decide +kernel
theorem dX9_receives_189 : decode cX9_receives 189 = .ok (.iload 7, 2) := by decide +kernel
theorem dX9_receives_191 : decode cX9_receives 191 = .ok (.lload_n 3, 1) := by decide +kernel
theorem dX9_receives_192 : decode cX9_receives 192 = .ok (.lload 10, 2) := by decide +kernel
theorem dX9_receives_194 : decode cX9_receives 194 = .ok (.invokestatic 111, 3) := by decide +kernel
theorem dX9_receives_197 : decode cX9_receives 197 = .ok (.invokevirtual 118, 3) := by decide +kernel
theorem dX9_receives_200 : decode cX9_receives 200 = .ok (.lsub, 1) := by decide +kernel
theorem dX9_receives_201 : decode cX9_receives 201 = .ok (.lstore_n 3, 1) := by decide +kernel
theorem dX9_receives_202 : decode cX9_receives 202 = .ok (.iinc 5 1, 3) := by decide +kernel
theorem dX9_receives_205 : decode cX9_receives 205 = .ok (.goto (-200), 3) := by decide +kernel
theorem dX9_receives_208 : decode cX9_receives 208 = .ok (.aload_n 0, 1) := by decide +kernel
theorem dX9_receives_209 : decode cX9_receives 209 = .ok (.iconst 0, 1) := by decide +kernel
theorem dX9_receives_210 : decode cX9_receives 210 = .ok (.lload_n 3, 1) := by decide +kernel
theorem dX9_receives_211 : decode cX9_receives 211 = .ok (.invokevirtual 114, 3) := by decide +kernel
theorem dX9_receives_214 : decode cX9_receives 214 = .ok (.aload_n 0, 1) := by decide +kernel
theorem dX9_receives_215 : decode cX9_receives 215 = .ok (.iconst 2, 1) := by decide +kernel
theorem dX9_receives_216 : decode cX9_receives 216 = .ok (.lload_n 1, 1) := by decide +kernel
theorem dX9_receives_217 : decode cX9_receives 217 = .ok (.invokevirtual 114, 3) := by decide +kernel
theorem dX9_receives_220 : decode cX9_receives 220 = .ok (.lload_n 3, 1) := by decide +kernel
theorem dX9_receives_221 : decode cX9_receives 221 = .ok (.lreturn, 1) := by decide +kernel
theorem dX9_maySpend_0 : decode cX9_maySpend 0 = .ok (.aload_n 0, 1) := by decide +kernel
theorem dX9_maySpend_1 : decode cX9_maySpend 1 = .ok (.bipush 11, 2) := by decide +kernel
theorem dX9_maySpend_3 : decode cX9_maySpend 3 = .ok (.iconst 4, 1) := by decide +kernel
theorem dX9_maySpend_4 : decode cX9_maySpend 4 = .ok (.iload_n 1, 1) := by decide +kernel
theorem dX9_maySpend_5 : decode cX9_maySpend 5 = .ok (.imul, 1) := by decide +kernel
theorem dX9_maySpend_6 : decode cX9_maySpend 6 = .ok (.iadd, 1) := by decide +kernel
theorem dX9_maySpend_7 : decode cX9_maySpend 7 = .ok (.invokevirtual 94, 3) := by decide +kernel
theorem dX9_maySpend_10 : decode cX9_maySpend 10 = .ok (.aload_n 0, 1) := by decide +kernel
theorem dX9_maySpend_11 : decode cX9_maySpend 11 = .ok (.iconst 0, 1) := by decide +kernel
theorem dX9_maySpend_12 : decode cX9_maySpend 12 = .ok (.invokevirtual 94, 3) := by decide +kernel
theorem dX9_maySpend_15 : decode cX9_maySpend 15 = .ok (.ladd, 1) := by decide +kernel
theorem dX9_maySpend_16 : decode cX9_maySpend 16 = .ok (.lload_n 2, 1) := by decide +kernel
theorem dX9_maySpend_17 : decode cX9_maySpend 17 = .ok (.lcmp, 1) := by decide +kernel
theorem dX9_maySpend_18 : decode cX9_maySpend 18 = .ok (.ifCond .lt 7, 3) := by decide +kernel
theorem dX9_maySpend_21 : decode cX9_maySpend 21 = .ok (.iconst 1, 1) := by decide +kernel
theorem dX9_maySpend_22 : decode cX9_maySpend 22 = .ok (.goto 4, 3) := by decide +kernel
theorem dX9_maySpend_25 : decode cX9_maySpend 25 = .ok (.iconst 0, 1) := by decide +kernel
theorem dX9_maySpend_26 : decode cX9_maySpend 26 = .ok (.ireturn, 1) := by decide +kernel
theorem dX9_spends_0 : decode cX9_spends 0 = .ok (.lload_n 2, 1) := by decide +kernel
theorem dX9_spends_1 : decode cX9_spends 1 = .ok (.aload_n 0, 1) := by decide +kernel
theorem dX9_spends_2 : decode cX9_spends 2 = .ok (.bipush 11, 2) := by decide +kernel
theorem dX9_spends_4 : decode cX9_spends 4 = .ok (.iconst 4, 1) := by decide +kernel
theorem dX9_spends_5 : decode cX9_spends 5 = .ok (.iload_n 1, 1) := by decide +kernel
theorem dX9_spends_6 : decode cX9_spends 6 = .ok (.imul, 1) := by decide +kernel
theorem dX9_spends_7 : decode cX9_spends 7 = .ok (.iadd, 1) := by decide +kernel
theorem dX9_spends_8 : decode cX9_spends 8 = .ok (.invokevirtual 94, 3) := by decide +kernel
theorem dX9_spends_11 : decode cX9_spends 11 = .ok (.invokestatic 111, 3) := by decide +kernel
theorem dX9_spends_14 : decode cX9_spends 14 = .ok (.lstore 4, 2) := by decide +kernel
theorem dX9_spends_16 : decode cX9_spends 16 = .ok (.aload_n 0, 1) := by decide +kernel
theorem dX9_spends_17 : decode cX9_spends 17 = .ok (.bipush 11, 2) := by decide +kernel
theorem dX9_spends_19 : decode cX9_spends 19 = .ok (.iconst 4, 1) := by decide +kernel
theorem dX9_spends_20 : decode cX9_spends 20 = .ok (.iload_n 1, 1) := by decide +kernel
theorem dX9_spends_21 : decode cX9_spends 21 = .ok (.imul, 1) := by decide +kernel
theorem dX9_spends_22 : decode cX9_spends 22 = .ok (.iadd, 1) := by decide +kernel
theorem dX9_spends_23 : decode cX9_spends 23 = .ok (.lload 4, 2) := by decide +kernel
theorem dX9_spends_25 : decode cX9_spends 25 = .ok (.lneg, 1) := by decide +kernel
theorem dX9_spends_26 : decode cX9_spends 26 = .ok (.invokevirtual 114, 3) := by decide +kernel
theorem dX9_spends_29 : decode cX9_spends 29 = .ok (.aload_n 0, 1) := by decide +kernel
theorem dX9_spends_30 : decode cX9_spends 30 = .ok (.bipush 11, 2) := by decide +kernel
theorem dX9_spends_32 : decode cX9_spends 32 = .ok (.iconst 4, 1) := by decide +kernel
theorem dX9_spends_33 : decode cX9_spends 33 = .ok (.iload_n 1, 1) := by decide +kernel
theorem dX9_spends_34 : decode cX9_spends 34 = .ok (.imul, 1) := by decide +kernel
theorem dX9_spends_35 : decode cX9_spends 35 = .ok (.iadd, 1) := by decide +kernel
theorem dX9_spends_36 : decode cX9_spends 36 = .ok (.iconst 3, 1) := by decide +kernel
theorem dX9_spends_37 : decode cX9_spends 37 = .ok (.iadd, 1) := by decide +kernel
theorem dX9_spends_38 : decode cX9_spends 38 = .ok (.lload 4, 2) := by decide +kernel
theorem dX9_spends_40 : decode cX9_spends 40 = .ok (.invokevirtual 114, 3) := by decide +kernel
theorem dX9_spends_43 : decode cX9_spends 43 = .ok (.aload_n 0, 1) := by decide +kernel
theorem dX9_spends_44 : decode cX9_spends 44 = .ok (.iconst 0, 1) := by decide +kernel
theorem dX9_spends_45 : decode cX9_spends 45 = .ok (.lload 4, 2) := by decide +kernel
theorem dX9_spends_47 : decode cX9_spends 47 = .ok (.lload_n 2, 1) := by decide +kernel
theorem dX9_spends_48 : decode cX9_spends 48 = .ok (.lsub, 1) := by decide +kernel
theorem dX9_spends_49 : decode cX9_spends 49 = .ok (.invokevirtual 114, 3) := by decide +kernel
theorem dX9_spends_52 : decode cX9_spends 52 = .ok (.aload_n 0, 1) := by decide +kernel
theorem dX9_spends_53 : decode cX9_spends 53 = .ok (.iconst 3, 1) := by decide +kernel
theorem dX9_spends_54 : decode cX9_spends 54 = .ok (.lload_n 2, 1) := by decide +kernel
theorem dX9_spends_55 : decode cX9_spends 55 = .ok (.invokevirtual 114, 3) := by decide +kernel
theorem dX9_spends_58 : decode cX9_spends 58 = .ok (.lload_n 2, 1) := by decide +kernel
theorem dX9_spends_59 : decode cX9_spends 59 = .ok (.lload 4, 2) := by decide +kernel
theorem dX9_spends_61 : decode cX9_spends 61 = .ok (.lsub, 1) := by decide +kernel
theorem dX9_spends_62 : decode cX9_spends 62 = .ok (.lreturn, 1) := by decide +kernel
theorem dX9_settles_0 : decode cX9_settles 0 = .ok (.iconst 0, 1) := by decide +kernel
theorem dX9_settles_1 : decode cX9_settles 1 = .ok (.istore_n 1, 1) := by decide +kernel
theorem dX9_settles_2 : decode cX9_settles 2 = .ok (.iload_n 1, 1) := by decide +kernel
theorem dX9_settles_3 : decode cX9_settles 3 = .ok (.bipush 6, 2) := by decide +kernel
theorem dX9_settles_5 : decode cX9_settles 5 = .ok (.if_icmp .ge 16, 3) := by decide +kernel
theorem dX9_settles_8 : decode cX9_settles 8 = .ok (.aload_n 0, 1) := by decide +kernel
theorem dX9_settles_9 : decode cX9_settles 9 = .ok (.getfield 67, 3) := by decide +kernel
theorem dX9_settles_12 : decode cX9_settles 12 = .ok (.iload_n 1, 1) := by decide +kernel
theorem dX9_settles_13 : decode cX9_settles 13 = .ok (.iconst 0, 1) := by decide +kernel
theorem dX9_settles_14 : decode cX9_settles 14 = .ok (.bastore, 1) := by decide +kernel
theorem dX9_settles_15 : decode cX9_settles 15 = .ok (.iinc 1 1, 3) := by decide +kernel
theorem dX9_settles_18 : decode cX9_settles 18 = .ok (.goto (-16), 3) := by decide +kernel
theorem dX9_settles_21 : decode cX9_settles 21 = .ok (.iconst 1, 1) := by decide +kernel
theorem dX9_settles_22 : decode cX9_settles 22 = .ok (.istore_n 1, 1) := by decide +kernel
theorem dX9_settles_23 : decode cX9_settles 23 = .ok (.iload_n 1, 1) := by decide +kernel
theorem dX9_settles_24 : decode cX9_settles 24 = .ok (.ifCond .eq 151, 3) := by decide +kernel
theorem dX9_settles_27 : decode cX9_settles 27 = .ok (.iconst 0, 1) := by decide +kernel
theorem dX9_settles_28 : decode cX9_settles 28 = .ok (.istore_n 1, 1) := by decide +kernel
theorem dX9_settles_29 : decode cX9_settles 29 = .ok (.iconst 0, 1) := by decide +kernel
theorem dX9_settles_30 : decode cX9_settles 30 = .ok (.istore_n 2, 1) := by decide +kernel
theorem dX9_settles_31 : decode cX9_settles 31 = .ok (.iload_n 2, 1) := by decide +kernel
theorem dX9_settles_32 : decode cX9_settles 32 = .ok (.aload_n 0, 1) := by decide +kernel
theorem dX9_settles_33 : decode cX9_settles 33 = .ok (.bipush 9, 2) := by decide +kernel
theorem dX9_settles_35 : decode cX9_settles 35 = .ok (.invokevirtual 86, 3) := by decide +kernel
theorem dX9_settles_38 : decode cX9_settles 38 = .ok (.if_icmp .ge 134, 3) := by decide +kernel
theorem dX9_settles_41 : decode cX9_settles 41 = .ok (.bipush 69, 2) := by decide +kernel
theorem dX9_settles_43 : decode cX9_settles 43 = .ok (.iconst 5, 1) := by decide +kernel
theorem dX9_settles_44 : decode cX9_settles 44 = .ok (.iload_n 2, 1) := by decide +kernel
theorem dX9_settles_45 : decode cX9_settles 45 = .ok (.imul, 1) := by decide +kernel
theorem dX9_settles_46 : decode cX9_settles 46 = .ok (.iadd, 1) := by decide +kernel
theorem dX9_settles_47 : decode cX9_settles 47 = .ok (.istore_n 3, 1) := by decide +kernel
theorem dX9_settles_48 : decode cX9_settles 48 = .ok (.bipush 11, 2) := by decide +kernel
theorem dX9_settles_50 : decode cX9_settles 50 = .ok (.iconst 4, 1) := by decide +kernel
theorem dX9_settles_51 : decode cX9_settles 51 = .ok (.aload_n 0, 1) := by decide +kernel
theorem dX9_settles_52 : decode cX9_settles 52 = .ok (.iload_n 3, 1) := by decide +kernel
theorem dX9_settles_53 : decode cX9_settles 53 = .ok (.invokevirtual 86, 3) := by decide +kernel
theorem dX9_settles_56 : decode cX9_settles 56 = .ok (.imul, 1) := by decide +kernel
theorem dX9_settles_57 : decode cX9_settles 57 = .ok (.iadd, 1) := by decide +kernel
theorem dX9_settles_58 : decode cX9_settles 58 = .ok (.istore 4, 2) := by decide +kernel
theorem dX9_settles_60 : decode cX9_settles 60 = .ok (.aload_n 0, 1) := by decide +kernel
theorem dX9_settles_61 : decode cX9_settles 61 = .ok (.iload 4, 2) := by decide +kernel
theorem dX9_settles_63 : decode cX9_settles 63 = .ok (.invokevirtual 94, 3) := by decide +kernel
theorem dX9_settles_66 : decode cX9_settles 66 = .ok (.aload_n 0, 1) := by decide +kernel
theorem dX9_settles_67 : decode cX9_settles 67 = .ok (.iload_n 3, 1) := by decide +kernel
theorem dX9_settles_68 : decode cX9_settles 68 = .ok (.iconst 2, 1) := by decide +kernel
theorem dX9_settles_69 : decode cX9_settles 69 = .ok (.iadd, 1) := by decide +kernel
theorem dX9_settles_70 : decode cX9_settles 70 = .ok (.invokevirtual 94, 3) := by decide +kernel
theorem dX9_settles_73 : decode cX9_settles 73 = .ok (.lsub, 1) := by decide +kernel
theorem dX9_settles_74 : decode cX9_settles 74 = .ok (.lstore 5, 2) := by decide +kernel
theorem dX9_settles_76 : decode cX9_settles 76 = .ok (.aload_n 0, 1) := by decide +kernel
theorem dX9_settles_77 : decode cX9_settles 77 = .ok (.getfield 67, 3) := by decide +kernel
theorem dX9_settles_80 : decode cX9_settles 80 = .ok (.iload_n 2, 1) := by decide +kernel
theorem dX9_settles_81 : decode cX9_settles 81 = .ok (.baload, 1) := by decide +kernel
theorem dX9_settles_82 : decode cX9_settles 82 = .ok (.ifCond .ne 84, 3) := by decide +kernel
theorem dX9_settles_85 : decode cX9_settles 85 = .ok (.lload 5, 2) := by decide +kernel
theorem dX9_settles_87 : decode cX9_settles 87 = .ok (.lconst 0, 1) := by decide +kernel
theorem dX9_settles_88 : decode cX9_settles 88 = .ok (.lcmp, 1) := by decide +kernel
theorem dX9_settles_89 : decode cX9_settles 89 = .ok (.ifCond .gt 6, 3) := by decide +kernel
theorem dX9_settles_92 : decode cX9_settles 92 = .ok (.goto 74, 3) := by decide +kernel
theorem dX9_settles_95 : decode cX9_settles 95 = .ok (.aload_n 0, 1) := by decide +kernel
theorem dX9_settles_96 : decode cX9_settles 96 = .ok (.aload_n 0, 1) := by decide +kernel
theorem dX9_settles_97 : decode cX9_settles 97 = .ok (.iload_n 3, 1) := by decide +kernel
theorem dX9_settles_98 : decode cX9_settles 98 = .ok (.iconst 1, 1) := by decide +kernel
theorem dX9_settles_99 : decode cX9_settles 99 = .ok (.iadd, 1) := by decide +kernel
theorem dX9_settles_100 : decode cX9_settles 100 = .ok (.invokevirtual 86, 3) := by decide +kernel
theorem dX9_settles_103 : decode cX9_settles 103 = .ok (.lload 5, 2) := by decide +kernel
theorem dX9_settles_105 : decode cX9_settles 105 = .ok (.aload_n 0, 1) := by decide +kernel
theorem dX9_settles_106 : decode cX9_settles 106 = .ok (.iload_n 3, 1) := by decide +kernel
theorem dX9_settles_107 : decode cX9_settles 107 = .ok (.iconst 3, 1) := by decide +kernel
theorem dX9_settles_108 : decode cX9_settles 108 = .ok (.iadd, 1) := by decide +kernel
theorem dX9_settles_109 : decode cX9_settles 109 = .ok (.invokevirtual 94, 3) := by decide +kernel
theorem dX9_settles_112 : decode cX9_settles 112 = .ok (.lmul, 1) := by decide +kernel
theorem dX9_settles_113 : decode cX9_settles 113 = .ok (.ldc2_w 126, 3) := by decide +kernel
theorem dX9_settles_116 : decode cX9_settles 116 = .ok (.ldiv, 1) := by decide +kernel
theorem dX9_settles_117 : decode cX9_settles 117 = .ok (.invokevirtual 118, 3) := by decide +kernel
theorem dX9_settles_120 : decode cX9_settles 120 = .ok (.lstore 7, 2) := by decide +kernel
theorem dX9_settles_122 : decode cX9_settles 122 = .ok (.lload 7, 2) := by decide +kernel
theorem dX9_settles_124 : decode cX9_settles 124 = .ok (.lconst 0, 1) := by decide +kernel
theorem dX9_settles_125 : decode cX9_settles 125 = .ok (.lcmp, 1) := by decide +kernel
theorem dX9_settles_126 : decode cX9_settles 126 = .ok (.ifCond .ne 6, 3) := by decide +kernel
theorem dX9_settles_129 : decode cX9_settles 129 = .ok (.goto 37, 3) := by decide +kernel
theorem dX9_settles_132 : decode cX9_settles 132 = .ok (.aload_n 0, 1) := by decide +kernel
theorem dX9_settles_133 : decode cX9_settles 133 = .ok (.iload 4, 2) := by decide +kernel
theorem dX9_settles_135 : decode cX9_settles 135 = .ok (.lload 7, 2) := by decide +kernel
theorem dX9_settles_137 : decode cX9_settles 137 = .ok (.lneg, 1) := by decide +kernel
theorem dX9_settles_138 : decode cX9_settles 138 = .ok (.invokevirtual 114, 3) := by decide +kernel
theorem dX9_settles_141 : decode cX9_settles 141 = .ok (.aload_n 0, 1) := by decide +kernel
theorem dX9_settles_142 : decode cX9_settles 142 = .ok (.iload_n 3, 1) := by decide +kernel
theorem dX9_settles_143 : decode cX9_settles 143 = .ok (.iconst 4, 1) := by decide +kernel
theorem dX9_settles_144 : decode cX9_settles 144 = .ok (.iadd, 1) := by decide +kernel
theorem dX9_settles_145 : decode cX9_settles 145 = .ok (.lload 7, 2) := by decide +kernel
theorem dX9_settles_147 : decode cX9_settles 147 = .ok (.invokevirtual 114, 3) := by decide +kernel
theorem dX9_settles_150 : decode cX9_settles 150 = .ok (.aload_n 0, 1) := by decide +kernel
theorem dX9_settles_151 : decode cX9_settles 151 = .ok (.iconst 5, 1) := by decide +kernel
theorem dX9_settles_152 : decode cX9_settles 152 = .ok (.lload 7, 2) := by decide +kernel
theorem dX9_settles_154 : decode cX9_settles 154 = .ok (.invokevirtual 114, 3) := by decide +kernel
theorem dX9_settles_157 : decode cX9_settles 157 = .ok (.aload_n 0, 1) := by decide +kernel
theorem dX9_settles_158 : decode cX9_settles 158 = .ok (.getfield 67, 3) := by decide +kernel
theorem dX9_settles_161 : decode cX9_settles 161 = .ok (.iload_n 2, 1) := by decide +kernel
theorem dX9_settles_162 : decode cX9_settles 162 = .ok (.iconst 1, 1) := by decide +kernel
theorem dX9_settles_163 : decode cX9_settles 163 = .ok (.bastore, 1) := by decide +kernel
theorem dX9_settles_164 : decode cX9_settles 164 = .ok (.iconst 1, 1) := by decide +kernel
theorem dX9_settles_165 : decode cX9_settles 165 = .ok (.istore_n 1, 1) := by decide +kernel
theorem dX9_settles_166 : decode cX9_settles 166 = .ok (.iinc 2 1, 3) := by decide +kernel
theorem dX9_settles_169 : decode cX9_settles 169 = .ok (.goto (-138), 3) := by decide +kernel
theorem dX9_settles_172 : decode cX9_settles 172 = .ok (.goto (-149), 3) := by decide +kernel
theorem dX9_settles_175 : decode cX9_settles 175 = .ok (.return_, 1) := by decide +kernel
theorem dX9_carriesOut_0 : decode cX9_carriesOut 0 = .ok (.bipush 99, 2) := by decide +kernel
theorem dX9_carriesOut_2 : decode cX9_carriesOut 2 = .ok (.bipush 6, 2) := by decide +kernel
theorem dX9_carriesOut_4 : decode cX9_carriesOut 4 = .ok (.iload_n 1, 1) := by decide +kernel
theorem dX9_carriesOut_5 : decode cX9_carriesOut 5 = .ok (.imul, 1) := by decide +kernel
theorem dX9_carriesOut_6 : decode cX9_carriesOut 6 = .ok (.iadd, 1) := by decide +kernel
theorem dX9_carriesOut_7 : decode cX9_carriesOut 7 = .ok (.istore_n 2, 1) := by decide +kernel
theorem dX9_carriesOut_8 : decode cX9_carriesOut 8 = .ok (.aload_n 0, 1) := by decide +kernel
theorem dX9_carriesOut_9 : decode cX9_carriesOut 9 = .ok (.iload_n 2, 1) := by decide +kernel
theorem dX9_carriesOut_10 : decode cX9_carriesOut 10 = .ok (.iconst 4, 1) := by decide +kernel
theorem dX9_carriesOut_11 : decode cX9_carriesOut 11 = .ok (.iadd, 1) := by decide +kernel
theorem dX9_carriesOut_12 : decode cX9_carriesOut 12 = .ok (.aload_n 0, 1) := by decide +kernel
theorem dX9_carriesOut_13 : decode cX9_carriesOut 13 = .ok (.iload_n 2, 1) := by decide +kernel
theorem dX9_carriesOut_14 : decode cX9_carriesOut 14 = .ok (.iconst 4, 1) := by decide +kernel
theorem dX9_carriesOut_15 : decode cX9_carriesOut 15 = .ok (.iadd, 1) := by decide +kernel
theorem dX9_carriesOut_16 : decode cX9_carriesOut 16 = .ok (.invokevirtual 94, 3) := by decide +kernel
theorem dX9_carriesOut_19 : decode cX9_carriesOut 19 = .ok (.aload_n 0, 1) := by decide +kernel
theorem dX9_carriesOut_20 : decode cX9_carriesOut 20 = .ok (.iload_n 2, 1) := by decide +kernel
theorem dX9_carriesOut_21 : decode cX9_carriesOut 21 = .ok (.iconst 3, 1) := by decide +kernel
theorem dX9_carriesOut_22 : decode cX9_carriesOut 22 = .ok (.iadd, 1) := by decide +kernel
theorem dX9_carriesOut_23 : decode cX9_carriesOut 23 = .ok (.invokevirtual 94, 3) := by decide +kernel
theorem dX9_carriesOut_26 : decode cX9_carriesOut 26 = .ok (.ladd, 1) := by decide +kernel
theorem dX9_carriesOut_27 : decode cX9_carriesOut 27 = .ok (.invokevirtual 128, 3) := by decide +kernel
theorem dX9_carriesOut_30 : decode cX9_carriesOut 30 = .ok (.aload_n 0, 1) := by decide +kernel
theorem dX9_carriesOut_31 : decode cX9_carriesOut 31 = .ok (.iload_n 2, 1) := by decide +kernel
theorem dX9_carriesOut_32 : decode cX9_carriesOut 32 = .ok (.invokevirtual 94, 3) := by decide +kernel
theorem dX9_carriesOut_35 : decode cX9_carriesOut 35 = .ok (.lconst 0, 1) := by decide +kernel
theorem dX9_carriesOut_36 : decode cX9_carriesOut 36 = .ok (.lcmp, 1) := by decide +kernel
theorem dX9_carriesOut_37 : decode cX9_carriesOut 37 = .ok (.ifCond .ne 18, 3) := by decide +kernel
theorem dX9_carriesOut_40 : decode cX9_carriesOut 40 = .ok (.aload_n 0, 1) := by decide +kernel
theorem dX9_carriesOut_41 : decode cX9_carriesOut 41 = .ok (.aload_n 0, 1) := by decide +kernel
theorem dX9_carriesOut_42 : decode cX9_carriesOut 42 = .ok (.iload_n 2, 1) := by decide +kernel
theorem dX9_carriesOut_43 : decode cX9_carriesOut 43 = .ok (.iconst 2, 1) := by decide +kernel
theorem dX9_carriesOut_44 : decode cX9_carriesOut 44 = .ok (.iadd, 1) := by decide +kernel
theorem dX9_carriesOut_45 : decode cX9_carriesOut 45 = .ok (.invokevirtual 94, 3) := by decide +kernel
theorem dX9_carriesOut_48 : decode cX9_carriesOut 48 = .ok (.invokevirtual 131, 3) := by decide +kernel
theorem dX9_carriesOut_51 : decode cX9_carriesOut 51 = .ok (.lstore_n 3, 1) := by decide +kernel
theorem dX9_carriesOut_52 : decode cX9_carriesOut 52 = .ok (.goto 61, 3) := by decide +kernel
theorem dX9_carriesOut_55 : decode cX9_carriesOut 55 = .ok (.aload_n 0, 1) := by decide +kernel
theorem dX9_carriesOut_56 : decode cX9_carriesOut 56 = .ok (.aload_n 0, 1) := by decide +kernel
theorem dX9_carriesOut_57 : decode cX9_carriesOut 57 = .ok (.iload_n 2, 1) := by decide +kernel
theorem dX9_carriesOut_58 : decode cX9_carriesOut 58 = .ok (.iconst 1, 1) := by decide +kernel
theorem dX9_carriesOut_59 : decode cX9_carriesOut 59 = .ok (.iadd, 1) := by decide +kernel
theorem dX9_carriesOut_60 : decode cX9_carriesOut 60 = .ok (.invokevirtual 86, 3) := by decide +kernel
theorem dX9_carriesOut_63 : decode cX9_carriesOut 63 = .ok (.aload_n 0, 1) := by decide +kernel
theorem dX9_carriesOut_64 : decode cX9_carriesOut 64 = .ok (.iload_n 2, 1) := by decide +kernel
theorem dX9_carriesOut_65 : decode cX9_carriesOut 65 = .ok (.iconst 2, 1) := by decide +kernel
theorem dX9_carriesOut_66 : decode cX9_carriesOut 66 = .ok (.iadd, 1) := by decide +kernel
theorem dX9_carriesOut_67 : decode cX9_carriesOut 67 = .ok (.invokevirtual 94, 3) := by decide +kernel
theorem dX9_carriesOut_70 : decode cX9_carriesOut 70 = .ok (.invokevirtual 135, 3) := by decide +kernel
theorem dX9_carriesOut_73 : decode cX9_carriesOut 73 = .ok (.ifCond .eq 25, 3) := by decide +kernel
theorem dX9_carriesOut_76 : decode cX9_carriesOut 76 = .ok (.aload_n 0, 1) := by decide +kernel
theorem dX9_carriesOut_77 : decode cX9_carriesOut 77 = .ok (.aload_n 0, 1) := by decide +kernel
theorem dX9_carriesOut_78 : decode cX9_carriesOut 78 = .ok (.iload_n 2, 1) := by decide +kernel
theorem dX9_carriesOut_79 : decode cX9_carriesOut 79 = .ok (.iconst 1, 1) := by decide +kernel
theorem dX9_carriesOut_80 : decode cX9_carriesOut 80 = .ok (.iadd, 1) := by decide +kernel
theorem dX9_carriesOut_81 : decode cX9_carriesOut 81 = .ok (.invokevirtual 86, 3) := by decide +kernel
theorem dX9_carriesOut_84 : decode cX9_carriesOut 84 = .ok (.aload_n 0, 1) := by decide +kernel
theorem dX9_carriesOut_85 : decode cX9_carriesOut 85 = .ok (.iload_n 2, 1) := by decide +kernel
theorem dX9_carriesOut_86 : decode cX9_carriesOut 86 = .ok (.iconst 2, 1) := by decide +kernel
theorem dX9_carriesOut_87 : decode cX9_carriesOut 87 = .ok (.iadd, 1) := by decide +kernel
theorem dX9_carriesOut_88 : decode cX9_carriesOut 88 = .ok (.invokevirtual 94, 3) := by decide +kernel
theorem dX9_carriesOut_91 : decode cX9_carriesOut 91 = .ok (.invokevirtual 139, 3) := by decide +kernel
theorem dX9_carriesOut_94 : decode cX9_carriesOut 94 = .ok (.lstore_n 3, 1) := by decide +kernel
theorem dX9_carriesOut_95 : decode cX9_carriesOut 95 = .ok (.goto 18, 3) := by decide +kernel
theorem dX9_carriesOut_98 : decode cX9_carriesOut 98 = .ok (.aload_n 0, 1) := by decide +kernel
theorem dX9_carriesOut_99 : decode cX9_carriesOut 99 = .ok (.iload_n 2, 1) := by decide +kernel
theorem dX9_carriesOut_100 : decode cX9_carriesOut 100 = .ok (.iconst 5, 1) := by decide +kernel
theorem dX9_carriesOut_101 : decode cX9_carriesOut 101 = .ok (.iadd, 1) := by decide +kernel
theorem dX9_carriesOut_102 : decode cX9_carriesOut 102 = .ok (.lconst 1, 1) := by decide +kernel
theorem dX9_carriesOut_103 : decode cX9_carriesOut 103 = .ok (.invokevirtual 114, 3) := by decide +kernel
theorem dX9_carriesOut_106 : decode cX9_carriesOut 106 = .ok (.aload_n 0, 1) := by decide +kernel
theorem dX9_carriesOut_107 : decode cX9_carriesOut 107 = .ok (.iconst 4, 1) := by decide +kernel
theorem dX9_carriesOut_108 : decode cX9_carriesOut 108 = .ok (.lconst 1, 1) := by decide +kernel
theorem dX9_carriesOut_109 : decode cX9_carriesOut 109 = .ok (.invokevirtual 114, 3) := by decide +kernel
theorem dX9_carriesOut_112 : decode cX9_carriesOut 112 = .ok (.return_, 1) := by decide +kernel
theorem dX9_carriesOut_113 : decode cX9_carriesOut 113 = .ok (.aload_n 0, 1) := by decide +kernel
theorem dX9_carriesOut_114 : decode cX9_carriesOut 114 = .ok (.invokevirtual 142, 3) := by decide +kernel
theorem dX9_carriesOut_117 : decode cX9_carriesOut 117 = .ok (.return_, 1) := by decide +kernel
theorem dX9_day_0 : decode cX9_day 0 = .ok (.aload_n 0, 1) := by decide +kernel
theorem dX9_day_1 : decode cX9_day 1 = .ok (.iconst 1, 1) := by decide +kernel
theorem dX9_day_2 : decode cX9_day 2 = .ok (.lconst 1, 1) := by decide +kernel
theorem dX9_day_3 : decode cX9_day 3 = .ok (.invokevirtual 114, 3) := by decide +kernel
theorem dX9_day_6 : decode cX9_day 6 = .ok (.iconst 0, 1) := by decide +kernel
theorem dX9_day_7 : decode cX9_day 7 = .ok (.istore_n 1, 1) := by decide +kernel
theorem dX9_day_8 : decode cX9_day 8 = .ok (.iload_n 1, 1) := by decide +kernel
theorem dX9_day_9 : decode cX9_day 9 = .ok (.aload_n 0, 1) := by decide +kernel
theorem dX9_day_10 : decode cX9_day 10 = .ok (.bipush 10, 2) := by decide +kernel
theorem dX9_day_12 : decode cX9_day 12 = .ok (.invokevirtual 86, 3) := by decide +kernel
theorem dX9_day_15 : decode cX9_day 15 = .ok (.if_icmp .ge 36, 3) := by decide +kernel
theorem dX9_day_18 : decode cX9_day 18 = .ok (.aload_n 0, 1) := by decide +kernel
theorem dX9_day_19 : decode cX9_day 19 = .ok (.bipush 99, 2) := by decide +kernel
theorem dX9_day_21 : decode cX9_day 21 = .ok (.bipush 6, 2) := by decide +kernel
theorem dX9_day_23 : decode cX9_day 23 = .ok (.iload_n 1, 1) := by decide +kernel
theorem dX9_day_24 : decode cX9_day 24 = .ok (.imul, 1) := by decide +kernel
theorem dX9_day_25 : decode cX9_day 25 = .ok (.iadd, 1) := by decide +kernel
theorem dX9_day_26 : decode cX9_day 26 = .ok (.iconst 4, 1) := by decide +kernel
theorem dX9_day_27 : decode cX9_day 27 = .ok (.iadd, 1) := by decide +kernel
theorem dX9_day_28 : decode cX9_day 28 = .ok (.invokevirtual 94, 3) := by decide +kernel
theorem dX9_day_31 : decode cX9_day 31 = .ok (.aload_n 0, 1) := by decide +kernel
theorem dX9_day_32 : decode cX9_day 32 = .ok (.iconst 1, 1) := by decide +kernel
theorem dX9_day_33 : decode cX9_day 33 = .ok (.invokevirtual 94, 3) := by decide +kernel
theorem dX9_day_36 : decode cX9_day 36 = .ok (.lcmp, 1) := by decide +kernel
theorem dX9_day_37 : decode cX9_day 37 = .ok (.ifCond .ne 8, 3) := by decide +kernel
theorem dX9_day_40 : decode cX9_day 40 = .ok (.aload_n 0, 1) := by decide +kernel
theorem dX9_day_41 : decode cX9_day 41 = .ok (.iload_n 1, 1) := by decide +kernel
theorem dX9_day_42 : decode cX9_day 42 = .ok (.invokevirtual 145, 3) := by decide +kernel
theorem dX9_day_45 : decode cX9_day 45 = .ok (.iinc 1 1, 3) := by decide +kernel
theorem dX9_day_48 : decode cX9_day 48 = .ok (.goto (-40), 3) := by decide +kernel
theorem dX9_day_51 : decode cX9_day 51 = .ok (.aload_n 0, 1) := by decide +kernel
theorem dX9_day_52 : decode cX9_day 52 = .ok (.iconst 1, 1) := by decide +kernel
theorem dX9_day_53 : decode cX9_day 53 = .ok (.invokevirtual 94, 3) := by decide +kernel
theorem dX9_day_56 : decode cX9_day 56 = .ok (.ldc2_w 149, 3) := by decide +kernel
theorem dX9_day_59 : decode cX9_day 59 = .ok (.lrem, 1) := by decide +kernel
theorem dX9_day_60 : decode cX9_day 60 = .ok (.lconst 0, 1) := by decide +kernel
theorem dX9_day_61 : decode cX9_day 61 = .ok (.lcmp, 1) := by decide +kernel
theorem dX9_day_62 : decode cX9_day 62 = .ok (.ifCond .eq 4, 3) := by decide +kernel
theorem dX9_day_65 : decode cX9_day 65 = .ok (.return_, 1) := by decide +kernel
theorem dX9_day_66 : decode cX9_day 66 = .ok (.iconst 0, 1) := by decide +kernel
theorem dX9_day_67 : decode cX9_day 67 = .ok (.istore_n 1, 1) := by decide +kernel
theorem dX9_day_68 : decode cX9_day 68 = .ok (.iload_n 1, 1) := by decide +kernel
theorem dX9_day_69 : decode cX9_day 69 = .ok (.aload_n 0, 1) := by decide +kernel
theorem dX9_day_70 : decode cX9_day 70 = .ok (.bipush 7, 2) := by decide +kernel
theorem dX9_day_72 : decode cX9_day 72 = .ok (.invokevirtual 86, 3) := by decide +kernel
theorem dX9_day_75 : decode cX9_day 75 = .ok (.if_icmp .ge 99, 3) := by decide +kernel
theorem dX9_day_78 : decode cX9_day 78 = .ok (.aload_n 0, 1) := by decide +kernel
theorem dX9_day_79 : decode cX9_day 79 = .ok (.bipush 11, 2) := by decide +kernel
theorem dX9_day_81 : decode cX9_day 81 = .ok (.iconst 4, 1) := by decide +kernel
theorem dX9_day_82 : decode cX9_day 82 = .ok (.iload_n 1, 1) := by decide +kernel
theorem dX9_day_83 : decode cX9_day 83 = .ok (.imul, 1) := by decide +kernel
theorem dX9_day_84 : decode cX9_day 84 = .ok (.iadd, 1) := by decide +kernel
theorem dX9_day_85 : decode cX9_day 85 = .ok (.invokevirtual 94, 3) := by decide +kernel
theorem dX9_day_88 : decode cX9_day 88 = .ok (.lstore_n 2, 1) := by decide +kernel
theorem dX9_day_89 : decode cX9_day 89 = .ok (.aload_n 0, 1) := by decide +kernel
theorem dX9_day_90 : decode cX9_day 90 = .ok (.bipush 11, 2) := by decide +kernel
theorem dX9_day_92 : decode cX9_day 92 = .ok (.iconst 4, 1) := by decide +kernel
theorem dX9_day_93 : decode cX9_day 93 = .ok (.iload_n 1, 1) := by decide +kernel
theorem dX9_day_94 : decode cX9_day 94 = .ok (.imul, 1) := by decide +kernel
theorem dX9_day_95 : decode cX9_day 95 = .ok (.iadd, 1) := by decide +kernel
theorem dX9_day_96 : decode cX9_day 96 = .ok (.iconst 2, 1) := by decide +kernel
theorem dX9_day_97 : decode cX9_day 97 = .ok (.iadd, 1) := by decide +kernel
theorem dX9_day_98 : decode cX9_day 98 = .ok (.invokevirtual 94, 3) := by decide +kernel
theorem dX9_day_101 : decode cX9_day 101 = .ok (.lconst 1, 1) := by decide +kernel
theorem dX9_day_102 : decode cX9_day 102 = .ok (.lcmp, 1) := by decide +kernel
theorem dX9_day_103 : decode cX9_day 103 = .ok (.ifCond .ne 7, 3) := by decide +kernel
theorem dX9_day_106 : decode cX9_day 106 = .ok (.lload_n 2, 1) := by decide +kernel
theorem dX9_day_107 : decode cX9_day 107 = .ok (.goto 31, 3) := by decide +kernel
theorem dX9_day_110 : decode cX9_day 110 = .ok (.aload_n 0, 1) := by decide +kernel
theorem dX9_day_111 : decode cX9_day 111 = .ok (.bipush 11, 2) := by decide +kernel
theorem dX9_day_113 : decode cX9_day 113 = .ok (.iconst 4, 1) := by decide +kernel
theorem dX9_day_114 : decode cX9_day 114 = .ok (.iload_n 1, 1) := by decide +kernel
theorem dX9_day_115 : decode cX9_day 115 = .ok (.imul, 1) := by decide +kernel
theorem dX9_day_116 : decode cX9_day 116 = .ok (.iadd, 1) := by decide +kernel
theorem dX9_day_117 : decode cX9_day 117 = .ok (.iconst 2, 1) := by decide +kernel
theorem dX9_day_118 : decode cX9_day 118 = .ok (.iadd, 1) := by decide +kernel
theorem dX9_day_119 : decode cX9_day 119 = .ok (.invokevirtual 94, 3) := by decide +kernel
theorem dX9_day_122 : decode cX9_day 122 = .ok (.ldc2_w 151, 3) := by decide +kernel
theorem dX9_day_125 : decode cX9_day 125 = .ok (.lcmp, 1) := by decide +kernel
theorem dX9_day_126 : decode cX9_day 126 = .ok (.ifCond .ne 11, 3) := by decide +kernel
theorem dX9_day_129 : decode cX9_day 129 = .ok (.lload_n 2, 1) := by decide +kernel
theorem dX9_day_130 : decode cX9_day 130 = .ok (.ldc2_w 151, 3) := by decide +kernel
theorem dX9_day_133 : decode cX9_day 133 = .ok (.ldiv, 1) := by decide +kernel
theorem dX9_day_134 : decode cX9_day 134 = .ok (.goto 4, 3) := by decide +kernel
theorem dX9_day_137 : decode cX9_day 137 = .ok (.lconst 0, 1) := by decide +kernel
theorem dX9_day_138 : decode cX9_day 138 = .ok (.lstore 4, 2) := by decide +kernel
theorem dX9_day_140 : decode cX9_day 140 = .ok (.aload_n 0, 1) := by decide +kernel
theorem dX9_day_141 : decode cX9_day 141 = .ok (.bipush 11, 2) := by decide +kernel
theorem dX9_day_143 : decode cX9_day 143 = .ok (.iconst 4, 1) := by decide +kernel
theorem dX9_day_144 : decode cX9_day 144 = .ok (.iload_n 1, 1) := by decide +kernel
theorem dX9_day_145 : decode cX9_day 145 = .ok (.imul, 1) := by decide +kernel
theorem dX9_day_146 : decode cX9_day 146 = .ok (.iadd, 1) := by decide +kernel
theorem dX9_day_147 : decode cX9_day 147 = .ok (.lload 4, 2) := by decide +kernel
theorem dX9_day_149 : decode cX9_day 149 = .ok (.lneg, 1) := by decide +kernel
theorem dX9_day_150 : decode cX9_day 150 = .ok (.invokevirtual 114, 3) := by decide +kernel
theorem dX9_day_153 : decode cX9_day 153 = .ok (.aload_n 0, 1) := by decide +kernel
theorem dX9_day_154 : decode cX9_day 154 = .ok (.iconst 0, 1) := by decide +kernel
theorem dX9_day_155 : decode cX9_day 155 = .ok (.lload 4, 2) := by decide +kernel
theorem dX9_day_157 : decode cX9_day 157 = .ok (.invokevirtual 114, 3) := by decide +kernel
theorem dX9_day_160 : decode cX9_day 160 = .ok (.aload_n 0, 1) := by decide +kernel
theorem dX9_day_161 : decode cX9_day 161 = .ok (.bipush 6, 2) := by decide +kernel
theorem dX9_day_163 : decode cX9_day 163 = .ok (.lload 4, 2) := by decide +kernel
theorem dX9_day_165 : decode cX9_day 165 = .ok (.invokevirtual 114, 3) := by decide +kernel
theorem dX9_day_168 : decode cX9_day 168 = .ok (.iinc 1 1, 3) := by decide +kernel
theorem dX9_day_171 : decode cX9_day 171 = .ok (.goto (-103), 3) := by decide +kernel
theorem dX9_day_174 : decode cX9_day 174 = .ok (.aload_n 0, 1) := by decide +kernel
theorem dX9_day_175 : decode cX9_day 175 = .ok (.invokevirtual 142, 3) := by decide +kernel
theorem dX9_day_178 : decode cX9_day 178 = .ok (.return_, 1) := by decide +kernel
theorem dX9_refuses_0 : decode cX9_refuses 0 = .ok (.aload_n 0, 1) := by decide +kernel
theorem dX9_refuses_1 : decode cX9_refuses 1 = .ok (.getfield 57, 3) := by decide +kernel
theorem dX9_refuses_4 : decode cX9_refuses 4 = .ok (.ifCond .ne 12, 3) := by decide +kernel
theorem dX9_refuses_7 : decode cX9_refuses 7 = .ok (.iload_n 1, 1) := by decide +kernel
theorem dX9_refuses_8 : decode cX9_refuses 8 = .ok (.ifCond .eq 8, 3) := by decide +kernel
theorem dX9_refuses_11 : decode cX9_refuses 11 = .ok (.aload_n 0, 1) := by decide +kernel
theorem dX9_refuses_12 : decode cX9_refuses 12 = .ok (.iload_n 2, 1) := by decide +kernel
theorem dX9_refuses_13 : decode cX9_refuses 13 = .ok (.putfield 57, 3) := by decide +kernel
theorem dX9_refuses_16 : decode cX9_refuses 16 = .ok (.aload_n 0, 1) := by decide +kernel
theorem dX9_refuses_17 : decode cX9_refuses 17 = .ok (.getfield 57, 3) := by decide +kernel
theorem dX9_refuses_20 : decode cX9_refuses 20 = .ok (.ifCond .eq 7, 3) := by decide +kernel
theorem dX9_refuses_23 : decode cX9_refuses 23 = .ok (.iconst 1, 1) := by decide +kernel
theorem dX9_refuses_24 : decode cX9_refuses 24 = .ok (.goto 4, 3) := by decide +kernel
theorem dX9_refuses_27 : decode cX9_refuses 27 = .ok (.iconst 0, 1) := by decide +kernel
theorem dX9_refuses_28 : decode cX9_refuses 28 = .ok (.ireturn, 1) := by decide +kernel
theorem dX9_isCap_0 : decode cX9_isCap 0 = .ok (.iload_n 0, 1) := by decide +kernel
theorem dX9_isCap_1 : decode cX9_isCap 1 = .ok (.i2l, 1) := by decide +kernel
theorem dX9_isCap_2 : decode cX9_isCap 2 = .ok (.ldc2_w 153, 3) := by decide +kernel
theorem dX9_isCap_5 : decode cX9_isCap 5 = .ok (.ldc2_w 155, 3) := by decide +kernel
theorem dX9_isCap_8 : decode cX9_isCap 8 = .ok (.invokestatic 90, 3) := by decide +kernel
theorem dX9_isCap_11 : decode cX9_isCap 11 = .ok (.ireturn, 1) := by decide +kernel
theorem dX9_row_0 : decode cX9_row 0 = .ok (.iload_n 1, 1) := by decide +kernel
theorem dX9_row_1 : decode cX9_row 1 = .ok (.iload_n 2, 1) := by decide +kernel
theorem dX9_row_2 : decode cX9_row 2 = .ok (.aload_n 0, 1) := by decide +kernel
theorem dX9_row_3 : decode cX9_row 3 = .ok (.iload_n 3, 1) := by decide +kernel
theorem dX9_row_4 : decode cX9_row 4 = .ok (.invokevirtual 86, 3) := by decide +kernel
theorem dX9_row_7 : decode cX9_row 7 = .ok (.imul, 1) := by decide +kernel
theorem dX9_row_8 : decode cX9_row 8 = .ok (.iadd, 1) := by decide +kernel
theorem dX9_row_9 : decode cX9_row 9 = .ok (.istore 8, 2) := by decide +kernel
theorem dX9_row_11 : decode cX9_row 11 = .ok (.aload_n 0, 1) := by decide +kernel
theorem dX9_row_12 : decode cX9_row 12 = .ok (.iload 8, 2) := by decide +kernel
theorem dX9_row_14 : decode cX9_row 14 = .ok (.iload 4, 2) := by decide +kernel
theorem dX9_row_16 : decode cX9_row 16 = .ok (.i2l, 1) := by decide +kernel
theorem dX9_row_17 : decode cX9_row 17 = .ok (.invokevirtual 128, 3) := by decide +kernel
theorem dX9_row_20 : decode cX9_row 20 = .ok (.aload_n 0, 1) := by decide +kernel
theorem dX9_row_21 : decode cX9_row 21 = .ok (.iload 8, 2) := by decide +kernel
theorem dX9_row_23 : decode cX9_row 23 = .ok (.iconst 1, 1) := by decide +kernel
theorem dX9_row_24 : decode cX9_row 24 = .ok (.iadd, 1) := by decide +kernel
theorem dX9_row_25 : decode cX9_row 25 = .ok (.iload 5, 2) := by decide +kernel
theorem dX9_row_27 : decode cX9_row 27 = .ok (.i2l, 1) := by decide +kernel
theorem dX9_row_28 : decode cX9_row 28 = .ok (.invokevirtual 128, 3) := by decide +kernel
theorem dX9_row_31 : decode cX9_row 31 = .ok (.aload_n 0, 1) := by decide +kernel
theorem dX9_row_32 : decode cX9_row 32 = .ok (.iload 8, 2) := by decide +kernel
theorem dX9_row_34 : decode cX9_row 34 = .ok (.iconst 2, 1) := by decide +kernel
theorem dX9_row_35 : decode cX9_row 35 = .ok (.iadd, 1) := by decide +kernel
theorem dX9_row_36 : decode cX9_row 36 = .ok (.iload 6, 2) := by decide +kernel
theorem dX9_row_38 : decode cX9_row 38 = .ok (.i2l, 1) := by decide +kernel
theorem dX9_row_39 : decode cX9_row 39 = .ok (.invokevirtual 128, 3) := by decide +kernel
theorem dX9_row_42 : decode cX9_row 42 = .ok (.iload_n 2, 1) := by decide +kernel
theorem dX9_row_43 : decode cX9_row 43 = .ok (.iconst 3, 1) := by decide +kernel
theorem dX9_row_44 : decode cX9_row 44 = .ok (.if_icmp .le 14, 3) := by decide +kernel
theorem dX9_row_47 : decode cX9_row 47 = .ok (.aload_n 0, 1) := by decide +kernel
theorem dX9_row_48 : decode cX9_row 48 = .ok (.iload 8, 2) := by decide +kernel
theorem dX9_row_50 : decode cX9_row 50 = .ok (.iconst 3, 1) := by decide +kernel
theorem dX9_row_51 : decode cX9_row 51 = .ok (.iadd, 1) := by decide +kernel
theorem dX9_row_52 : decode cX9_row 52 = .ok (.iload 7, 2) := by decide +kernel
theorem dX9_row_54 : decode cX9_row 54 = .ok (.i2l, 1) := by decide +kernel
theorem dX9_row_55 : decode cX9_row 55 = .ok (.invokevirtual 128, 3) := by decide +kernel
theorem dX9_row_58 : decode cX9_row 58 = .ok (.iconst 4, 1) := by decide +kernel
theorem dX9_row_59 : decode cX9_row 59 = .ok (.istore 9, 2) := by decide +kernel
theorem dX9_row_61 : decode cX9_row 61 = .ok (.iload 9, 2) := by decide +kernel
theorem dX9_row_63 : decode cX9_row 63 = .ok (.iload_n 2, 1) := by decide +kernel
theorem dX9_row_64 : decode cX9_row 64 = .ok (.if_icmp .ge 19, 3) := by decide +kernel
theorem dX9_row_67 : decode cX9_row 67 = .ok (.aload_n 0, 1) := by decide +kernel
theorem dX9_row_68 : decode cX9_row 68 = .ok (.iload 8, 2) := by decide +kernel
theorem dX9_row_70 : decode cX9_row 70 = .ok (.iload 9, 2) := by decide +kernel
theorem dX9_row_72 : decode cX9_row 72 = .ok (.iadd, 1) := by decide +kernel
theorem dX9_row_73 : decode cX9_row 73 = .ok (.lconst 0, 1) := by decide +kernel
theorem dX9_row_74 : decode cX9_row 74 = .ok (.invokevirtual 128, 3) := by decide +kernel
theorem dX9_row_77 : decode cX9_row 77 = .ok (.iinc 9 1, 3) := by decide +kernel
theorem dX9_row_80 : decode cX9_row 80 = .ok (.goto (-19), 3) := by decide +kernel
theorem dX9_row_83 : decode cX9_row 83 = .ok (.aload_n 0, 1) := by decide +kernel
theorem dX9_row_84 : decode cX9_row 84 = .ok (.iload_n 3, 1) := by decide +kernel
theorem dX9_row_85 : decode cX9_row 85 = .ok (.lconst 1, 1) := by decide +kernel
theorem dX9_row_86 : decode cX9_row 86 = .ok (.invokevirtual 114, 3) := by decide +kernel
theorem dX9_row_89 : decode cX9_row 89 = .ok (.aload_n 0, 1) := by decide +kernel
theorem dX9_row_90 : decode cX9_row 90 = .ok (.iload_n 3, 1) := by decide +kernel
theorem dX9_row_91 : decode cX9_row 91 = .ok (.invokevirtual 86, 3) := by decide +kernel
theorem dX9_row_94 : decode cX9_row 94 = .ok (.iconst 1, 1) := by decide +kernel
theorem dX9_row_95 : decode cX9_row 95 = .ok (.isub, 1) := by decide +kernel
theorem dX9_row_96 : decode cX9_row 96 = .ok (.ireturn, 1) := by decide +kernel
theorem dX9_removes_0 : decode cX9_removes 0 = .ok (.iload_n 1, 1) := by decide +kernel
theorem dX9_removes_1 : decode cX9_removes 1 = .ok (.iload_n 2, 1) := by decide +kernel
theorem dX9_removes_2 : decode cX9_removes 2 = .ok (.iload 4, 2) := by decide +kernel
theorem dX9_removes_4 : decode cX9_removes 4 = .ok (.imul, 1) := by decide +kernel
theorem dX9_removes_5 : decode cX9_removes 5 = .ok (.iadd, 1) := by decide +kernel
theorem dX9_removes_6 : decode cX9_removes 6 = .ok (.istore 5, 2) := by decide +kernel
theorem dX9_removes_8 : decode cX9_removes 8 = .ok (.iload 5, 2) := by decide +kernel
theorem dX9_removes_10 : decode cX9_removes 10 = .ok (.iload_n 1, 1) := by decide +kernel
theorem dX9_removes_11 : decode cX9_removes 11 = .ok (.iload_n 2, 1) := by decide +kernel
theorem dX9_removes_12 : decode cX9_removes 12 = .ok (.aload_n 0, 1) := by decide +kernel
theorem dX9_removes_13 : decode cX9_removes 13 = .ok (.iload_n 3, 1) := by decide +kernel
theorem dX9_removes_14 : decode cX9_removes 14 = .ok (.invokevirtual 86, 3) := by decide +kernel
theorem dX9_removes_17 : decode cX9_removes 17 = .ok (.iconst 1, 1) := by decide +kernel
theorem dX9_removes_18 : decode cX9_removes 18 = .ok (.isub, 1) := by decide +kernel
theorem dX9_removes_19 : decode cX9_removes 19 = .ok (.imul, 1) := by decide +kernel
theorem dX9_removes_20 : decode cX9_removes 20 = .ok (.iadd, 1) := by decide +kernel
theorem dX9_removes_21 : decode cX9_removes 21 = .ok (.if_icmp .ge 23, 3) := by decide +kernel
theorem dX9_removes_24 : decode cX9_removes 24 = .ok (.aload_n 0, 1) := by decide +kernel
theorem dX9_removes_25 : decode cX9_removes 25 = .ok (.iload 5, 2) := by decide +kernel
theorem dX9_removes_27 : decode cX9_removes 27 = .ok (.aload_n 0, 1) := by decide +kernel
theorem dX9_removes_28 : decode cX9_removes 28 = .ok (.iload 5, 2) := by decide +kernel
theorem dX9_removes_30 : decode cX9_removes 30 = .ok (.iload_n 2, 1) := by decide +kernel
theorem dX9_removes_31 : decode cX9_removes 31 = .ok (.iadd, 1) := by decide +kernel
theorem dX9_removes_32 : decode cX9_removes 32 = .ok (.invokevirtual 94, 3) := by decide +kernel
theorem dX9_removes_35 : decode cX9_removes 35 = .ok (.invokevirtual 128, 3) := by decide +kernel
theorem dX9_removes_38 : decode cX9_removes 38 = .ok (.iinc 5 1, 3) := by decide +kernel
theorem dX9_removes_41 : decode cX9_removes 41 = .ok (.goto (-33), 3) := by decide +kernel
theorem dX9_removes_44 : decode cX9_removes 44 = .ok (.aload_n 0, 1) := by decide +kernel
theorem dX9_removes_45 : decode cX9_removes 45 = .ok (.iload_n 3, 1) := by decide +kernel
theorem dX9_removes_46 : decode cX9_removes 46 = .ok (.ldc2_w 153, 3) := by decide +kernel
theorem dX9_removes_49 : decode cX9_removes 49 = .ok (.invokevirtual 114, 3) := by decide +kernel
theorem dX9_removes_52 : decode cX9_removes 52 = .ok (.aload_n 0, 1) := by decide +kernel
theorem dX9_removes_53 : decode cX9_removes 53 = .ok (.iload_n 3, 1) := by decide +kernel
theorem dX9_removes_54 : decode cX9_removes 54 = .ok (.invokevirtual 86, 3) := by decide +kernel
theorem dX9_removes_57 : decode cX9_removes 57 = .ok (.ireturn, 1) := by decide +kernel
theorem dX9_isNumber_0 : decode cX9_isNumber 0 = .ok (.iload_n 0, 1) := by decide +kernel
theorem dX9_isNumber_1 : decode cX9_isNumber 1 = .ok (.tableswitch 75 0 4 #[35, 45, 45, 55, 65], 35) := by decide +kernel
theorem dX9_isNumber_36 : decode cX9_isNumber 36 = .ok (.iload_n 1, 1) := by decide +kernel
theorem dX9_isNumber_37 : decode cX9_isNumber 37 = .ok (.i2l, 1) := by decide +kernel
theorem dX9_isNumber_38 : decode cX9_isNumber 38 = .ok (.lconst 1, 1) := by decide +kernel
theorem dX9_isNumber_39 : decode cX9_isNumber 39 = .ok (.ldc2_w 157, 3) := by decide +kernel
theorem dX9_isNumber_42 : decode cX9_isNumber 42 = .ok (.invokestatic 90, 3) := by decide +kernel
theorem dX9_isNumber_45 : decode cX9_isNumber 45 = .ok (.ireturn, 1) := by decide +kernel
theorem dX9_isNumber_46 : decode cX9_isNumber 46 = .ok (.iload_n 1, 1) := by decide +kernel
theorem dX9_isNumber_47 : decode cX9_isNumber 47 = .ok (.i2l, 1) := by decide +kernel
theorem dX9_isNumber_48 : decode cX9_isNumber 48 = .ok (.lconst 1, 1) := by decide +kernel
theorem dX9_isNumber_49 : decode cX9_isNumber 49 = .ok (.ldc2_w 126, 3) := by decide +kernel
theorem dX9_isNumber_52 : decode cX9_isNumber 52 = .ok (.invokestatic 90, 3) := by decide +kernel
theorem dX9_isNumber_55 : decode cX9_isNumber 55 = .ok (.ireturn, 1) := by decide +kernel
theorem dX9_isNumber_56 : decode cX9_isNumber 56 = .ok (.iload_n 1, 1) := by decide +kernel
theorem dX9_isNumber_57 : decode cX9_isNumber 57 = .ok (.ifCond .ne 7, 3) := by decide +kernel
theorem dX9_isNumber_60 : decode cX9_isNumber 60 = .ok (.iconst 1, 1) := by decide +kernel
theorem dX9_isNumber_61 : decode cX9_isNumber 61 = .ok (.goto 4, 3) := by decide +kernel
theorem dX9_isNumber_64 : decode cX9_isNumber 64 = .ok (.iconst 0, 1) := by decide +kernel
theorem dX9_isNumber_65 : decode cX9_isNumber 65 = .ok (.ireturn, 1) := by decide +kernel
theorem dX9_isNumber_66 : decode cX9_isNumber 66 = .ok (.iload_n 1, 1) := by decide +kernel
theorem dX9_isNumber_67 : decode cX9_isNumber 67 = .ok (.i2l, 1) := by decide +kernel
theorem dX9_isNumber_68 : decode cX9_isNumber 68 = .ok (.lconst 1, 1) := by decide +kernel
theorem dX9_isNumber_69 : decode cX9_isNumber 69 = .ok (.ldc2_w 159, 3) := by decide +kernel
theorem dX9_isNumber_72 : decode cX9_isNumber 72 = .ok (.invokestatic 90, 3) := by decide +kernel
theorem dX9_isNumber_75 : decode cX9_isNumber 75 = .ok (.ireturn, 1) := by decide +kernel
theorem dX9_isNumber_76 : decode cX9_isNumber 76 = .ok (.iconst 0, 1) := by decide +kernel
theorem dX9_isNumber_77 : decode cX9_isNumber 77 = .ok (.ireturn, 1) := by decide +kernel
theorem dX9_isPlace_0 : decode cX9_isPlace 0 = .ok (.iload_n 1, 1) := by decide +kernel
theorem dX9_isPlace_1 : decode cX9_isPlace 1 = .ok (.iconst (-1), 1) := by decide +kernel
theorem dX9_isPlace_2 : decode cX9_isPlace 2 = .ok (.if_icmp .eq 11, 3) := by decide +kernel
theorem dX9_isPlace_5 : decode cX9_isPlace 5 = .ok (.aload_n 0, 1) := by decide +kernel
theorem dX9_isPlace_6 : decode cX9_isPlace 6 = .ok (.iload_n 1, 1) := by decide +kernel
theorem dX9_isPlace_7 : decode cX9_isPlace 7 = .ok (.invokevirtual 161, 3) := by decide +kernel
theorem dX9_isPlace_10 : decode cX9_isPlace 10 = .ok (.ifCond .eq 7, 3) := by decide +kernel
theorem dX9_isPlace_13 : decode cX9_isPlace 13 = .ok (.iconst 1, 1) := by decide +kernel
theorem dX9_isPlace_14 : decode cX9_isPlace 14 = .ok (.goto 4, 3) := by decide +kernel
theorem dX9_isPlace_17 : decode cX9_isPlace 17 = .ok (.iconst 0, 1) := by decide +kernel
theorem dX9_isPlace_18 : decode cX9_isPlace 18 = .ok (.ireturn, 1) := by decide +kernel
theorem dX9_moneyIn_0 : decode cX9_moneyIn 0 = .ok (.iload_n 1, 1) := by decide +kernel
theorem dX9_moneyIn_1 : decode cX9_moneyIn 1 = .ok (.iconst (-1), 1) := by decide +kernel
theorem dX9_moneyIn_2 : decode cX9_moneyIn 2 = .ok (.if_icmp .ne 11, 3) := by decide +kernel
theorem dX9_moneyIn_5 : decode cX9_moneyIn 5 = .ok (.aload_n 0, 1) := by decide +kernel
theorem dX9_moneyIn_6 : decode cX9_moneyIn 6 = .ok (.iconst 0, 1) := by decide +kernel
theorem dX9_moneyIn_7 : decode cX9_moneyIn 7 = .ok (.invokevirtual 94, 3) := by decide +kernel
theorem dX9_moneyIn_10 : decode cX9_moneyIn 10 = .ok (.goto 13, 3) := by decide +kernel
theorem dX9_moneyIn_13 : decode cX9_moneyIn 13 = .ok (.aload_n 0, 1) := by decide +kernel
theorem dX9_moneyIn_14 : decode cX9_moneyIn 14 = .ok (.bipush 11, 2) := by decide +kernel
theorem dX9_moneyIn_16 : decode cX9_moneyIn 16 = .ok (.iconst 4, 1) := by decide +kernel
theorem dX9_moneyIn_17 : decode cX9_moneyIn 17 = .ok (.iload_n 1, 1) := by decide +kernel
theorem dX9_moneyIn_18 : decode cX9_moneyIn 18 = .ok (.imul, 1) := by decide +kernel
theorem dX9_moneyIn_19 : decode cX9_moneyIn 19 = .ok (.iadd, 1) := by decide +kernel
theorem dX9_moneyIn_20 : decode cX9_moneyIn 20 = .ok (.invokevirtual 94, 3) := by decide +kernel
theorem dX9_moneyIn_23 : decode cX9_moneyIn 23 = .ok (.lreturn, 1) := by decide +kernel
theorem dX9_moves_0 : decode cX9_moves 0 = .ok (.iload_n 2, 1) := by decide +kernel
theorem dX9_moves_1 : decode cX9_moves 1 = .ok (.iconst (-1), 1) := by decide +kernel
theorem dX9_moves_2 : decode cX9_moves 2 = .ok (.if_icmp .ne 8, 3) := by decide +kernel
theorem dX9_moves_5 : decode cX9_moves 5 = .ok (.iload_n 3, 1) := by decide +kernel
theorem dX9_moves_6 : decode cX9_moves 6 = .ok (.i2l, 1) := by decide +kernel
theorem dX9_moves_7 : decode cX9_moves 7 = .ok (.goto 10, 3) := by decide +kernel
theorem dX9_moves_10 : decode cX9_moves 10 = .ok (.aload_n 0, 1) := by decide +kernel
theorem dX9_moves_11 : decode cX9_moves 11 = .ok (.iload_n 2, 1) := by decide +kernel
theorem dX9_moves_12 : decode cX9_moves 12 = .ok (.iload_n 3, 1) := by decide +kernel
theorem dX9_moves_13 : decode cX9_moves 13 = .ok (.i2l, 1) := by decide +kernel
theorem dX9_moves_14 : decode cX9_moves 14 = .ok (.invokevirtual 118, 3) := by decide +kernel
theorem dX9_moves_17 : decode cX9_moves 17 = .ok (.lstore 4, 2) := by decide +kernel
theorem dX9_moves_19 : decode cX9_moves 19 = .ok (.iload_n 2, 1) := by decide +kernel
theorem dX9_moves_20 : decode cX9_moves 20 = .ok (.iconst (-1), 1) := by decide +kernel
theorem dX9_moves_21 : decode cX9_moves 21 = .ok (.if_icmp .ne 10, 3) := by decide +kernel
theorem dX9_moves_24 : decode cX9_moves 24 = .ok (.aload_n 0, 1) := by decide +kernel
theorem dX9_moves_25 : decode cX9_moves 25 = .ok (.iconst 0, 1) := by decide +kernel
theorem dX9_moves_26 : decode cX9_moves 26 = .ok (.lload 4, 2) := by decide +kernel
theorem dX9_moves_28 : decode cX9_moves 28 = .ok (.invokevirtual 114, 3) := by decide +kernel
theorem dX9_moves_31 : decode cX9_moves 31 = .ok (.aload_n 0, 1) := by decide +kernel
theorem dX9_moves_32 : decode cX9_moves 32 = .ok (.iload_n 1, 1) := by decide +kernel
theorem dX9_moves_33 : decode cX9_moves 33 = .ok (.iconst (-1), 1) := by decide +kernel
theorem dX9_moves_34 : decode cX9_moves 34 = .ok (.if_icmp .ne 7, 3) := by decide +kernel
theorem dX9_moves_37 : decode cX9_moves 37 = .ok (.iconst 0, 1) := by decide +kernel
theorem dX9_moves_38 : decode cX9_moves 38 = .ok (.goto 9, 3) := by decide +kernel
theorem dX9_moves_41 : decode cX9_moves 41 = .ok (.bipush 11, 2) := by decide +kernel
theorem dX9_moves_43 : decode cX9_moves 43 = .ok (.iconst 4, 1) := by decide +kernel
theorem dX9_moves_44 : decode cX9_moves 44 = .ok (.iload_n 1, 1) := by decide +kernel
theorem dX9_moves_45 : decode cX9_moves 45 = .ok (.imul, 1) := by decide +kernel
theorem dX9_moves_46 : decode cX9_moves 46 = .ok (.iadd, 1) := by decide +kernel
theorem dX9_moves_47 : decode cX9_moves 47 = .ok (.lload 4, 2) := by decide +kernel
theorem dX9_moves_49 : decode cX9_moves 49 = .ok (.lneg, 1) := by decide +kernel
theorem dX9_moves_50 : decode cX9_moves 50 = .ok (.invokevirtual 114, 3) := by decide +kernel
theorem dX9_moves_53 : decode cX9_moves 53 = .ok (.lload 4, 2) := by decide +kernel
theorem dX9_moves_55 : decode cX9_moves 55 = .ok (.l2i, 1) := by decide +kernel
theorem dX9_moves_56 : decode cX9_moves 56 = .ok (.ireturn, 1) := by decide +kernel
theorem dX9_does_0 : decode cX9_does 0 = .ok (.aload_n 0, 1) := by decide +kernel
theorem dX9_does_1 : decode cX9_does 1 = .ok (.iconst 0, 1) := by decide +kernel
theorem dX9_does_2 : decode cX9_does 2 = .ok (.putfield 57, 3) := by decide +kernel
theorem dX9_does_5 : decode cX9_does 5 = .ok (.iload_n 1, 1) := by decide +kernel
theorem dX9_does_6 : decode cX9_does 6 = .ok (.tableswitch 915 0 11 #[62, 139, 206, 278, 367, 421, 541, 595, 608, 663, 711, 804], 62) := by decide +kernel
theorem dX9_does_68 : decode cX9_does 68 = .ok (.aload_n 0, 1) := by decide +kernel
theorem dX9_does_69 : decode cX9_does 69 = .ok (.iload_n 2, 1) := by decide +kernel
theorem dX9_does_70 : decode cX9_does 70 = .ok (.invokestatic 165, 3) := by decide +kernel
theorem dX9_does_73 : decode cX9_does 73 = .ok (.ifCond .eq 15, 3) := by decide +kernel
theorem dX9_does_76 : decode cX9_does 76 = .ok (.iload_n 3, 1) := by decide +kernel
theorem dX9_does_77 : decode cX9_does 77 = .ok (.i2l, 1) := by decide +kernel
theorem dX9_does_78 : decode cX9_does 78 = .ok (.lconst 0, 1) := by decide +kernel
theorem dX9_does_79 : decode cX9_does 79 = .ok (.ldc2_w 151, 3) := by decide +kernel
theorem dX9_does_82 : decode cX9_does 82 = .ok (.invokestatic 90, 3) := by decide +kernel
theorem dX9_does_85 : decode cX9_does 85 = .ok (.ifCond .ne 7, 3) := by decide +kernel
theorem dX9_does_88 : decode cX9_does 88 = .ok (.iconst 1, 1) := by decide +kernel
theorem dX9_does_89 : decode cX9_does 89 = .ok (.goto 4, 3) := by decide +kernel
theorem dX9_does_92 : decode cX9_does 92 = .ok (.iconst 0, 1) := by decide +kernel
theorem dX9_does_93 : decode cX9_does 93 = .ok (.iconst 2, 1) := by decide +kernel
theorem dX9_does_94 : decode cX9_does 94 = .ok (.invokevirtual 168, 3) := by decide +kernel
theorem dX9_does_97 : decode cX9_does 97 = .ok (.ifCond .ne 32, 3) := by decide +kernel
theorem dX9_does_100 : decode cX9_does 100 = .ok (.aload_n 0, 1) := by decide +kernel
theorem dX9_does_101 : decode cX9_does 101 = .ok (.aload_n 0, 1) := by decide +kernel
theorem dX9_does_102 : decode cX9_does 102 = .ok (.bipush 7, 2) := by decide +kernel
theorem dX9_does_104 : decode cX9_does 104 = .ok (.invokevirtual 86, 3) := by decide +kernel
theorem dX9_does_107 : decode cX9_does 107 = .ok (.bipush 10, 2) := by decide +kernel
theorem dX9_does_109 : decode cX9_does 109 = .ok (.if_icmp .eq 8, 3) := by decide +kernel
theorem dX9_does_112 : decode cX9_does 112 = .ok (.iload 6, 2) := by decide +kernel
theorem dX9_does_114 : decode cX9_does 114 = .ok (.ifCond .eq 7, 3) := by decide +kernel
theorem dX9_does_117 : decode cX9_does 117 = .ok (.iconst 1, 1) := by decide +kernel
theorem dX9_does_118 : decode cX9_does 118 = .ok (.goto 4, 3) := by decide +kernel
theorem dX9_does_121 : decode cX9_does 121 = .ok (.iconst 0, 1) := by decide +kernel
theorem dX9_does_122 : decode cX9_does 122 = .ok (.iconst 3, 1) := by decide +kernel
theorem dX9_does_123 : decode cX9_does 123 = .ok (.invokevirtual 168, 3) := by decide +kernel
theorem dX9_does_126 : decode cX9_does 126 = .ok (.ifCond .eq 5, 3) := by decide +kernel
theorem dX9_does_129 : decode cX9_does 129 = .ok (.iconst 0, 1) := by decide +kernel
theorem dX9_does_130 : decode cX9_does 130 = .ok (.ireturn, 1) := by decide +kernel
theorem dX9_does_131 : decode cX9_does 131 = .ok (.aload_n 0, 1) := by decide +kernel
theorem dX9_does_132 : decode cX9_does 132 = .ok (.bipush 11, 2) := by decide +kernel
theorem dX9_does_134 : decode cX9_does 134 = .ok (.iconst 4, 1) := by decide +kernel
theorem dX9_does_135 : decode cX9_does 135 = .ok (.bipush 7, 2) := by decide +kernel
theorem dX9_does_137 : decode cX9_does 137 = .ok (.iconst 0, 1) := by decide +kernel
theorem dX9_does_138 : decode cX9_does 138 = .ok (.iload_n 2, 1) := by decide +kernel
theorem dX9_does_139 : decode cX9_does 139 = .ok (.iload_n 3, 1) := by decide +kernel
theorem dX9_does_140 : decode cX9_does 140 = .ok (.iconst 0, 1) := by decide +kernel
theorem dX9_does_141 : decode cX9_does 141 = .ok (.invokevirtual 172, 3) := by decide +kernel
theorem dX9_does_144 : decode cX9_does 144 = .ok (.ireturn, 1) := by decide +kernel
theorem dX9_does_145 : decode cX9_does 145 = .ok (.aload_n 0, 1) := by decide +kernel
theorem dX9_does_146 : decode cX9_does 146 = .ok (.aload_n 0, 1) := by decide +kernel
theorem dX9_does_147 : decode cX9_does 147 = .ok (.iload_n 2, 1) := by decide +kernel
theorem dX9_does_148 : decode cX9_does 148 = .ok (.invokevirtual 161, 3) := by decide +kernel
theorem dX9_does_151 : decode cX9_does 151 = .ok (.ifCond .ne 7, 3) := by decide +kernel
theorem dX9_does_154 : decode cX9_does 154 = .ok (.iconst 1, 1) := by decide +kernel
theorem dX9_does_155 : decode cX9_does 155 = .ok (.goto 4, 3) := by decide +kernel
theorem dX9_does_158 : decode cX9_does 158 = .ok (.iconst 0, 1) := by decide +kernel
theorem dX9_does_159 : decode cX9_does 159 = .ok (.iconst 1, 1) := by decide +kernel
theorem dX9_does_160 : decode cX9_does 160 = .ok (.invokevirtual 168, 3) := by decide +kernel
theorem dX9_does_163 : decode cX9_does 163 = .ok (.ifCond .ne 33, 3) := by decide +kernel
theorem dX9_does_166 : decode cX9_does 166 = .ok (.aload_n 0, 1) := by decide +kernel
theorem dX9_does_167 : decode cX9_does 167 = .ok (.iload_n 3, 1) := by decide +kernel
theorem dX9_does_168 : decode cX9_does 168 = .ok (.invokestatic 165, 3) := by decide +kernel
theorem dX9_does_171 : decode cX9_does 171 = .ok (.ifCond .ne 7, 3) := by decide +kernel
theorem dX9_does_174 : decode cX9_does 174 = .ok (.iconst 1, 1) := by decide +kernel
theorem dX9_does_175 : decode cX9_does 175 = .ok (.goto 4, 3) := by decide +kernel
theorem dX9_does_178 : decode cX9_does 178 = .ok (.iconst 0, 1) := by decide +kernel
theorem dX9_does_179 : decode cX9_does 179 = .ok (.iconst 2, 1) := by decide +kernel
theorem dX9_does_180 : decode cX9_does 180 = .ok (.invokevirtual 168, 3) := by decide +kernel
theorem dX9_does_183 : decode cX9_does 183 = .ok (.ifCond .ne 13, 3) := by decide +kernel
theorem dX9_does_186 : decode cX9_does 186 = .ok (.aload_n 0, 1) := by decide +kernel
theorem dX9_does_187 : decode cX9_does 187 = .ok (.iload 6, 2) := by decide +kernel
theorem dX9_does_189 : decode cX9_does 189 = .ok (.iconst 3, 1) := by decide +kernel
theorem dX9_does_190 : decode cX9_does 190 = .ok (.invokevirtual 168, 3) := by decide +kernel
theorem dX9_does_193 : decode cX9_does 193 = .ok (.ifCond .eq 5, 3) := by decide +kernel
theorem dX9_does_196 : decode cX9_does 196 = .ok (.iconst 0, 1) := by decide +kernel
theorem dX9_does_197 : decode cX9_does 197 = .ok (.ireturn, 1) := by decide +kernel
theorem dX9_does_198 : decode cX9_does 198 = .ok (.aload_n 0, 1) := by decide +kernel
theorem dX9_does_199 : decode cX9_does 199 = .ok (.bipush 11, 2) := by decide +kernel
theorem dX9_does_201 : decode cX9_does 201 = .ok (.iconst 4, 1) := by decide +kernel
theorem dX9_does_202 : decode cX9_does 202 = .ok (.iload_n 2, 1) := by decide +kernel
theorem dX9_does_203 : decode cX9_does 203 = .ok (.imul, 1) := by decide +kernel
theorem dX9_does_204 : decode cX9_does 204 = .ok (.iadd, 1) := by decide +kernel
theorem dX9_does_205 : decode cX9_does 205 = .ok (.iconst 1, 1) := by decide +kernel
theorem dX9_does_206 : decode cX9_does 206 = .ok (.iadd, 1) := by decide +kernel
theorem dX9_does_207 : decode cX9_does 207 = .ok (.iload_n 3, 1) := by decide +kernel
theorem dX9_does_208 : decode cX9_does 208 = .ok (.invokevirtual 176, 3) := by decide +kernel
theorem dX9_does_211 : decode cX9_does 211 = .ok (.ireturn, 1) := by decide +kernel
theorem dX9_does_212 : decode cX9_does 212 = .ok (.aload_n 0, 1) := by decide +kernel
theorem dX9_does_213 : decode cX9_does 213 = .ok (.aload_n 0, 1) := by decide +kernel
theorem dX9_does_214 : decode cX9_does 214 = .ok (.iload_n 2, 1) := by decide +kernel
theorem dX9_does_215 : decode cX9_does 215 = .ok (.invokevirtual 161, 3) := by decide +kernel
theorem dX9_does_218 : decode cX9_does 218 = .ok (.ifCond .ne 7, 3) := by decide +kernel
theorem dX9_does_221 : decode cX9_does 221 = .ok (.iconst 1, 1) := by decide +kernel
theorem dX9_does_222 : decode cX9_does 222 = .ok (.goto 4, 3) := by decide +kernel
theorem dX9_does_225 : decode cX9_does 225 = .ok (.iconst 0, 1) := by decide +kernel
theorem dX9_does_226 : decode cX9_does 226 = .ok (.iconst 1, 1) := by decide +kernel
theorem dX9_does_227 : decode cX9_does 227 = .ok (.invokevirtual 168, 3) := by decide +kernel
theorem dX9_does_230 : decode cX9_does 230 = .ok (.ifCond .ne 38, 3) := by decide +kernel
theorem dX9_does_233 : decode cX9_does 233 = .ok (.aload_n 0, 1) := by decide +kernel
theorem dX9_does_234 : decode cX9_does 234 = .ok (.iload_n 3, 1) := by decide +kernel
theorem dX9_does_235 : decode cX9_does 235 = .ok (.i2l, 1) := by decide +kernel
theorem dX9_does_236 : decode cX9_does 236 = .ok (.lconst 0, 1) := by decide +kernel
theorem dX9_does_237 : decode cX9_does 237 = .ok (.ldc2_w 151, 3) := by decide +kernel
theorem dX9_does_240 : decode cX9_does 240 = .ok (.invokestatic 90, 3) := by decide +kernel
theorem dX9_does_243 : decode cX9_does 243 = .ok (.ifCond .ne 7, 3) := by decide +kernel
theorem dX9_does_246 : decode cX9_does 246 = .ok (.iconst 1, 1) := by decide +kernel
theorem dX9_does_247 : decode cX9_does 247 = .ok (.goto 4, 3) := by decide +kernel
theorem dX9_does_250 : decode cX9_does 250 = .ok (.iconst 0, 1) := by decide +kernel
theorem dX9_does_251 : decode cX9_does 251 = .ok (.iconst 2, 1) := by decide +kernel
theorem dX9_does_252 : decode cX9_does 252 = .ok (.invokevirtual 168, 3) := by decide +kernel
theorem dX9_does_255 : decode cX9_does 255 = .ok (.ifCond .ne 13, 3) := by decide +kernel
theorem dX9_does_258 : decode cX9_does 258 = .ok (.aload_n 0, 1) := by decide +kernel
theorem dX9_does_259 : decode cX9_does 259 = .ok (.iload 6, 2) := by decide +kernel
theorem dX9_does_261 : decode cX9_does 261 = .ok (.iconst 3, 1) := by decide +kernel
theorem dX9_does_262 : decode cX9_does 262 = .ok (.invokevirtual 168, 3) := by decide +kernel
theorem dX9_does_265 : decode cX9_does 265 = .ok (.ifCond .eq 5, 3) := by decide +kernel
theorem dX9_does_268 : decode cX9_does 268 = .ok (.iconst 0, 1) := by decide +kernel
theorem dX9_does_269 : decode cX9_does 269 = .ok (.ireturn, 1) := by decide +kernel
theorem dX9_does_270 : decode cX9_does 270 = .ok (.aload_n 0, 1) := by decide +kernel
theorem dX9_does_271 : decode cX9_does 271 = .ok (.bipush 11, 2) := by decide +kernel
theorem dX9_does_273 : decode cX9_does 273 = .ok (.iconst 4, 1) := by decide +kernel
theorem dX9_does_274 : decode cX9_does 274 = .ok (.iload_n 2, 1) := by decide +kernel
theorem dX9_does_275 : decode cX9_does 275 = .ok (.imul, 1) := by decide +kernel
theorem dX9_does_276 : decode cX9_does 276 = .ok (.iadd, 1) := by decide +kernel
theorem dX9_does_277 : decode cX9_does 277 = .ok (.iconst 2, 1) := by decide +kernel
theorem dX9_does_278 : decode cX9_does 278 = .ok (.iadd, 1) := by decide +kernel
theorem dX9_does_279 : decode cX9_does 279 = .ok (.iload_n 3, 1) := by decide +kernel
theorem dX9_does_280 : decode cX9_does 280 = .ok (.invokevirtual 176, 3) := by decide +kernel
theorem dX9_does_283 : decode cX9_does 283 = .ok (.ireturn, 1) := by decide +kernel
theorem dX9_does_284 : decode cX9_does 284 = .ok (.aload_n 0, 1) := by decide +kernel
theorem dX9_does_285 : decode cX9_does 285 = .ok (.aload_n 0, 1) := by decide +kernel
theorem dX9_does_286 : decode cX9_does 286 = .ok (.iload_n 3, 1) := by decide +kernel
theorem dX9_does_287 : decode cX9_does 287 = .ok (.invokevirtual 161, 3) := by decide +kernel
theorem dX9_does_290 : decode cX9_does 290 = .ok (.ifCond .ne 7, 3) := by decide +kernel
theorem dX9_does_293 : decode cX9_does 293 = .ok (.iconst 1, 1) := by decide +kernel
theorem dX9_does_294 : decode cX9_does 294 = .ok (.goto 4, 3) := by decide +kernel
theorem dX9_does_297 : decode cX9_does 297 = .ok (.iconst 0, 1) := by decide +kernel
theorem dX9_does_298 : decode cX9_does 298 = .ok (.iconst 1, 1) := by decide +kernel
theorem dX9_does_299 : decode cX9_does 299 = .ok (.invokevirtual 168, 3) := by decide +kernel
theorem dX9_does_302 : decode cX9_does 302 = .ok (.ifCond .ne 54, 3) := by decide +kernel
theorem dX9_does_305 : decode cX9_does 305 = .ok (.aload_n 0, 1) := by decide +kernel
theorem dX9_does_306 : decode cX9_does 306 = .ok (.iload_n 2, 1) := by decide +kernel
theorem dX9_does_307 : decode cX9_does 307 = .ok (.iload 4, 2) := by decide +kernel
theorem dX9_does_309 : decode cX9_does 309 = .ok (.invokestatic 180, 3) := by decide +kernel
theorem dX9_does_312 : decode cX9_does 312 = .ok (.ifCond .ne 7, 3) := by decide +kernel
theorem dX9_does_315 : decode cX9_does 315 = .ok (.iconst 1, 1) := by decide +kernel
theorem dX9_does_316 : decode cX9_does 316 = .ok (.goto 4, 3) := by decide +kernel
theorem dX9_does_319 : decode cX9_does 319 = .ok (.iconst 0, 1) := by decide +kernel
theorem dX9_does_320 : decode cX9_does 320 = .ok (.iconst 2, 1) := by decide +kernel
theorem dX9_does_321 : decode cX9_does 321 = .ok (.invokevirtual 168, 3) := by decide +kernel
theorem dX9_does_324 : decode cX9_does 324 = .ok (.ifCond .ne 32, 3) := by decide +kernel
theorem dX9_does_327 : decode cX9_does 327 = .ok (.aload_n 0, 1) := by decide +kernel
theorem dX9_does_328 : decode cX9_does 328 = .ok (.aload_n 0, 1) := by decide +kernel
theorem dX9_does_329 : decode cX9_does 329 = .ok (.bipush 8, 2) := by decide +kernel
theorem dX9_does_331 : decode cX9_does 331 = .ok (.invokevirtual 86, 3) := by decide +kernel
theorem dX9_does_334 : decode cX9_does 334 = .ok (.bipush 6, 2) := by decide +kernel
theorem dX9_does_336 : decode cX9_does 336 = .ok (.if_icmp .eq 8, 3) := by decide +kernel
theorem dX9_does_339 : decode cX9_does 339 = .ok (.iload 6, 2) := by decide +kernel
theorem dX9_does_341 : decode cX9_does 341 = .ok (.ifCond .eq 7, 3) := by decide +kernel
theorem dX9_does_344 : decode cX9_does 344 = .ok (.iconst 1, 1) := by decide +kernel
theorem dX9_does_345 : decode cX9_does 345 = .ok (.goto 4, 3) := by decide +kernel
theorem dX9_does_348 : decode cX9_does 348 = .ok (.iconst 0, 1) := by decide +kernel
theorem dX9_does_349 : decode cX9_does 349 = .ok (.iconst 3, 1) := by decide +kernel
theorem dX9_does_350 : decode cX9_does 350 = .ok (.invokevirtual 168, 3) := by decide +kernel
theorem dX9_does_353 : decode cX9_does 353 = .ok (.ifCond .eq 5, 3) := by decide +kernel
theorem dX9_does_356 : decode cX9_does 356 = .ok (.iconst 0, 1) := by decide +kernel
theorem dX9_does_357 : decode cX9_does 357 = .ok (.ireturn, 1) := by decide +kernel
theorem dX9_does_358 : decode cX9_does 358 = .ok (.aload_n 0, 1) := by decide +kernel
theorem dX9_does_359 : decode cX9_does 359 = .ok (.bipush 51, 2) := by decide +kernel
theorem dX9_does_361 : decode cX9_does 361 = .ok (.iconst 3, 1) := by decide +kernel
theorem dX9_does_362 : decode cX9_does 362 = .ok (.bipush 8, 2) := by decide +kernel
theorem dX9_does_364 : decode cX9_does 364 = .ok (.iload_n 2, 1) := by decide +kernel
theorem dX9_does_365 : decode cX9_does 365 = .ok (.iload_n 3, 1) := by decide +kernel
theorem dX9_does_366 : decode cX9_does 366 = .ok (.iload 4, 2) := by decide +kernel
theorem dX9_does_368 : decode cX9_does 368 = .ok (.iconst 0, 1) := by decide +kernel
theorem dX9_does_369 : decode cX9_does 369 = .ok (.invokevirtual 172, 3) := by decide +kernel
theorem dX9_does_372 : decode cX9_does 372 = .ok (.ireturn, 1) := by decide +kernel
theorem dX9_does_373 : decode cX9_does 373 = .ok (.aload_n 0, 1) := by decide +kernel
theorem dX9_does_374 : decode cX9_does 374 = .ok (.iload_n 2, 1) := by decide +kernel
theorem dX9_does_375 : decode cX9_does 375 = .ok (.i2l, 1) := by decide +kernel
theorem dX9_does_376 : decode cX9_does 376 = .ok (.lconst 0, 1) := by decide +kernel
theorem dX9_does_377 : decode cX9_does 377 = .ok (.aload_n 0, 1) := by decide +kernel
theorem dX9_does_378 : decode cX9_does 378 = .ok (.bipush 8, 2) := by decide +kernel
theorem dX9_does_380 : decode cX9_does 380 = .ok (.invokevirtual 86, 3) := by decide +kernel
theorem dX9_does_383 : decode cX9_does 383 = .ok (.iconst 1, 1) := by decide +kernel
theorem dX9_does_384 : decode cX9_does 384 = .ok (.isub, 1) := by decide +kernel
theorem dX9_does_385 : decode cX9_does 385 = .ok (.i2l, 1) := by decide +kernel
theorem dX9_does_386 : decode cX9_does 386 = .ok (.invokestatic 90, 3) := by decide +kernel
theorem dX9_does_389 : decode cX9_does 389 = .ok (.ifCond .ne 7, 3) := by decide +kernel
theorem dX9_does_392 : decode cX9_does 392 = .ok (.iconst 1, 1) := by decide +kernel
theorem dX9_does_393 : decode cX9_does 393 = .ok (.goto 4, 3) := by decide +kernel
theorem dX9_does_396 : decode cX9_does 396 = .ok (.iconst 0, 1) := by decide +kernel
theorem dX9_does_397 : decode cX9_does 397 = .ok (.iconst 1, 1) := by decide +kernel
theorem dX9_does_398 : decode cX9_does 398 = .ok (.invokevirtual 168, 3) := by decide +kernel
theorem dX9_does_401 : decode cX9_does 401 = .ok (.ifCond .ne 13, 3) := by decide +kernel
theorem dX9_does_404 : decode cX9_does 404 = .ok (.aload_n 0, 1) := by decide +kernel
theorem dX9_does_405 : decode cX9_does 405 = .ok (.iload 6, 2) := by decide +kernel
theorem dX9_does_407 : decode cX9_does 407 = .ok (.iconst 3, 1) := by decide +kernel
theorem dX9_does_408 : decode cX9_does 408 = .ok (.invokevirtual 168, 3) := by decide +kernel
theorem dX9_does_411 : decode cX9_does 411 = .ok (.ifCond .eq 5, 3) := by decide +kernel
theorem dX9_does_414 : decode cX9_does 414 = .ok (.iconst 0, 1) := by decide +kernel
theorem dX9_does_415 : decode cX9_does 415 = .ok (.ireturn, 1) := by decide +kernel
theorem dX9_does_416 : decode cX9_does 416 = .ok (.aload_n 0, 1) := by decide +kernel
theorem dX9_does_417 : decode cX9_does 417 = .ok (.bipush 51, 2) := by decide +kernel
theorem dX9_does_419 : decode cX9_does 419 = .ok (.iconst 3, 1) := by decide +kernel
theorem dX9_does_420 : decode cX9_does 420 = .ok (.bipush 8, 2) := by decide +kernel
theorem dX9_does_422 : decode cX9_does 422 = .ok (.iload_n 2, 1) := by decide +kernel
theorem dX9_does_423 : decode cX9_does 423 = .ok (.invokevirtual 184, 3) := by decide +kernel
theorem dX9_does_426 : decode cX9_does 426 = .ok (.ireturn, 1) := by decide +kernel
theorem dX9_does_427 : decode cX9_does 427 = .ok (.aload_n 0, 1) := by decide +kernel
theorem dX9_does_428 : decode cX9_does 428 = .ok (.aload_n 0, 1) := by decide +kernel
theorem dX9_does_429 : decode cX9_does 429 = .ok (.iload_n 2, 1) := by decide +kernel
theorem dX9_does_430 : decode cX9_does 430 = .ok (.invokevirtual 161, 3) := by decide +kernel
theorem dX9_does_433 : decode cX9_does 433 = .ok (.ifCond .eq 11, 3) := by decide +kernel
theorem dX9_does_436 : decode cX9_does 436 = .ok (.aload_n 0, 1) := by decide +kernel
theorem dX9_does_437 : decode cX9_does 437 = .ok (.iload_n 3, 1) := by decide +kernel
theorem dX9_does_438 : decode cX9_does 438 = .ok (.invokevirtual 161, 3) := by decide +kernel
theorem dX9_does_441 : decode cX9_does 441 = .ok (.ifCond .ne 7, 3) := by decide +kernel
theorem dX9_does_444 : decode cX9_does 444 = .ok (.iconst 1, 1) := by decide +kernel
theorem dX9_does_445 : decode cX9_does 445 = .ok (.goto 4, 3) := by decide +kernel
theorem dX9_does_448 : decode cX9_does 448 = .ok (.iconst 0, 1) := by decide +kernel
theorem dX9_does_449 : decode cX9_does 449 = .ok (.iconst 1, 1) := by decide +kernel
theorem dX9_does_450 : decode cX9_does 450 = .ok (.invokevirtual 168, 3) := by decide +kernel
theorem dX9_does_453 : decode cX9_does 453 = .ok (.ifCond .ne 76, 3) := by decide +kernel
theorem dX9_does_456 : decode cX9_does 456 = .ok (.aload_n 0, 1) := by decide +kernel
theorem dX9_does_457 : decode cX9_does 457 = .ok (.iload_n 2, 1) := by decide +kernel
theorem dX9_does_458 : decode cX9_does 458 = .ok (.iload_n 3, 1) := by decide +kernel
theorem dX9_does_459 : decode cX9_does 459 = .ok (.if_icmp .eq 29, 3) := by decide +kernel
theorem dX9_does_462 : decode cX9_does 462 = .ok (.iload 4, 2) := by decide +kernel
theorem dX9_does_464 : decode cX9_does 464 = .ok (.i2l, 1) := by decide +kernel
theorem dX9_does_465 : decode cX9_does 465 = .ok (.lconst 0, 1) := by decide +kernel
theorem dX9_does_466 : decode cX9_does 466 = .ok (.ldc2_w 155, 3) := by decide +kernel
theorem dX9_does_469 : decode cX9_does 469 = .ok (.invokestatic 90, 3) := by decide +kernel
theorem dX9_does_472 : decode cX9_does 472 = .ok (.ifCond .eq 16, 3) := by decide +kernel
theorem dX9_does_475 : decode cX9_does 475 = .ok (.iload 5, 2) := by decide +kernel
theorem dX9_does_477 : decode cX9_does 477 = .ok (.i2l, 1) := by decide +kernel
theorem dX9_does_478 : decode cX9_does 478 = .ok (.lconst 1, 1) := by decide +kernel
theorem dX9_does_479 : decode cX9_does 479 = .ok (.ldc2_w 126, 3) := by decide +kernel
theorem dX9_does_482 : decode cX9_does 482 = .ok (.invokestatic 90, 3) := by decide +kernel
theorem dX9_does_485 : decode cX9_does 485 = .ok (.ifCond .ne 7, 3) := by decide +kernel
theorem dX9_does_488 : decode cX9_does 488 = .ok (.iconst 1, 1) := by decide +kernel
theorem dX9_does_489 : decode cX9_does 489 = .ok (.goto 4, 3) := by decide +kernel
theorem dX9_does_492 : decode cX9_does 492 = .ok (.iconst 0, 1) := by decide +kernel
theorem dX9_does_493 : decode cX9_does 493 = .ok (.iconst 2, 1) := by decide +kernel
theorem dX9_does_494 : decode cX9_does 494 = .ok (.invokevirtual 168, 3) := by decide +kernel
theorem dX9_does_497 : decode cX9_does 497 = .ok (.ifCond .ne 32, 3) := by decide +kernel
theorem dX9_does_500 : decode cX9_does 500 = .ok (.aload_n 0, 1) := by decide +kernel
theorem dX9_does_501 : decode cX9_does 501 = .ok (.aload_n 0, 1) := by decide +kernel
theorem dX9_does_502 : decode cX9_does 502 = .ok (.bipush 9, 2) := by decide +kernel
theorem dX9_does_504 : decode cX9_does 504 = .ok (.invokevirtual 86, 3) := by decide +kernel
theorem dX9_does_507 : decode cX9_does 507 = .ok (.bipush 6, 2) := by decide +kernel
theorem dX9_does_509 : decode cX9_does 509 = .ok (.if_icmp .eq 8, 3) := by decide +kernel
theorem dX9_does_512 : decode cX9_does 512 = .ok (.iload 6, 2) := by decide +kernel
theorem dX9_does_514 : decode cX9_does 514 = .ok (.ifCond .eq 7, 3) := by decide +kernel
theorem dX9_does_517 : decode cX9_does 517 = .ok (.iconst 1, 1) := by decide +kernel
theorem dX9_does_518 : decode cX9_does 518 = .ok (.goto 4, 3) := by decide +kernel
theorem dX9_does_521 : decode cX9_does 521 = .ok (.iconst 0, 1) := by decide +kernel
theorem dX9_does_522 : decode cX9_does 522 = .ok (.iconst 3, 1) := by decide +kernel
theorem dX9_does_523 : decode cX9_does 523 = .ok (.invokevirtual 168, 3) := by decide +kernel
theorem dX9_does_526 : decode cX9_does 526 = .ok (.ifCond .eq 5, 3) := by decide +kernel
theorem dX9_does_529 : decode cX9_does 529 = .ok (.iconst 0, 1) := by decide +kernel
theorem dX9_does_530 : decode cX9_does 530 = .ok (.ireturn, 1) := by decide +kernel
theorem dX9_does_531 : decode cX9_does 531 = .ok (.aload_n 0, 1) := by decide +kernel
theorem dX9_does_532 : decode cX9_does 532 = .ok (.bipush 69, 2) := by decide +kernel
theorem dX9_does_534 : decode cX9_does 534 = .ok (.iconst 5, 1) := by decide +kernel
theorem dX9_does_535 : decode cX9_does 535 = .ok (.bipush 9, 2) := by decide +kernel
theorem dX9_does_537 : decode cX9_does 537 = .ok (.iload_n 2, 1) := by decide +kernel
theorem dX9_does_538 : decode cX9_does 538 = .ok (.iload_n 3, 1) := by decide +kernel
theorem dX9_does_539 : decode cX9_does 539 = .ok (.iload 4, 2) := by decide +kernel
theorem dX9_does_541 : decode cX9_does 541 = .ok (.iload 5, 2) := by decide +kernel
theorem dX9_does_543 : decode cX9_does 543 = .ok (.invokevirtual 172, 3) := by decide +kernel
theorem dX9_does_546 : decode cX9_does 546 = .ok (.ireturn, 1) := by decide +kernel
theorem dX9_does_547 : decode cX9_does 547 = .ok (.aload_n 0, 1) := by decide +kernel
theorem dX9_does_548 : decode cX9_does 548 = .ok (.iload_n 2, 1) := by decide +kernel
theorem dX9_does_549 : decode cX9_does 549 = .ok (.i2l, 1) := by decide +kernel
theorem dX9_does_550 : decode cX9_does 550 = .ok (.lconst 0, 1) := by decide +kernel
theorem dX9_does_551 : decode cX9_does 551 = .ok (.aload_n 0, 1) := by decide +kernel
theorem dX9_does_552 : decode cX9_does 552 = .ok (.bipush 9, 2) := by decide +kernel
theorem dX9_does_554 : decode cX9_does 554 = .ok (.invokevirtual 86, 3) := by decide +kernel
theorem dX9_does_557 : decode cX9_does 557 = .ok (.iconst 1, 1) := by decide +kernel
theorem dX9_does_558 : decode cX9_does 558 = .ok (.isub, 1) := by decide +kernel
theorem dX9_does_559 : decode cX9_does 559 = .ok (.i2l, 1) := by decide +kernel
theorem dX9_does_560 : decode cX9_does 560 = .ok (.invokestatic 90, 3) := by decide +kernel
theorem dX9_does_563 : decode cX9_does 563 = .ok (.ifCond .ne 7, 3) := by decide +kernel
theorem dX9_does_566 : decode cX9_does 566 = .ok (.iconst 1, 1) := by decide +kernel
theorem dX9_does_567 : decode cX9_does 567 = .ok (.goto 4, 3) := by decide +kernel
theorem dX9_does_570 : decode cX9_does 570 = .ok (.iconst 0, 1) := by decide +kernel
theorem dX9_does_571 : decode cX9_does 571 = .ok (.iconst 1, 1) := by decide +kernel
theorem dX9_does_572 : decode cX9_does 572 = .ok (.invokevirtual 168, 3) := by decide +kernel
theorem dX9_does_575 : decode cX9_does 575 = .ok (.ifCond .ne 13, 3) := by decide +kernel
theorem dX9_does_578 : decode cX9_does 578 = .ok (.aload_n 0, 1) := by decide +kernel
theorem dX9_does_579 : decode cX9_does 579 = .ok (.iload 6, 2) := by decide +kernel
theorem dX9_does_581 : decode cX9_does 581 = .ok (.iconst 3, 1) := by decide +kernel
theorem dX9_does_582 : decode cX9_does 582 = .ok (.invokevirtual 168, 3) := by decide +kernel
theorem dX9_does_585 : decode cX9_does 585 = .ok (.ifCond .eq 5, 3) := by decide +kernel
theorem dX9_does_588 : decode cX9_does 588 = .ok (.iconst 0, 1) := by decide +kernel
theorem dX9_does_589 : decode cX9_does 589 = .ok (.ireturn, 1) := by decide +kernel
theorem dX9_does_590 : decode cX9_does 590 = .ok (.aload_n 0, 1) := by decide +kernel
theorem dX9_does_591 : decode cX9_does 591 = .ok (.bipush 69, 2) := by decide +kernel
theorem dX9_does_593 : decode cX9_does 593 = .ok (.iconst 5, 1) := by decide +kernel
theorem dX9_does_594 : decode cX9_does 594 = .ok (.bipush 9, 2) := by decide +kernel
theorem dX9_does_596 : decode cX9_does 596 = .ok (.iload_n 2, 1) := by decide +kernel
theorem dX9_does_597 : decode cX9_does 597 = .ok (.invokevirtual 184, 3) := by decide +kernel
theorem dX9_does_600 : decode cX9_does 600 = .ok (.ireturn, 1) := by decide +kernel
theorem dX9_does_601 : decode cX9_does 601 = .ok (.aload_n 0, 1) := by decide +kernel
theorem dX9_does_602 : decode cX9_does 602 = .ok (.iload_n 2, 1) := by decide +kernel
theorem dX9_does_603 : decode cX9_does 603 = .ok (.iload_n 3, 1) := by decide +kernel
theorem dX9_does_604 : decode cX9_does 604 = .ok (.iload 4, 2) := by decide +kernel
theorem dX9_does_606 : decode cX9_does 606 = .ok (.iload 5, 2) := by decide +kernel
theorem dX9_does_608 : decode cX9_does 608 = .ok (.iload 6, 2) := by decide +kernel
theorem dX9_does_610 : decode cX9_does 610 = .ok (.invokevirtual 188, 3) := by decide +kernel
theorem dX9_does_613 : decode cX9_does 613 = .ok (.ireturn, 1) := by decide +kernel
theorem dX9_does_614 : decode cX9_does 614 = .ok (.aload_n 0, 1) := by decide +kernel
theorem dX9_does_615 : decode cX9_does 615 = .ok (.iload_n 2, 1) := by decide +kernel
theorem dX9_does_616 : decode cX9_does 616 = .ok (.i2l, 1) := by decide +kernel
theorem dX9_does_617 : decode cX9_does 617 = .ok (.lconst 0, 1) := by decide +kernel
theorem dX9_does_618 : decode cX9_does 618 = .ok (.aload_n 0, 1) := by decide +kernel
theorem dX9_does_619 : decode cX9_does 619 = .ok (.bipush 10, 2) := by decide +kernel
theorem dX9_does_621 : decode cX9_does 621 = .ok (.invokevirtual 86, 3) := by decide +kernel
theorem dX9_does_624 : decode cX9_does 624 = .ok (.iconst 1, 1) := by decide +kernel
theorem dX9_does_625 : decode cX9_does 625 = .ok (.isub, 1) := by decide +kernel
theorem dX9_does_626 : decode cX9_does 626 = .ok (.i2l, 1) := by decide +kernel
theorem dX9_does_627 : decode cX9_does 627 = .ok (.invokestatic 90, 3) := by decide +kernel
theorem dX9_does_630 : decode cX9_does 630 = .ok (.ifCond .ne 7, 3) := by decide +kernel
theorem dX9_does_633 : decode cX9_does 633 = .ok (.iconst 1, 1) := by decide +kernel
theorem dX9_does_634 : decode cX9_does 634 = .ok (.goto 4, 3) := by decide +kernel
theorem dX9_does_637 : decode cX9_does 637 = .ok (.iconst 0, 1) := by decide +kernel
theorem dX9_does_638 : decode cX9_does 638 = .ok (.iconst 1, 1) := by decide +kernel
theorem dX9_does_639 : decode cX9_does 639 = .ok (.invokevirtual 168, 3) := by decide +kernel
theorem dX9_does_642 : decode cX9_does 642 = .ok (.ifCond .ne 13, 3) := by decide +kernel
theorem dX9_does_645 : decode cX9_does 645 = .ok (.aload_n 0, 1) := by decide +kernel
theorem dX9_does_646 : decode cX9_does 646 = .ok (.iload 6, 2) := by decide +kernel
theorem dX9_does_648 : decode cX9_does 648 = .ok (.iconst 3, 1) := by decide +kernel
theorem dX9_does_649 : decode cX9_does 649 = .ok (.invokevirtual 168, 3) := by decide +kernel
theorem dX9_does_652 : decode cX9_does 652 = .ok (.ifCond .eq 5, 3) := by decide +kernel
theorem dX9_does_655 : decode cX9_does 655 = .ok (.iconst 0, 1) := by decide +kernel
theorem dX9_does_656 : decode cX9_does 656 = .ok (.ireturn, 1) := by decide +kernel
theorem dX9_does_657 : decode cX9_does 657 = .ok (.aload_n 0, 1) := by decide +kernel
theorem dX9_does_658 : decode cX9_does 658 = .ok (.bipush 99, 2) := by decide +kernel
theorem dX9_does_660 : decode cX9_does 660 = .ok (.bipush 6, 2) := by decide +kernel
theorem dX9_does_662 : decode cX9_does 662 = .ok (.bipush 10, 2) := by decide +kernel
theorem dX9_does_664 : decode cX9_does 664 = .ok (.iload_n 2, 1) := by decide +kernel
theorem dX9_does_665 : decode cX9_does 665 = .ok (.invokevirtual 184, 3) := by decide +kernel
theorem dX9_does_668 : decode cX9_does 668 = .ok (.ireturn, 1) := by decide +kernel
theorem dX9_does_669 : decode cX9_does 669 = .ok (.aload_n 0, 1) := by decide +kernel
theorem dX9_does_670 : decode cX9_does 670 = .ok (.iload_n 2, 1) := by decide +kernel
theorem dX9_does_671 : decode cX9_does 671 = .ok (.i2l, 1) := by decide +kernel
theorem dX9_does_672 : decode cX9_does 672 = .ok (.lconst 1, 1) := by decide +kernel
theorem dX9_does_673 : decode cX9_does 673 = .ok (.ldc2_w 157, 3) := by decide +kernel
theorem dX9_does_676 : decode cX9_does 676 = .ok (.invokestatic 90, 3) := by decide +kernel
theorem dX9_does_679 : decode cX9_does 679 = .ok (.ifCond .ne 7, 3) := by decide +kernel
theorem dX9_does_682 : decode cX9_does 682 = .ok (.iconst 1, 1) := by decide +kernel
theorem dX9_does_683 : decode cX9_does 683 = .ok (.goto 4, 3) := by decide +kernel
theorem dX9_does_686 : decode cX9_does 686 = .ok (.iconst 0, 1) := by decide +kernel
theorem dX9_does_687 : decode cX9_does 687 = .ok (.iconst 2, 1) := by decide +kernel
theorem dX9_does_688 : decode cX9_does 688 = .ok (.invokevirtual 168, 3) := by decide +kernel
theorem dX9_does_691 : decode cX9_does 691 = .ok (.ifCond .ne 13, 3) := by decide +kernel
theorem dX9_does_694 : decode cX9_does 694 = .ok (.aload_n 0, 1) := by decide +kernel
theorem dX9_does_695 : decode cX9_does 695 = .ok (.iload 6, 2) := by decide +kernel
theorem dX9_does_697 : decode cX9_does 697 = .ok (.iconst 3, 1) := by decide +kernel
theorem dX9_does_698 : decode cX9_does 698 = .ok (.invokevirtual 168, 3) := by decide +kernel
theorem dX9_does_701 : decode cX9_does 701 = .ok (.ifCond .eq 5, 3) := by decide +kernel
theorem dX9_does_704 : decode cX9_does 704 = .ok (.iconst 0, 1) := by decide +kernel
theorem dX9_does_705 : decode cX9_does 705 = .ok (.ireturn, 1) := by decide +kernel
theorem dX9_does_706 : decode cX9_does 706 = .ok (.aload_n 0, 1) := by decide +kernel
theorem dX9_does_707 : decode cX9_does 707 = .ok (.aload_n 0, 1) := by decide +kernel
theorem dX9_does_708 : decode cX9_does 708 = .ok (.iload_n 2, 1) := by decide +kernel
theorem dX9_does_709 : decode cX9_does 709 = .ok (.i2l, 1) := by decide +kernel
theorem dX9_does_710 : decode cX9_does 710 = .ok (.invokevirtual 131, 3) := by decide +kernel
theorem dX9_does_713 : decode cX9_does 713 = .ok (.invokevirtual 192, 3) := by decide +kernel
theorem dX9_does_716 : decode cX9_does 716 = .ok (.ireturn, 1) := by decide +kernel
theorem dX9_does_717 : decode cX9_does 717 = .ok (.aload_n 0, 1) := by decide +kernel
theorem dX9_does_718 : decode cX9_does 718 = .ok (.aload_n 0, 1) := by decide +kernel
theorem dX9_does_719 : decode cX9_does 719 = .ok (.iload_n 2, 1) := by decide +kernel
theorem dX9_does_720 : decode cX9_does 720 = .ok (.invokevirtual 161, 3) := by decide +kernel
theorem dX9_does_723 : decode cX9_does 723 = .ok (.ifCond .ne 7, 3) := by decide +kernel
theorem dX9_does_726 : decode cX9_does 726 = .ok (.iconst 1, 1) := by decide +kernel
theorem dX9_does_727 : decode cX9_does 727 = .ok (.goto 4, 3) := by decide +kernel
theorem dX9_does_730 : decode cX9_does 730 = .ok (.iconst 0, 1) := by decide +kernel
theorem dX9_does_731 : decode cX9_does 731 = .ok (.iconst 1, 1) := by decide +kernel
theorem dX9_does_732 : decode cX9_does 732 = .ok (.invokevirtual 168, 3) := by decide +kernel
theorem dX9_does_735 : decode cX9_does 735 = .ok (.ifCond .ne 61, 3) := by decide +kernel
theorem dX9_does_738 : decode cX9_does 738 = .ok (.aload_n 0, 1) := by decide +kernel
theorem dX9_does_739 : decode cX9_does 739 = .ok (.iload_n 3, 1) := by decide +kernel
theorem dX9_does_740 : decode cX9_does 740 = .ok (.i2l, 1) := by decide +kernel
theorem dX9_does_741 : decode cX9_does 741 = .ok (.lconst 1, 1) := by decide +kernel
theorem dX9_does_742 : decode cX9_does 742 = .ok (.ldc2_w 157, 3) := by decide +kernel
theorem dX9_does_745 : decode cX9_does 745 = .ok (.invokestatic 90, 3) := by decide +kernel
theorem dX9_does_748 : decode cX9_does 748 = .ok (.ifCond .ne 7, 3) := by decide +kernel
theorem dX9_does_751 : decode cX9_does 751 = .ok (.iconst 1, 1) := by decide +kernel
theorem dX9_does_752 : decode cX9_does 752 = .ok (.goto 4, 3) := by decide +kernel
theorem dX9_does_755 : decode cX9_does 755 = .ok (.iconst 0, 1) := by decide +kernel
theorem dX9_does_756 : decode cX9_does 756 = .ok (.iconst 2, 1) := by decide +kernel
theorem dX9_does_757 : decode cX9_does 757 = .ok (.invokevirtual 168, 3) := by decide +kernel
theorem dX9_does_760 : decode cX9_does 760 = .ok (.ifCond .ne 36, 3) := by decide +kernel
theorem dX9_does_763 : decode cX9_does 763 = .ok (.aload_n 0, 1) := by decide +kernel
theorem dX9_does_764 : decode cX9_does 764 = .ok (.iload 6, 2) := by decide +kernel
theorem dX9_does_766 : decode cX9_does 766 = .ok (.iconst 3, 1) := by decide +kernel
theorem dX9_does_767 : decode cX9_does 767 = .ok (.invokevirtual 168, 3) := by decide +kernel
theorem dX9_does_770 : decode cX9_does 770 = .ok (.ifCond .ne 26, 3) := by decide +kernel
theorem dX9_does_773 : decode cX9_does 773 = .ok (.aload_n 0, 1) := by decide +kernel
theorem dX9_does_774 : decode cX9_does 774 = .ok (.aload_n 0, 1) := by decide +kernel
theorem dX9_does_775 : decode cX9_does 775 = .ok (.iload_n 2, 1) := by decide +kernel
theorem dX9_does_776 : decode cX9_does 776 = .ok (.iload_n 3, 1) := by decide +kernel
theorem dX9_does_777 : decode cX9_does 777 = .ok (.i2l, 1) := by decide +kernel
theorem dX9_does_778 : decode cX9_does 778 = .ok (.invokevirtual 135, 3) := by decide +kernel
theorem dX9_does_781 : decode cX9_does 781 = .ok (.ifCond .ne 7, 3) := by decide +kernel
theorem dX9_does_784 : decode cX9_does 784 = .ok (.iconst 1, 1) := by decide +kernel
theorem dX9_does_785 : decode cX9_does 785 = .ok (.goto 4, 3) := by decide +kernel
theorem dX9_does_788 : decode cX9_does 788 = .ok (.iconst 0, 1) := by decide +kernel
theorem dX9_does_789 : decode cX9_does 789 = .ok (.iconst 4, 1) := by decide +kernel
theorem dX9_does_790 : decode cX9_does 790 = .ok (.invokevirtual 168, 3) := by decide +kernel
theorem dX9_does_793 : decode cX9_does 793 = .ok (.ifCond .eq 5, 3) := by decide +kernel
theorem dX9_does_796 : decode cX9_does 796 = .ok (.iconst 0, 1) := by decide +kernel
theorem dX9_does_797 : decode cX9_does 797 = .ok (.ireturn, 1) := by decide +kernel
theorem dX9_does_798 : decode cX9_does 798 = .ok (.aload_n 0, 1) := by decide +kernel
theorem dX9_does_799 : decode cX9_does 799 = .ok (.aload_n 0, 1) := by decide +kernel
theorem dX9_does_800 : decode cX9_does 800 = .ok (.iload_n 2, 1) := by decide +kernel
theorem dX9_does_801 : decode cX9_does 801 = .ok (.iload_n 3, 1) := by decide +kernel
theorem dX9_does_802 : decode cX9_does 802 = .ok (.i2l, 1) := by decide +kernel
theorem dX9_does_803 : decode cX9_does 803 = .ok (.invokevirtual 139, 3) := by decide +kernel
theorem dX9_does_806 : decode cX9_does 806 = .ok (.invokevirtual 192, 3) := by decide +kernel
theorem dX9_does_809 : decode cX9_does 809 = .ok (.ireturn, 1) := by decide +kernel
theorem dX9_does_810 : decode cX9_does 810 = .ok (.aload_n 0, 1) := by decide +kernel
theorem dX9_does_811 : decode cX9_does 811 = .ok (.aload_n 0, 1) := by decide +kernel
theorem dX9_does_812 : decode cX9_does 812 = .ok (.iload_n 2, 1) := by decide +kernel
theorem dX9_does_813 : decode cX9_does 813 = .ok (.invokevirtual 196, 3) := by decide +kernel
theorem dX9_does_816 : decode cX9_does 816 = .ok (.ifCond .eq 11, 3) := by decide +kernel
theorem dX9_does_819 : decode cX9_does 819 = .ok (.aload_n 0, 1) := by decide +kernel
theorem dX9_does_820 : decode cX9_does 820 = .ok (.iload_n 3, 1) := by decide +kernel
theorem dX9_does_821 : decode cX9_does 821 = .ok (.invokevirtual 196, 3) := by decide +kernel
theorem dX9_does_824 : decode cX9_does 824 = .ok (.ifCond .ne 7, 3) := by decide +kernel
theorem dX9_does_827 : decode cX9_does 827 = .ok (.iconst 1, 1) := by decide +kernel
theorem dX9_does_828 : decode cX9_does 828 = .ok (.goto 4, 3) := by decide +kernel
theorem dX9_does_831 : decode cX9_does 831 = .ok (.iconst 0, 1) := by decide +kernel
theorem dX9_does_832 : decode cX9_does 832 = .ok (.iconst 1, 1) := by decide +kernel
theorem dX9_does_833 : decode cX9_does 833 = .ok (.invokevirtual 168, 3) := by decide +kernel
theorem dX9_does_836 : decode cX9_does 836 = .ok (.ifCond .ne 69, 3) := by decide +kernel
theorem dX9_does_839 : decode cX9_does 839 = .ok (.aload_n 0, 1) := by decide +kernel
theorem dX9_does_840 : decode cX9_does 840 = .ok (.iload_n 2, 1) := by decide +kernel
theorem dX9_does_841 : decode cX9_does 841 = .ok (.iload_n 3, 1) := by decide +kernel
theorem dX9_does_842 : decode cX9_does 842 = .ok (.if_icmp .eq 16, 3) := by decide +kernel
theorem dX9_does_845 : decode cX9_does 845 = .ok (.iload 4, 2) := by decide +kernel
theorem dX9_does_847 : decode cX9_does 847 = .ok (.i2l, 1) := by decide +kernel
theorem dX9_does_848 : decode cX9_does 848 = .ok (.lconst 1, 1) := by decide +kernel
theorem dX9_does_849 : decode cX9_does 849 = .ok (.ldc2_w 157, 3) := by decide +kernel
theorem dX9_does_852 : decode cX9_does 852 = .ok (.invokestatic 90, 3) := by decide +kernel
theorem dX9_does_855 : decode cX9_does 855 = .ok (.ifCond .ne 7, 3) := by decide +kernel
theorem dX9_does_858 : decode cX9_does 858 = .ok (.iconst 1, 1) := by decide +kernel
theorem dX9_does_859 : decode cX9_does 859 = .ok (.goto 4, 3) := by decide +kernel
theorem dX9_does_862 : decode cX9_does 862 = .ok (.iconst 0, 1) := by decide +kernel
theorem dX9_does_863 : decode cX9_does 863 = .ok (.iconst 2, 1) := by decide +kernel
theorem dX9_does_864 : decode cX9_does 864 = .ok (.invokevirtual 168, 3) := by decide +kernel
theorem dX9_does_867 : decode cX9_does 867 = .ok (.ifCond .ne 38, 3) := by decide +kernel
theorem dX9_does_870 : decode cX9_does 870 = .ok (.aload_n 0, 1) := by decide +kernel
theorem dX9_does_871 : decode cX9_does 871 = .ok (.iload 6, 2) := by decide +kernel
theorem dX9_does_873 : decode cX9_does 873 = .ok (.iconst 3, 1) := by decide +kernel
theorem dX9_does_874 : decode cX9_does 874 = .ok (.invokevirtual 168, 3) := by decide +kernel
theorem dX9_does_877 : decode cX9_does 877 = .ok (.ifCond .ne 28, 3) := by decide +kernel
theorem dX9_does_880 : decode cX9_does 880 = .ok (.aload_n 0, 1) := by decide +kernel
theorem dX9_does_881 : decode cX9_does 881 = .ok (.aload_n 0, 1) := by decide +kernel
theorem dX9_does_882 : decode cX9_does 882 = .ok (.iload_n 2, 1) := by decide +kernel
theorem dX9_does_883 : decode cX9_does 883 = .ok (.invokevirtual 199, 3) := by decide +kernel
theorem dX9_does_886 : decode cX9_does 886 = .ok (.iload 4, 2) := by decide +kernel
theorem dX9_does_888 : decode cX9_does 888 = .ok (.i2l, 1) := by decide +kernel
theorem dX9_does_889 : decode cX9_does 889 = .ok (.lcmp, 1) := by decide +kernel
theorem dX9_does_890 : decode cX9_does 890 = .ok (.ifCond .ge 7, 3) := by decide +kernel
theorem dX9_does_893 : decode cX9_does 893 = .ok (.iconst 1, 1) := by decide +kernel
theorem dX9_does_894 : decode cX9_does 894 = .ok (.goto 4, 3) := by decide +kernel
theorem dX9_does_897 : decode cX9_does 897 = .ok (.iconst 0, 1) := by decide +kernel
theorem dX9_does_898 : decode cX9_does 898 = .ok (.iconst 4, 1) := by decide +kernel
theorem dX9_does_899 : decode cX9_does 899 = .ok (.invokevirtual 168, 3) := by decide +kernel
theorem dX9_does_902 : decode cX9_does 902 = .ok (.ifCond .eq 5, 3) := by decide +kernel
theorem dX9_does_905 : decode cX9_does 905 = .ok (.iconst 0, 1) := by decide +kernel
theorem dX9_does_906 : decode cX9_does 906 = .ok (.ireturn, 1) := by decide +kernel
theorem dX9_does_907 : decode cX9_does 907 = .ok (.aload_n 0, 1) := by decide +kernel
theorem dX9_does_908 : decode cX9_does 908 = .ok (.aload_n 0, 1) := by decide +kernel
theorem dX9_does_909 : decode cX9_does 909 = .ok (.iload_n 2, 1) := by decide +kernel
theorem dX9_does_910 : decode cX9_does 910 = .ok (.iload_n 3, 1) := by decide +kernel
theorem dX9_does_911 : decode cX9_does 911 = .ok (.iload 4, 2) := by decide +kernel
theorem dX9_does_913 : decode cX9_does 913 = .ok (.invokevirtual 202, 3) := by decide +kernel
theorem dX9_does_916 : decode cX9_does 916 = .ok (.i2l, 1) := by decide +kernel
theorem dX9_does_917 : decode cX9_does 917 = .ok (.invokevirtual 192, 3) := by decide +kernel
theorem dX9_does_920 : decode cX9_does 920 = .ok (.ireturn, 1) := by decide +kernel
theorem dX9_does_921 : decode cX9_does 921 = .ok (.aload_n 0, 1) := by decide +kernel
theorem dX9_does_922 : decode cX9_does 922 = .ok (.iload_n 2, 1) := by decide +kernel
theorem dX9_does_923 : decode cX9_does 923 = .ok (.i2l, 1) := by decide +kernel
theorem dX9_does_924 : decode cX9_does 924 = .ok (.lconst 1, 1) := by decide +kernel
theorem dX9_does_925 : decode cX9_does 925 = .ok (.ldc2_w 206, 3) := by decide +kernel
theorem dX9_does_928 : decode cX9_does 928 = .ok (.invokestatic 90, 3) := by decide +kernel
theorem dX9_does_931 : decode cX9_does 931 = .ok (.ifCond .ne 7, 3) := by decide +kernel
theorem dX9_does_934 : decode cX9_does 934 = .ok (.iconst 1, 1) := by decide +kernel
theorem dX9_does_935 : decode cX9_does 935 = .ok (.goto 4, 3) := by decide +kernel
theorem dX9_does_938 : decode cX9_does 938 = .ok (.iconst 0, 1) := by decide +kernel
theorem dX9_does_939 : decode cX9_does 939 = .ok (.iconst 2, 1) := by decide +kernel
theorem dX9_does_940 : decode cX9_does 940 = .ok (.invokevirtual 168, 3) := by decide +kernel
theorem dX9_does_943 : decode cX9_does 943 = .ok (.ifCond .ne 13, 3) := by decide +kernel
theorem dX9_does_946 : decode cX9_does 946 = .ok (.aload_n 0, 1) := by decide +kernel
theorem dX9_does_947 : decode cX9_does 947 = .ok (.iload 6, 2) := by decide +kernel
theorem dX9_does_949 : decode cX9_does 949 = .ok (.iconst 3, 1) := by decide +kernel
theorem dX9_does_950 : decode cX9_does 950 = .ok (.invokevirtual 168, 3) := by decide +kernel
theorem dX9_does_953 : decode cX9_does 953 = .ok (.ifCond .eq 5, 3) := by decide +kernel
theorem dX9_does_956 : decode cX9_does 956 = .ok (.iconst 0, 1) := by decide +kernel
theorem dX9_does_957 : decode cX9_does 957 = .ok (.ireturn, 1) := by decide +kernel
theorem dX9_does_958 : decode cX9_does 958 = .ok (.aload_n 0, 1) := by decide +kernel
theorem dX9_does_959 : decode cX9_does 959 = .ok (.iconst 4, 1) := by decide +kernel
theorem dX9_does_960 : decode cX9_does 960 = .ok (.invokevirtual 94, 3) := by decide +kernel
theorem dX9_does_963 : decode cX9_does 963 = .ok (.lstore 7, 2) := by decide +kernel
theorem dX9_does_965 : decode cX9_does 965 = .ok (.iconst 0, 1) := by decide +kernel
theorem dX9_does_966 : decode cX9_does 966 = .ok (.istore 9, 2) := by decide +kernel
theorem dX9_does_968 : decode cX9_does 968 = .ok (.iload 9, 2) := by decide +kernel
theorem dX9_does_970 : decode cX9_does 970 = .ok (.iload_n 2, 1) := by decide +kernel
theorem dX9_does_971 : decode cX9_does 971 = .ok (.if_icmp .ge 13, 3) := by decide +kernel
theorem dX9_does_974 : decode cX9_does 974 = .ok (.aload_n 0, 1) := by decide +kernel
theorem dX9_does_975 : decode cX9_does 975 = .ok (.invokevirtual 208, 3) := by decide +kernel
theorem dX9_does_978 : decode cX9_does 978 = .ok (.iinc 9 1, 3) := by decide +kernel
theorem dX9_does_981 : decode cX9_does 981 = .ok (.goto (-13), 3) := by decide +kernel
theorem dX9_does_984 : decode cX9_does 984 = .ok (.aload_n 0, 1) := by decide +kernel
theorem dX9_does_985 : decode cX9_does 985 = .ok (.iconst 4, 1) := by decide +kernel
theorem dX9_does_986 : decode cX9_does 986 = .ok (.invokevirtual 94, 3) := by decide +kernel
theorem dX9_does_989 : decode cX9_does 989 = .ok (.lload 7, 2) := by decide +kernel
theorem dX9_does_991 : decode cX9_does 991 = .ok (.lsub, 1) := by decide +kernel
theorem dX9_does_992 : decode cX9_does 992 = .ok (.l2i, 1) := by decide +kernel
theorem dX9_does_993 : decode cX9_does 993 = .ok (.ireturn, 1) := by decide +kernel
theorem dX9_item_0 : decode cX9_item 0 = .ok (.iload_n 1, 1) := by decide +kernel
theorem dX9_item_1 : decode cX9_item 1 = .ok (.i2l, 1) := by decide +kernel
theorem dX9_item_2 : decode cX9_item 2 = .ok (.lconst 0, 1) := by decide +kernel
theorem dX9_item_3 : decode cX9_item 3 = .ok (.lconst 1, 1) := by decide +kernel
theorem dX9_item_4 : decode cX9_item 4 = .ok (.invokestatic 90, 3) := by decide +kernel
theorem dX9_item_7 : decode cX9_item 7 = .ok (.ifCond .eq 36, 3) := by decide +kernel
theorem dX9_item_10 : decode cX9_item 10 = .ok (.iload_n 3, 1) := by decide +kernel
theorem dX9_item_11 : decode cX9_item 11 = .ok (.i2l, 1) := by decide +kernel
theorem dX9_item_12 : decode cX9_item 12 = .ok (.lconst 1, 1) := by decide +kernel
theorem dX9_item_13 : decode cX9_item 13 = .ok (.ldc2_w 157, 3) := by decide +kernel
theorem dX9_item_16 : decode cX9_item 16 = .ok (.invokestatic 90, 3) := by decide +kernel
theorem dX9_item_19 : decode cX9_item 19 = .ok (.ifCond .eq 24, 3) := by decide +kernel
theorem dX9_item_22 : decode cX9_item 22 = .ok (.iload 4, 2) := by decide +kernel
theorem dX9_item_24 : decode cX9_item 24 = .ok (.i2l, 1) := by decide +kernel
theorem dX9_item_25 : decode cX9_item 25 = .ok (.lconst 1, 1) := by decide +kernel
theorem dX9_item_26 : decode cX9_item 26 = .ok (.ldc2_w 206, 3) := by decide +kernel
theorem dX9_item_29 : decode cX9_item 29 = .ok (.invokestatic 90, 3) := by decide +kernel
theorem dX9_item_32 : decode cX9_item 32 = .ok (.ifCond .eq 11, 3) := by decide +kernel
theorem dX9_item_35 : decode cX9_item 35 = .ok (.iload_n 1, 1) := by decide +kernel
theorem dX9_item_36 : decode cX9_item 36 = .ok (.ifCond .ne 11, 3) := by decide +kernel
theorem dX9_item_39 : decode cX9_item 39 = .ok (.iload_n 2, 1) := by decide +kernel
theorem dX9_item_40 : decode cX9_item 40 = .ok (.ifCond .eq 7, 3) := by decide +kernel
theorem dX9_item_43 : decode cX9_item 43 = .ok (.iconst 1, 1) := by decide +kernel
theorem dX9_item_44 : decode cX9_item 44 = .ok (.goto 4, 3) := by decide +kernel
theorem dX9_item_47 : decode cX9_item 47 = .ok (.iconst 0, 1) := by decide +kernel
theorem dX9_item_48 : decode cX9_item 48 = .ok (.istore 6, 2) := by decide +kernel
theorem dX9_item_50 : decode cX9_item 50 = .ok (.aload_n 0, 1) := by decide +kernel
theorem dX9_item_51 : decode cX9_item 51 = .ok (.iload_n 1, 1) := by decide +kernel
theorem dX9_item_52 : decode cX9_item 52 = .ok (.iconst 1, 1) := by decide +kernel
theorem dX9_item_53 : decode cX9_item 53 = .ok (.if_icmp .ne 15, 3) := by decide +kernel
theorem dX9_item_56 : decode cX9_item 56 = .ok (.aload_n 0, 1) := by decide +kernel
theorem dX9_item_57 : decode cX9_item 57 = .ok (.iload_n 2, 1) := by decide +kernel
theorem dX9_item_58 : decode cX9_item 58 = .ok (.invokevirtual 161, 3) := by decide +kernel
theorem dX9_item_61 : decode cX9_item 61 = .ok (.ifCond .ne 7, 3) := by decide +kernel
theorem dX9_item_64 : decode cX9_item 64 = .ok (.iconst 1, 1) := by decide +kernel
theorem dX9_item_65 : decode cX9_item 65 = .ok (.goto 4, 3) := by decide +kernel
theorem dX9_item_68 : decode cX9_item 68 = .ok (.iconst 0, 1) := by decide +kernel
theorem dX9_item_69 : decode cX9_item 69 = .ok (.iconst 1, 1) := by decide +kernel
theorem dX9_item_70 : decode cX9_item 70 = .ok (.invokevirtual 168, 3) := by decide +kernel
theorem dX9_item_73 : decode cX9_item 73 = .ok (.ifCond .ne 42, 3) := by decide +kernel
theorem dX9_item_76 : decode cX9_item 76 = .ok (.aload_n 0, 1) := by decide +kernel
theorem dX9_item_77 : decode cX9_item 77 = .ok (.iload 6, 2) := by decide +kernel
theorem dX9_item_79 : decode cX9_item 79 = .ok (.iconst 2, 1) := by decide +kernel
theorem dX9_item_80 : decode cX9_item 80 = .ok (.invokevirtual 168, 3) := by decide +kernel
theorem dX9_item_83 : decode cX9_item 83 = .ok (.ifCond .ne 32, 3) := by decide +kernel
theorem dX9_item_86 : decode cX9_item 86 = .ok (.aload_n 0, 1) := by decide +kernel
theorem dX9_item_87 : decode cX9_item 87 = .ok (.aload_n 0, 1) := by decide +kernel
theorem dX9_item_88 : decode cX9_item 88 = .ok (.bipush 10, 2) := by decide +kernel
theorem dX9_item_90 : decode cX9_item 90 = .ok (.invokevirtual 86, 3) := by decide +kernel
theorem dX9_item_93 : decode cX9_item 93 = .ok (.bipush 8, 2) := by decide +kernel
theorem dX9_item_95 : decode cX9_item 95 = .ok (.if_icmp .eq 8, 3) := by decide +kernel
theorem dX9_item_98 : decode cX9_item 98 = .ok (.iload 5, 2) := by decide +kernel
theorem dX9_item_100 : decode cX9_item 100 = .ok (.ifCond .eq 7, 3) := by decide +kernel
theorem dX9_item_103 : decode cX9_item 103 = .ok (.iconst 1, 1) := by decide +kernel
theorem dX9_item_104 : decode cX9_item 104 = .ok (.goto 4, 3) := by decide +kernel
theorem dX9_item_107 : decode cX9_item 107 = .ok (.iconst 0, 1) := by decide +kernel
theorem dX9_item_108 : decode cX9_item 108 = .ok (.iconst 3, 1) := by decide +kernel
theorem dX9_item_109 : decode cX9_item 109 = .ok (.invokevirtual 168, 3) := by decide +kernel
theorem dX9_item_112 : decode cX9_item 112 = .ok (.ifCond .eq 5, 3) := by decide +kernel
theorem dX9_item_115 : decode cX9_item 115 = .ok (.iconst 0, 1) := by decide +kernel
theorem dX9_item_116 : decode cX9_item 116 = .ok (.ireturn, 1) := by decide +kernel
theorem dX9_item_117 : decode cX9_item 117 = .ok (.aload_n 0, 1) := by decide +kernel
theorem dX9_item_118 : decode cX9_item 118 = .ok (.bipush 99, 2) := by decide +kernel
theorem dX9_item_120 : decode cX9_item 120 = .ok (.bipush 6, 2) := by decide +kernel
theorem dX9_item_122 : decode cX9_item 122 = .ok (.bipush 10, 2) := by decide +kernel
theorem dX9_item_124 : decode cX9_item 124 = .ok (.iload_n 1, 1) := by decide +kernel
theorem dX9_item_125 : decode cX9_item 125 = .ok (.iload_n 2, 1) := by decide +kernel
theorem dX9_item_126 : decode cX9_item 126 = .ok (.iload_n 3, 1) := by decide +kernel
theorem dX9_item_127 : decode cX9_item 127 = .ok (.iload 4, 2) := by decide +kernel
theorem dX9_item_129 : decode cX9_item 129 = .ok (.invokevirtual 172, 3) := by decide +kernel
theorem dX9_item_132 : decode cX9_item 132 = .ok (.istore 7, 2) := by decide +kernel
theorem dX9_item_134 : decode cX9_item 134 = .ok (.aload_n 0, 1) := by decide +kernel
theorem dX9_item_135 : decode cX9_item 135 = .ok (.bipush 99, 2) := by decide +kernel
theorem dX9_item_137 : decode cX9_item 137 = .ok (.bipush 6, 2) := by decide +kernel
theorem dX9_item_139 : decode cX9_item 139 = .ok (.iload 7, 2) := by decide +kernel
theorem dX9_item_141 : decode cX9_item 141 = .ok (.imul, 1) := by decide +kernel
theorem dX9_item_142 : decode cX9_item 142 = .ok (.iadd, 1) := by decide +kernel
theorem dX9_item_143 : decode cX9_item 143 = .ok (.iconst 4, 1) := by decide +kernel
theorem dX9_item_144 : decode cX9_item 144 = .ok (.iadd, 1) := by decide +kernel
theorem dX9_item_145 : decode cX9_item 145 = .ok (.aload_n 0, 1) := by decide +kernel
theorem dX9_item_146 : decode cX9_item 146 = .ok (.iconst 1, 1) := by decide +kernel
theorem dX9_item_147 : decode cX9_item 147 = .ok (.invokevirtual 94, 3) := by decide +kernel
theorem dX9_item_150 : decode cX9_item 150 = .ok (.iload 4, 2) := by decide +kernel
theorem dX9_item_152 : decode cX9_item 152 = .ok (.i2l, 1) := by decide +kernel
theorem dX9_item_153 : decode cX9_item 153 = .ok (.ladd, 1) := by decide +kernel
theorem dX9_item_154 : decode cX9_item 154 = .ok (.invokevirtual 128, 3) := by decide +kernel
theorem dX9_item_157 : decode cX9_item 157 = .ok (.iload 7, 2) := by decide +kernel
theorem dX9_item_159 : decode cX9_item 159 = .ok (.ireturn, 1) := by decide +kernel
theorem dX9_swaps_0 : decode cX9_swaps 0 = .ok (.aload_n 0, 1) := by decide +kernel
theorem dX9_swaps_1 : decode cX9_swaps 1 = .ok (.iload_n 1, 1) := by decide +kernel
theorem dX9_swaps_2 : decode cX9_swaps 2 = .ok (.invokevirtual 86, 3) := by decide +kernel
theorem dX9_swaps_5 : decode cX9_swaps 5 = .ok (.istore_n 3, 1) := by decide +kernel
theorem dX9_swaps_6 : decode cX9_swaps 6 = .ok (.aload_n 0, 1) := by decide +kernel
theorem dX9_swaps_7 : decode cX9_swaps 7 = .ok (.iload_n 1, 1) := by decide +kernel
theorem dX9_swaps_8 : decode cX9_swaps 8 = .ok (.iload_n 2, 1) := by decide +kernel
theorem dX9_swaps_9 : decode cX9_swaps 9 = .ok (.i2l, 1) := by decide +kernel
theorem dX9_swaps_10 : decode cX9_swaps 10 = .ok (.invokevirtual 128, 3) := by decide +kernel
theorem dX9_swaps_13 : decode cX9_swaps 13 = .ok (.iload_n 3, 1) := by decide +kernel
theorem dX9_swaps_14 : decode cX9_swaps 14 = .ok (.ireturn, 1) := by decide +kernel
theorem dX9_settled_0 : decode cX9_settled 0 = .ok (.aload_n 0, 1) := by decide +kernel
theorem dX9_settled_1 : decode cX9_settled 1 = .ok (.invokevirtual 142, 3) := by decide +kernel
theorem dX9_settled_4 : decode cX9_settled 4 = .ok (.lload_n 1, 1) := by decide +kernel
theorem dX9_settled_5 : decode cX9_settled 5 = .ok (.l2i, 1) := by decide +kernel
theorem dX9_settled_6 : decode cX9_settled 6 = .ok (.ireturn, 1) := by decide +kernel
theorem dX9_step_0 : decode cX9_step 0 = .ok (.aload_n 0, 1) := by decide +kernel
theorem dX9_step_1 : decode cX9_step 1 = .ok (.aload_n 0, 1) := by decide +kernel
theorem dX9_step_2 : decode cX9_step 2 = .ok (.getfield 39, 3) := by decide +kernel
theorem dX9_step_5 : decode cX9_step 5 = .ok (.invokestatic 211, 3) := by decide +kernel
theorem dX9_step_8 : decode cX9_step 8 = .ok (.putfield 45, 3) := by decide +kernel
theorem dX9_step_11 : decode cX9_step 11 = .ok (.aload_n 0, 1) := by decide +kernel
theorem dX9_step_12 : decode cX9_step 12 = .ok (.iload_n 1, 1) := by decide +kernel
theorem dX9_step_13 : decode cX9_step 13 = .ok (.iload_n 2, 1) := by decide +kernel
theorem dX9_step_14 : decode cX9_step 14 = .ok (.iload_n 3, 1) := by decide +kernel
theorem dX9_step_15 : decode cX9_step 15 = .ok (.iload 4, 2) := by decide +kernel
theorem dX9_step_17 : decode cX9_step 17 = .ok (.iload 5, 2) := by decide +kernel
theorem dX9_step_19 : decode cX9_step 19 = .ok (.aload_n 0, 1) := by decide +kernel
theorem dX9_step_20 : decode cX9_step 20 = .ok (.getfield 24, 3) := by decide +kernel
theorem dX9_step_23 : decode cX9_step 23 = .ok (.aload_n 0, 1) := by decide +kernel
theorem dX9_step_24 : decode cX9_step 24 = .ok (.getfield 39, 3) := by decide +kernel
theorem dX9_step_27 : decode cX9_step 27 = .ok (.iaload, 1) := by decide +kernel
theorem dX9_step_28 : decode cX9_step 28 = .ok (.bipush 60, 2) := by decide +kernel
theorem dX9_step_30 : decode cX9_step 30 = .ok (.if_icmp .ne 7, 3) := by decide +kernel
theorem dX9_step_33 : decode cX9_step 33 = .ok (.iconst 1, 1) := by decide +kernel
theorem dX9_step_34 : decode cX9_step 34 = .ok (.goto 4, 3) := by decide +kernel
theorem dX9_step_37 : decode cX9_step 37 = .ok (.iconst 0, 1) := by decide +kernel
theorem dX9_step_38 : decode cX9_step 38 = .ok (.invokevirtual 214, 3) := by decide +kernel
theorem dX9_step_41 : decode cX9_step 41 = .ok (.istore 6, 2) := by decide +kernel
theorem dX9_step_43 : decode cX9_step 43 = .ok (.aload_n 0, 1) := by decide +kernel
theorem dX9_step_44 : decode cX9_step 44 = .ok (.getfield 57, 3) := by decide +kernel
theorem dX9_step_47 : decode cX9_step 47 = .ok (.ifCond .eq 13, 3) := by decide +kernel
theorem dX9_step_50 : decode cX9_step 50 = .ok (.aload_n 0, 1) := by decide +kernel
theorem dX9_step_51 : decode cX9_step 51 = .ok (.aload_n 0, 1) := by decide +kernel
theorem dX9_step_52 : decode cX9_step 52 = .ok (.getfield 57, 3) := by decide +kernel
theorem dX9_step_55 : decode cX9_step 55 = .ok (.putfield 48, 3) := by decide +kernel
theorem dX9_step_58 : decode cX9_step 58 = .ok (.iconst 0, 1) := by decide +kernel
theorem dX9_step_59 : decode cX9_step 59 = .ok (.ireturn, 1) := by decide +kernel
theorem dX9_step_60 : decode cX9_step 60 = .ok (.aload_n 0, 1) := by decide +kernel
theorem dX9_step_61 : decode cX9_step 61 = .ok (.aload_n 0, 1) := by decide +kernel
theorem dX9_step_62 : decode cX9_step 62 = .ok (.getfield 39, 3) := by decide +kernel
theorem dX9_step_65 : decode cX9_step 65 = .ok (.iload_n 1, 1) := by decide +kernel
theorem dX9_step_66 : decode cX9_step 66 = .ok (.iload_n 2, 1) := by decide +kernel
theorem dX9_step_67 : decode cX9_step 67 = .ok (.iload_n 3, 1) := by decide +kernel
theorem dX9_step_68 : decode cX9_step 68 = .ok (.iload 4, 2) := by decide +kernel
theorem dX9_step_70 : decode cX9_step 70 = .ok (.iload 5, 2) := by decide +kernel
theorem dX9_step_72 : decode cX9_step 72 = .ok (.invokevirtual 218, 3) := by decide +kernel
theorem dX9_step_75 : decode cX9_step 75 = .ok (.iload 6, 2) := by decide +kernel
theorem dX9_step_77 : decode cX9_step 77 = .ok (.ireturn, 1) := by decide +kernel
theorem dX9_laysStep_0 : decode cX9_laysStep 0 = .ok (.iconst 5, 1) := by decide +kernel
theorem dX9_laysStep_1 : decode cX9_laysStep 1 = .ok (.bipush 60, 2) := by decide +kernel
theorem dX9_laysStep_3 : decode cX9_laysStep 3 = .ok (.iload_n 1, 1) := by decide +kernel
theorem dX9_laysStep_4 : decode cX9_laysStep 4 = .ok (.imul, 1) := by decide +kernel
theorem dX9_laysStep_5 : decode cX9_laysStep 5 = .ok (.aload_n 0, 1) := by decide +kernel
theorem dX9_laysStep_6 : decode cX9_laysStep 6 = .ok (.getfield 24, 3) := by decide +kernel
theorem dX9_laysStep_9 : decode cX9_laysStep 9 = .ok (.iload_n 1, 1) := by decide +kernel
theorem dX9_laysStep_10 : decode cX9_laysStep 10 = .ok (.iaload, 1) := by decide +kernel
theorem dX9_laysStep_11 : decode cX9_laysStep 11 = .ok (.iadd, 1) := by decide +kernel
theorem dX9_laysStep_12 : decode cX9_laysStep 12 = .ok (.imul, 1) := by decide +kernel
theorem dX9_laysStep_13 : decode cX9_laysStep 13 = .ok (.istore 7, 2) := by decide +kernel
theorem dX9_laysStep_15 : decode cX9_laysStep 15 = .ok (.aload_n 0, 1) := by decide +kernel
theorem dX9_laysStep_16 : decode cX9_laysStep 16 = .ok (.getfield 20, 3) := by decide +kernel
theorem dX9_laysStep_19 : decode cX9_laysStep 19 = .ok (.iload 7, 2) := by decide +kernel
theorem dX9_laysStep_21 : decode cX9_laysStep 21 = .ok (.iload_n 2, 1) := by decide +kernel
theorem dX9_laysStep_22 : decode cX9_laysStep 22 = .ok (.iastore, 1) := by decide +kernel
theorem dX9_laysStep_23 : decode cX9_laysStep 23 = .ok (.aload_n 0, 1) := by decide +kernel
theorem dX9_laysStep_24 : decode cX9_laysStep 24 = .ok (.getfield 20, 3) := by decide +kernel
theorem dX9_laysStep_27 : decode cX9_laysStep 27 = .ok (.iload 7, 2) := by decide +kernel
theorem dX9_laysStep_29 : decode cX9_laysStep 29 = .ok (.iconst 1, 1) := by decide +kernel
theorem dX9_laysStep_30 : decode cX9_laysStep 30 = .ok (.iadd, 1) := by decide +kernel
theorem dX9_laysStep_31 : decode cX9_laysStep 31 = .ok (.iload_n 3, 1) := by decide +kernel
theorem dX9_laysStep_32 : decode cX9_laysStep 32 = .ok (.iastore, 1) := by decide +kernel
theorem dX9_laysStep_33 : decode cX9_laysStep 33 = .ok (.aload_n 0, 1) := by decide +kernel
theorem dX9_laysStep_34 : decode cX9_laysStep 34 = .ok (.getfield 20, 3) := by decide +kernel
theorem dX9_laysStep_37 : decode cX9_laysStep 37 = .ok (.iload 7, 2) := by decide +kernel
theorem dX9_laysStep_39 : decode cX9_laysStep 39 = .ok (.iconst 2, 1) := by decide +kernel
theorem dX9_laysStep_40 : decode cX9_laysStep 40 = .ok (.iadd, 1) := by decide +kernel
theorem dX9_laysStep_41 : decode cX9_laysStep 41 = .ok (.iload 4, 2) := by decide +kernel
theorem dX9_laysStep_43 : decode cX9_laysStep 43 = .ok (.iastore, 1) := by decide +kernel
theorem dX9_laysStep_44 : decode cX9_laysStep 44 = .ok (.aload_n 0, 1) := by decide +kernel
theorem dX9_laysStep_45 : decode cX9_laysStep 45 = .ok (.getfield 20, 3) := by decide +kernel
theorem dX9_laysStep_48 : decode cX9_laysStep 48 = .ok (.iload 7, 2) := by decide +kernel
theorem dX9_laysStep_50 : decode cX9_laysStep 50 = .ok (.iconst 3, 1) := by decide +kernel
theorem dX9_laysStep_51 : decode cX9_laysStep 51 = .ok (.iadd, 1) := by decide +kernel
theorem dX9_laysStep_52 : decode cX9_laysStep 52 = .ok (.iload 5, 2) := by decide +kernel
theorem dX9_laysStep_54 : decode cX9_laysStep 54 = .ok (.iastore, 1) := by decide +kernel
theorem dX9_laysStep_55 : decode cX9_laysStep 55 = .ok (.aload_n 0, 1) := by decide +kernel
theorem dX9_laysStep_56 : decode cX9_laysStep 56 = .ok (.getfield 20, 3) := by decide +kernel
theorem dX9_laysStep_59 : decode cX9_laysStep 59 = .ok (.iload 7, 2) := by decide +kernel
theorem dX9_laysStep_61 : decode cX9_laysStep 61 = .ok (.iconst 4, 1) := by decide +kernel
theorem dX9_laysStep_62 : decode cX9_laysStep 62 = .ok (.iadd, 1) := by decide +kernel
theorem dX9_laysStep_63 : decode cX9_laysStep 63 = .ok (.iload 6, 2) := by decide +kernel
theorem dX9_laysStep_65 : decode cX9_laysStep 65 = .ok (.iastore, 1) := by decide +kernel
theorem dX9_laysStep_66 : decode cX9_laysStep 66 = .ok (.aload_n 0, 1) := by decide +kernel
theorem dX9_laysStep_67 : decode cX9_laysStep 67 = .ok (.getfield 24, 3) := by decide +kernel
theorem dX9_laysStep_70 : decode cX9_laysStep 70 = .ok (.iload_n 1, 1) := by decide +kernel
theorem dX9_laysStep_71 : decode cX9_laysStep 71 = .ok (.dup2, 1) := by decide +kernel
theorem dX9_laysStep_72 : decode cX9_laysStep 72 = .ok (.iaload, 1) := by decide +kernel
theorem dX9_laysStep_73 : decode cX9_laysStep 73 = .ok (.iconst 1, 1) := by decide +kernel
theorem dX9_laysStep_74 : decode cX9_laysStep 74 = .ok (.iadd, 1) := by decide +kernel
theorem dX9_laysStep_75 : decode cX9_laysStep 75 = .ok (.iastore, 1) := by decide +kernel
theorem dX9_laysStep_76 : decode cX9_laysStep 76 = .ok (.return_, 1) := by decide +kernel
theorem dX9_told_0 : decode cX9_told 0 = .ok (.aload_n 0, 1) := by decide +kernel
theorem dX9_told_1 : decode cX9_told 1 = .ok (.aload_n 0, 1) := by decide +kernel
theorem dX9_told_2 : decode cX9_told 2 = .ok (.getfield 57, 3) := by decide +kernel
theorem dX9_told_5 : decode cX9_told 5 = .ok (.ifCond .ne 7, 3) := by decide +kernel
theorem dX9_told_8 : decode cX9_told 8 = .ok (.iconst 0, 1) := by decide +kernel
theorem dX9_told_9 : decode cX9_told 9 = .ok (.goto 29, 3) := by decide +kernel
theorem dX9_told_12 : decode cX9_told 12 = .ok (.aload_n 0, 1) := by decide +kernel
theorem dX9_told_13 : decode cX9_told 13 = .ok (.getfield 57, 3) := by decide +kernel
theorem dX9_told_16 : decode cX9_told 16 = .ok (.iconst 1, 1) := by decide +kernel
theorem dX9_told_17 : decode cX9_told 17 = .ok (.if_icmp .ne 7, 3) := by decide +kernel
theorem dX9_told_20 : decode cX9_told 20 = .ok (.iload_n 2, 1) := by decide +kernel
theorem dX9_told_21 : decode cX9_told 21 = .ok (.goto 17, 3) := by decide +kernel
theorem dX9_told_24 : decode cX9_told 24 = .ok (.aload_n 0, 1) := by decide +kernel
theorem dX9_told_25 : decode cX9_told 25 = .ok (.getfield 57, 3) := by decide +kernel
theorem dX9_told_28 : decode cX9_told 28 = .ok (.iconst 2, 1) := by decide +kernel
theorem dX9_told_29 : decode cX9_told 29 = .ok (.if_icmp .ne 7, 3) := by decide +kernel
theorem dX9_told_32 : decode cX9_told 32 = .ok (.iload_n 3, 1) := by decide +kernel
theorem dX9_told_33 : decode cX9_told 33 = .ok (.goto 5, 3) := by decide +kernel
theorem dX9_told_36 : decode cX9_told 36 = .ok (.iload 4, 2) := by decide +kernel
theorem dX9_told_38 : decode cX9_told 38 = .ok (.putfield 3, 3) := by decide +kernel
theorem dX9_told_41 : decode cX9_told 41 = .ok (.iload_n 1, 1) := by decide +kernel
theorem dX9_told_42 : decode cX9_told 42 = .ok (.ireturn, 1) := by decide +kernel
theorem dX9_addEnvelope_0 : decode cX9_addEnvelope 0 = .ok (.aload_n 0, 1) := by decide +kernel
theorem dX9_addEnvelope_1 : decode cX9_addEnvelope 1 = .ok (.aload_n 0, 1) := by decide +kernel
theorem dX9_addEnvelope_2 : decode cX9_addEnvelope 2 = .ok (.iconst 0, 1) := by decide +kernel
theorem dX9_addEnvelope_3 : decode cX9_addEnvelope 3 = .ok (.iload_n 1, 1) := by decide +kernel
theorem dX9_addEnvelope_4 : decode cX9_addEnvelope 4 = .ok (.iload_n 2, 1) := by decide +kernel
theorem dX9_addEnvelope_5 : decode cX9_addEnvelope 5 = .ok (.iconst 0, 1) := by decide +kernel
theorem dX9_addEnvelope_6 : decode cX9_addEnvelope 6 = .ok (.iconst 0, 1) := by decide +kernel
theorem dX9_addEnvelope_7 : decode cX9_addEnvelope 7 = .ok (.invokevirtual 222, 3) := by decide +kernel
theorem dX9_addEnvelope_10 : decode cX9_addEnvelope 10 = .ok (.iconst 0, 1) := by decide +kernel
theorem dX9_addEnvelope_11 : decode cX9_addEnvelope 11 = .ok (.iconst 1, 1) := by decide +kernel
theorem dX9_addEnvelope_12 : decode cX9_addEnvelope 12 = .ok (.iconst 2, 1) := by decide +kernel
theorem dX9_addEnvelope_13 : decode cX9_addEnvelope 13 = .ok (.invokevirtual 226, 3) := by decide +kernel
theorem dX9_addEnvelope_16 : decode cX9_addEnvelope 16 = .ok (.ireturn, 1) := by decide +kernel
theorem dX9_setCap_0 : decode cX9_setCap 0 = .ok (.aload_n 0, 1) := by decide +kernel
theorem dX9_setCap_1 : decode cX9_setCap 1 = .ok (.aload_n 0, 1) := by decide +kernel
theorem dX9_setCap_2 : decode cX9_setCap 2 = .ok (.iconst 1, 1) := by decide +kernel
theorem dX9_setCap_3 : decode cX9_setCap 3 = .ok (.iload_n 1, 1) := by decide +kernel
theorem dX9_setCap_4 : decode cX9_setCap 4 = .ok (.iload_n 2, 1) := by decide +kernel
theorem dX9_setCap_5 : decode cX9_setCap 5 = .ok (.iconst 0, 1) := by decide +kernel
theorem dX9_setCap_6 : decode cX9_setCap 6 = .ok (.iconst 0, 1) := by decide +kernel
theorem dX9_setCap_7 : decode cX9_setCap 7 = .ok (.invokevirtual 222, 3) := by decide +kernel
theorem dX9_setCap_10 : decode cX9_setCap 10 = .ok (.iconst 1, 1) := by decide +kernel
theorem dX9_setCap_11 : decode cX9_setCap 11 = .ok (.iconst 2, 1) := by decide +kernel
theorem dX9_setCap_12 : decode cX9_setCap 12 = .ok (.iconst 3, 1) := by decide +kernel
theorem dX9_setCap_13 : decode cX9_setCap 13 = .ok (.invokevirtual 226, 3) := by decide +kernel
theorem dX9_setCap_16 : decode cX9_setCap 16 = .ok (.ireturn, 1) := by decide +kernel
theorem dX9_setRollover_0 : decode cX9_setRollover 0 = .ok (.aload_n 0, 1) := by decide +kernel
theorem dX9_setRollover_1 : decode cX9_setRollover 1 = .ok (.aload_n 0, 1) := by decide +kernel
theorem dX9_setRollover_2 : decode cX9_setRollover 2 = .ok (.iconst 2, 1) := by decide +kernel
theorem dX9_setRollover_3 : decode cX9_setRollover 3 = .ok (.iload_n 1, 1) := by decide +kernel
theorem dX9_setRollover_4 : decode cX9_setRollover 4 = .ok (.iload_n 2, 1) := by decide +kernel
theorem dX9_setRollover_5 : decode cX9_setRollover 5 = .ok (.iconst 0, 1) := by decide +kernel
theorem dX9_setRollover_6 : decode cX9_setRollover 6 = .ok (.iconst 0, 1) := by decide +kernel
theorem dX9_setRollover_7 : decode cX9_setRollover 7 = .ok (.invokevirtual 222, 3) := by decide +kernel
theorem dX9_setRollover_10 : decode cX9_setRollover 10 = .ok (.iconst 1, 1) := by decide +kernel
theorem dX9_setRollover_11 : decode cX9_setRollover 11 = .ok (.iconst 2, 1) := by decide +kernel
theorem dX9_setRollover_12 : decode cX9_setRollover 12 = .ok (.iconst 3, 1) := by decide +kernel
theorem dX9_setRollover_13 : decode cX9_setRollover 13 = .ok (.invokevirtual 226, 3) := by decide +kernel
theorem dX9_setRollover_16 : decode cX9_setRollover 16 = .ok (.ireturn, 1) := by decide +kernel
theorem dX9_addRule_0 : decode cX9_addRule 0 = .ok (.aload_n 0, 1) := by decide +kernel
theorem dX9_addRule_1 : decode cX9_addRule 1 = .ok (.aload_n 0, 1) := by decide +kernel
theorem dX9_addRule_2 : decode cX9_addRule 2 = .ok (.iconst 3, 1) := by decide +kernel
theorem dX9_addRule_3 : decode cX9_addRule 3 = .ok (.iload_n 1, 1) := by decide +kernel
theorem dX9_addRule_4 : decode cX9_addRule 4 = .ok (.iload_n 2, 1) := by decide +kernel
theorem dX9_addRule_5 : decode cX9_addRule 5 = .ok (.iload_n 3, 1) := by decide +kernel
theorem dX9_addRule_6 : decode cX9_addRule 6 = .ok (.iconst 0, 1) := by decide +kernel
theorem dX9_addRule_7 : decode cX9_addRule 7 = .ok (.invokevirtual 222, 3) := by decide +kernel
theorem dX9_addRule_10 : decode cX9_addRule 10 = .ok (.iconst 1, 1) := by decide +kernel
theorem dX9_addRule_11 : decode cX9_addRule 11 = .ok (.iconst 2, 1) := by decide +kernel
theorem dX9_addRule_12 : decode cX9_addRule 12 = .ok (.iconst 3, 1) := by decide +kernel
theorem dX9_addRule_13 : decode cX9_addRule 13 = .ok (.invokevirtual 226, 3) := by decide +kernel
theorem dX9_addRule_16 : decode cX9_addRule 16 = .ok (.ireturn, 1) := by decide +kernel
theorem dX9_removeRule_0 : decode cX9_removeRule 0 = .ok (.aload_n 0, 1) := by decide +kernel
theorem dX9_removeRule_1 : decode cX9_removeRule 1 = .ok (.aload_n 0, 1) := by decide +kernel
theorem dX9_removeRule_2 : decode cX9_removeRule 2 = .ok (.iconst 4, 1) := by decide +kernel
theorem dX9_removeRule_3 : decode cX9_removeRule 3 = .ok (.iload_n 1, 1) := by decide +kernel
theorem dX9_removeRule_4 : decode cX9_removeRule 4 = .ok (.iconst 0, 1) := by decide +kernel
theorem dX9_removeRule_5 : decode cX9_removeRule 5 = .ok (.iconst 0, 1) := by decide +kernel
theorem dX9_removeRule_6 : decode cX9_removeRule 6 = .ok (.iconst 0, 1) := by decide +kernel
theorem dX9_removeRule_7 : decode cX9_removeRule 7 = .ok (.invokevirtual 222, 3) := by decide +kernel
theorem dX9_removeRule_10 : decode cX9_removeRule 10 = .ok (.iconst 1, 1) := by decide +kernel
theorem dX9_removeRule_11 : decode cX9_removeRule 11 = .ok (.iconst 0, 1) := by decide +kernel
theorem dX9_removeRule_12 : decode cX9_removeRule 12 = .ok (.iconst 2, 1) := by decide +kernel
theorem dX9_removeRule_13 : decode cX9_removeRule 13 = .ok (.invokevirtual 226, 3) := by decide +kernel
theorem dX9_removeRule_16 : decode cX9_removeRule 16 = .ok (.ireturn, 1) := by decide +kernel
theorem dX9_addLink_0 : decode cX9_addLink 0 = .ok (.aload_n 0, 1) := by decide +kernel
theorem dX9_addLink_1 : decode cX9_addLink 1 = .ok (.aload_n 0, 1) := by decide +kernel
theorem dX9_addLink_2 : decode cX9_addLink 2 = .ok (.iconst 5, 1) := by decide +kernel
theorem dX9_addLink_3 : decode cX9_addLink 3 = .ok (.iload_n 1, 1) := by decide +kernel
theorem dX9_addLink_4 : decode cX9_addLink 4 = .ok (.iload_n 2, 1) := by decide +kernel
theorem dX9_addLink_5 : decode cX9_addLink 5 = .ok (.iload_n 3, 1) := by decide +kernel
theorem dX9_addLink_6 : decode cX9_addLink 6 = .ok (.iload 4, 2) := by decide +kernel
theorem dX9_addLink_8 : decode cX9_addLink 8 = .ok (.invokevirtual 222, 3) := by decide +kernel
theorem dX9_addLink_11 : decode cX9_addLink 11 = .ok (.iconst 1, 1) := by decide +kernel
theorem dX9_addLink_12 : decode cX9_addLink 12 = .ok (.iconst 2, 1) := by decide +kernel
theorem dX9_addLink_13 : decode cX9_addLink 13 = .ok (.iconst 3, 1) := by decide +kernel
theorem dX9_addLink_14 : decode cX9_addLink 14 = .ok (.invokevirtual 226, 3) := by decide +kernel
theorem dX9_addLink_17 : decode cX9_addLink 17 = .ok (.ireturn, 1) := by decide +kernel
theorem dX9_removeLink_0 : decode cX9_removeLink 0 = .ok (.aload_n 0, 1) := by decide +kernel
theorem dX9_removeLink_1 : decode cX9_removeLink 1 = .ok (.aload_n 0, 1) := by decide +kernel
theorem dX9_removeLink_2 : decode cX9_removeLink 2 = .ok (.bipush 6, 2) := by decide +kernel
theorem dX9_removeLink_4 : decode cX9_removeLink 4 = .ok (.iload_n 1, 1) := by decide +kernel
theorem dX9_removeLink_5 : decode cX9_removeLink 5 = .ok (.iconst 0, 1) := by decide +kernel
theorem dX9_removeLink_6 : decode cX9_removeLink 6 = .ok (.iconst 0, 1) := by decide +kernel
theorem dX9_removeLink_7 : decode cX9_removeLink 7 = .ok (.iconst 0, 1) := by decide +kernel
theorem dX9_removeLink_8 : decode cX9_removeLink 8 = .ok (.invokevirtual 222, 3) := by decide +kernel
theorem dX9_removeLink_11 : decode cX9_removeLink 11 = .ok (.iconst 1, 1) := by decide +kernel
theorem dX9_removeLink_12 : decode cX9_removeLink 12 = .ok (.iconst 0, 1) := by decide +kernel
theorem dX9_removeLink_13 : decode cX9_removeLink 13 = .ok (.iconst 2, 1) := by decide +kernel
theorem dX9_removeLink_14 : decode cX9_removeLink 14 = .ok (.invokevirtual 226, 3) := by decide +kernel
theorem dX9_removeLink_17 : decode cX9_removeLink 17 = .ok (.ireturn, 1) := by decide +kernel
theorem dX9_addItem_0 : decode cX9_addItem 0 = .ok (.aload_n 0, 1) := by decide +kernel
theorem dX9_addItem_1 : decode cX9_addItem 1 = .ok (.aload_n 0, 1) := by decide +kernel
theorem dX9_addItem_2 : decode cX9_addItem 2 = .ok (.bipush 7, 2) := by decide +kernel
theorem dX9_addItem_4 : decode cX9_addItem 4 = .ok (.iload_n 1, 1) := by decide +kernel
theorem dX9_addItem_5 : decode cX9_addItem 5 = .ok (.iload_n 2, 1) := by decide +kernel
theorem dX9_addItem_6 : decode cX9_addItem 6 = .ok (.iload_n 3, 1) := by decide +kernel
theorem dX9_addItem_7 : decode cX9_addItem 7 = .ok (.iload 4, 2) := by decide +kernel
theorem dX9_addItem_9 : decode cX9_addItem 9 = .ok (.invokevirtual 222, 3) := by decide +kernel
theorem dX9_addItem_12 : decode cX9_addItem 12 = .ok (.iconst 1, 1) := by decide +kernel
theorem dX9_addItem_13 : decode cX9_addItem 13 = .ok (.iconst 2, 1) := by decide +kernel
theorem dX9_addItem_14 : decode cX9_addItem 14 = .ok (.iconst 3, 1) := by decide +kernel
theorem dX9_addItem_15 : decode cX9_addItem 15 = .ok (.invokevirtual 226, 3) := by decide +kernel
theorem dX9_addItem_18 : decode cX9_addItem 18 = .ok (.ireturn, 1) := by decide +kernel
theorem dX9_removeItem_0 : decode cX9_removeItem 0 = .ok (.aload_n 0, 1) := by decide +kernel
theorem dX9_removeItem_1 : decode cX9_removeItem 1 = .ok (.aload_n 0, 1) := by decide +kernel
theorem dX9_removeItem_2 : decode cX9_removeItem 2 = .ok (.bipush 8, 2) := by decide +kernel
theorem dX9_removeItem_4 : decode cX9_removeItem 4 = .ok (.iload_n 1, 1) := by decide +kernel
theorem dX9_removeItem_5 : decode cX9_removeItem 5 = .ok (.iconst 0, 1) := by decide +kernel
theorem dX9_removeItem_6 : decode cX9_removeItem 6 = .ok (.iconst 0, 1) := by decide +kernel
theorem dX9_removeItem_7 : decode cX9_removeItem 7 = .ok (.iconst 0, 1) := by decide +kernel
theorem dX9_removeItem_8 : decode cX9_removeItem 8 = .ok (.invokevirtual 222, 3) := by decide +kernel
theorem dX9_removeItem_11 : decode cX9_removeItem 11 = .ok (.iconst 1, 1) := by decide +kernel
theorem dX9_removeItem_12 : decode cX9_removeItem 12 = .ok (.iconst 0, 1) := by decide +kernel
theorem dX9_removeItem_13 : decode cX9_removeItem 13 = .ok (.iconst 2, 1) := by decide +kernel
theorem dX9_removeItem_14 : decode cX9_removeItem 14 = .ok (.invokevirtual 226, 3) := by decide +kernel
theorem dX9_removeItem_17 : decode cX9_removeItem 17 = .ok (.ireturn, 1) := by decide +kernel
theorem dX9_receive_0 : decode cX9_receive 0 = .ok (.aload_n 0, 1) := by decide +kernel
theorem dX9_receive_1 : decode cX9_receive 1 = .ok (.aload_n 0, 1) := by decide +kernel
theorem dX9_receive_2 : decode cX9_receive 2 = .ok (.bipush 9, 2) := by decide +kernel
theorem dX9_receive_4 : decode cX9_receive 4 = .ok (.iload_n 1, 1) := by decide +kernel
theorem dX9_receive_5 : decode cX9_receive 5 = .ok (.iconst 0, 1) := by decide +kernel
theorem dX9_receive_6 : decode cX9_receive 6 = .ok (.iconst 0, 1) := by decide +kernel
theorem dX9_receive_7 : decode cX9_receive 7 = .ok (.iconst 0, 1) := by decide +kernel
theorem dX9_receive_8 : decode cX9_receive 8 = .ok (.invokevirtual 222, 3) := by decide +kernel
theorem dX9_receive_11 : decode cX9_receive 11 = .ok (.iconst 0, 1) := by decide +kernel
theorem dX9_receive_12 : decode cX9_receive 12 = .ok (.iconst 1, 1) := by decide +kernel
theorem dX9_receive_13 : decode cX9_receive 13 = .ok (.iconst 2, 1) := by decide +kernel
theorem dX9_receive_14 : decode cX9_receive 14 = .ok (.invokevirtual 226, 3) := by decide +kernel
theorem dX9_receive_17 : decode cX9_receive 17 = .ok (.ireturn, 1) := by decide +kernel
theorem dX9_spend_0 : decode cX9_spend 0 = .ok (.aload_n 0, 1) := by decide +kernel
theorem dX9_spend_1 : decode cX9_spend 1 = .ok (.aload_n 0, 1) := by decide +kernel
theorem dX9_spend_2 : decode cX9_spend 2 = .ok (.bipush 10, 2) := by decide +kernel
theorem dX9_spend_4 : decode cX9_spend 4 = .ok (.iload_n 1, 1) := by decide +kernel
theorem dX9_spend_5 : decode cX9_spend 5 = .ok (.iload_n 2, 1) := by decide +kernel
theorem dX9_spend_6 : decode cX9_spend 6 = .ok (.iconst 0, 1) := by decide +kernel
theorem dX9_spend_7 : decode cX9_spend 7 = .ok (.iconst 0, 1) := by decide +kernel
theorem dX9_spend_8 : decode cX9_spend 8 = .ok (.invokevirtual 222, 3) := by decide +kernel
theorem dX9_spend_11 : decode cX9_spend 11 = .ok (.iconst 1, 1) := by decide +kernel
theorem dX9_spend_12 : decode cX9_spend 12 = .ok (.iconst 2, 1) := by decide +kernel
theorem dX9_spend_13 : decode cX9_spend 13 = .ok (.iconst 3, 1) := by decide +kernel
theorem dX9_spend_14 : decode cX9_spend 14 = .ok (.invokevirtual 226, 3) := by decide +kernel
theorem dX9_spend_17 : decode cX9_spend 17 = .ok (.ireturn, 1) := by decide +kernel
theorem dX9_move_0 : decode cX9_move 0 = .ok (.aload_n 0, 1) := by decide +kernel
theorem dX9_move_1 : decode cX9_move 1 = .ok (.aload_n 0, 1) := by decide +kernel
theorem dX9_move_2 : decode cX9_move 2 = .ok (.bipush 11, 2) := by decide +kernel
theorem dX9_move_4 : decode cX9_move 4 = .ok (.iload_n 1, 1) := by decide +kernel
theorem dX9_move_5 : decode cX9_move 5 = .ok (.iload_n 2, 1) := by decide +kernel
theorem dX9_move_6 : decode cX9_move 6 = .ok (.iload_n 3, 1) := by decide +kernel
theorem dX9_move_7 : decode cX9_move 7 = .ok (.iconst 0, 1) := by decide +kernel
theorem dX9_move_8 : decode cX9_move 8 = .ok (.invokevirtual 222, 3) := by decide +kernel
theorem dX9_move_11 : decode cX9_move 11 = .ok (.iconst 1, 1) := by decide +kernel
theorem dX9_move_12 : decode cX9_move 12 = .ok (.iconst 2, 1) := by decide +kernel
theorem dX9_move_13 : decode cX9_move 13 = .ok (.iconst 3, 1) := by decide +kernel
theorem dX9_move_14 : decode cX9_move 14 = .ok (.invokevirtual 226, 3) := by decide +kernel
theorem dX9_move_17 : decode cX9_move 17 = .ok (.ireturn, 1) := by decide +kernel
theorem dX9_advance_0 : decode cX9_advance 0 = .ok (.aload_n 0, 1) := by decide +kernel
theorem dX9_advance_1 : decode cX9_advance 1 = .ok (.aload_n 0, 1) := by decide +kernel
theorem dX9_advance_2 : decode cX9_advance 2 = .ok (.bipush 12, 2) := by decide +kernel
theorem dX9_advance_4 : decode cX9_advance 4 = .ok (.iload_n 1, 1) := by decide +kernel
theorem dX9_advance_5 : decode cX9_advance 5 = .ok (.iconst 0, 1) := by decide +kernel
theorem dX9_advance_6 : decode cX9_advance 6 = .ok (.iconst 0, 1) := by decide +kernel
theorem dX9_advance_7 : decode cX9_advance 7 = .ok (.iconst 0, 1) := by decide +kernel
theorem dX9_advance_8 : decode cX9_advance 8 = .ok (.invokevirtual 222, 3) := by decide +kernel
theorem dX9_advance_11 : decode cX9_advance 11 = .ok (.iconst 0, 1) := by decide +kernel
theorem dX9_advance_12 : decode cX9_advance 12 = .ok (.iconst 1, 1) := by decide +kernel
theorem dX9_advance_13 : decode cX9_advance 13 = .ok (.iconst 2, 1) := by decide +kernel
theorem dX9_advance_14 : decode cX9_advance 14 = .ok (.invokevirtual 226, 3) := by decide +kernel
theorem dX9_advance_17 : decode cX9_advance 17 = .ok (.ireturn, 1) := by decide +kernel
theorem dX9_begins_0 : decode cX9_begins 0 = .ok (.aload_n 0, 1) := by decide +kernel
theorem dX9_begins_1 : decode cX9_begins 1 = .ok (.iconst 0, 1) := by decide +kernel
theorem dX9_begins_2 : decode cX9_begins 2 = .ok (.putfield 3, 3) := by decide +kernel
theorem dX9_begins_5 : decode cX9_begins 5 = .ok (.aload_n 0, 1) := by decide +kernel
theorem dX9_begins_6 : decode cX9_begins 6 = .ok (.aload_n 0, 1) := by decide +kernel
theorem dX9_begins_7 : decode cX9_begins 7 = .ok (.getfield 39, 3) := by decide +kernel
theorem dX9_begins_10 : decode cX9_begins 10 = .ok (.invokestatic 211, 3) := by decide +kernel
theorem dX9_begins_13 : decode cX9_begins 13 = .ok (.putfield 45, 3) := by decide +kernel
theorem dX9_begins_16 : decode cX9_begins 16 = .ok (.return_, 1) := by decide +kernel
theorem dX9_envelope_0 : decode cX9_envelope 0 = .ok (.aload_n 0, 1) := by decide +kernel
theorem dX9_envelope_1 : decode cX9_envelope 1 = .ok (.invokevirtual 229, 3) := by decide +kernel
theorem dX9_envelope_4 : decode cX9_envelope 4 = .ok (.aload_n 0, 1) := by decide +kernel
theorem dX9_envelope_5 : decode cX9_envelope 5 = .ok (.iload_n 1, 1) := by decide +kernel
theorem dX9_envelope_6 : decode cX9_envelope 6 = .ok (.invokevirtual 161, 3) := by decide +kernel
theorem dX9_envelope_9 : decode cX9_envelope 9 = .ok (.ifCond .ne 10, 3) := by decide +kernel
theorem dX9_envelope_12 : decode cX9_envelope 12 = .ok (.aload_n 0, 1) := by decide +kernel
theorem dX9_envelope_13 : decode cX9_envelope 13 = .ok (.iconst 1, 1) := by decide +kernel
theorem dX9_envelope_14 : decode cX9_envelope 14 = .ok (.invokevirtual 232, 3) := by decide +kernel
theorem dX9_envelope_17 : decode cX9_envelope 17 = .ok (.i2l, 1) := by decide +kernel
theorem dX9_envelope_18 : decode cX9_envelope 18 = .ok (.lreturn, 1) := by decide +kernel
theorem dX9_envelope_19 : decode cX9_envelope 19 = .ok (.iload_n 2, 1) := by decide +kernel
theorem dX9_envelope_20 : decode cX9_envelope 20 = .ok (.i2l, 1) := by decide +kernel
theorem dX9_envelope_21 : decode cX9_envelope 21 = .ok (.lconst 0, 1) := by decide +kernel
theorem dX9_envelope_22 : decode cX9_envelope 22 = .ok (.ldc2_w 235, 3) := by decide +kernel
theorem dX9_envelope_25 : decode cX9_envelope 25 = .ok (.invokestatic 90, 3) := by decide +kernel
theorem dX9_envelope_28 : decode cX9_envelope 28 = .ok (.ifCond .ne 10, 3) := by decide +kernel
theorem dX9_envelope_31 : decode cX9_envelope 31 = .ok (.aload_n 0, 1) := by decide +kernel
theorem dX9_envelope_32 : decode cX9_envelope 32 = .ok (.iconst 2, 1) := by decide +kernel
theorem dX9_envelope_33 : decode cX9_envelope 33 = .ok (.invokevirtual 232, 3) := by decide +kernel
theorem dX9_envelope_36 : decode cX9_envelope 36 = .ok (.i2l, 1) := by decide +kernel
theorem dX9_envelope_37 : decode cX9_envelope 37 = .ok (.lreturn, 1) := by decide +kernel
theorem dX9_envelope_38 : decode cX9_envelope 38 = .ok (.iload_n 2, 1) := by decide +kernel
theorem dX9_envelope_39 : decode cX9_envelope 39 = .ok (.iconst 3, 1) := by decide +kernel
theorem dX9_envelope_40 : decode cX9_envelope 40 = .ok (.if_icmp .ne 32, 3) := by decide +kernel
theorem dX9_envelope_43 : decode cX9_envelope 43 = .ok (.aload_n 0, 1) := by decide +kernel
theorem dX9_envelope_44 : decode cX9_envelope 44 = .ok (.bipush 11, 2) := by decide +kernel
theorem dX9_envelope_46 : decode cX9_envelope 46 = .ok (.iconst 4, 1) := by decide +kernel
theorem dX9_envelope_47 : decode cX9_envelope 47 = .ok (.iload_n 1, 1) := by decide +kernel
theorem dX9_envelope_48 : decode cX9_envelope 48 = .ok (.imul, 1) := by decide +kernel
theorem dX9_envelope_49 : decode cX9_envelope 49 = .ok (.iadd, 1) := by decide +kernel
theorem dX9_envelope_50 : decode cX9_envelope 50 = .ok (.iconst 1, 1) := by decide +kernel
theorem dX9_envelope_51 : decode cX9_envelope 51 = .ok (.iadd, 1) := by decide +kernel
theorem dX9_envelope_52 : decode cX9_envelope 52 = .ok (.invokevirtual 94, 3) := by decide +kernel
theorem dX9_envelope_55 : decode cX9_envelope 55 = .ok (.lconst 0, 1) := by decide +kernel
theorem dX9_envelope_56 : decode cX9_envelope 56 = .ok (.lcmp, 1) := by decide +kernel
theorem dX9_envelope_57 : decode cX9_envelope 57 = .ok (.ifCond .ge 9, 3) := by decide +kernel
theorem dX9_envelope_60 : decode cX9_envelope 60 = .ok (.ldc2_w 153, 3) := by decide +kernel
theorem dX9_envelope_63 : decode cX9_envelope 63 = .ok (.goto 8, 3) := by decide +kernel
theorem dX9_envelope_66 : decode cX9_envelope 66 = .ok (.aload_n 0, 1) := by decide +kernel
theorem dX9_envelope_67 : decode cX9_envelope 67 = .ok (.iload_n 1, 1) := by decide +kernel
theorem dX9_envelope_68 : decode cX9_envelope 68 = .ok (.invokevirtual 108, 3) := by decide +kernel
theorem dX9_envelope_71 : decode cX9_envelope 71 = .ok (.lreturn, 1) := by decide +kernel
theorem dX9_envelope_72 : decode cX9_envelope 72 = .ok (.aload_n 0, 1) := by decide +kernel
theorem dX9_envelope_73 : decode cX9_envelope 73 = .ok (.bipush 11, 2) := by decide +kernel
theorem dX9_envelope_75 : decode cX9_envelope 75 = .ok (.iconst 4, 1) := by decide +kernel
theorem dX9_envelope_76 : decode cX9_envelope 76 = .ok (.iload_n 1, 1) := by decide +kernel
theorem dX9_envelope_77 : decode cX9_envelope 77 = .ok (.imul, 1) := by decide +kernel
theorem dX9_envelope_78 : decode cX9_envelope 78 = .ok (.iadd, 1) := by decide +kernel
theorem dX9_envelope_79 : decode cX9_envelope 79 = .ok (.iload_n 2, 1) := by decide +kernel
theorem dX9_envelope_80 : decode cX9_envelope 80 = .ok (.iconst 4, 1) := by decide +kernel
theorem dX9_envelope_81 : decode cX9_envelope 81 = .ok (.if_icmp .ne 7, 3) := by decide +kernel
theorem dX9_envelope_84 : decode cX9_envelope 84 = .ok (.iconst 3, 1) := by decide +kernel
theorem dX9_envelope_85 : decode cX9_envelope 85 = .ok (.goto 4, 3) := by decide +kernel
theorem dX9_envelope_88 : decode cX9_envelope 88 = .ok (.iload_n 2, 1) := by decide +kernel
theorem dX9_envelope_89 : decode cX9_envelope 89 = .ok (.iadd, 1) := by decide +kernel
theorem dX9_envelope_90 : decode cX9_envelope 90 = .ok (.invokevirtual 94, 3) := by decide +kernel
theorem dX9_envelope_93 : decode cX9_envelope 93 = .ok (.lreturn, 1) := by decide +kernel
theorem dX9_rule_0 : decode cX9_rule 0 = .ok (.aload_n 0, 1) := by decide +kernel
theorem dX9_rule_1 : decode cX9_rule 1 = .ok (.invokevirtual 229, 3) := by decide +kernel
theorem dX9_rule_4 : decode cX9_rule 4 = .ok (.iload_n 1, 1) := by decide +kernel
theorem dX9_rule_5 : decode cX9_rule 5 = .ok (.i2l, 1) := by decide +kernel
theorem dX9_rule_6 : decode cX9_rule 6 = .ok (.lconst 0, 1) := by decide +kernel
theorem dX9_rule_7 : decode cX9_rule 7 = .ok (.aload_n 0, 1) := by decide +kernel
theorem dX9_rule_8 : decode cX9_rule 8 = .ok (.bipush 8, 2) := by decide +kernel
theorem dX9_rule_10 : decode cX9_rule 10 = .ok (.invokevirtual 86, 3) := by decide +kernel
theorem dX9_rule_13 : decode cX9_rule 13 = .ok (.iconst 1, 1) := by decide +kernel
theorem dX9_rule_14 : decode cX9_rule 14 = .ok (.isub, 1) := by decide +kernel
theorem dX9_rule_15 : decode cX9_rule 15 = .ok (.i2l, 1) := by decide +kernel
theorem dX9_rule_16 : decode cX9_rule 16 = .ok (.invokestatic 90, 3) := by decide +kernel
theorem dX9_rule_19 : decode cX9_rule 19 = .ok (.ifCond .ne 9, 3) := by decide +kernel
theorem dX9_rule_22 : decode cX9_rule 22 = .ok (.aload_n 0, 1) := by decide +kernel
theorem dX9_rule_23 : decode cX9_rule 23 = .ok (.iconst 1, 1) := by decide +kernel
theorem dX9_rule_24 : decode cX9_rule 24 = .ok (.invokevirtual 232, 3) := by decide +kernel
theorem dX9_rule_27 : decode cX9_rule 27 = .ok (.ireturn, 1) := by decide +kernel
theorem dX9_rule_28 : decode cX9_rule 28 = .ok (.iload_n 2, 1) := by decide +kernel
theorem dX9_rule_29 : decode cX9_rule 29 = .ok (.i2l, 1) := by decide +kernel
theorem dX9_rule_30 : decode cX9_rule 30 = .ok (.lconst 0, 1) := by decide +kernel
theorem dX9_rule_31 : decode cX9_rule 31 = .ok (.ldc2_w 151, 3) := by decide +kernel
theorem dX9_rule_34 : decode cX9_rule 34 = .ok (.invokestatic 90, 3) := by decide +kernel
theorem dX9_rule_37 : decode cX9_rule 37 = .ok (.ifCond .eq 18, 3) := by decide +kernel
theorem dX9_rule_40 : decode cX9_rule 40 = .ok (.aload_n 0, 1) := by decide +kernel
theorem dX9_rule_41 : decode cX9_rule 41 = .ok (.bipush 51, 2) := by decide +kernel
theorem dX9_rule_43 : decode cX9_rule 43 = .ok (.iconst 3, 1) := by decide +kernel
theorem dX9_rule_44 : decode cX9_rule 44 = .ok (.iload_n 1, 1) := by decide +kernel
theorem dX9_rule_45 : decode cX9_rule 45 = .ok (.imul, 1) := by decide +kernel
theorem dX9_rule_46 : decode cX9_rule 46 = .ok (.iadd, 1) := by decide +kernel
theorem dX9_rule_47 : decode cX9_rule 47 = .ok (.iload_n 2, 1) := by decide +kernel
theorem dX9_rule_48 : decode cX9_rule 48 = .ok (.iadd, 1) := by decide +kernel
theorem dX9_rule_49 : decode cX9_rule 49 = .ok (.invokevirtual 86, 3) := by decide +kernel
theorem dX9_rule_52 : decode cX9_rule 52 = .ok (.goto 8, 3) := by decide +kernel
theorem dX9_rule_55 : decode cX9_rule 55 = .ok (.aload_n 0, 1) := by decide +kernel
theorem dX9_rule_56 : decode cX9_rule 56 = .ok (.iconst 2, 1) := by decide +kernel
theorem dX9_rule_57 : decode cX9_rule 57 = .ok (.invokevirtual 232, 3) := by decide +kernel
theorem dX9_rule_60 : decode cX9_rule 60 = .ok (.ireturn, 1) := by decide +kernel
theorem dX9_split_0 : decode cX9_split 0 = .ok (.aload_n 0, 1) := by decide +kernel
theorem dX9_split_1 : decode cX9_split 1 = .ok (.invokevirtual 229, 3) := by decide +kernel
theorem dX9_split_4 : decode cX9_split 4 = .ok (.aload_n 0, 1) := by decide +kernel
theorem dX9_split_5 : decode cX9_split 5 = .ok (.iload_n 1, 1) := by decide +kernel
theorem dX9_split_6 : decode cX9_split 6 = .ok (.invokevirtual 196, 3) := by decide +kernel
theorem dX9_split_9 : decode cX9_split 9 = .ok (.ifCond .ne 9, 3) := by decide +kernel
theorem dX9_split_12 : decode cX9_split 12 = .ok (.aload_n 0, 1) := by decide +kernel
theorem dX9_split_13 : decode cX9_split 13 = .ok (.iconst 1, 1) := by decide +kernel
theorem dX9_split_14 : decode cX9_split 14 = .ok (.invokevirtual 232, 3) := by decide +kernel
theorem dX9_split_17 : decode cX9_split 17 = .ok (.ireturn, 1) := by decide +kernel
theorem dX9_split_18 : decode cX9_split 18 = .ok (.iload_n 2, 1) := by decide +kernel
theorem dX9_split_19 : decode cX9_split 19 = .ok (.i2l, 1) := by decide +kernel
theorem dX9_split_20 : decode cX9_split 20 = .ok (.lconst 1, 1) := by decide +kernel
theorem dX9_split_21 : decode cX9_split 21 = .ok (.ldc2_w 157, 3) := by decide +kernel
theorem dX9_split_24 : decode cX9_split 24 = .ok (.invokestatic 90, 3) := by decide +kernel
theorem dX9_split_27 : decode cX9_split 27 = .ok (.ifCond .ne 9, 3) := by decide +kernel
theorem dX9_split_30 : decode cX9_split 30 = .ok (.aload_n 0, 1) := by decide +kernel
theorem dX9_split_31 : decode cX9_split 31 = .ok (.iconst 2, 1) := by decide +kernel
theorem dX9_split_32 : decode cX9_split 32 = .ok (.invokevirtual 232, 3) := by decide +kernel
theorem dX9_split_35 : decode cX9_split 35 = .ok (.ireturn, 1) := by decide +kernel
theorem dX9_split_36 : decode cX9_split 36 = .ok (.aload_n 0, 1) := by decide +kernel
theorem dX9_split_37 : decode cX9_split 37 = .ok (.aload_n 0, 1) := by decide +kernel
theorem dX9_split_38 : decode cX9_split 38 = .ok (.getfield 45, 3) := by decide +kernel
theorem dX9_split_41 : decode cX9_split 41 = .ok (.sipush 1764, 3) := by decide +kernel
theorem dX9_split_44 : decode cX9_split 44 = .ok (.invokevirtual 237, 3) := by decide +kernel
theorem dX9_split_47 : decode cX9_split 47 = .ok (.aload_n 0, 1) := by decide +kernel
theorem dX9_split_48 : decode cX9_split 48 = .ok (.sipush 1764, 3) := by decide +kernel
theorem dX9_split_51 : decode cX9_split 51 = .ok (.putfield 45, 3) := by decide +kernel
theorem dX9_split_54 : decode cX9_split 54 = .ok (.aload_n 0, 1) := by decide +kernel
theorem dX9_split_55 : decode cX9_split 55 = .ok (.iload_n 1, 1) := by decide +kernel
theorem dX9_split_56 : decode cX9_split 56 = .ok (.invokevirtual 199, 3) := by decide +kernel
theorem dX9_split_59 : decode cX9_split 59 = .ok (.lstore_n 3, 1) := by decide +kernel
theorem dX9_split_60 : decode cX9_split 60 = .ok (.aload_n 0, 1) := by decide +kernel
theorem dX9_split_61 : decode cX9_split 61 = .ok (.iload_n 2, 1) := by decide +kernel
theorem dX9_split_62 : decode cX9_split 62 = .ok (.i2l, 1) := by decide +kernel
theorem dX9_split_63 : decode cX9_split 63 = .ok (.invokevirtual 131, 3) := by decide +kernel
theorem dX9_split_66 : decode cX9_split 66 = .ok (.lstore 5, 2) := by decide +kernel
theorem dX9_split_68 : decode cX9_split 68 = .ok (.aload_n 0, 1) := by decide +kernel
theorem dX9_split_69 : decode cX9_split 69 = .ok (.iload_n 1, 1) := by decide +kernel
theorem dX9_split_70 : decode cX9_split 70 = .ok (.invokevirtual 199, 3) := by decide +kernel
theorem dX9_split_73 : decode cX9_split 73 = .ok (.lload_n 3, 1) := by decide +kernel
theorem dX9_split_74 : decode cX9_split 74 = .ok (.lsub, 1) := by decide +kernel
theorem dX9_split_75 : decode cX9_split 75 = .ok (.l2i, 1) := by decide +kernel
theorem dX9_split_76 : decode cX9_split 76 = .ok (.ireturn, 1) := by decide +kernel
theorem dX9_link_0 : decode cX9_link 0 = .ok (.aload_n 0, 1) := by decide +kernel
theorem dX9_link_1 : decode cX9_link 1 = .ok (.invokevirtual 229, 3) := by decide +kernel
theorem dX9_link_4 : decode cX9_link 4 = .ok (.iload_n 1, 1) := by decide +kernel
theorem dX9_link_5 : decode cX9_link 5 = .ok (.i2l, 1) := by decide +kernel
theorem dX9_link_6 : decode cX9_link 6 = .ok (.lconst 0, 1) := by decide +kernel
theorem dX9_link_7 : decode cX9_link 7 = .ok (.aload_n 0, 1) := by decide +kernel
theorem dX9_link_8 : decode cX9_link 8 = .ok (.bipush 9, 2) := by decide +kernel
theorem dX9_link_10 : decode cX9_link 10 = .ok (.invokevirtual 86, 3) := by decide +kernel
theorem dX9_link_13 : decode cX9_link 13 = .ok (.iconst 1, 1) := by decide +kernel
theorem dX9_link_14 : decode cX9_link 14 = .ok (.isub, 1) := by decide +kernel
theorem dX9_link_15 : decode cX9_link 15 = .ok (.i2l, 1) := by decide +kernel
theorem dX9_link_16 : decode cX9_link 16 = .ok (.invokestatic 90, 3) := by decide +kernel
theorem dX9_link_19 : decode cX9_link 19 = .ok (.ifCond .ne 10, 3) := by decide +kernel
theorem dX9_link_22 : decode cX9_link 22 = .ok (.aload_n 0, 1) := by decide +kernel
theorem dX9_link_23 : decode cX9_link 23 = .ok (.iconst 1, 1) := by decide +kernel
theorem dX9_link_24 : decode cX9_link 24 = .ok (.invokevirtual 232, 3) := by decide +kernel
theorem dX9_link_27 : decode cX9_link 27 = .ok (.i2l, 1) := by decide +kernel
theorem dX9_link_28 : decode cX9_link 28 = .ok (.lreturn, 1) := by decide +kernel
theorem dX9_link_29 : decode cX9_link 29 = .ok (.iload_n 2, 1) := by decide +kernel
theorem dX9_link_30 : decode cX9_link 30 = .ok (.i2l, 1) := by decide +kernel
theorem dX9_link_31 : decode cX9_link 31 = .ok (.lconst 0, 1) := by decide +kernel
theorem dX9_link_32 : decode cX9_link 32 = .ok (.ldc2_w 235, 3) := by decide +kernel
theorem dX9_link_35 : decode cX9_link 35 = .ok (.invokestatic 90, 3) := by decide +kernel
theorem dX9_link_38 : decode cX9_link 38 = .ok (.ifCond .eq 18, 3) := by decide +kernel
theorem dX9_link_41 : decode cX9_link 41 = .ok (.aload_n 0, 1) := by decide +kernel
theorem dX9_link_42 : decode cX9_link 42 = .ok (.bipush 69, 2) := by decide +kernel
theorem dX9_link_44 : decode cX9_link 44 = .ok (.iconst 5, 1) := by decide +kernel
theorem dX9_link_45 : decode cX9_link 45 = .ok (.iload_n 1, 1) := by decide +kernel
theorem dX9_link_46 : decode cX9_link 46 = .ok (.imul, 1) := by decide +kernel
theorem dX9_link_47 : decode cX9_link 47 = .ok (.iadd, 1) := by decide +kernel
theorem dX9_link_48 : decode cX9_link 48 = .ok (.iload_n 2, 1) := by decide +kernel
theorem dX9_link_49 : decode cX9_link 49 = .ok (.iadd, 1) := by decide +kernel
theorem dX9_link_50 : decode cX9_link 50 = .ok (.invokevirtual 94, 3) := by decide +kernel
theorem dX9_link_53 : decode cX9_link 53 = .ok (.goto 9, 3) := by decide +kernel
theorem dX9_link_56 : decode cX9_link 56 = .ok (.aload_n 0, 1) := by decide +kernel
theorem dX9_link_57 : decode cX9_link 57 = .ok (.iconst 2, 1) := by decide +kernel
theorem dX9_link_58 : decode cX9_link 58 = .ok (.invokevirtual 232, 3) := by decide +kernel
theorem dX9_link_61 : decode cX9_link 61 = .ok (.i2l, 1) := by decide +kernel
theorem dX9_link_62 : decode cX9_link 62 = .ok (.lreturn, 1) := by decide +kernel
theorem dX9_item__0 : decode cX9_item_ 0 = .ok (.aload_n 0, 1) := by decide +kernel
theorem dX9_item__1 : decode cX9_item_ 1 = .ok (.invokevirtual 229, 3) := by decide +kernel
theorem dX9_item__4 : decode cX9_item_ 4 = .ok (.iload_n 1, 1) := by decide +kernel
theorem dX9_item__5 : decode cX9_item_ 5 = .ok (.i2l, 1) := by decide +kernel
theorem dX9_item__6 : decode cX9_item_ 6 = .ok (.lconst 0, 1) := by decide +kernel
theorem dX9_item__7 : decode cX9_item_ 7 = .ok (.aload_n 0, 1) := by decide +kernel
theorem dX9_item__8 : decode cX9_item_ 8 = .ok (.bipush 10, 2) := by decide +kernel
theorem dX9_item__10 : decode cX9_item_ 10 = .ok (.invokevirtual 86, 3) := by decide +kernel
theorem dX9_item__13 : decode cX9_item_ 13 = .ok (.iconst 1, 1) := by decide +kernel
theorem dX9_item__14 : decode cX9_item_ 14 = .ok (.isub, 1) := by decide +kernel
theorem dX9_item__15 : decode cX9_item_ 15 = .ok (.i2l, 1) := by decide +kernel
theorem dX9_item__16 : decode cX9_item_ 16 = .ok (.invokestatic 90, 3) := by decide +kernel
theorem dX9_item__19 : decode cX9_item_ 19 = .ok (.ifCond .ne 9, 3) := by decide +kernel
theorem dX9_item__22 : decode cX9_item_ 22 = .ok (.aload_n 0, 1) := by decide +kernel
theorem dX9_item__23 : decode cX9_item_ 23 = .ok (.iconst 1, 1) := by decide +kernel
theorem dX9_item__24 : decode cX9_item_ 24 = .ok (.invokevirtual 232, 3) := by decide +kernel
theorem dX9_item__27 : decode cX9_item_ 27 = .ok (.ireturn, 1) := by decide +kernel
theorem dX9_item__28 : decode cX9_item_ 28 = .ok (.iload_n 2, 1) := by decide +kernel
theorem dX9_item__29 : decode cX9_item_ 29 = .ok (.i2l, 1) := by decide +kernel
theorem dX9_item__30 : decode cX9_item_ 30 = .ok (.lconst 0, 1) := by decide +kernel
theorem dX9_item__31 : decode cX9_item_ 31 = .ok (.ldc2_w 241, 3) := by decide +kernel
theorem dX9_item__34 : decode cX9_item_ 34 = .ok (.invokestatic 90, 3) := by decide +kernel
theorem dX9_item__37 : decode cX9_item_ 37 = .ok (.ifCond .eq 19, 3) := by decide +kernel
theorem dX9_item__40 : decode cX9_item_ 40 = .ok (.aload_n 0, 1) := by decide +kernel
theorem dX9_item__41 : decode cX9_item_ 41 = .ok (.bipush 99, 2) := by decide +kernel
theorem dX9_item__43 : decode cX9_item_ 43 = .ok (.bipush 6, 2) := by decide +kernel
theorem dX9_item__45 : decode cX9_item_ 45 = .ok (.iload_n 1, 1) := by decide +kernel
theorem dX9_item__46 : decode cX9_item_ 46 = .ok (.imul, 1) := by decide +kernel
theorem dX9_item__47 : decode cX9_item_ 47 = .ok (.iadd, 1) := by decide +kernel
theorem dX9_item__48 : decode cX9_item_ 48 = .ok (.iload_n 2, 1) := by decide +kernel
theorem dX9_item__49 : decode cX9_item_ 49 = .ok (.iadd, 1) := by decide +kernel
theorem dX9_item__50 : decode cX9_item_ 50 = .ok (.invokevirtual 86, 3) := by decide +kernel
theorem dX9_item__53 : decode cX9_item_ 53 = .ok (.goto 8, 3) := by decide +kernel
theorem dX9_item__56 : decode cX9_item_ 56 = .ok (.aload_n 0, 1) := by decide +kernel
theorem dX9_item__57 : decode cX9_item_ 57 = .ok (.iconst 2, 1) := by decide +kernel
theorem dX9_item__58 : decode cX9_item_ 58 = .ok (.invokevirtual 232, 3) := by decide +kernel
theorem dX9_item__61 : decode cX9_item_ 61 = .ok (.ireturn, 1) := by decide +kernel
theorem dX9_balances_0 : decode cX9_balances 0 = .ok (.lconst 0, 1) := by decide +kernel
theorem dX9_balances_1 : decode cX9_balances 1 = .ok (.lstore_n 1, 1) := by decide +kernel
theorem dX9_balances_2 : decode cX9_balances 2 = .ok (.iconst 0, 1) := by decide +kernel
theorem dX9_balances_3 : decode cX9_balances 3 = .ok (.istore_n 3, 1) := by decide +kernel
theorem dX9_balances_4 : decode cX9_balances 4 = .ok (.iload_n 3, 1) := by decide +kernel
theorem dX9_balances_5 : decode cX9_balances 5 = .ok (.aload_n 0, 1) := by decide +kernel
theorem dX9_balances_6 : decode cX9_balances 6 = .ok (.bipush 7, 2) := by decide +kernel
theorem dX9_balances_8 : decode cX9_balances 8 = .ok (.invokevirtual 86, 3) := by decide +kernel
theorem dX9_balances_11 : decode cX9_balances 11 = .ok (.if_icmp .ge 22, 3) := by decide +kernel
theorem dX9_balances_14 : decode cX9_balances 14 = .ok (.lload_n 1, 1) := by decide +kernel
theorem dX9_balances_15 : decode cX9_balances 15 = .ok (.aload_n 0, 1) := by decide +kernel
theorem dX9_balances_16 : decode cX9_balances 16 = .ok (.bipush 11, 2) := by decide +kernel
theorem dX9_balances_18 : decode cX9_balances 18 = .ok (.iconst 4, 1) := by decide +kernel
theorem dX9_balances_19 : decode cX9_balances 19 = .ok (.iload_n 3, 1) := by decide +kernel
theorem dX9_balances_20 : decode cX9_balances 20 = .ok (.imul, 1) := by decide +kernel
theorem dX9_balances_21 : decode cX9_balances 21 = .ok (.iadd, 1) := by decide +kernel
theorem dX9_balances_22 : decode cX9_balances 22 = .ok (.invokevirtual 94, 3) := by decide +kernel
theorem dX9_balances_25 : decode cX9_balances 25 = .ok (.ladd, 1) := by decide +kernel
theorem dX9_balances_26 : decode cX9_balances 26 = .ok (.lstore_n 1, 1) := by decide +kernel
theorem dX9_balances_27 : decode cX9_balances 27 = .ok (.iinc 3 1, 3) := by decide +kernel
theorem dX9_balances_30 : decode cX9_balances 30 = .ok (.goto (-26), 3) := by decide +kernel
theorem dX9_balances_33 : decode cX9_balances 33 = .ok (.lload_n 1, 1) := by decide +kernel
theorem dX9_balances_34 : decode cX9_balances 34 = .ok (.lreturn, 1) := by decide +kernel
theorem dX9_totalOf_0 : decode cX9_totalOf 0 = .ok (.iload_n 1, 1) := by decide +kernel
theorem dX9_totalOf_1 : decode cX9_totalOf 1 = .ok (.tableswitch 95 0 7 #[47, 53, 58, 64, 70, 76, 82, 88], 47) := by decide +kernel
theorem dX9_totalOf_48 : decode cX9_totalOf 48 = .ok (.aload_n 0, 1) := by decide +kernel
theorem dX9_totalOf_49 : decode cX9_totalOf 49 = .ok (.iconst 0, 1) := by decide +kernel
theorem dX9_totalOf_50 : decode cX9_totalOf 50 = .ok (.invokevirtual 94, 3) := by decide +kernel
theorem dX9_totalOf_53 : decode cX9_totalOf 53 = .ok (.lreturn, 1) := by decide +kernel
theorem dX9_totalOf_54 : decode cX9_totalOf 54 = .ok (.aload_n 0, 1) := by decide +kernel
theorem dX9_totalOf_55 : decode cX9_totalOf 55 = .ok (.invokevirtual 243, 3) := by decide +kernel
theorem dX9_totalOf_58 : decode cX9_totalOf 58 = .ok (.lreturn, 1) := by decide +kernel
theorem dX9_totalOf_59 : decode cX9_totalOf 59 = .ok (.aload_n 0, 1) := by decide +kernel
theorem dX9_totalOf_60 : decode cX9_totalOf 60 = .ok (.iconst 2, 1) := by decide +kernel
theorem dX9_totalOf_61 : decode cX9_totalOf 61 = .ok (.invokevirtual 94, 3) := by decide +kernel
theorem dX9_totalOf_64 : decode cX9_totalOf 64 = .ok (.lreturn, 1) := by decide +kernel
theorem dX9_totalOf_65 : decode cX9_totalOf 65 = .ok (.aload_n 0, 1) := by decide +kernel
theorem dX9_totalOf_66 : decode cX9_totalOf 66 = .ok (.iconst 3, 1) := by decide +kernel
theorem dX9_totalOf_67 : decode cX9_totalOf 67 = .ok (.invokevirtual 94, 3) := by decide +kernel
theorem dX9_totalOf_70 : decode cX9_totalOf 70 = .ok (.lreturn, 1) := by decide +kernel
theorem dX9_totalOf_71 : decode cX9_totalOf 71 = .ok (.aload_n 0, 1) := by decide +kernel
theorem dX9_totalOf_72 : decode cX9_totalOf 72 = .ok (.iconst 4, 1) := by decide +kernel
theorem dX9_totalOf_73 : decode cX9_totalOf 73 = .ok (.invokevirtual 94, 3) := by decide +kernel
theorem dX9_totalOf_76 : decode cX9_totalOf 76 = .ok (.lreturn, 1) := by decide +kernel
theorem dX9_totalOf_77 : decode cX9_totalOf 77 = .ok (.aload_n 0, 1) := by decide +kernel
theorem dX9_totalOf_78 : decode cX9_totalOf 78 = .ok (.iconst 1, 1) := by decide +kernel
theorem dX9_totalOf_79 : decode cX9_totalOf 79 = .ok (.invokevirtual 94, 3) := by decide +kernel
theorem dX9_totalOf_82 : decode cX9_totalOf 82 = .ok (.lreturn, 1) := by decide +kernel
theorem dX9_totalOf_83 : decode cX9_totalOf 83 = .ok (.aload_n 0, 1) := by decide +kernel
theorem dX9_totalOf_84 : decode cX9_totalOf 84 = .ok (.iconst 5, 1) := by decide +kernel
theorem dX9_totalOf_85 : decode cX9_totalOf 85 = .ok (.invokevirtual 94, 3) := by decide +kernel
theorem dX9_totalOf_88 : decode cX9_totalOf 88 = .ok (.lreturn, 1) := by decide +kernel
theorem dX9_totalOf_89 : decode cX9_totalOf 89 = .ok (.aload_n 0, 1) := by decide +kernel
theorem dX9_totalOf_90 : decode cX9_totalOf 90 = .ok (.bipush 6, 2) := by decide +kernel
theorem dX9_totalOf_92 : decode cX9_totalOf 92 = .ok (.invokevirtual 94, 3) := by decide +kernel
theorem dX9_totalOf_95 : decode cX9_totalOf 95 = .ok (.lreturn, 1) := by decide +kernel
theorem dX9_totalOf_96 : decode cX9_totalOf 96 = .ok (.aload_n 0, 1) := by decide +kernel
theorem dX9_totalOf_97 : decode cX9_totalOf 97 = .ok (.bipush 7, 2) := by decide +kernel
theorem dX9_totalOf_99 : decode cX9_totalOf 99 = .ok (.iload_n 1, 1) := by decide +kernel
theorem dX9_totalOf_100 : decode cX9_totalOf 100 = .ok (.iadd, 1) := by decide +kernel
theorem dX9_totalOf_101 : decode cX9_totalOf 101 = .ok (.bipush 8, 2) := by decide +kernel
theorem dX9_totalOf_103 : decode cX9_totalOf 103 = .ok (.isub, 1) := by decide +kernel
theorem dX9_totalOf_104 : decode cX9_totalOf 104 = .ok (.invokevirtual 94, 3) := by decide +kernel
theorem dX9_totalOf_107 : decode cX9_totalOf 107 = .ok (.lreturn, 1) := by decide +kernel
theorem dX9_total_0 : decode cX9_total 0 = .ok (.aload_n 0, 1) := by decide +kernel
theorem dX9_total_1 : decode cX9_total 1 = .ok (.invokevirtual 229, 3) := by decide +kernel
theorem dX9_total_4 : decode cX9_total 4 = .ok (.iload_n 1, 1) := by decide +kernel
theorem dX9_total_5 : decode cX9_total 5 = .ok (.i2l, 1) := by decide +kernel
theorem dX9_total_6 : decode cX9_total 6 = .ok (.lconst 0, 1) := by decide +kernel
theorem dX9_total_7 : decode cX9_total 7 = .ok (.ldc2_w 247, 3) := by decide +kernel
theorem dX9_total_10 : decode cX9_total 10 = .ok (.invokestatic 90, 3) := by decide +kernel
theorem dX9_total_13 : decode cX9_total 13 = .ok (.ifCond .eq 11, 3) := by decide +kernel
theorem dX9_total_16 : decode cX9_total 16 = .ok (.aload_n 0, 1) := by decide +kernel
theorem dX9_total_17 : decode cX9_total 17 = .ok (.iload_n 1, 1) := by decide +kernel
theorem dX9_total_18 : decode cX9_total 18 = .ok (.invokevirtual 249, 3) := by decide +kernel
theorem dX9_total_21 : decode cX9_total 21 = .ok (.goto 9, 3) := by decide +kernel
theorem dX9_total_24 : decode cX9_total 24 = .ok (.aload_n 0, 1) := by decide +kernel
theorem dX9_total_25 : decode cX9_total 25 = .ok (.iconst 1, 1) := by decide +kernel
theorem dX9_total_26 : decode cX9_total 26 = .ok (.invokevirtual 232, 3) := by decide +kernel
theorem dX9_total_29 : decode cX9_total 29 = .ok (.i2l, 1) := by decide +kernel
theorem dX9_total_30 : decode cX9_total 30 = .ok (.lreturn, 1) := by decide +kernel
theorem dX9_savedShare_0 : decode cX9_savedShare 0 = .ok (.aload_n 0, 1) := by decide +kernel
theorem dX9_savedShare_1 : decode cX9_savedShare 1 = .ok (.invokevirtual 229, 3) := by decide +kernel
theorem dX9_savedShare_4 : decode cX9_savedShare 4 = .ok (.aload_n 0, 1) := by decide +kernel
theorem dX9_savedShare_5 : decode cX9_savedShare 5 = .ok (.iconst 2, 1) := by decide +kernel
theorem dX9_savedShare_6 : decode cX9_savedShare 6 = .ok (.invokevirtual 94, 3) := by decide +kernel
theorem dX9_savedShare_9 : decode cX9_savedShare 9 = .ok (.lconst 0, 1) := by decide +kernel
theorem dX9_savedShare_10 : decode cX9_savedShare 10 = .ok (.lcmp, 1) := by decide +kernel
theorem dX9_savedShare_11 : decode cX9_savedShare 11 = .ok (.ifCond .ne 12, 3) := by decide +kernel
theorem dX9_savedShare_14 : decode cX9_savedShare 14 = .ok (.aload_n 0, 1) := by decide +kernel
theorem dX9_savedShare_15 : decode cX9_savedShare 15 = .ok (.iconst 1, 1) := by decide +kernel
theorem dX9_savedShare_16 : decode cX9_savedShare 16 = .ok (.invokevirtual 232, 3) := by decide +kernel
theorem dX9_savedShare_19 : decode cX9_savedShare 19 = .ok (.i2d, 1) := by decide +kernel
theorem dX9_savedShare_20 : decode cX9_savedShare 20 = .ok (.goto 22, 3) := by decide +kernel
theorem dX9_savedShare_23 : decode cX9_savedShare 23 = .ok (.aload_n 0, 1) := by decide +kernel
theorem dX9_savedShare_24 : decode cX9_savedShare 24 = .ok (.iconst 2, 1) := by decide +kernel
theorem dX9_savedShare_25 : decode cX9_savedShare 25 = .ok (.invokevirtual 94, 3) := by decide +kernel
theorem dX9_savedShare_28 : decode cX9_savedShare 28 = .ok (.aload_n 0, 1) := by decide +kernel
theorem dX9_savedShare_29 : decode cX9_savedShare 29 = .ok (.iconst 3, 1) := by decide +kernel
theorem dX9_savedShare_30 : decode cX9_savedShare 30 = .ok (.invokevirtual 94, 3) := by decide +kernel
theorem dX9_savedShare_33 : decode cX9_savedShare 33 = .ok (.lsub, 1) := by decide +kernel
theorem dX9_savedShare_34 : decode cX9_savedShare 34 = .ok (.l2d, 1) := by decide +kernel
theorem dX9_savedShare_35 : decode cX9_savedShare 35 = .ok (.aload_n 0, 1) := by decide +kernel
theorem dX9_savedShare_36 : decode cX9_savedShare 36 = .ok (.iconst 2, 1) := by decide +kernel
theorem dX9_savedShare_37 : decode cX9_savedShare 37 = .ok (.invokevirtual 94, 3) := by decide +kernel
theorem dX9_savedShare_40 : decode cX9_savedShare 40 = .ok (.l2d, 1) := by decide +kernel
theorem dX9_savedShare_41 : decode cX9_savedShare 41 = .ok (.ddiv, 1) := by decide +kernel
theorem dX9_savedShare_42 : decode cX9_savedShare 42 = .ok (.dreturn, 1) := by decide +kernel
theorem dX9_thinks_0 : decode cX9_thinks 0 = .ok (.aload_n 0, 1) := by decide +kernel
theorem dX9_thinks_1 : decode cX9_thinks 1 = .ok (.invokevirtual 229, 3) := by decide +kernel
theorem dX9_thinks_4 : decode cX9_thinks 4 = .ok (.aload_n 0, 1) := by decide +kernel
theorem dX9_thinks_5 : decode cX9_thinks 5 = .ok (.aload_n 0, 1) := by decide +kernel
theorem dX9_thinks_6 : decode cX9_thinks 6 = .ok (.getfield 45, 3) := by decide +kernel
theorem dX9_thinks_9 : decode cX9_thinks 9 = .ok (.sipush 1764, 3) := by decide +kernel
theorem dX9_thinks_12 : decode cX9_thinks 12 = .ok (.invokevirtual 237, 3) := by decide +kernel
theorem dX9_thinks_15 : decode cX9_thinks 15 = .ok (.aload_n 0, 1) := by decide +kernel
theorem dX9_thinks_16 : decode cX9_thinks 16 = .ok (.sipush 1764, 3) := by decide +kernel
theorem dX9_thinks_19 : decode cX9_thinks 19 = .ok (.putfield 45, 3) := by decide +kernel
theorem dX9_thinks_22 : decode cX9_thinks 22 = .ok (.return_, 1) := by decide +kernel
theorem dX9_forecast_0 : decode cX9_forecast 0 = .ok (.aload_n 0, 1) := by decide +kernel
theorem dX9_forecast_1 : decode cX9_forecast 1 = .ok (.invokevirtual 252, 3) := by decide +kernel
theorem dX9_forecast_4 : decode cX9_forecast 4 = .ok (.iload_n 1, 1) := by decide +kernel
theorem dX9_forecast_5 : decode cX9_forecast 5 = .ok (.i2l, 1) := by decide +kernel
theorem dX9_forecast_6 : decode cX9_forecast 6 = .ok (.lconst 1, 1) := by decide +kernel
theorem dX9_forecast_7 : decode cX9_forecast 7 = .ok (.ldc2_w 255, 3) := by decide +kernel
theorem dX9_forecast_10 : decode cX9_forecast 10 = .ok (.invokestatic 90, 3) := by decide +kernel
theorem dX9_forecast_13 : decode cX9_forecast 13 = .ok (.ifCond .eq 15, 3) := by decide +kernel
theorem dX9_forecast_16 : decode cX9_forecast 16 = .ok (.iload_n 2, 1) := by decide +kernel
theorem dX9_forecast_17 : decode cX9_forecast 17 = .ok (.i2l, 1) := by decide +kernel
theorem dX9_forecast_18 : decode cX9_forecast 18 = .ok (.lconst 0, 1) := by decide +kernel
theorem dX9_forecast_19 : decode cX9_forecast 19 = .ok (.ldc2_w 257, 3) := by decide +kernel
theorem dX9_forecast_22 : decode cX9_forecast 22 = .ok (.invokestatic 90, 3) := by decide +kernel
theorem dX9_forecast_25 : decode cX9_forecast 25 = .ok (.ifCond .ne 10, 3) := by decide +kernel
theorem dX9_forecast_28 : decode cX9_forecast 28 = .ok (.aload_n 0, 1) := by decide +kernel
theorem dX9_forecast_29 : decode cX9_forecast 29 = .ok (.iconst 1, 1) := by decide +kernel
theorem dX9_forecast_30 : decode cX9_forecast 30 = .ok (.invokevirtual 232, 3) := by decide +kernel
theorem dX9_forecast_33 : decode cX9_forecast 33 = .ok (.i2l, 1) := by decide +kernel
theorem dX9_forecast_34 : decode cX9_forecast 34 = .ok (.lreturn, 1) := by decide +kernel
theorem dX9_forecast_35 : decode cX9_forecast 35 = .ok (.ldc2_w 100, 3) := by decide +kernel
theorem dX9_forecast_38 : decode cX9_forecast 38 = .ok (.lstore_n 3, 1) := by decide +kernel
theorem dX9_forecast_39 : decode cX9_forecast 39 = .ok (.lconst 0, 1) := by decide +kernel
theorem dX9_forecast_40 : decode cX9_forecast 40 = .ok (.lstore 5, 2) := by decide +kernel
theorem dX9_forecast_42 : decode cX9_forecast 42 = .ok (.iconst 1, 1) := by decide +kernel
theorem dX9_forecast_43 : decode cX9_forecast 43 = .ok (.istore 7, 2) := by decide +kernel
theorem dX9_forecast_45 : decode cX9_forecast 45 = .ok (.iload 7, 2) := by decide +kernel
theorem dX9_forecast_47 : decode cX9_forecast 47 = .ok (.iload_n 1, 1) := by decide +kernel
theorem dX9_forecast_48 : decode cX9_forecast 48 = .ok (.if_icmp .gt 53, 3) := by decide +kernel
theorem dX9_forecast_51 : decode cX9_forecast 51 = .ok (.aload_n 0, 1) := by decide +kernel
theorem dX9_forecast_52 : decode cX9_forecast 52 = .ok (.iconst 4, 1) := by decide +kernel
theorem dX9_forecast_53 : decode cX9_forecast 53 = .ok (.invokevirtual 94, 3) := by decide +kernel
theorem dX9_forecast_56 : decode cX9_forecast 56 = .ok (.lstore 8, 2) := by decide +kernel
theorem dX9_forecast_58 : decode cX9_forecast 58 = .ok (.aload_n 0, 1) := by decide +kernel
theorem dX9_forecast_59 : decode cX9_forecast 59 = .ok (.invokevirtual 208, 3) := by decide +kernel
theorem dX9_forecast_62 : decode cX9_forecast 62 = .ok (.lload_n 3, 1) := by decide +kernel
theorem dX9_forecast_63 : decode cX9_forecast 63 = .ok (.aload_n 0, 1) := by decide +kernel
theorem dX9_forecast_64 : decode cX9_forecast 64 = .ok (.iconst 0, 1) := by decide +kernel
theorem dX9_forecast_65 : decode cX9_forecast 65 = .ok (.invokevirtual 94, 3) := by decide +kernel
theorem dX9_forecast_68 : decode cX9_forecast 68 = .ok (.invokestatic 111, 3) := by decide +kernel
theorem dX9_forecast_71 : decode cX9_forecast 71 = .ok (.lstore_n 3, 1) := by decide +kernel
theorem dX9_forecast_72 : decode cX9_forecast 72 = .ok (.lload 5, 2) := by decide +kernel
theorem dX9_forecast_74 : decode cX9_forecast 74 = .ok (.lconst 0, 1) := by decide +kernel
theorem dX9_forecast_75 : decode cX9_forecast 75 = .ok (.lcmp, 1) := by decide +kernel
theorem dX9_forecast_76 : decode cX9_forecast 76 = .ok (.ifCond .ne 19, 3) := by decide +kernel
theorem dX9_forecast_79 : decode cX9_forecast 79 = .ok (.aload_n 0, 1) := by decide +kernel
theorem dX9_forecast_80 : decode cX9_forecast 80 = .ok (.iconst 4, 1) := by decide +kernel
theorem dX9_forecast_81 : decode cX9_forecast 81 = .ok (.invokevirtual 94, 3) := by decide +kernel
theorem dX9_forecast_84 : decode cX9_forecast 84 = .ok (.lload 8, 2) := by decide +kernel
theorem dX9_forecast_86 : decode cX9_forecast 86 = .ok (.lcmp, 1) := by decide +kernel
theorem dX9_forecast_87 : decode cX9_forecast 87 = .ok (.ifCond .le 8, 3) := by decide +kernel
theorem dX9_forecast_90 : decode cX9_forecast 90 = .ok (.iload 7, 2) := by decide +kernel
theorem dX9_forecast_92 : decode cX9_forecast 92 = .ok (.i2l, 1) := by decide +kernel
theorem dX9_forecast_93 : decode cX9_forecast 93 = .ok (.lstore 5, 2) := by decide +kernel
theorem dX9_forecast_95 : decode cX9_forecast 95 = .ok (.iinc 7 1, 3) := by decide +kernel
theorem dX9_forecast_98 : decode cX9_forecast 98 = .ok (.goto (-53), 3) := by decide +kernel
theorem dX9_forecast_101 : decode cX9_forecast 101 = .ok (.iload_n 2, 1) := by decide +kernel
theorem dX9_forecast_102 : decode cX9_forecast 102 = .ok (.bipush 8, 2) := by decide +kernel
theorem dX9_forecast_104 : decode cX9_forecast 104 = .ok (.if_icmp .ge 11, 3) := by decide +kernel
theorem dX9_forecast_107 : decode cX9_forecast 107 = .ok (.aload_n 0, 1) := by decide +kernel
theorem dX9_forecast_108 : decode cX9_forecast 108 = .ok (.iload_n 2, 1) := by decide +kernel
theorem dX9_forecast_109 : decode cX9_forecast 109 = .ok (.invokevirtual 249, 3) := by decide +kernel
theorem dX9_forecast_112 : decode cX9_forecast 112 = .ok (.goto 15, 3) := by decide +kernel
theorem dX9_forecast_115 : decode cX9_forecast 115 = .ok (.iload_n 2, 1) := by decide +kernel
theorem dX9_forecast_116 : decode cX9_forecast 116 = .ok (.bipush 8, 2) := by decide +kernel
theorem dX9_forecast_118 : decode cX9_forecast 118 = .ok (.if_icmp .ne 7, 3) := by decide +kernel
theorem dX9_forecast_121 : decode cX9_forecast 121 = .ok (.lload_n 3, 1) := by decide +kernel
theorem dX9_forecast_122 : decode cX9_forecast 122 = .ok (.goto 5, 3) := by decide +kernel
theorem dX9_forecast_125 : decode cX9_forecast 125 = .ok (.lload 5, 2) := by decide +kernel
theorem dX9_forecast_127 : decode cX9_forecast 127 = .ok (.lreturn, 1) := by decide +kernel
theorem dX9_daysUntil_0 : decode cX9_daysUntil 0 = .ok (.aload_n 0, 1) := by decide +kernel
theorem dX9_daysUntil_1 : decode cX9_daysUntil 1 = .ok (.invokevirtual 252, 3) := by decide +kernel
theorem dX9_daysUntil_4 : decode cX9_daysUntil 4 = .ok (.aload_n 0, 1) := by decide +kernel
theorem dX9_daysUntil_5 : decode cX9_daysUntil 5 = .ok (.iload_n 1, 1) := by decide +kernel
theorem dX9_daysUntil_6 : decode cX9_daysUntil 6 = .ok (.invokevirtual 161, 3) := by decide +kernel
theorem dX9_daysUntil_9 : decode cX9_daysUntil 9 = .ok (.ifCond .ne 9, 3) := by decide +kernel
theorem dX9_daysUntil_12 : decode cX9_daysUntil 12 = .ok (.aload_n 0, 1) := by decide +kernel
theorem dX9_daysUntil_13 : decode cX9_daysUntil 13 = .ok (.iconst 1, 1) := by decide +kernel
theorem dX9_daysUntil_14 : decode cX9_daysUntil 14 = .ok (.invokevirtual 232, 3) := by decide +kernel
theorem dX9_daysUntil_17 : decode cX9_daysUntil 17 = .ok (.ireturn, 1) := by decide +kernel
theorem dX9_daysUntil_18 : decode cX9_daysUntil 18 = .ok (.iload_n 2, 1) := by decide +kernel
theorem dX9_daysUntil_19 : decode cX9_daysUntil 19 = .ok (.i2l, 1) := by decide +kernel
theorem dX9_daysUntil_20 : decode cX9_daysUntil 20 = .ok (.lconst 0, 1) := by decide +kernel
theorem dX9_daysUntil_21 : decode cX9_daysUntil 21 = .ok (.ldc2_w 155, 3) := by decide +kernel
theorem dX9_daysUntil_24 : decode cX9_daysUntil 24 = .ok (.invokestatic 90, 3) := by decide +kernel
theorem dX9_daysUntil_27 : decode cX9_daysUntil 27 = .ok (.ifCond .ne 9, 3) := by decide +kernel
theorem dX9_daysUntil_30 : decode cX9_daysUntil 30 = .ok (.aload_n 0, 1) := by decide +kernel
theorem dX9_daysUntil_31 : decode cX9_daysUntil 31 = .ok (.iconst 2, 1) := by decide +kernel
theorem dX9_daysUntil_32 : decode cX9_daysUntil 32 = .ok (.invokevirtual 232, 3) := by decide +kernel
theorem dX9_daysUntil_35 : decode cX9_daysUntil 35 = .ok (.ireturn, 1) := by decide +kernel
theorem dX9_daysUntil_36 : decode cX9_daysUntil 36 = .ok (.iconst 0, 1) := by decide +kernel
theorem dX9_daysUntil_37 : decode cX9_daysUntil 37 = .ok (.istore_n 3, 1) := by decide +kernel
theorem dX9_daysUntil_38 : decode cX9_daysUntil 38 = .ok (.iload_n 3, 1) := by decide +kernel
theorem dX9_daysUntil_39 : decode cX9_daysUntil 39 = .ok (.sipush 200, 3) := by decide +kernel
theorem dX9_daysUntil_42 : decode cX9_daysUntil 42 = .ok (.if_icmp .gt 38, 3) := by decide +kernel
theorem dX9_daysUntil_45 : decode cX9_daysUntil 45 = .ok (.aload_n 0, 1) := by decide +kernel
theorem dX9_daysUntil_46 : decode cX9_daysUntil 46 = .ok (.bipush 11, 2) := by decide +kernel
theorem dX9_daysUntil_48 : decode cX9_daysUntil 48 = .ok (.iconst 4, 1) := by decide +kernel
theorem dX9_daysUntil_49 : decode cX9_daysUntil 49 = .ok (.iload_n 1, 1) := by decide +kernel
theorem dX9_daysUntil_50 : decode cX9_daysUntil 50 = .ok (.imul, 1) := by decide +kernel
theorem dX9_daysUntil_51 : decode cX9_daysUntil 51 = .ok (.iadd, 1) := by decide +kernel
theorem dX9_daysUntil_52 : decode cX9_daysUntil 52 = .ok (.invokevirtual 94, 3) := by decide +kernel
theorem dX9_daysUntil_55 : decode cX9_daysUntil 55 = .ok (.iload_n 2, 1) := by decide +kernel
theorem dX9_daysUntil_56 : decode cX9_daysUntil 56 = .ok (.i2l, 1) := by decide +kernel
theorem dX9_daysUntil_57 : decode cX9_daysUntil 57 = .ok (.lcmp, 1) := by decide +kernel
theorem dX9_daysUntil_58 : decode cX9_daysUntil 58 = .ok (.ifCond .lt 5, 3) := by decide +kernel
theorem dX9_daysUntil_61 : decode cX9_daysUntil 61 = .ok (.iload_n 3, 1) := by decide +kernel
theorem dX9_daysUntil_62 : decode cX9_daysUntil 62 = .ok (.ireturn, 1) := by decide +kernel
theorem dX9_daysUntil_63 : decode cX9_daysUntil 63 = .ok (.iload_n 3, 1) := by decide +kernel
theorem dX9_daysUntil_64 : decode cX9_daysUntil 64 = .ok (.sipush 200, 3) := by decide +kernel
theorem dX9_daysUntil_67 : decode cX9_daysUntil 67 = .ok (.if_icmp .ge 7, 3) := by decide +kernel
theorem dX9_daysUntil_70 : decode cX9_daysUntil 70 = .ok (.aload_n 0, 1) := by decide +kernel
theorem dX9_daysUntil_71 : decode cX9_daysUntil 71 = .ok (.invokevirtual 208, 3) := by decide +kernel
theorem dX9_daysUntil_74 : decode cX9_daysUntil 74 = .ok (.iinc 3 1, 3) := by decide +kernel
theorem dX9_daysUntil_77 : decode cX9_daysUntil 77 = .ok (.goto (-39), 3) := by decide +kernel
theorem dX9_daysUntil_80 : decode cX9_daysUntil 80 = .ok (.aload_n 0, 1) := by decide +kernel
theorem dX9_daysUntil_81 : decode cX9_daysUntil 81 = .ok (.iconst 3, 1) := by decide +kernel
theorem dX9_daysUntil_82 : decode cX9_daysUntil 82 = .ok (.invokevirtual 232, 3) := by decide +kernel
theorem dX9_daysUntil_85 : decode cX9_daysUntil 85 = .ok (.ireturn, 1) := by decide +kernel
theorem dX9_isSpared_0 : decode cX9_isSpared 0 = .ok (.aload_n 0, 1) := by decide +kernel
theorem dX9_isSpared_1 : decode cX9_isSpared 1 = .ok (.aload_n 0, 1) := by decide +kernel
theorem dX9_isSpared_2 : decode cX9_isSpared 2 = .ok (.getfield 39, 3) := by decide +kernel
theorem dX9_isSpared_5 : decode cX9_isSpared 5 = .ok (.invokestatic 211, 3) := by decide +kernel
theorem dX9_isSpared_8 : decode cX9_isSpared 8 = .ok (.sipush 1764, 3) := by decide +kernel
theorem dX9_isSpared_11 : decode cX9_isSpared 11 = .ok (.invokevirtual 237, 3) := by decide +kernel
theorem dX9_isSpared_14 : decode cX9_isSpared 14 = .ok (.aload_n 0, 1) := by decide +kernel
theorem dX9_isSpared_15 : decode cX9_isSpared 15 = .ok (.sipush 1764, 3) := by decide +kernel
theorem dX9_isSpared_18 : decode cX9_isSpared 18 = .ok (.putfield 45, 3) := by decide +kernel
theorem dX9_isSpared_21 : decode cX9_isSpared 21 = .ok (.aload_n 0, 1) := by decide +kernel
theorem dX9_isSpared_22 : decode cX9_isSpared 22 = .ok (.iload_n 1, 1) := by decide +kernel
theorem dX9_isSpared_23 : decode cX9_isSpared 23 = .ok (.iload_n 2, 1) := by decide +kernel
theorem dX9_isSpared_24 : decode cX9_isSpared 24 = .ok (.i2l, 1) := by decide +kernel
theorem dX9_isSpared_25 : decode cX9_isSpared 25 = .ok (.invokevirtual 135, 3) := by decide +kernel
theorem dX9_isSpared_28 : decode cX9_isSpared 28 = .ok (.ifCond .ne 5, 3) := by decide +kernel
theorem dX9_isSpared_31 : decode cX9_isSpared 31 = .ok (.iconst 0, 1) := by decide +kernel
theorem dX9_isSpared_32 : decode cX9_isSpared 32 = .ok (.ireturn, 1) := by decide +kernel
theorem dX9_isSpared_33 : decode cX9_isSpared 33 = .ok (.aload_n 0, 1) := by decide +kernel
theorem dX9_isSpared_34 : decode cX9_isSpared 34 = .ok (.iconst 4, 1) := by decide +kernel
theorem dX9_isSpared_35 : decode cX9_isSpared 35 = .ok (.invokevirtual 94, 3) := by decide +kernel
theorem dX9_isSpared_38 : decode cX9_isSpared 38 = .ok (.lstore 4, 2) := by decide +kernel
theorem dX9_isSpared_40 : decode cX9_isSpared 40 = .ok (.aload_n 0, 1) := by decide +kernel
theorem dX9_isSpared_41 : decode cX9_isSpared 41 = .ok (.aload_n 0, 1) := by decide +kernel
theorem dX9_isSpared_42 : decode cX9_isSpared 42 = .ok (.iload_n 1, 1) := by decide +kernel
theorem dX9_isSpared_43 : decode cX9_isSpared 43 = .ok (.iload_n 2, 1) := by decide +kernel
theorem dX9_isSpared_44 : decode cX9_isSpared 44 = .ok (.i2l, 1) := by decide +kernel
theorem dX9_isSpared_45 : decode cX9_isSpared 45 = .ok (.invokevirtual 139, 3) := by decide +kernel
theorem dX9_isSpared_48 : decode cX9_isSpared 48 = .ok (.invokevirtual 192, 3) := by decide +kernel
theorem dX9_isSpared_51 : decode cX9_isSpared 51 = .ok (.istore 6, 2) := by decide +kernel
theorem dX9_isSpared_53 : decode cX9_isSpared 53 = .ok (.iconst 0, 1) := by decide +kernel
theorem dX9_isSpared_54 : decode cX9_isSpared 54 = .ok (.istore 7, 2) := by decide +kernel
theorem dX9_isSpared_56 : decode cX9_isSpared 56 = .ok (.iload 7, 2) := by decide +kernel
theorem dX9_isSpared_58 : decode cX9_isSpared 58 = .ok (.iload_n 3, 1) := by decide +kernel
theorem dX9_isSpared_59 : decode cX9_isSpared 59 = .ok (.if_icmp .ge 13, 3) := by decide +kernel
theorem dX9_isSpared_62 : decode cX9_isSpared 62 = .ok (.aload_n 0, 1) := by decide +kernel
theorem dX9_isSpared_63 : decode cX9_isSpared 63 = .ok (.invokevirtual 208, 3) := by decide +kernel
theorem dX9_isSpared_66 : decode cX9_isSpared 66 = .ok (.iinc 7 1, 3) := by decide +kernel
theorem dX9_isSpared_69 : decode cX9_isSpared 69 = .ok (.goto (-13), 3) := by decide +kernel
theorem dX9_isSpared_72 : decode cX9_isSpared 72 = .ok (.aload_n 0, 1) := by decide +kernel
theorem dX9_isSpared_73 : decode cX9_isSpared 73 = .ok (.iconst 4, 1) := by decide +kernel
theorem dX9_isSpared_74 : decode cX9_isSpared 74 = .ok (.invokevirtual 94, 3) := by decide +kernel
theorem dX9_isSpared_77 : decode cX9_isSpared 77 = .ok (.lload 4, 2) := by decide +kernel
theorem dX9_isSpared_79 : decode cX9_isSpared 79 = .ok (.lcmp, 1) := by decide +kernel
theorem dX9_isSpared_80 : decode cX9_isSpared 80 = .ok (.ifCond .ne 7, 3) := by decide +kernel
theorem dX9_isSpared_83 : decode cX9_isSpared 83 = .ok (.iconst 1, 1) := by decide +kernel
theorem dX9_isSpared_84 : decode cX9_isSpared 84 = .ok (.goto 4, 3) := by decide +kernel
theorem dX9_isSpared_87 : decode cX9_isSpared 87 = .ok (.iconst 0, 1) := by decide +kernel
theorem dX9_isSpared_88 : decode cX9_isSpared 88 = .ok (.ireturn, 1) := by decide +kernel
theorem dX9_spare_0 : decode cX9_spare 0 = .ok (.aload_n 0, 1) := by decide +kernel
theorem dX9_spare_1 : decode cX9_spare 1 = .ok (.invokevirtual 229, 3) := by decide +kernel
theorem dX9_spare_4 : decode cX9_spare 4 = .ok (.aload_n 0, 1) := by decide +kernel
theorem dX9_spare_5 : decode cX9_spare 5 = .ok (.iload_n 1, 1) := by decide +kernel
theorem dX9_spare_6 : decode cX9_spare 6 = .ok (.invokevirtual 161, 3) := by decide +kernel
theorem dX9_spare_9 : decode cX9_spare 9 = .ok (.ifCond .ne 9, 3) := by decide +kernel
theorem dX9_spare_12 : decode cX9_spare 12 = .ok (.aload_n 0, 1) := by decide +kernel
theorem dX9_spare_13 : decode cX9_spare 13 = .ok (.iconst 1, 1) := by decide +kernel
theorem dX9_spare_14 : decode cX9_spare 14 = .ok (.invokevirtual 232, 3) := by decide +kernel
theorem dX9_spare_17 : decode cX9_spare 17 = .ok (.ireturn, 1) := by decide +kernel
theorem dX9_spare_18 : decode cX9_spare 18 = .ok (.iload_n 2, 1) := by decide +kernel
theorem dX9_spare_19 : decode cX9_spare 19 = .ok (.i2l, 1) := by decide +kernel
theorem dX9_spare_20 : decode cX9_spare 20 = .ok (.lconst 1, 1) := by decide +kernel
theorem dX9_spare_21 : decode cX9_spare 21 = .ok (.ldc2_w 206, 3) := by decide +kernel
theorem dX9_spare_24 : decode cX9_spare 24 = .ok (.invokestatic 90, 3) := by decide +kernel
theorem dX9_spare_27 : decode cX9_spare 27 = .ok (.ifCond .ne 9, 3) := by decide +kernel
theorem dX9_spare_30 : decode cX9_spare 30 = .ok (.aload_n 0, 1) := by decide +kernel
theorem dX9_spare_31 : decode cX9_spare 31 = .ok (.iconst 2, 1) := by decide +kernel
theorem dX9_spare_32 : decode cX9_spare 32 = .ok (.invokevirtual 232, 3) := by decide +kernel
theorem dX9_spare_35 : decode cX9_spare 35 = .ok (.ireturn, 1) := by decide +kernel
theorem dX9_spare_36 : decode cX9_spare 36 = .ok (.iconst 0, 1) := by decide +kernel
theorem dX9_spare_37 : decode cX9_spare 37 = .ok (.istore_n 3, 1) := by decide +kernel
theorem dX9_spare_38 : decode cX9_spare 38 = .ok (.ldc_w 259, 3) := by decide +kernel
theorem dX9_spare_41 : decode cX9_spare 41 = .ok (.istore 4, 2) := by decide +kernel
theorem dX9_spare_43 : decode cX9_spare 43 = .ok (.iload 4, 2) := by decide +kernel
theorem dX9_spare_45 : decode cX9_spare 45 = .ok (.iload_n 3, 1) := by decide +kernel
theorem dX9_spare_46 : decode cX9_spare 46 = .ok (.iconst 1, 1) := by decide +kernel
theorem dX9_spare_47 : decode cX9_spare 47 = .ok (.iadd, 1) := by decide +kernel
theorem dX9_spare_48 : decode cX9_spare 48 = .ok (.if_icmp .le 35, 3) := by decide +kernel
theorem dX9_spare_51 : decode cX9_spare 51 = .ok (.iload_n 3, 1) := by decide +kernel
theorem dX9_spare_52 : decode cX9_spare 52 = .ok (.iload 4, 2) := by decide +kernel
theorem dX9_spare_54 : decode cX9_spare 54 = .ok (.iadd, 1) := by decide +kernel
theorem dX9_spare_55 : decode cX9_spare 55 = .ok (.iconst 2, 1) := by decide +kernel
theorem dX9_spare_56 : decode cX9_spare 56 = .ok (.idiv, 1) := by decide +kernel
theorem dX9_spare_57 : decode cX9_spare 57 = .ok (.istore 5, 2) := by decide +kernel
theorem dX9_spare_59 : decode cX9_spare 59 = .ok (.aload_n 0, 1) := by decide +kernel
theorem dX9_spare_60 : decode cX9_spare 60 = .ok (.iload_n 1, 1) := by decide +kernel
theorem dX9_spare_61 : decode cX9_spare 61 = .ok (.iload 5, 2) := by decide +kernel
theorem dX9_spare_63 : decode cX9_spare 63 = .ok (.iload_n 2, 1) := by decide +kernel
theorem dX9_spare_64 : decode cX9_spare 64 = .ok (.invokevirtual 260, 3) := by decide +kernel
theorem dX9_spare_67 : decode cX9_spare 67 = .ok (.ifCond .eq 9, 3) := by decide +kernel
theorem dX9_spare_70 : decode cX9_spare 70 = .ok (.iload 5, 2) := by decide +kernel
theorem dX9_spare_72 : decode cX9_spare 72 = .ok (.istore_n 3, 1) := by decide +kernel
theorem dX9_spare_73 : decode cX9_spare 73 = .ok (.goto 7, 3) := by decide +kernel
theorem dX9_spare_76 : decode cX9_spare 76 = .ok (.iload 5, 2) := by decide +kernel
theorem dX9_spare_78 : decode cX9_spare 78 = .ok (.istore 4, 2) := by decide +kernel
theorem dX9_spare_80 : decode cX9_spare 80 = .ok (.goto (-37), 3) := by decide +kernel
theorem dX9_spare_83 : decode cX9_spare 83 = .ok (.iload_n 3, 1) := by decide +kernel
theorem dX9_spare_84 : decode cX9_spare 84 = .ok (.ireturn, 1) := by decide +kernel
theorem dX9_isBranch_0 : decode cX9_isBranch 0 = .ok (.iload_n 1, 1) := by decide +kernel
theorem dX9_isBranch_1 : decode cX9_isBranch 1 = .ok (.i2l, 1) := by decide +kernel
theorem dX9_isBranch_2 : decode cX9_isBranch 2 = .ok (.lconst 0, 1) := by decide +kernel
theorem dX9_isBranch_3 : decode cX9_isBranch 3 = .ok (.ldc2_w 241, 3) := by decide +kernel
theorem dX9_isBranch_6 : decode cX9_isBranch 6 = .ok (.invokestatic 90, 3) := by decide +kernel
theorem dX9_isBranch_9 : decode cX9_isBranch 9 = .ok (.ifCond .eq 16, 3) := by decide +kernel
theorem dX9_isBranch_12 : decode cX9_isBranch 12 = .ok (.aload_n 0, 1) := by decide +kernel
theorem dX9_isBranch_13 : decode cX9_isBranch 13 = .ok (.getfield 24, 3) := by decide +kernel
theorem dX9_isBranch_16 : decode cX9_isBranch 16 = .ok (.iload_n 1, 1) := by decide +kernel
theorem dX9_isBranch_17 : decode cX9_isBranch 17 = .ok (.iaload, 1) := by decide +kernel
theorem dX9_isBranch_18 : decode cX9_isBranch 18 = .ok (.ifCond .lt 7, 3) := by decide +kernel
theorem dX9_isBranch_21 : decode cX9_isBranch 21 = .ok (.iconst 1, 1) := by decide +kernel
theorem dX9_isBranch_22 : decode cX9_isBranch 22 = .ok (.goto 4, 3) := by decide +kernel
theorem dX9_isBranch_25 : decode cX9_isBranch 25 = .ok (.iconst 0, 1) := by decide +kernel
theorem dX9_isBranch_26 : decode cX9_isBranch 26 = .ok (.ireturn, 1) := by decide +kernel
theorem dX9_children_0 : decode cX9_children 0 = .ok (.iconst 0, 1) := by decide +kernel
theorem dX9_children_1 : decode cX9_children 1 = .ok (.istore_n 2, 1) := by decide +kernel
theorem dX9_children_2 : decode cX9_children 2 = .ok (.iconst 1, 1) := by decide +kernel
theorem dX9_children_3 : decode cX9_children 3 = .ok (.istore_n 3, 1) := by decide +kernel
theorem dX9_children_4 : decode cX9_children 4 = .ok (.iload_n 3, 1) := by decide +kernel
theorem dX9_children_5 : decode cX9_children 5 = .ok (.bipush 6, 2) := by decide +kernel
theorem dX9_children_7 : decode cX9_children 7 = .ok (.if_icmp .ge 36, 3) := by decide +kernel
theorem dX9_children_10 : decode cX9_children 10 = .ok (.iload_n 2, 1) := by decide +kernel
theorem dX9_children_11 : decode cX9_children 11 = .ok (.aload_n 0, 1) := by decide +kernel
theorem dX9_children_12 : decode cX9_children 12 = .ok (.getfield 24, 3) := by decide +kernel
theorem dX9_children_15 : decode cX9_children 15 = .ok (.iload_n 3, 1) := by decide +kernel
theorem dX9_children_16 : decode cX9_children 16 = .ok (.iaload, 1) := by decide +kernel
theorem dX9_children_17 : decode cX9_children 17 = .ok (.ifCond .lt 17, 3) := by decide +kernel
theorem dX9_children_20 : decode cX9_children 20 = .ok (.aload_n 0, 1) := by decide +kernel
theorem dX9_children_21 : decode cX9_children 21 = .ok (.getfield 27, 3) := by decide +kernel
theorem dX9_children_24 : decode cX9_children 24 = .ok (.iload_n 3, 1) := by decide +kernel
theorem dX9_children_25 : decode cX9_children 25 = .ok (.iaload, 1) := by decide +kernel
theorem dX9_children_26 : decode cX9_children 26 = .ok (.iload_n 1, 1) := by decide +kernel
theorem dX9_children_27 : decode cX9_children 27 = .ok (.if_icmp .ne 7, 3) := by decide +kernel
theorem dX9_children_30 : decode cX9_children 30 = .ok (.iconst 1, 1) := by decide +kernel
theorem dX9_children_31 : decode cX9_children 31 = .ok (.goto 4, 3) := by decide +kernel
theorem dX9_children_34 : decode cX9_children 34 = .ok (.iconst 0, 1) := by decide +kernel
theorem dX9_children_35 : decode cX9_children 35 = .ok (.iadd, 1) := by decide +kernel
theorem dX9_children_36 : decode cX9_children 36 = .ok (.istore_n 2, 1) := by decide +kernel
theorem dX9_children_37 : decode cX9_children 37 = .ok (.iinc 3 1, 3) := by decide +kernel
theorem dX9_children_40 : decode cX9_children 40 = .ok (.goto (-36), 3) := by decide +kernel
theorem dX9_children_43 : decode cX9_children 43 = .ok (.iload_n 2, 1) := by decide +kernel
theorem dX9_children_44 : decode cX9_children 44 = .ok (.ireturn, 1) := by decide +kernel
theorem dX9_branches_0 : decode cX9_branches 0 = .ok (.iconst 0, 1) := by decide +kernel
theorem dX9_branches_1 : decode cX9_branches 1 = .ok (.istore_n 1, 1) := by decide +kernel
theorem dX9_branches_2 : decode cX9_branches 2 = .ok (.iconst 0, 1) := by decide +kernel
theorem dX9_branches_3 : decode cX9_branches 3 = .ok (.istore_n 2, 1) := by decide +kernel
theorem dX9_branches_4 : decode cX9_branches 4 = .ok (.iload_n 2, 1) := by decide +kernel
theorem dX9_branches_5 : decode cX9_branches 5 = .ok (.bipush 6, 2) := by decide +kernel
theorem dX9_branches_7 : decode cX9_branches 7 = .ok (.if_icmp .ge 26, 3) := by decide +kernel
theorem dX9_branches_10 : decode cX9_branches 10 = .ok (.iload_n 1, 1) := by decide +kernel
theorem dX9_branches_11 : decode cX9_branches 11 = .ok (.aload_n 0, 1) := by decide +kernel
theorem dX9_branches_12 : decode cX9_branches 12 = .ok (.getfield 24, 3) := by decide +kernel
theorem dX9_branches_15 : decode cX9_branches 15 = .ok (.iload_n 2, 1) := by decide +kernel
theorem dX9_branches_16 : decode cX9_branches 16 = .ok (.iaload, 1) := by decide +kernel
theorem dX9_branches_17 : decode cX9_branches 17 = .ok (.ifCond .lt 7, 3) := by decide +kernel
theorem dX9_branches_20 : decode cX9_branches 20 = .ok (.iconst 1, 1) := by decide +kernel
theorem dX9_branches_21 : decode cX9_branches 21 = .ok (.goto 4, 3) := by decide +kernel
theorem dX9_branches_24 : decode cX9_branches 24 = .ok (.iconst 0, 1) := by decide +kernel
theorem dX9_branches_25 : decode cX9_branches 25 = .ok (.iadd, 1) := by decide +kernel
theorem dX9_branches_26 : decode cX9_branches 26 = .ok (.istore_n 1, 1) := by decide +kernel
theorem dX9_branches_27 : decode cX9_branches 27 = .ok (.iinc 2 1, 3) := by decide +kernel
theorem dX9_branches_30 : decode cX9_branches 30 = .ok (.goto (-26), 3) := by decide +kernel
theorem dX9_branches_33 : decode cX9_branches 33 = .ok (.iload_n 1, 1) := by decide +kernel
theorem dX9_branches_34 : decode cX9_branches 34 = .ok (.ireturn, 1) := by decide +kernel
theorem dX9_fork_0 : decode cX9_fork 0 = .ok (.aload_n 0, 1) := by decide +kernel
theorem dX9_fork_1 : decode cX9_fork 1 = .ok (.iconst 0, 1) := by decide +kernel
theorem dX9_fork_2 : decode cX9_fork 2 = .ok (.putfield 3, 3) := by decide +kernel
theorem dX9_fork_5 : decode cX9_fork 5 = .ok (.iconst 0, 1) := by decide +kernel
theorem dX9_fork_6 : decode cX9_fork 6 = .ok (.istore_n 1, 1) := by decide +kernel
theorem dX9_fork_7 : decode cX9_fork 7 = .ok (.iload_n 1, 1) := by decide +kernel
theorem dX9_fork_8 : decode cX9_fork 8 = .ok (.bipush 6, 2) := by decide +kernel
theorem dX9_fork_10 : decode cX9_fork 10 = .ok (.if_icmp .ge 18, 3) := by decide +kernel
theorem dX9_fork_13 : decode cX9_fork 13 = .ok (.aload_n 0, 1) := by decide +kernel
theorem dX9_fork_14 : decode cX9_fork 14 = .ok (.getfield 24, 3) := by decide +kernel
theorem dX9_fork_17 : decode cX9_fork 17 = .ok (.iload_n 1, 1) := by decide +kernel
theorem dX9_fork_18 : decode cX9_fork 18 = .ok (.iaload, 1) := by decide +kernel
theorem dX9_fork_19 : decode cX9_fork 19 = .ok (.ifCond .lt 9, 3) := by decide +kernel
theorem dX9_fork_22 : decode cX9_fork 22 = .ok (.iinc 1 1, 3) := by decide +kernel
theorem dX9_fork_25 : decode cX9_fork 25 = .ok (.goto (-18), 3) := by decide +kernel
theorem dX9_fork_28 : decode cX9_fork 28 = .ok (.iload_n 1, 1) := by decide +kernel
theorem dX9_fork_29 : decode cX9_fork 29 = .ok (.bipush 6, 2) := by decide +kernel
theorem dX9_fork_31 : decode cX9_fork 31 = .ok (.if_icmp .ne 9, 3) := by decide +kernel
theorem dX9_fork_34 : decode cX9_fork 34 = .ok (.aload_n 0, 1) := by decide +kernel
theorem dX9_fork_35 : decode cX9_fork 35 = .ok (.iconst 1, 1) := by decide +kernel
theorem dX9_fork_36 : decode cX9_fork 36 = .ok (.invokevirtual 232, 3) := by decide +kernel
theorem dX9_fork_39 : decode cX9_fork 39 = .ok (.ireturn, 1) := by decide +kernel
theorem dX9_fork_40 : decode cX9_fork 40 = .ok (.aload_n 0, 1) := by decide +kernel
theorem dX9_fork_41 : decode cX9_fork 41 = .ok (.getfield 24, 3) := by decide +kernel
theorem dX9_fork_44 : decode cX9_fork 44 = .ok (.iload_n 1, 1) := by decide +kernel
theorem dX9_fork_45 : decode cX9_fork 45 = .ok (.iconst 0, 1) := by decide +kernel
theorem dX9_fork_46 : decode cX9_fork 46 = .ok (.iastore, 1) := by decide +kernel
theorem dX9_fork_47 : decode cX9_fork 47 = .ok (.aload_n 0, 1) := by decide +kernel
theorem dX9_fork_48 : decode cX9_fork 48 = .ok (.getfield 27, 3) := by decide +kernel
theorem dX9_fork_51 : decode cX9_fork 51 = .ok (.iload_n 1, 1) := by decide +kernel
theorem dX9_fork_52 : decode cX9_fork 52 = .ok (.aload_n 0, 1) := by decide +kernel
theorem dX9_fork_53 : decode cX9_fork 53 = .ok (.getfield 39, 3) := by decide +kernel
theorem dX9_fork_56 : decode cX9_fork 56 = .ok (.iastore, 1) := by decide +kernel
theorem dX9_fork_57 : decode cX9_fork 57 = .ok (.aload_n 0, 1) := by decide +kernel
theorem dX9_fork_58 : decode cX9_fork 58 = .ok (.aload_n 0, 1) := by decide +kernel
theorem dX9_fork_59 : decode cX9_fork 59 = .ok (.getfield 39, 3) := by decide +kernel
theorem dX9_fork_62 : decode cX9_fork 62 = .ok (.invokestatic 211, 3) := by decide +kernel
theorem dX9_fork_65 : decode cX9_fork 65 = .ok (.iload_n 1, 1) := by decide +kernel
theorem dX9_fork_66 : decode cX9_fork 66 = .ok (.invokestatic 211, 3) := by decide +kernel
theorem dX9_fork_69 : decode cX9_fork 69 = .ok (.invokevirtual 237, 3) := by decide +kernel
theorem dX9_fork_72 : decode cX9_fork 72 = .ok (.aload_n 0, 1) := by decide +kernel
theorem dX9_fork_73 : decode cX9_fork 73 = .ok (.aload_n 0, 1) := by decide +kernel
theorem dX9_fork_74 : decode cX9_fork 74 = .ok (.getfield 39, 3) := by decide +kernel
theorem dX9_fork_77 : decode cX9_fork 77 = .ok (.invokestatic 211, 3) := by decide +kernel
theorem dX9_fork_80 : decode cX9_fork 80 = .ok (.iload_n 1, 1) := by decide +kernel
theorem dX9_fork_81 : decode cX9_fork 81 = .ok (.invokestatic 264, 3) := by decide +kernel
theorem dX9_fork_84 : decode cX9_fork 84 = .ok (.invokevirtual 237, 3) := by decide +kernel
theorem dX9_fork_87 : decode cX9_fork 87 = .ok (.iload_n 1, 1) := by decide +kernel
theorem dX9_fork_88 : decode cX9_fork 88 = .ok (.ireturn, 1) := by decide +kernel
theorem dX9_select_0 : decode cX9_select 0 = .ok (.aload_n 0, 1) := by decide +kernel
theorem dX9_select_1 : decode cX9_select 1 = .ok (.iconst 0, 1) := by decide +kernel
theorem dX9_select_2 : decode cX9_select 2 = .ok (.putfield 3, 3) := by decide +kernel
theorem dX9_select_5 : decode cX9_select 5 = .ok (.aload_n 0, 1) := by decide +kernel
theorem dX9_select_6 : decode cX9_select 6 = .ok (.iload_n 1, 1) := by decide +kernel
theorem dX9_select_7 : decode cX9_select 7 = .ok (.invokevirtual 267, 3) := by decide +kernel
theorem dX9_select_10 : decode cX9_select 10 = .ok (.ifCond .ne 9, 3) := by decide +kernel
theorem dX9_select_13 : decode cX9_select 13 = .ok (.aload_n 0, 1) := by decide +kernel
theorem dX9_select_14 : decode cX9_select 14 = .ok (.iconst 1, 1) := by decide +kernel
theorem dX9_select_15 : decode cX9_select 15 = .ok (.invokevirtual 232, 3) := by decide +kernel
theorem dX9_select_18 : decode cX9_select 18 = .ok (.ireturn, 1) := by decide +kernel
theorem dX9_select_19 : decode cX9_select 19 = .ok (.aload_n 0, 1) := by decide +kernel
theorem dX9_select_20 : decode cX9_select 20 = .ok (.getfield 39, 3) := by decide +kernel
theorem dX9_select_23 : decode cX9_select 23 = .ok (.istore_n 2, 1) := by decide +kernel
theorem dX9_select_24 : decode cX9_select 24 = .ok (.aload_n 0, 1) := by decide +kernel
theorem dX9_select_25 : decode cX9_select 25 = .ok (.iload_n 1, 1) := by decide +kernel
theorem dX9_select_26 : decode cX9_select 26 = .ok (.putfield 39, 3) := by decide +kernel
theorem dX9_select_29 : decode cX9_select 29 = .ok (.iload_n 2, 1) := by decide +kernel
theorem dX9_select_30 : decode cX9_select 30 = .ok (.ireturn, 1) := by decide +kernel
theorem dX9_isHeld_0 : decode cX9_isHeld 0 = .ok (.iload_n 1, 1) := by decide +kernel
theorem dX9_isHeld_1 : decode cX9_isHeld 1 = .ok (.ifCond .eq 19, 3) := by decide +kernel
theorem dX9_isHeld_4 : decode cX9_isHeld 4 = .ok (.iload_n 1, 1) := by decide +kernel
theorem dX9_isHeld_5 : decode cX9_isHeld 5 = .ok (.aload_n 0, 1) := by decide +kernel
theorem dX9_isHeld_6 : decode cX9_isHeld 6 = .ok (.getfield 39, 3) := by decide +kernel
theorem dX9_isHeld_9 : decode cX9_isHeld 9 = .ok (.if_icmp .eq 11, 3) := by decide +kernel
theorem dX9_isHeld_12 : decode cX9_isHeld 12 = .ok (.aload_n 0, 1) := by decide +kernel
theorem dX9_isHeld_13 : decode cX9_isHeld 13 = .ok (.iload_n 1, 1) := by decide +kernel
theorem dX9_isHeld_14 : decode cX9_isHeld 14 = .ok (.invokevirtual 270, 3) := by decide +kernel
theorem dX9_isHeld_17 : decode cX9_isHeld 17 = .ok (.ifCond .le 7, 3) := by decide +kernel
theorem dX9_isHeld_20 : decode cX9_isHeld 20 = .ok (.iconst 1, 1) := by decide +kernel
theorem dX9_isHeld_21 : decode cX9_isHeld 21 = .ok (.goto 4, 3) := by decide +kernel
theorem dX9_isHeld_24 : decode cX9_isHeld 24 = .ok (.iconst 0, 1) := by decide +kernel
theorem dX9_isHeld_25 : decode cX9_isHeld 25 = .ok (.ireturn, 1) := by decide +kernel
theorem dX9_discard_0 : decode cX9_discard 0 = .ok (.aload_n 0, 1) := by decide +kernel
theorem dX9_discard_1 : decode cX9_discard 1 = .ok (.iconst 0, 1) := by decide +kernel
theorem dX9_discard_2 : decode cX9_discard 2 = .ok (.putfield 3, 3) := by decide +kernel
theorem dX9_discard_5 : decode cX9_discard 5 = .ok (.aload_n 0, 1) := by decide +kernel
theorem dX9_discard_6 : decode cX9_discard 6 = .ok (.iload_n 1, 1) := by decide +kernel
theorem dX9_discard_7 : decode cX9_discard 7 = .ok (.invokevirtual 267, 3) := by decide +kernel
theorem dX9_discard_10 : decode cX9_discard 10 = .ok (.ifCond .ne 9, 3) := by decide +kernel
theorem dX9_discard_13 : decode cX9_discard 13 = .ok (.aload_n 0, 1) := by decide +kernel
theorem dX9_discard_14 : decode cX9_discard 14 = .ok (.iconst 1, 1) := by decide +kernel
theorem dX9_discard_15 : decode cX9_discard 15 = .ok (.invokevirtual 232, 3) := by decide +kernel
theorem dX9_discard_18 : decode cX9_discard 18 = .ok (.ireturn, 1) := by decide +kernel
theorem dX9_discard_19 : decode cX9_discard 19 = .ok (.aload_n 0, 1) := by decide +kernel
theorem dX9_discard_20 : decode cX9_discard 20 = .ok (.iload_n 1, 1) := by decide +kernel
theorem dX9_discard_21 : decode cX9_discard 21 = .ok (.invokevirtual 273, 3) := by decide +kernel
theorem dX9_discard_24 : decode cX9_discard 24 = .ok (.ifCond .eq 9, 3) := by decide +kernel
theorem dX9_discard_27 : decode cX9_discard 27 = .ok (.aload_n 0, 1) := by decide +kernel
theorem dX9_discard_28 : decode cX9_discard 28 = .ok (.iconst 2, 1) := by decide +kernel
theorem dX9_discard_29 : decode cX9_discard 29 = .ok (.invokevirtual 232, 3) := by decide +kernel
theorem dX9_discard_32 : decode cX9_discard 32 = .ok (.ireturn, 1) := by decide +kernel
theorem dX9_discard_33 : decode cX9_discard 33 = .ok (.aload_n 0, 1) := by decide +kernel
theorem dX9_discard_34 : decode cX9_discard 34 = .ok (.getfield 24, 3) := by decide +kernel
theorem dX9_discard_37 : decode cX9_discard 37 = .ok (.iload_n 1, 1) := by decide +kernel
theorem dX9_discard_38 : decode cX9_discard 38 = .ok (.iaload, 1) := by decide +kernel
theorem dX9_discard_39 : decode cX9_discard 39 = .ok (.istore_n 2, 1) := by decide +kernel
theorem dX9_discard_40 : decode cX9_discard 40 = .ok (.aload_n 0, 1) := by decide +kernel
theorem dX9_discard_41 : decode cX9_discard 41 = .ok (.getfield 24, 3) := by decide +kernel
theorem dX9_discard_44 : decode cX9_discard 44 = .ok (.iload_n 1, 1) := by decide +kernel
theorem dX9_discard_45 : decode cX9_discard 45 = .ok (.iconst (-1), 1) := by decide +kernel
theorem dX9_discard_46 : decode cX9_discard 46 = .ok (.iastore, 1) := by decide +kernel
theorem dX9_discard_47 : decode cX9_discard 47 = .ok (.iload_n 2, 1) := by decide +kernel
theorem dX9_discard_48 : decode cX9_discard 48 = .ok (.ireturn, 1) := by decide +kernel
theorem dX9_replays_0 : decode cX9_replays 0 = .ok (.iconst 5, 1) := by decide +kernel
theorem dX9_replays_1 : decode cX9_replays 1 = .ok (.bipush 60, 2) := by decide +kernel
theorem dX9_replays_3 : decode cX9_replays 3 = .ok (.iload_n 1, 1) := by decide +kernel
theorem dX9_replays_4 : decode cX9_replays 4 = .ok (.imul, 1) := by decide +kernel
theorem dX9_replays_5 : decode cX9_replays 5 = .ok (.iload_n 2, 1) := by decide +kernel
theorem dX9_replays_6 : decode cX9_replays 6 = .ok (.iadd, 1) := by decide +kernel
theorem dX9_replays_7 : decode cX9_replays 7 = .ok (.imul, 1) := by decide +kernel
theorem dX9_replays_8 : decode cX9_replays 8 = .ok (.istore 4, 2) := by decide +kernel
theorem dX9_replays_10 : decode cX9_replays 10 = .ok (.aload_n 0, 1) := by decide +kernel
theorem dX9_replays_11 : decode cX9_replays 11 = .ok (.aload_n 0, 1) := by decide +kernel
theorem dX9_replays_12 : decode cX9_replays 12 = .ok (.getfield 20, 3) := by decide +kernel
theorem dX9_replays_15 : decode cX9_replays 15 = .ok (.iload 4, 2) := by decide +kernel
theorem dX9_replays_17 : decode cX9_replays 17 = .ok (.iaload, 1) := by decide +kernel
theorem dX9_replays_18 : decode cX9_replays 18 = .ok (.aload_n 0, 1) := by decide +kernel
theorem dX9_replays_19 : decode cX9_replays 19 = .ok (.getfield 20, 3) := by decide +kernel
theorem dX9_replays_22 : decode cX9_replays 22 = .ok (.iload 4, 2) := by decide +kernel
theorem dX9_replays_24 : decode cX9_replays 24 = .ok (.iconst 1, 1) := by decide +kernel
theorem dX9_replays_25 : decode cX9_replays 25 = .ok (.iadd, 1) := by decide +kernel
theorem dX9_replays_26 : decode cX9_replays 26 = .ok (.iaload, 1) := by decide +kernel
theorem dX9_replays_27 : decode cX9_replays 27 = .ok (.aload_n 0, 1) := by decide +kernel
theorem dX9_replays_28 : decode cX9_replays 28 = .ok (.getfield 20, 3) := by decide +kernel
theorem dX9_replays_31 : decode cX9_replays 31 = .ok (.iload 4, 2) := by decide +kernel
theorem dX9_replays_33 : decode cX9_replays 33 = .ok (.iconst 2, 1) := by decide +kernel
theorem dX9_replays_34 : decode cX9_replays 34 = .ok (.iadd, 1) := by decide +kernel
theorem dX9_replays_35 : decode cX9_replays 35 = .ok (.iaload, 1) := by decide +kernel
theorem dX9_replays_36 : decode cX9_replays 36 = .ok (.aload_n 0, 1) := by decide +kernel
theorem dX9_replays_37 : decode cX9_replays 37 = .ok (.getfield 20, 3) := by decide +kernel
theorem dX9_replays_40 : decode cX9_replays 40 = .ok (.iload 4, 2) := by decide +kernel
theorem dX9_replays_42 : decode cX9_replays 42 = .ok (.iconst 3, 1) := by decide +kernel
theorem dX9_replays_43 : decode cX9_replays 43 = .ok (.iadd, 1) := by decide +kernel
theorem dX9_replays_44 : decode cX9_replays 44 = .ok (.iaload, 1) := by decide +kernel
theorem dX9_replays_45 : decode cX9_replays 45 = .ok (.aload_n 0, 1) := by decide +kernel
theorem dX9_replays_46 : decode cX9_replays 46 = .ok (.getfield 20, 3) := by decide +kernel
theorem dX9_replays_49 : decode cX9_replays 49 = .ok (.iload 4, 2) := by decide +kernel
theorem dX9_replays_51 : decode cX9_replays 51 = .ok (.iconst 4, 1) := by decide +kernel
theorem dX9_replays_52 : decode cX9_replays 52 = .ok (.iadd, 1) := by decide +kernel
theorem dX9_replays_53 : decode cX9_replays 53 = .ok (.iaload, 1) := by decide +kernel
theorem dX9_replays_54 : decode cX9_replays 54 = .ok (.iload_n 3, 1) := by decide +kernel
theorem dX9_replays_55 : decode cX9_replays 55 = .ok (.invokevirtual 214, 3) := by decide +kernel
theorem dX9_replays_58 : decode cX9_replays 58 = .ok (.ireturn, 1) := by decide +kernel
theorem dX9_merge_0 : decode cX9_merge 0 = .ok (.aload_n 0, 1) := by decide +kernel
theorem dX9_merge_1 : decode cX9_merge 1 = .ok (.iconst 0, 1) := by decide +kernel
theorem dX9_merge_2 : decode cX9_merge 2 = .ok (.putfield 3, 3) := by decide +kernel
theorem dX9_merge_5 : decode cX9_merge 5 = .ok (.aload_n 0, 1) := by decide +kernel
theorem dX9_merge_6 : decode cX9_merge 6 = .ok (.iload_n 1, 1) := by decide +kernel
theorem dX9_merge_7 : decode cX9_merge 7 = .ok (.invokevirtual 267, 3) := by decide +kernel
theorem dX9_merge_10 : decode cX9_merge 10 = .ok (.ifCond .ne 9, 3) := by decide +kernel
theorem dX9_merge_13 : decode cX9_merge 13 = .ok (.aload_n 0, 1) := by decide +kernel
theorem dX9_merge_14 : decode cX9_merge 14 = .ok (.iconst 1, 1) := by decide +kernel
theorem dX9_merge_15 : decode cX9_merge 15 = .ok (.invokevirtual 232, 3) := by decide +kernel
theorem dX9_merge_18 : decode cX9_merge 18 = .ok (.ireturn, 1) := by decide +kernel
theorem dX9_merge_19 : decode cX9_merge 19 = .ok (.aload_n 0, 1) := by decide +kernel
theorem dX9_merge_20 : decode cX9_merge 20 = .ok (.iload_n 1, 1) := by decide +kernel
theorem dX9_merge_21 : decode cX9_merge 21 = .ok (.invokevirtual 273, 3) := by decide +kernel
theorem dX9_merge_24 : decode cX9_merge 24 = .ok (.ifCond .eq 9, 3) := by decide +kernel
theorem dX9_merge_27 : decode cX9_merge 27 = .ok (.aload_n 0, 1) := by decide +kernel
theorem dX9_merge_28 : decode cX9_merge 28 = .ok (.iconst 2, 1) := by decide +kernel
theorem dX9_merge_29 : decode cX9_merge 29 = .ok (.invokevirtual 232, 3) := by decide +kernel
theorem dX9_merge_32 : decode cX9_merge 32 = .ok (.ireturn, 1) := by decide +kernel
theorem dX9_merge_33 : decode cX9_merge 33 = .ok (.aload_n 0, 1) := by decide +kernel
theorem dX9_merge_34 : decode cX9_merge 34 = .ok (.getfield 27, 3) := by decide +kernel
theorem dX9_merge_37 : decode cX9_merge 37 = .ok (.iload_n 1, 1) := by decide +kernel
theorem dX9_merge_38 : decode cX9_merge 38 = .ok (.iaload, 1) := by decide +kernel
theorem dX9_merge_39 : decode cX9_merge 39 = .ok (.istore_n 2, 1) := by decide +kernel
theorem dX9_merge_40 : decode cX9_merge 40 = .ok (.aload_n 0, 1) := by decide +kernel
theorem dX9_merge_41 : decode cX9_merge 41 = .ok (.iload_n 2, 1) := by decide +kernel
theorem dX9_merge_42 : decode cX9_merge 42 = .ok (.invokestatic 211, 3) := by decide +kernel
theorem dX9_merge_45 : decode cX9_merge 45 = .ok (.sipush 1911, 3) := by decide +kernel
theorem dX9_merge_48 : decode cX9_merge 48 = .ok (.invokevirtual 237, 3) := by decide +kernel
theorem dX9_merge_51 : decode cX9_merge 51 = .ok (.aload_n 0, 1) := by decide +kernel
theorem dX9_merge_52 : decode cX9_merge 52 = .ok (.sipush 1911, 3) := by decide +kernel
theorem dX9_merge_55 : decode cX9_merge 55 = .ok (.putfield 45, 3) := by decide +kernel
theorem dX9_merge_58 : decode cX9_merge 58 = .ok (.iconst 0, 1) := by decide +kernel
theorem dX9_merge_59 : decode cX9_merge 59 = .ok (.istore_n 3, 1) := by decide +kernel
theorem dX9_merge_60 : decode cX9_merge 60 = .ok (.iload_n 3, 1) := by decide +kernel
theorem dX9_merge_61 : decode cX9_merge 61 = .ok (.aload_n 0, 1) := by decide +kernel
theorem dX9_merge_62 : decode cX9_merge 62 = .ok (.getfield 24, 3) := by decide +kernel
theorem dX9_merge_65 : decode cX9_merge 65 = .ok (.iload_n 1, 1) := by decide +kernel
theorem dX9_merge_66 : decode cX9_merge 66 = .ok (.iaload, 1) := by decide +kernel
theorem dX9_merge_67 : decode cX9_merge 67 = .ok (.if_icmp .ge 64, 3) := by decide +kernel
theorem dX9_merge_70 : decode cX9_merge 70 = .ok (.aload_n 0, 1) := by decide +kernel
theorem dX9_merge_71 : decode cX9_merge 71 = .ok (.iload_n 1, 1) := by decide +kernel
theorem dX9_merge_72 : decode cX9_merge 72 = .ok (.iload_n 3, 1) := by decide +kernel
theorem dX9_merge_73 : decode cX9_merge 73 = .ok (.aload_n 0, 1) := by decide +kernel
theorem dX9_merge_74 : decode cX9_merge 74 = .ok (.getfield 24, 3) := by decide +kernel
theorem dX9_merge_77 : decode cX9_merge 77 = .ok (.iload_n 2, 1) := by decide +kernel
theorem dX9_merge_78 : decode cX9_merge 78 = .ok (.iaload, 1) := by decide +kernel
theorem dX9_merge_79 : decode cX9_merge 79 = .ok (.iload_n 3, 1) := by decide +kernel
theorem dX9_merge_80 : decode cX9_merge 80 = .ok (.iadd, 1) := by decide +kernel
theorem dX9_merge_81 : decode cX9_merge 81 = .ok (.bipush 60, 2) := by decide +kernel
theorem dX9_merge_83 : decode cX9_merge 83 = .ok (.if_icmp .lt 7, 3) := by decide +kernel
theorem dX9_merge_86 : decode cX9_merge 86 = .ok (.iconst 1, 1) := by decide +kernel
theorem dX9_merge_87 : decode cX9_merge 87 = .ok (.goto 4, 3) := by decide +kernel
theorem dX9_merge_90 : decode cX9_merge 90 = .ok (.iconst 0, 1) := by decide +kernel
theorem dX9_merge_91 : decode cX9_merge 91 = .ok (.invokevirtual 276, 3) := by decide +kernel
theorem dX9_merge_94 : decode cX9_merge 94 = .ok (.istore 4, 2) := by decide +kernel
theorem dX9_merge_96 : decode cX9_merge 96 = .ok (.aload_n 0, 1) := by decide +kernel
theorem dX9_merge_97 : decode cX9_merge 97 = .ok (.getfield 57, 3) := by decide +kernel
theorem dX9_merge_100 : decode cX9_merge 100 = .ok (.ifCond .ne 6, 3) := by decide +kernel
theorem dX9_merge_103 : decode cX9_merge 103 = .ok (.goto 22, 3) := by decide +kernel
theorem dX9_merge_106 : decode cX9_merge 106 = .ok (.aload_n 0, 1) := by decide +kernel
theorem dX9_merge_107 : decode cX9_merge 107 = .ok (.iload_n 3, 1) := by decide +kernel
theorem dX9_merge_108 : decode cX9_merge 108 = .ok (.putfield 51, 3) := by decide +kernel
theorem dX9_merge_111 : decode cX9_merge 111 = .ok (.aload_n 0, 1) := by decide +kernel
theorem dX9_merge_112 : decode cX9_merge 112 = .ok (.aload_n 0, 1) := by decide +kernel
theorem dX9_merge_113 : decode cX9_merge 113 = .ok (.getfield 57, 3) := by decide +kernel
theorem dX9_merge_116 : decode cX9_merge 116 = .ok (.putfield 54, 3) := by decide +kernel
theorem dX9_merge_119 : decode cX9_merge 119 = .ok (.aload_n 0, 1) := by decide +kernel
theorem dX9_merge_120 : decode cX9_merge 120 = .ok (.iconst 3, 1) := by decide +kernel
theorem dX9_merge_121 : decode cX9_merge 121 = .ok (.invokevirtual 232, 3) := by decide +kernel
theorem dX9_merge_124 : decode cX9_merge 124 = .ok (.ireturn, 1) := by decide +kernel
theorem dX9_merge_125 : decode cX9_merge 125 = .ok (.iinc 3 1, 3) := by decide +kernel
theorem dX9_merge_128 : decode cX9_merge 128 = .ok (.goto (-68), 3) := by decide +kernel
theorem dX9_merge_131 : decode cX9_merge 131 = .ok (.aload_n 0, 1) := by decide +kernel
theorem dX9_merge_132 : decode cX9_merge 132 = .ok (.sipush 1911, 3) := by decide +kernel
theorem dX9_merge_135 : decode cX9_merge 135 = .ok (.iload_n 2, 1) := by decide +kernel
theorem dX9_merge_136 : decode cX9_merge 136 = .ok (.invokestatic 211, 3) := by decide +kernel
theorem dX9_merge_139 : decode cX9_merge 139 = .ok (.invokevirtual 237, 3) := by decide +kernel
theorem dX9_merge_142 : decode cX9_merge 142 = .ok (.aload_n 0, 1) := by decide +kernel
theorem dX9_merge_143 : decode cX9_merge 143 = .ok (.getfield 24, 3) := by decide +kernel
theorem dX9_merge_146 : decode cX9_merge 146 = .ok (.iload_n 1, 1) := by decide +kernel
theorem dX9_merge_147 : decode cX9_merge 147 = .ok (.iaload, 1) := by decide +kernel
theorem dX9_merge_148 : decode cX9_merge 148 = .ok (.istore_n 3, 1) := by decide +kernel
theorem dX9_merge_149 : decode cX9_merge 149 = .ok (.iconst 0, 1) := by decide +kernel
theorem dX9_merge_150 : decode cX9_merge 150 = .ok (.istore 4, 2) := by decide +kernel
theorem dX9_merge_152 : decode cX9_merge 152 = .ok (.iload 4, 2) := by decide +kernel
theorem dX9_merge_154 : decode cX9_merge 154 = .ok (.iload_n 3, 1) := by decide +kernel
theorem dX9_merge_155 : decode cX9_merge 155 = .ok (.if_icmp .ge 68, 3) := by decide +kernel
theorem dX9_merge_158 : decode cX9_merge 158 = .ok (.iconst 5, 1) := by decide +kernel
theorem dX9_merge_159 : decode cX9_merge 159 = .ok (.bipush 60, 2) := by decide +kernel
theorem dX9_merge_161 : decode cX9_merge 161 = .ok (.iload_n 1, 1) := by decide +kernel
theorem dX9_merge_162 : decode cX9_merge 162 = .ok (.imul, 1) := by decide +kernel
theorem dX9_merge_163 : decode cX9_merge 163 = .ok (.iload 4, 2) := by decide +kernel
theorem dX9_merge_165 : decode cX9_merge 165 = .ok (.iadd, 1) := by decide +kernel
theorem dX9_merge_166 : decode cX9_merge 166 = .ok (.imul, 1) := by decide +kernel
theorem dX9_merge_167 : decode cX9_merge 167 = .ok (.istore 5, 2) := by decide +kernel
theorem dX9_merge_169 : decode cX9_merge 169 = .ok (.aload_n 0, 1) := by decide +kernel
theorem dX9_merge_170 : decode cX9_merge 170 = .ok (.iload_n 2, 1) := by decide +kernel
theorem dX9_merge_171 : decode cX9_merge 171 = .ok (.aload_n 0, 1) := by decide +kernel
theorem dX9_merge_172 : decode cX9_merge 172 = .ok (.getfield 20, 3) := by decide +kernel
theorem dX9_merge_175 : decode cX9_merge 175 = .ok (.iload 5, 2) := by decide +kernel
theorem dX9_merge_177 : decode cX9_merge 177 = .ok (.iaload, 1) := by decide +kernel
theorem dX9_merge_178 : decode cX9_merge 178 = .ok (.aload_n 0, 1) := by decide +kernel
theorem dX9_merge_179 : decode cX9_merge 179 = .ok (.getfield 20, 3) := by decide +kernel
theorem dX9_merge_182 : decode cX9_merge 182 = .ok (.iload 5, 2) := by decide +kernel
theorem dX9_merge_184 : decode cX9_merge 184 = .ok (.iconst 1, 1) := by decide +kernel
theorem dX9_merge_185 : decode cX9_merge 185 = .ok (.iadd, 1) := by decide +kernel
theorem dX9_merge_186 : decode cX9_merge 186 = .ok (.iaload, 1) := by decide +kernel
theorem dX9_merge_187 : decode cX9_merge 187 = .ok (.aload_n 0, 1) := by decide +kernel
theorem dX9_merge_188 : decode cX9_merge 188 = .ok (.getfield 20, 3) := by decide +kernel
theorem dX9_merge_191 : decode cX9_merge 191 = .ok (.iload 5, 2) := by decide +kernel
theorem dX9_merge_193 : decode cX9_merge 193 = .ok (.iconst 2, 1) := by decide +kernel
theorem dX9_merge_194 : decode cX9_merge 194 = .ok (.iadd, 1) := by decide +kernel
theorem dX9_merge_195 : decode cX9_merge 195 = .ok (.iaload, 1) := by decide +kernel
theorem dX9_merge_196 : decode cX9_merge 196 = .ok (.aload_n 0, 1) := by decide +kernel
theorem dX9_merge_197 : decode cX9_merge 197 = .ok (.getfield 20, 3) := by decide +kernel
theorem dX9_merge_200 : decode cX9_merge 200 = .ok (.iload 5, 2) := by decide +kernel
theorem dX9_merge_202 : decode cX9_merge 202 = .ok (.iconst 3, 1) := by decide +kernel
theorem dX9_merge_203 : decode cX9_merge 203 = .ok (.iadd, 1) := by decide +kernel
theorem dX9_merge_204 : decode cX9_merge 204 = .ok (.iaload, 1) := by decide +kernel
theorem dX9_merge_205 : decode cX9_merge 205 = .ok (.aload_n 0, 1) := by decide +kernel
theorem dX9_merge_206 : decode cX9_merge 206 = .ok (.getfield 20, 3) := by decide +kernel
theorem dX9_merge_209 : decode cX9_merge 209 = .ok (.iload 5, 2) := by decide +kernel
theorem dX9_merge_211 : decode cX9_merge 211 = .ok (.iconst 4, 1) := by decide +kernel
theorem dX9_merge_212 : decode cX9_merge 212 = .ok (.iadd, 1) := by decide +kernel
theorem dX9_merge_213 : decode cX9_merge 213 = .ok (.iaload, 1) := by decide +kernel
theorem dX9_merge_214 : decode cX9_merge 214 = .ok (.invokevirtual 218, 3) := by decide +kernel
theorem dX9_merge_217 : decode cX9_merge 217 = .ok (.iinc 4 1, 3) := by decide +kernel
theorem dX9_merge_220 : decode cX9_merge 220 = .ok (.goto (-68), 3) := by decide +kernel
theorem dX9_merge_223 : decode cX9_merge 223 = .ok (.aload_n 0, 1) := by decide +kernel
theorem dX9_merge_224 : decode cX9_merge 224 = .ok (.getfield 24, 3) := by decide +kernel
theorem dX9_merge_227 : decode cX9_merge 227 = .ok (.iload_n 1, 1) := by decide +kernel
theorem dX9_merge_228 : decode cX9_merge 228 = .ok (.iconst (-1), 1) := by decide +kernel
theorem dX9_merge_229 : decode cX9_merge 229 = .ok (.iastore, 1) := by decide +kernel
theorem dX9_merge_230 : decode cX9_merge 230 = .ok (.iload_n 3, 1) := by decide +kernel
theorem dX9_merge_231 : decode cX9_merge 231 = .ok (.ireturn, 1) := by decide +kernel
theorem dX9_conflict_0 : decode cX9_conflict 0 = .ok (.aload_n 0, 1) := by decide +kernel
theorem dX9_conflict_1 : decode cX9_conflict 1 = .ok (.iconst 0, 1) := by decide +kernel
theorem dX9_conflict_2 : decode cX9_conflict 2 = .ok (.putfield 3, 3) := by decide +kernel
theorem dX9_conflict_5 : decode cX9_conflict 5 = .ok (.aload_n 0, 1) := by decide +kernel
theorem dX9_conflict_6 : decode cX9_conflict 6 = .ok (.getfield 51, 3) := by decide +kernel
theorem dX9_conflict_9 : decode cX9_conflict 9 = .ok (.ifCond .ge 9, 3) := by decide +kernel
theorem dX9_conflict_12 : decode cX9_conflict 12 = .ok (.aload_n 0, 1) := by decide +kernel
theorem dX9_conflict_13 : decode cX9_conflict 13 = .ok (.iconst 1, 1) := by decide +kernel
theorem dX9_conflict_14 : decode cX9_conflict 14 = .ok (.invokevirtual 232, 3) := by decide +kernel
theorem dX9_conflict_17 : decode cX9_conflict 17 = .ok (.ireturn, 1) := by decide +kernel
theorem dX9_conflict_18 : decode cX9_conflict 18 = .ok (.iload_n 1, 1) := by decide +kernel
theorem dX9_conflict_19 : decode cX9_conflict 19 = .ok (.ifCond .eq 10, 3) := by decide +kernel
theorem dX9_conflict_22 : decode cX9_conflict 22 = .ok (.aload_n 0, 1) := by decide +kernel
theorem dX9_conflict_23 : decode cX9_conflict 23 = .ok (.getfield 54, 3) := by decide +kernel
theorem dX9_conflict_26 : decode cX9_conflict 26 = .ok (.goto 7, 3) := by decide +kernel
theorem dX9_conflict_29 : decode cX9_conflict 29 = .ok (.aload_n 0, 1) := by decide +kernel
theorem dX9_conflict_30 : decode cX9_conflict 30 = .ok (.getfield 51, 3) := by decide +kernel
theorem dX9_conflict_33 : decode cX9_conflict 33 = .ok (.ireturn, 1) := by decide +kernel
theorem dX9_branch_0 : decode cX9_branch 0 = .ok (.aload_n 0, 1) := by decide +kernel
theorem dX9_branch_1 : decode cX9_branch 1 = .ok (.iconst 0, 1) := by decide +kernel
theorem dX9_branch_2 : decode cX9_branch 2 = .ok (.putfield 3, 3) := by decide +kernel
theorem dX9_branch_5 : decode cX9_branch 5 = .ok (.aload_n 0, 1) := by decide +kernel
theorem dX9_branch_6 : decode cX9_branch 6 = .ok (.iload_n 1, 1) := by decide +kernel
theorem dX9_branch_7 : decode cX9_branch 7 = .ok (.invokevirtual 267, 3) := by decide +kernel
theorem dX9_branch_10 : decode cX9_branch 10 = .ok (.ifCond .ne 10, 3) := by decide +kernel
theorem dX9_branch_13 : decode cX9_branch 13 = .ok (.aload_n 0, 1) := by decide +kernel
theorem dX9_branch_14 : decode cX9_branch 14 = .ok (.iconst 1, 1) := by decide +kernel
theorem dX9_branch_15 : decode cX9_branch 15 = .ok (.invokevirtual 232, 3) := by decide +kernel
theorem dX9_branch_18 : decode cX9_branch 18 = .ok (.i2l, 1) := by decide +kernel
theorem dX9_branch_19 : decode cX9_branch 19 = .ok (.lreturn, 1) := by decide +kernel
theorem dX9_branch_20 : decode cX9_branch 20 = .ok (.aload_n 0, 1) := by decide +kernel
theorem dX9_branch_21 : decode cX9_branch 21 = .ok (.iload_n 1, 1) := by decide +kernel
theorem dX9_branch_22 : decode cX9_branch 22 = .ok (.invokestatic 211, 3) := by decide +kernel
theorem dX9_branch_25 : decode cX9_branch 25 = .ok (.putfield 45, 3) := by decide +kernel
theorem dX9_branch_28 : decode cX9_branch 28 = .ok (.iload_n 2, 1) := by decide +kernel
theorem dX9_branch_29 : decode cX9_branch 29 = .ok (.tableswitch 79 0 5 #[39, 47, 55, 62, 68, 73], 39) := by decide +kernel
theorem dX9_branch_68 : decode cX9_branch 68 = .ok (.aload_n 0, 1) := by decide +kernel
theorem dX9_branch_69 : decode cX9_branch 69 = .ok (.getfield 27, 3) := by decide +kernel
theorem dX9_branch_72 : decode cX9_branch 72 = .ok (.iload_n 1, 1) := by decide +kernel
theorem dX9_branch_73 : decode cX9_branch 73 = .ok (.iaload, 1) := by decide +kernel
theorem dX9_branch_74 : decode cX9_branch 74 = .ok (.i2l, 1) := by decide +kernel
theorem dX9_branch_75 : decode cX9_branch 75 = .ok (.lreturn, 1) := by decide +kernel
theorem dX9_branch_76 : decode cX9_branch 76 = .ok (.aload_n 0, 1) := by decide +kernel
theorem dX9_branch_77 : decode cX9_branch 77 = .ok (.getfield 24, 3) := by decide +kernel
theorem dX9_branch_80 : decode cX9_branch 80 = .ok (.iload_n 1, 1) := by decide +kernel
theorem dX9_branch_81 : decode cX9_branch 81 = .ok (.iaload, 1) := by decide +kernel
theorem dX9_branch_82 : decode cX9_branch 82 = .ok (.i2l, 1) := by decide +kernel
theorem dX9_branch_83 : decode cX9_branch 83 = .ok (.lreturn, 1) := by decide +kernel
theorem dX9_branch_84 : decode cX9_branch 84 = .ok (.aload_n 0, 1) := by decide +kernel
theorem dX9_branch_85 : decode cX9_branch 85 = .ok (.iload_n 1, 1) := by decide +kernel
theorem dX9_branch_86 : decode cX9_branch 86 = .ok (.invokevirtual 270, 3) := by decide +kernel
theorem dX9_branch_89 : decode cX9_branch 89 = .ok (.i2l, 1) := by decide +kernel
theorem dX9_branch_90 : decode cX9_branch 90 = .ok (.lreturn, 1) := by decide +kernel
theorem dX9_branch_91 : decode cX9_branch 91 = .ok (.aload_n 0, 1) := by decide +kernel
theorem dX9_branch_92 : decode cX9_branch 92 = .ok (.iconst 0, 1) := by decide +kernel
theorem dX9_branch_93 : decode cX9_branch 93 = .ok (.invokevirtual 94, 3) := by decide +kernel
theorem dX9_branch_96 : decode cX9_branch 96 = .ok (.lreturn, 1) := by decide +kernel
theorem dX9_branch_97 : decode cX9_branch 97 = .ok (.aload_n 0, 1) := by decide +kernel
theorem dX9_branch_98 : decode cX9_branch 98 = .ok (.invokevirtual 243, 3) := by decide +kernel
theorem dX9_branch_101 : decode cX9_branch 101 = .ok (.lreturn, 1) := by decide +kernel
theorem dX9_branch_102 : decode cX9_branch 102 = .ok (.aload_n 0, 1) := by decide +kernel
theorem dX9_branch_103 : decode cX9_branch 103 = .ok (.iconst 1, 1) := by decide +kernel
theorem dX9_branch_104 : decode cX9_branch 104 = .ok (.invokevirtual 94, 3) := by decide +kernel
theorem dX9_branch_107 : decode cX9_branch 107 = .ok (.lreturn, 1) := by decide +kernel
theorem dX9_branch_108 : decode cX9_branch 108 = .ok (.aload_n 0, 1) := by decide +kernel
theorem dX9_branch_109 : decode cX9_branch 109 = .ok (.iconst 2, 1) := by decide +kernel
theorem dX9_branch_110 : decode cX9_branch 110 = .ok (.invokevirtual 232, 3) := by decide +kernel
theorem dX9_branch_113 : decode cX9_branch 113 = .ok (.i2l, 1) := by decide +kernel
theorem dX9_branch_114 : decode cX9_branch 114 = .ok (.lreturn, 1) := by decide +kernel
theorem dX9_moneyOf_0 : decode cX9_moneyOf 0 = .ok (.aload_n 0, 1) := by decide +kernel
theorem dX9_moneyOf_1 : decode cX9_moneyOf 1 = .ok (.iload_n 1, 1) := by decide +kernel
theorem dX9_moneyOf_2 : decode cX9_moneyOf 2 = .ok (.invokestatic 211, 3) := by decide +kernel
theorem dX9_moneyOf_5 : decode cX9_moneyOf 5 = .ok (.putfield 45, 3) := by decide +kernel
theorem dX9_moneyOf_8 : decode cX9_moneyOf 8 = .ok (.aload_n 0, 1) := by decide +kernel
theorem dX9_moneyOf_9 : decode cX9_moneyOf 9 = .ok (.iload_n 2, 1) := by decide +kernel
theorem dX9_moneyOf_10 : decode cX9_moneyOf 10 = .ok (.invokevirtual 196, 3) := by decide +kernel
theorem dX9_moneyOf_13 : decode cX9_moneyOf 13 = .ok (.ifCond .eq 11, 3) := by decide +kernel
theorem dX9_moneyOf_16 : decode cX9_moneyOf 16 = .ok (.aload_n 0, 1) := by decide +kernel
theorem dX9_moneyOf_17 : decode cX9_moneyOf 17 = .ok (.iload_n 2, 1) := by decide +kernel
theorem dX9_moneyOf_18 : decode cX9_moneyOf 18 = .ok (.invokevirtual 199, 3) := by decide +kernel
theorem dX9_moneyOf_21 : decode cX9_moneyOf 21 = .ok (.goto 4, 3) := by decide +kernel
theorem dX9_moneyOf_24 : decode cX9_moneyOf 24 = .ok (.lconst 0, 1) := by decide +kernel
theorem dX9_moneyOf_25 : decode cX9_moneyOf 25 = .ok (.lreturn, 1) := by decide +kernel
theorem dX9_difference_0 : decode cX9_difference 0 = .ok (.aload_n 0, 1) := by decide +kernel
theorem dX9_difference_1 : decode cX9_difference 1 = .ok (.iconst 0, 1) := by decide +kernel
theorem dX9_difference_2 : decode cX9_difference 2 = .ok (.putfield 3, 3) := by decide +kernel
theorem dX9_difference_5 : decode cX9_difference 5 = .ok (.aload_n 0, 1) := by decide +kernel
theorem dX9_difference_6 : decode cX9_difference 6 = .ok (.iload_n 1, 1) := by decide +kernel
theorem dX9_difference_7 : decode cX9_difference 7 = .ok (.invokevirtual 267, 3) := by decide +kernel
theorem dX9_difference_10 : decode cX9_difference 10 = .ok (.ifCond .eq 11, 3) := by decide +kernel
theorem dX9_difference_13 : decode cX9_difference 13 = .ok (.aload_n 0, 1) := by decide +kernel
theorem dX9_difference_14 : decode cX9_difference 14 = .ok (.iload_n 2, 1) := by decide +kernel
theorem dX9_difference_15 : decode cX9_difference 15 = .ok (.invokevirtual 267, 3) := by decide +kernel
theorem dX9_difference_18 : decode cX9_difference 18 = .ok (.ifCond .ne 10, 3) := by decide +kernel
theorem dX9_difference_21 : decode cX9_difference 21 = .ok (.aload_n 0, 1) := by decide +kernel
theorem dX9_difference_22 : decode cX9_difference 22 = .ok (.iconst 1, 1) := by decide +kernel
theorem dX9_difference_23 : decode cX9_difference 23 = .ok (.invokevirtual 232, 3) := by decide +kernel
theorem dX9_difference_26 : decode cX9_difference 26 = .ok (.i2l, 1) := by decide +kernel
theorem dX9_difference_27 : decode cX9_difference 27 = .ok (.lreturn, 1) := by decide +kernel
theorem dX9_difference_28 : decode cX9_difference 28 = .ok (.iload_n 3, 1) := by decide +kernel
theorem dX9_difference_29 : decode cX9_difference 29 = .ok (.i2l, 1) := by decide +kernel
theorem dX9_difference_30 : decode cX9_difference 30 = .ok (.ldc2_w 153, 3) := by decide +kernel
theorem dX9_difference_33 : decode cX9_difference 33 = .ok (.ldc2_w 257, 3) := by decide +kernel
theorem dX9_difference_36 : decode cX9_difference 36 = .ok (.invokestatic 90, 3) := by decide +kernel
theorem dX9_difference_39 : decode cX9_difference 39 = .ok (.ifCond .eq 19, 3) := by decide +kernel
theorem dX9_difference_42 : decode cX9_difference 42 = .ok (.aload_n 0, 1) := by decide +kernel
theorem dX9_difference_43 : decode cX9_difference 43 = .ok (.iload_n 1, 1) := by decide +kernel
theorem dX9_difference_44 : decode cX9_difference 44 = .ok (.iload_n 3, 1) := by decide +kernel
theorem dX9_difference_45 : decode cX9_difference 45 = .ok (.invokevirtual 280, 3) := by decide +kernel
theorem dX9_difference_48 : decode cX9_difference 48 = .ok (.aload_n 0, 1) := by decide +kernel
theorem dX9_difference_49 : decode cX9_difference 49 = .ok (.iload_n 2, 1) := by decide +kernel
theorem dX9_difference_50 : decode cX9_difference 50 = .ok (.iload_n 3, 1) := by decide +kernel
theorem dX9_difference_51 : decode cX9_difference 51 = .ok (.invokevirtual 280, 3) := by decide +kernel
theorem dX9_difference_54 : decode cX9_difference 54 = .ok (.lsub, 1) := by decide +kernel
theorem dX9_difference_55 : decode cX9_difference 55 = .ok (.goto 9, 3) := by decide +kernel
theorem dX9_difference_58 : decode cX9_difference 58 = .ok (.aload_n 0, 1) := by decide +kernel
theorem dX9_difference_59 : decode cX9_difference 59 = .ok (.iconst 2, 1) := by decide +kernel
theorem dX9_difference_60 : decode cX9_difference 60 = .ok (.invokevirtual 232, 3) := by decide +kernel
theorem dX9_difference_63 : decode cX9_difference 63 = .ok (.i2l, 1) := by decide +kernel
theorem dX9_difference_64 : decode cX9_difference 64 = .ok (.lreturn, 1) := by decide +kernel
theorem dX9_step__0 : decode cX9_step_ 0 = .ok (.aload_n 0, 1) := by decide +kernel
theorem dX9_step__1 : decode cX9_step_ 1 = .ok (.iconst 0, 1) := by decide +kernel
theorem dX9_step__2 : decode cX9_step_ 2 = .ok (.putfield 3, 3) := by decide +kernel
theorem dX9_step__5 : decode cX9_step_ 5 = .ok (.iload_n 1, 1) := by decide +kernel
theorem dX9_step__6 : decode cX9_step_ 6 = .ok (.i2l, 1) := by decide +kernel
theorem dX9_step__7 : decode cX9_step_ 7 = .ok (.lconst 0, 1) := by decide +kernel
theorem dX9_step__8 : decode cX9_step_ 8 = .ok (.aload_n 0, 1) := by decide +kernel
theorem dX9_step__9 : decode cX9_step_ 9 = .ok (.getfield 24, 3) := by decide +kernel
theorem dX9_step__12 : decode cX9_step_ 12 = .ok (.aload_n 0, 1) := by decide +kernel
theorem dX9_step__13 : decode cX9_step_ 13 = .ok (.getfield 39, 3) := by decide +kernel
theorem dX9_step__16 : decode cX9_step_ 16 = .ok (.iaload, 1) := by decide +kernel
theorem dX9_step__17 : decode cX9_step_ 17 = .ok (.iconst 1, 1) := by decide +kernel
theorem dX9_step__18 : decode cX9_step_ 18 = .ok (.isub, 1) := by decide +kernel
theorem dX9_step__19 : decode cX9_step_ 19 = .ok (.i2l, 1) := by decide +kernel
theorem dX9_step__20 : decode cX9_step_ 20 = .ok (.invokestatic 90, 3) := by decide +kernel
theorem dX9_step__23 : decode cX9_step_ 23 = .ok (.ifCond .ne 9, 3) := by decide +kernel
theorem dX9_step__26 : decode cX9_step_ 26 = .ok (.aload_n 0, 1) := by decide +kernel
theorem dX9_step__27 : decode cX9_step_ 27 = .ok (.iconst 1, 1) := by decide +kernel
theorem dX9_step__28 : decode cX9_step_ 28 = .ok (.invokevirtual 232, 3) := by decide +kernel
theorem dX9_step__31 : decode cX9_step_ 31 = .ok (.ireturn, 1) := by decide +kernel
theorem dX9_step__32 : decode cX9_step_ 32 = .ok (.iload_n 2, 1) := by decide +kernel
theorem dX9_step__33 : decode cX9_step_ 33 = .ok (.i2l, 1) := by decide +kernel
theorem dX9_step__34 : decode cX9_step_ 34 = .ok (.lconst 0, 1) := by decide +kernel
theorem dX9_step__35 : decode cX9_step_ 35 = .ok (.ldc2_w 235, 3) := by decide +kernel
theorem dX9_step__38 : decode cX9_step_ 38 = .ok (.invokestatic 90, 3) := by decide +kernel
theorem dX9_step__41 : decode cX9_step_ 41 = .ok (.ifCond .eq 24, 3) := by decide +kernel
theorem dX9_step__44 : decode cX9_step_ 44 = .ok (.aload_n 0, 1) := by decide +kernel
theorem dX9_step__45 : decode cX9_step_ 45 = .ok (.getfield 20, 3) := by decide +kernel
theorem dX9_step__48 : decode cX9_step_ 48 = .ok (.iconst 5, 1) := by decide +kernel
theorem dX9_step__49 : decode cX9_step_ 49 = .ok (.bipush 60, 2) := by decide +kernel
theorem dX9_step__51 : decode cX9_step_ 51 = .ok (.aload_n 0, 1) := by decide +kernel
theorem dX9_step__52 : decode cX9_step_ 52 = .ok (.getfield 39, 3) := by decide +kernel
theorem dX9_step__55 : decode cX9_step_ 55 = .ok (.imul, 1) := by decide +kernel
theorem dX9_step__56 : decode cX9_step_ 56 = .ok (.iload_n 1, 1) := by decide +kernel
theorem dX9_step__57 : decode cX9_step_ 57 = .ok (.iadd, 1) := by decide +kernel
theorem dX9_step__58 : decode cX9_step_ 58 = .ok (.imul, 1) := by decide +kernel
theorem dX9_step__59 : decode cX9_step_ 59 = .ok (.iload_n 2, 1) := by decide +kernel
theorem dX9_step__60 : decode cX9_step_ 60 = .ok (.iadd, 1) := by decide +kernel
theorem dX9_step__61 : decode cX9_step_ 61 = .ok (.iaload, 1) := by decide +kernel
theorem dX9_step__62 : decode cX9_step_ 62 = .ok (.goto 8, 3) := by decide +kernel
theorem dX9_step__65 : decode cX9_step_ 65 = .ok (.aload_n 0, 1) := by decide +kernel
theorem dX9_step__66 : decode cX9_step_ 66 = .ok (.iconst 2, 1) := by decide +kernel
theorem dX9_step__67 : decode cX9_step_ 67 = .ok (.invokevirtual 232, 3) := by decide +kernel
theorem dX9_step__70 : decode cX9_step_ 70 = .ok (.ireturn, 1) := by decide +kernel
theorem dX9_isRemade_0 : decode cX9_isRemade 0 = .ok (.aload_n 0, 1) := by decide +kernel
theorem dX9_isRemade_1 : decode cX9_isRemade 1 = .ok (.aload_n 0, 1) := by decide +kernel
theorem dX9_isRemade_2 : decode cX9_isRemade 2 = .ok (.getfield 39, 3) := by decide +kernel
theorem dX9_isRemade_5 : decode cX9_isRemade 5 = .ok (.invokestatic 264, 3) := by decide +kernel
theorem dX9_isRemade_8 : decode cX9_isRemade 8 = .ok (.sipush 1911, 3) := by decide +kernel
theorem dX9_isRemade_11 : decode cX9_isRemade 11 = .ok (.invokevirtual 237, 3) := by decide +kernel
theorem dX9_isRemade_14 : decode cX9_isRemade 14 = .ok (.aload_n 0, 1) := by decide +kernel
theorem dX9_isRemade_15 : decode cX9_isRemade 15 = .ok (.sipush 1911, 3) := by decide +kernel
theorem dX9_isRemade_18 : decode cX9_isRemade 18 = .ok (.putfield 45, 3) := by decide +kernel
theorem dX9_isRemade_21 : decode cX9_isRemade 21 = .ok (.iconst 0, 1) := by decide +kernel
theorem dX9_isRemade_22 : decode cX9_isRemade 22 = .ok (.istore_n 2, 1) := by decide +kernel
theorem dX9_isRemade_23 : decode cX9_isRemade 23 = .ok (.iload_n 2, 1) := by decide +kernel
theorem dX9_isRemade_24 : decode cX9_isRemade 24 = .ok (.aload_n 0, 1) := by decide +kernel
theorem dX9_isRemade_25 : decode cX9_isRemade 25 = .ok (.getfield 24, 3) := by decide +kernel
theorem dX9_isRemade_28 : decode cX9_isRemade 28 = .ok (.aload_n 0, 1) := by decide +kernel
theorem dX9_isRemade_29 : decode cX9_isRemade 29 = .ok (.getfield 39, 3) := by decide +kernel
theorem dX9_isRemade_32 : decode cX9_isRemade 32 = .ok (.iaload, 1) := by decide +kernel
theorem dX9_isRemade_33 : decode cX9_isRemade 33 = .ok (.if_icmp .ge 37, 3) := by decide +kernel
theorem dX9_isRemade_36 : decode cX9_isRemade 36 = .ok (.iload_n 2, 1) := by decide +kernel
theorem dX9_isRemade_37 : decode cX9_isRemade 37 = .ok (.iload_n 1, 1) := by decide +kernel
theorem dX9_isRemade_38 : decode cX9_isRemade 38 = .ok (.if_icmp .ne 6, 3) := by decide +kernel
theorem dX9_isRemade_41 : decode cX9_isRemade 41 = .ok (.goto 23, 3) := by decide +kernel
theorem dX9_isRemade_44 : decode cX9_isRemade 44 = .ok (.aload_n 0, 1) := by decide +kernel
theorem dX9_isRemade_45 : decode cX9_isRemade 45 = .ok (.aload_n 0, 1) := by decide +kernel
theorem dX9_isRemade_46 : decode cX9_isRemade 46 = .ok (.getfield 39, 3) := by decide +kernel
theorem dX9_isRemade_49 : decode cX9_isRemade 49 = .ok (.iload_n 2, 1) := by decide +kernel
theorem dX9_isRemade_50 : decode cX9_isRemade 50 = .ok (.iconst 0, 1) := by decide +kernel
theorem dX9_isRemade_51 : decode cX9_isRemade 51 = .ok (.invokevirtual 276, 3) := by decide +kernel
theorem dX9_isRemade_54 : decode cX9_isRemade 54 = .ok (.istore_n 3, 1) := by decide +kernel
theorem dX9_isRemade_55 : decode cX9_isRemade 55 = .ok (.aload_n 0, 1) := by decide +kernel
theorem dX9_isRemade_56 : decode cX9_isRemade 56 = .ok (.getfield 57, 3) := by decide +kernel
theorem dX9_isRemade_59 : decode cX9_isRemade 59 = .ok (.ifCond .eq 5, 3) := by decide +kernel
theorem dX9_isRemade_62 : decode cX9_isRemade 62 = .ok (.iconst 0, 1) := by decide +kernel
theorem dX9_isRemade_63 : decode cX9_isRemade 63 = .ok (.ireturn, 1) := by decide +kernel
theorem dX9_isRemade_64 : decode cX9_isRemade 64 = .ok (.iinc 2 1, 3) := by decide +kernel
theorem dX9_isRemade_67 : decode cX9_isRemade 67 = .ok (.goto (-44), 3) := by decide +kernel
theorem dX9_isRemade_70 : decode cX9_isRemade 70 = .ok (.aload_n 0, 1) := by decide +kernel
theorem dX9_isRemade_71 : decode cX9_isRemade 71 = .ok (.sipush 1911, 3) := by decide +kernel
theorem dX9_isRemade_74 : decode cX9_isRemade 74 = .ok (.aload_n 0, 1) := by decide +kernel
theorem dX9_isRemade_75 : decode cX9_isRemade 75 = .ok (.getfield 39, 3) := by decide +kernel
theorem dX9_isRemade_78 : decode cX9_isRemade 78 = .ok (.invokestatic 211, 3) := by decide +kernel
theorem dX9_isRemade_81 : decode cX9_isRemade 81 = .ok (.invokevirtual 237, 3) := by decide +kernel
theorem dX9_isRemade_84 : decode cX9_isRemade 84 = .ok (.iconst 5, 1) := by decide +kernel
theorem dX9_isRemade_85 : decode cX9_isRemade 85 = .ok (.bipush 60, 2) := by decide +kernel
theorem dX9_isRemade_87 : decode cX9_isRemade 87 = .ok (.aload_n 0, 1) := by decide +kernel
theorem dX9_isRemade_88 : decode cX9_isRemade 88 = .ok (.getfield 39, 3) := by decide +kernel
theorem dX9_isRemade_91 : decode cX9_isRemade 91 = .ok (.imul, 1) := by decide +kernel
theorem dX9_isRemade_92 : decode cX9_isRemade 92 = .ok (.iload_n 1, 1) := by decide +kernel
theorem dX9_isRemade_93 : decode cX9_isRemade 93 = .ok (.iadd, 1) := by decide +kernel
theorem dX9_isRemade_94 : decode cX9_isRemade 94 = .ok (.imul, 1) := by decide +kernel
theorem dX9_isRemade_95 : decode cX9_isRemade 95 = .ok (.istore_n 2, 1) := by decide +kernel
theorem dX9_isRemade_96 : decode cX9_isRemade 96 = .ok (.iload_n 2, 1) := by decide +kernel
theorem dX9_isRemade_97 : decode cX9_isRemade 97 = .ok (.iconst 5, 1) := by decide +kernel
theorem dX9_isRemade_98 : decode cX9_isRemade 98 = .ok (.iadd, 1) := by decide +kernel
theorem dX9_isRemade_99 : decode cX9_isRemade 99 = .ok (.iconst 5, 1) := by decide +kernel
theorem dX9_isRemade_100 : decode cX9_isRemade 100 = .ok (.bipush 60, 2) := by decide +kernel
theorem dX9_isRemade_102 : decode cX9_isRemade 102 = .ok (.aload_n 0, 1) := by decide +kernel
theorem dX9_isRemade_103 : decode cX9_isRemade 103 = .ok (.getfield 39, 3) := by decide +kernel
theorem dX9_isRemade_106 : decode cX9_isRemade 106 = .ok (.imul, 1) := by decide +kernel
theorem dX9_isRemade_107 : decode cX9_isRemade 107 = .ok (.aload_n 0, 1) := by decide +kernel
theorem dX9_isRemade_108 : decode cX9_isRemade 108 = .ok (.getfield 24, 3) := by decide +kernel
theorem dX9_isRemade_111 : decode cX9_isRemade 111 = .ok (.aload_n 0, 1) := by decide +kernel
theorem dX9_isRemade_112 : decode cX9_isRemade 112 = .ok (.getfield 39, 3) := by decide +kernel
theorem dX9_isRemade_115 : decode cX9_isRemade 115 = .ok (.iaload, 1) := by decide +kernel
theorem dX9_isRemade_116 : decode cX9_isRemade 116 = .ok (.iadd, 1) := by decide +kernel
theorem dX9_isRemade_117 : decode cX9_isRemade 117 = .ok (.imul, 1) := by decide +kernel
theorem dX9_isRemade_118 : decode cX9_isRemade 118 = .ok (.if_icmp .ge 23, 3) := by decide +kernel
theorem dX9_isRemade_121 : decode cX9_isRemade 121 = .ok (.aload_n 0, 1) := by decide +kernel
theorem dX9_isRemade_122 : decode cX9_isRemade 122 = .ok (.getfield 20, 3) := by decide +kernel
theorem dX9_isRemade_125 : decode cX9_isRemade 125 = .ok (.iload_n 2, 1) := by decide +kernel
theorem dX9_isRemade_126 : decode cX9_isRemade 126 = .ok (.aload_n 0, 1) := by decide +kernel
theorem dX9_isRemade_127 : decode cX9_isRemade 127 = .ok (.getfield 20, 3) := by decide +kernel
theorem dX9_isRemade_130 : decode cX9_isRemade 130 = .ok (.iload_n 2, 1) := by decide +kernel
theorem dX9_isRemade_131 : decode cX9_isRemade 131 = .ok (.iconst 5, 1) := by decide +kernel
theorem dX9_isRemade_132 : decode cX9_isRemade 132 = .ok (.iadd, 1) := by decide +kernel
theorem dX9_isRemade_133 : decode cX9_isRemade 133 = .ok (.iaload, 1) := by decide +kernel
theorem dX9_isRemade_134 : decode cX9_isRemade 134 = .ok (.iastore, 1) := by decide +kernel
theorem dX9_isRemade_135 : decode cX9_isRemade 135 = .ok (.iinc 2 1, 3) := by decide +kernel
theorem dX9_isRemade_138 : decode cX9_isRemade 138 = .ok (.goto (-42), 3) := by decide +kernel
theorem dX9_isRemade_141 : decode cX9_isRemade 141 = .ok (.aload_n 0, 1) := by decide +kernel
theorem dX9_isRemade_142 : decode cX9_isRemade 142 = .ok (.getfield 24, 3) := by decide +kernel
theorem dX9_isRemade_145 : decode cX9_isRemade 145 = .ok (.aload_n 0, 1) := by decide +kernel
theorem dX9_isRemade_146 : decode cX9_isRemade 146 = .ok (.getfield 39, 3) := by decide +kernel
theorem dX9_isRemade_149 : decode cX9_isRemade 149 = .ok (.dup2, 1) := by decide +kernel
theorem dX9_isRemade_150 : decode cX9_isRemade 150 = .ok (.iaload, 1) := by decide +kernel
theorem dX9_isRemade_151 : decode cX9_isRemade 151 = .ok (.iconst 1, 1) := by decide +kernel
theorem dX9_isRemade_152 : decode cX9_isRemade 152 = .ok (.isub, 1) := by decide +kernel
theorem dX9_isRemade_153 : decode cX9_isRemade 153 = .ok (.iastore, 1) := by decide +kernel
theorem dX9_isRemade_154 : decode cX9_isRemade 154 = .ok (.iconst 1, 1) := by decide +kernel
theorem dX9_isRemade_155 : decode cX9_isRemade 155 = .ok (.ireturn, 1) := by decide +kernel
theorem dX9_undo_0 : decode cX9_undo 0 = .ok (.aload_n 0, 1) := by decide +kernel
theorem dX9_undo_1 : decode cX9_undo 1 = .ok (.iconst 0, 1) := by decide +kernel
theorem dX9_undo_2 : decode cX9_undo 2 = .ok (.putfield 3, 3) := by decide +kernel
theorem dX9_undo_5 : decode cX9_undo 5 = .ok (.aload_n 0, 1) := by decide +kernel
theorem dX9_undo_6 : decode cX9_undo 6 = .ok (.getfield 24, 3) := by decide +kernel
theorem dX9_undo_9 : decode cX9_undo 9 = .ok (.aload_n 0, 1) := by decide +kernel
theorem dX9_undo_10 : decode cX9_undo 10 = .ok (.getfield 39, 3) := by decide +kernel
theorem dX9_undo_13 : decode cX9_undo 13 = .ok (.iaload, 1) := by decide +kernel
theorem dX9_undo_14 : decode cX9_undo 14 = .ok (.ifCond .ne 9, 3) := by decide +kernel
theorem dX9_undo_17 : decode cX9_undo 17 = .ok (.aload_n 0, 1) := by decide +kernel
theorem dX9_undo_18 : decode cX9_undo 18 = .ok (.iconst 1, 1) := by decide +kernel
theorem dX9_undo_19 : decode cX9_undo 19 = .ok (.invokevirtual 232, 3) := by decide +kernel
theorem dX9_undo_22 : decode cX9_undo 22 = .ok (.ireturn, 1) := by decide +kernel
theorem dX9_undo_23 : decode cX9_undo 23 = .ok (.aload_n 0, 1) := by decide +kernel
theorem dX9_undo_24 : decode cX9_undo 24 = .ok (.aload_n 0, 1) := by decide +kernel
theorem dX9_undo_25 : decode cX9_undo 25 = .ok (.getfield 24, 3) := by decide +kernel
theorem dX9_undo_28 : decode cX9_undo 28 = .ok (.aload_n 0, 1) := by decide +kernel
theorem dX9_undo_29 : decode cX9_undo 29 = .ok (.getfield 39, 3) := by decide +kernel
theorem dX9_undo_32 : decode cX9_undo 32 = .ok (.iaload, 1) := by decide +kernel
theorem dX9_undo_33 : decode cX9_undo 33 = .ok (.iconst 1, 1) := by decide +kernel
theorem dX9_undo_34 : decode cX9_undo 34 = .ok (.isub, 1) := by decide +kernel
theorem dX9_undo_35 : decode cX9_undo 35 = .ok (.invokevirtual 284, 3) := by decide +kernel
theorem dX9_undo_38 : decode cX9_undo 38 = .ok (.istore_n 1, 1) := by decide +kernel
theorem dX9_undo_39 : decode cX9_undo 39 = .ok (.aload_n 0, 1) := by decide +kernel
theorem dX9_undo_40 : decode cX9_undo 40 = .ok (.getfield 24, 3) := by decide +kernel
theorem dX9_undo_43 : decode cX9_undo 43 = .ok (.aload_n 0, 1) := by decide +kernel
theorem dX9_undo_44 : decode cX9_undo 44 = .ok (.getfield 39, 3) := by decide +kernel
theorem dX9_undo_47 : decode cX9_undo 47 = .ok (.iaload, 1) := by decide +kernel
theorem dX9_undo_48 : decode cX9_undo 48 = .ok (.ireturn, 1) := by decide +kernel
theorem dX9_dropStep_0 : decode cX9_dropStep 0 = .ok (.aload_n 0, 1) := by decide +kernel
theorem dX9_dropStep_1 : decode cX9_dropStep 1 = .ok (.iconst 0, 1) := by decide +kernel
theorem dX9_dropStep_2 : decode cX9_dropStep 2 = .ok (.putfield 3, 3) := by decide +kernel
theorem dX9_dropStep_5 : decode cX9_dropStep 5 = .ok (.iload_n 1, 1) := by decide +kernel
theorem dX9_dropStep_6 : decode cX9_dropStep 6 = .ok (.i2l, 1) := by decide +kernel
theorem dX9_dropStep_7 : decode cX9_dropStep 7 = .ok (.lconst 0, 1) := by decide +kernel
theorem dX9_dropStep_8 : decode cX9_dropStep 8 = .ok (.aload_n 0, 1) := by decide +kernel
theorem dX9_dropStep_9 : decode cX9_dropStep 9 = .ok (.getfield 24, 3) := by decide +kernel
theorem dX9_dropStep_12 : decode cX9_dropStep 12 = .ok (.aload_n 0, 1) := by decide +kernel
theorem dX9_dropStep_13 : decode cX9_dropStep 13 = .ok (.getfield 39, 3) := by decide +kernel
theorem dX9_dropStep_16 : decode cX9_dropStep 16 = .ok (.iaload, 1) := by decide +kernel
theorem dX9_dropStep_17 : decode cX9_dropStep 17 = .ok (.iconst 2, 1) := by decide +kernel
theorem dX9_dropStep_18 : decode cX9_dropStep 18 = .ok (.isub, 1) := by decide +kernel
theorem dX9_dropStep_19 : decode cX9_dropStep 19 = .ok (.i2l, 1) := by decide +kernel
theorem dX9_dropStep_20 : decode cX9_dropStep 20 = .ok (.invokestatic 90, 3) := by decide +kernel
theorem dX9_dropStep_23 : decode cX9_dropStep 23 = .ok (.ifCond .ne 9, 3) := by decide +kernel
theorem dX9_dropStep_26 : decode cX9_dropStep 26 = .ok (.aload_n 0, 1) := by decide +kernel
theorem dX9_dropStep_27 : decode cX9_dropStep 27 = .ok (.iconst 1, 1) := by decide +kernel
theorem dX9_dropStep_28 : decode cX9_dropStep 28 = .ok (.invokevirtual 232, 3) := by decide +kernel
theorem dX9_dropStep_31 : decode cX9_dropStep 31 = .ok (.ireturn, 1) := by decide +kernel
theorem dX9_dropStep_32 : decode cX9_dropStep 32 = .ok (.aload_n 0, 1) := by decide +kernel
theorem dX9_dropStep_33 : decode cX9_dropStep 33 = .ok (.iload_n 1, 1) := by decide +kernel
theorem dX9_dropStep_34 : decode cX9_dropStep 34 = .ok (.invokevirtual 284, 3) := by decide +kernel
theorem dX9_dropStep_37 : decode cX9_dropStep 37 = .ok (.ifCond .eq 15, 3) := by decide +kernel
theorem dX9_dropStep_40 : decode cX9_dropStep 40 = .ok (.aload_n 0, 1) := by decide +kernel
theorem dX9_dropStep_41 : decode cX9_dropStep 41 = .ok (.getfield 24, 3) := by decide +kernel
theorem dX9_dropStep_44 : decode cX9_dropStep 44 = .ok (.aload_n 0, 1) := by decide +kernel
theorem dX9_dropStep_45 : decode cX9_dropStep 45 = .ok (.getfield 39, 3) := by decide +kernel
theorem dX9_dropStep_48 : decode cX9_dropStep 48 = .ok (.iaload, 1) := by decide +kernel
theorem dX9_dropStep_49 : decode cX9_dropStep 49 = .ok (.goto 8, 3) := by decide +kernel
theorem dX9_dropStep_52 : decode cX9_dropStep 52 = .ok (.aload_n 0, 1) := by decide +kernel
theorem dX9_dropStep_53 : decode cX9_dropStep 53 = .ok (.iconst 2, 1) := by decide +kernel
theorem dX9_dropStep_54 : decode cX9_dropStep 54 = .ok (.invokevirtual 232, 3) := by decide +kernel
theorem dX9_dropStep_57 : decode cX9_dropStep 57 = .ok (.ireturn, 1) := by decide +kernel
theorem dX9_clearReason_0 : decode cX9_clearReason 0 = .ok (.aload_n 0, 1) := by decide +kernel
theorem dX9_clearReason_1 : decode cX9_clearReason 1 = .ok (.getfield 48, 3) := by decide +kernel
theorem dX9_clearReason_4 : decode cX9_clearReason 4 = .ok (.istore_n 1, 1) := by decide +kernel
theorem dX9_clearReason_5 : decode cX9_clearReason 5 = .ok (.aload_n 0, 1) := by decide +kernel
theorem dX9_clearReason_6 : decode cX9_clearReason 6 = .ok (.iconst 0, 1) := by decide +kernel
theorem dX9_clearReason_7 : decode cX9_clearReason 7 = .ok (.putfield 48, 3) := by decide +kernel
theorem dX9_clearReason_10 : decode cX9_clearReason 10 = .ok (.iload_n 1, 1) := by decide +kernel
theorem dX9_clearReason_11 : decode cX9_clearReason 11 = .ok (.ireturn, 1) := by decide +kernel
theorem dX9_feed_0 : decode cX9_feed 0 = .ok (.aload_n 0, 1) := by decide +kernel
theorem dX9_feed_1 : decode cX9_feed 1 = .ok (.iconst 0, 1) := by decide +kernel
theorem dX9_feed_2 : decode cX9_feed 2 = .ok (.putfield 3, 3) := by decide +kernel
theorem dX9_feed_5 : decode cX9_feed 5 = .ok (.aload_n 0, 1) := by decide +kernel
theorem dX9_feed_6 : decode cX9_feed 6 = .ok (.getfield 74, 3) := by decide +kernel
theorem dX9_feed_9 : decode cX9_feed 9 = .ok (.bipush 60, 2) := by decide +kernel
theorem dX9_feed_11 : decode cX9_feed 11 = .ok (.if_icmp .ne 9, 3) := by decide +kernel
theorem dX9_feed_14 : decode cX9_feed 14 = .ok (.aload_n 0, 1) := by decide +kernel
theorem dX9_feed_15 : decode cX9_feed 15 = .ok (.iconst 1, 1) := by decide +kernel
theorem dX9_feed_16 : decode cX9_feed 16 = .ok (.invokevirtual 232, 3) := by decide +kernel
theorem dX9_feed_19 : decode cX9_feed 19 = .ok (.ireturn, 1) := by decide +kernel
theorem dX9_feed_20 : decode cX9_feed 20 = .ok (.aload_n 0, 1) := by decide +kernel
theorem dX9_feed_21 : decode cX9_feed 21 = .ok (.getfield 71, 3) := by decide +kernel
theorem dX9_feed_24 : decode cX9_feed 24 = .ok (.aload_n 0, 1) := by decide +kernel
theorem dX9_feed_25 : decode cX9_feed 25 = .ok (.getfield 74, 3) := by decide +kernel
theorem dX9_feed_28 : decode cX9_feed 28 = .ok (.iload_n 1, 1) := by decide +kernel
theorem dX9_feed_29 : decode cX9_feed 29 = .ok (.iastore, 1) := by decide +kernel
theorem dX9_feed_30 : decode cX9_feed 30 = .ok (.aload_n 0, 1) := by decide +kernel
theorem dX9_feed_31 : decode cX9_feed 31 = .ok (.dup, 1) := by decide +kernel
theorem dX9_feed_32 : decode cX9_feed 32 = .ok (.getfield 74, 3) := by decide +kernel
theorem dX9_feed_35 : decode cX9_feed 35 = .ok (.iconst 1, 1) := by decide +kernel
theorem dX9_feed_36 : decode cX9_feed 36 = .ok (.iadd, 1) := by decide +kernel
theorem dX9_feed_37 : decode cX9_feed 37 = .ok (.putfield 74, 3) := by decide +kernel
theorem dX9_feed_40 : decode cX9_feed 40 = .ok (.aload_n 0, 1) := by decide +kernel
theorem dX9_feed_41 : decode cX9_feed 41 = .ok (.getfield 74, 3) := by decide +kernel
theorem dX9_feed_44 : decode cX9_feed 44 = .ok (.ireturn, 1) := by decide +kernel
theorem dX9_sign_0 : decode cX9_sign 0 = .ok (.aload_n 0, 1) := by decide +kernel
theorem dX9_sign_1 : decode cX9_sign 1 = .ok (.getfield 80, 3) := by decide +kernel
theorem dX9_sign_4 : decode cX9_sign 4 = .ok (.ifCond .ne 26, 3) := by decide +kernel
theorem dX9_sign_7 : decode cX9_sign 7 = .ok (.aload_n 0, 1) := by decide +kernel
theorem dX9_sign_8 : decode cX9_sign 8 = .ok (.getfield 77, 3) := by decide +kernel
theorem dX9_sign_11 : decode cX9_sign 11 = .ok (.aload_n 0, 1) := by decide +kernel
theorem dX9_sign_12 : decode cX9_sign 12 = .ok (.getfield 74, 3) := by decide +kernel
theorem dX9_sign_15 : decode cX9_sign 15 = .ok (.if_icmp .ge 15, 3) := by decide +kernel
theorem dX9_sign_18 : decode cX9_sign 18 = .ok (.aload_n 0, 1) := by decide +kernel
theorem dX9_sign_19 : decode cX9_sign 19 = .ok (.getfield 71, 3) := by decide +kernel
theorem dX9_sign_22 : decode cX9_sign 22 = .ok (.aload_n 0, 1) := by decide +kernel
theorem dX9_sign_23 : decode cX9_sign 23 = .ok (.getfield 77, 3) := by decide +kernel
theorem dX9_sign_26 : decode cX9_sign 26 = .ok (.iaload, 1) := by decide +kernel
theorem dX9_sign_27 : decode cX9_sign 27 = .ok (.goto 4, 3) := by decide +kernel
theorem dX9_sign_30 : decode cX9_sign 30 = .ok (.iconst (-1), 1) := by decide +kernel
theorem dX9_sign_31 : decode cX9_sign 31 = .ok (.ireturn, 1) := by decide +kernel
theorem dX9_takes_0 : decode cX9_takes 0 = .ok (.aload_n 0, 1) := by decide +kernel
theorem dX9_takes_1 : decode cX9_takes 1 = .ok (.invokevirtual 287, 3) := by decide +kernel
theorem dX9_takes_4 : decode cX9_takes 4 = .ok (.iload_n 1, 1) := by decide +kernel
theorem dX9_takes_5 : decode cX9_takes 5 = .ok (.if_icmp .ne 16, 3) := by decide +kernel
theorem dX9_takes_8 : decode cX9_takes 8 = .ok (.aload_n 0, 1) := by decide +kernel
theorem dX9_takes_9 : decode cX9_takes 9 = .ok (.dup, 1) := by decide +kernel
theorem dX9_takes_10 : decode cX9_takes 10 = .ok (.getfield 77, 3) := by decide +kernel
theorem dX9_takes_13 : decode cX9_takes 13 = .ok (.iconst 1, 1) := by decide +kernel
theorem dX9_takes_14 : decode cX9_takes 14 = .ok (.iadd, 1) := by decide +kernel
theorem dX9_takes_15 : decode cX9_takes 15 = .ok (.putfield 77, 3) := by decide +kernel
theorem dX9_takes_18 : decode cX9_takes 18 = .ok (.goto 8, 3) := by decide +kernel
theorem dX9_takes_21 : decode cX9_takes 21 = .ok (.aload_n 0, 1) := by decide +kernel
theorem dX9_takes_22 : decode cX9_takes 22 = .ok (.iconst 1, 1) := by decide +kernel
theorem dX9_takes_23 : decode cX9_takes 23 = .ok (.putfield 80, 3) := by decide +kernel
theorem dX9_takes_26 : decode cX9_takes 26 = .ok (.return_, 1) := by decide +kernel
theorem dX9_number_0 : decode cX9_number 0 = .ok (.iconst 0, 1) := by decide +kernel
theorem dX9_number_1 : decode cX9_number 1 = .ok (.istore_n 2, 1) := by decide +kernel
theorem dX9_number_2 : decode cX9_number 2 = .ok (.iconst 0, 1) := by decide +kernel
theorem dX9_number_3 : decode cX9_number 3 = .ok (.istore_n 3, 1) := by decide +kernel
theorem dX9_number_4 : decode cX9_number 4 = .ok (.iload_n 3, 1) := by decide +kernel
theorem dX9_number_5 : decode cX9_number 5 = .ok (.iload_n 1, 1) := by decide +kernel
theorem dX9_number_6 : decode cX9_number 6 = .ok (.if_icmp .ge 49, 3) := by decide +kernel
theorem dX9_number_9 : decode cX9_number 9 = .ok (.aload_n 0, 1) := by decide +kernel
theorem dX9_number_10 : decode cX9_number 10 = .ok (.invokevirtual 287, 3) := by decide +kernel
theorem dX9_number_13 : decode cX9_number 13 = .ok (.i2l, 1) := by decide +kernel
theorem dX9_number_14 : decode cX9_number 14 = .ok (.ldc2_w 291, 3) := by decide +kernel
theorem dX9_number_17 : decode cX9_number 17 = .ok (.ldc2_w 293, 3) := by decide +kernel
theorem dX9_number_20 : decode cX9_number 20 = .ok (.invokestatic 90, 3) := by decide +kernel
theorem dX9_number_23 : decode cX9_number 23 = .ok (.ifCond .eq 32, 3) := by decide +kernel
theorem dX9_number_26 : decode cX9_number 26 = .ok (.bipush 10, 2) := by decide +kernel
theorem dX9_number_28 : decode cX9_number 28 = .ok (.iload_n 2, 1) := by decide +kernel
theorem dX9_number_29 : decode cX9_number 29 = .ok (.imul, 1) := by decide +kernel
theorem dX9_number_30 : decode cX9_number 30 = .ok (.aload_n 0, 1) := by decide +kernel
theorem dX9_number_31 : decode cX9_number 31 = .ok (.invokevirtual 287, 3) := by decide +kernel
theorem dX9_number_34 : decode cX9_number 34 = .ok (.iadd, 1) := by decide +kernel
theorem dX9_number_35 : decode cX9_number 35 = .ok (.bipush 48, 2) := by decide +kernel
theorem dX9_number_37 : decode cX9_number 37 = .ok (.isub, 1) := by decide +kernel
theorem dX9_number_38 : decode cX9_number 38 = .ok (.istore_n 2, 1) := by decide +kernel
theorem dX9_number_39 : decode cX9_number 39 = .ok (.aload_n 0, 1) := by decide +kernel
theorem dX9_number_40 : decode cX9_number 40 = .ok (.dup, 1) := by decide +kernel
theorem dX9_number_41 : decode cX9_number 41 = .ok (.getfield 77, 3) := by decide +kernel
theorem dX9_number_44 : decode cX9_number 44 = .ok (.iconst 1, 1) := by decide +kernel
theorem dX9_number_45 : decode cX9_number 45 = .ok (.iadd, 1) := by decide +kernel
theorem dX9_number_46 : decode cX9_number 46 = .ok (.putfield 77, 3) := by decide +kernel
theorem dX9_number_49 : decode cX9_number 49 = .ok (.iinc 3 1, 3) := by decide +kernel
theorem dX9_number_52 : decode cX9_number 52 = .ok (.goto (-48), 3) := by decide +kernel
theorem dX9_number_55 : decode cX9_number 55 = .ok (.aload_n 0, 1) := by decide +kernel
theorem dX9_number_56 : decode cX9_number 56 = .ok (.dup, 1) := by decide +kernel
theorem dX9_number_57 : decode cX9_number 57 = .ok (.getfield 80, 3) := by decide +kernel
theorem dX9_number_60 : decode cX9_number 60 = .ok (.iload_n 3, 1) := by decide +kernel
theorem dX9_number_61 : decode cX9_number 61 = .ok (.ifCond .ne 7, 3) := by decide +kernel
theorem dX9_number_64 : decode cX9_number 64 = .ok (.iconst 1, 1) := by decide +kernel
theorem dX9_number_65 : decode cX9_number 65 = .ok (.goto 4, 3) := by decide +kernel
theorem dX9_number_68 : decode cX9_number 68 = .ok (.iconst 0, 1) := by decide +kernel
theorem dX9_number_69 : decode cX9_number 69 = .ok (.ior, 1) := by decide +kernel
theorem dX9_number_70 : decode cX9_number 70 = .ok (.putfield 80, 3) := by decide +kernel
theorem dX9_number_73 : decode cX9_number 73 = .ok (.iload_n 2, 1) := by decide +kernel
theorem dX9_number_74 : decode cX9_number 74 = .ok (.ireturn, 1) := by decide +kernel
theorem dX9_place_0 : decode cX9_place 0 = .ok (.aload_n 0, 1) := by decide +kernel
theorem dX9_place_1 : decode cX9_place 1 = .ok (.invokevirtual 287, 3) := by decide +kernel
theorem dX9_place_4 : decode cX9_place 4 = .ok (.bipush 112, 2) := by decide +kernel
theorem dX9_place_6 : decode cX9_place 6 = .ok (.if_icmp .eq 9, 3) := by decide +kernel
theorem dX9_place_9 : decode cX9_place 9 = .ok (.aload_n 0, 1) := by decide +kernel
theorem dX9_place_10 : decode cX9_place 10 = .ok (.iconst 1, 1) := by decide +kernel
theorem dX9_place_11 : decode cX9_place 11 = .ok (.invokevirtual 295, 3) := by decide +kernel
theorem dX9_place_14 : decode cX9_place 14 = .ok (.ireturn, 1) := by decide +kernel
theorem dX9_place_15 : decode cX9_place 15 = .ok (.aload_n 0, 1) := by decide +kernel
theorem dX9_place_16 : decode cX9_place 16 = .ok (.dup, 1) := by decide +kernel
theorem dX9_place_17 : decode cX9_place 17 = .ok (.getfield 77, 3) := by decide +kernel
theorem dX9_place_20 : decode cX9_place 20 = .ok (.iconst 1, 1) := by decide +kernel
theorem dX9_place_21 : decode cX9_place 21 = .ok (.iadd, 1) := by decide +kernel
theorem dX9_place_22 : decode cX9_place 22 = .ok (.putfield 77, 3) := by decide +kernel
theorem dX9_place_25 : decode cX9_place 25 = .ok (.iconst (-1), 1) := by decide +kernel
theorem dX9_place_26 : decode cX9_place 26 = .ok (.ireturn, 1) := by decide +kernel
theorem dX9_command_0 : decode cX9_command 0 = .ok (.aload_n 0, 1) := by decide +kernel
theorem dX9_command_1 : decode cX9_command 1 = .ok (.invokevirtual 287, 3) := by decide +kernel
theorem dX9_command_4 : decode cX9_command 4 = .ok (.istore_n 1, 1) := by decide +kernel
theorem dX9_command_5 : decode cX9_command 5 = .ok (.aload_n 0, 1) := by decide +kernel
theorem dX9_command_6 : decode cX9_command 6 = .ok (.dup, 1) := by decide +kernel
theorem dX9_command_7 : decode cX9_command 7 = .ok (.getfield 80, 3) := by decide +kernel
theorem dX9_command_10 : decode cX9_command 10 = .ok (.iload_n 1, 1) := by decide +kernel
theorem dX9_command_11 : decode cX9_command 11 = .ok (.bipush 110, 2) := by decide +kernel
theorem dX9_command_13 : decode cX9_command 13 = .ok (.if_icmp .eq 31, 3) := by decide +kernel
theorem dX9_command_16 : decode cX9_command 16 = .ok (.iload_n 1, 1) := by decide +kernel
theorem dX9_command_17 : decode cX9_command 17 = .ok (.bipush 114, 2) := by decide +kernel
theorem dX9_command_19 : decode cX9_command 19 = .ok (.if_icmp .eq 25, 3) := by decide +kernel
theorem dX9_command_22 : decode cX9_command 22 = .ok (.iload_n 1, 1) := by decide +kernel
theorem dX9_command_23 : decode cX9_command 23 = .ok (.bipush 115, 2) := by decide +kernel
theorem dX9_command_25 : decode cX9_command 25 = .ok (.if_icmp .eq 19, 3) := by decide +kernel
theorem dX9_command_28 : decode cX9_command 28 = .ok (.iload_n 1, 1) := by decide +kernel
theorem dX9_command_29 : decode cX9_command 29 = .ok (.bipush 109, 2) := by decide +kernel
theorem dX9_command_31 : decode cX9_command 31 = .ok (.if_icmp .eq 13, 3) := by decide +kernel
theorem dX9_command_34 : decode cX9_command 34 = .ok (.iload_n 1, 1) := by decide +kernel
theorem dX9_command_35 : decode cX9_command 35 = .ok (.bipush 100, 2) := by decide +kernel
theorem dX9_command_37 : decode cX9_command 37 = .ok (.if_icmp .eq 7, 3) := by decide +kernel
theorem dX9_command_40 : decode cX9_command 40 = .ok (.iconst 1, 1) := by decide +kernel
theorem dX9_command_41 : decode cX9_command 41 = .ok (.goto 4, 3) := by decide +kernel
theorem dX9_command_44 : decode cX9_command 44 = .ok (.iconst 0, 1) := by decide +kernel
theorem dX9_command_45 : decode cX9_command 45 = .ok (.ior, 1) := by decide +kernel
theorem dX9_command_46 : decode cX9_command 46 = .ok (.putfield 80, 3) := by decide +kernel
theorem dX9_command_49 : decode cX9_command 49 = .ok (.aload_n 0, 1) := by decide +kernel
theorem dX9_command_50 : decode cX9_command 50 = .ok (.getfield 80, 3) := by decide +kernel
theorem dX9_command_53 : decode cX9_command 53 = .ok (.ifCond .eq 4, 3) := by decide +kernel
theorem dX9_command_56 : decode cX9_command 56 = .ok (.return_, 1) := by decide +kernel
theorem dX9_command_57 : decode cX9_command 57 = .ok (.aload_n 0, 1) := by decide +kernel
theorem dX9_command_58 : decode cX9_command 58 = .ok (.dup, 1) := by decide +kernel
theorem dX9_command_59 : decode cX9_command 59 = .ok (.getfield 77, 3) := by decide +kernel
theorem dX9_command_62 : decode cX9_command 62 = .ok (.iconst 1, 1) := by decide +kernel
theorem dX9_command_63 : decode cX9_command 63 = .ok (.iadd, 1) := by decide +kernel
theorem dX9_command_64 : decode cX9_command 64 = .ok (.putfield 77, 3) := by decide +kernel
theorem dX9_command_67 : decode cX9_command 67 = .ok (.aload_n 0, 1) := by decide +kernel
theorem dX9_command_68 : decode cX9_command 68 = .ok (.getfield 83, 3) := by decide +kernel
theorem dX9_command_71 : decode cX9_command 71 = .ok (.iconst 0, 1) := by decide +kernel
theorem dX9_command_72 : decode cX9_command 72 = .ok (.iload_n 1, 1) := by decide +kernel
theorem dX9_command_73 : decode cX9_command 73 = .ok (.bipush 110, 2) := by decide +kernel
theorem dX9_command_75 : decode cX9_command 75 = .ok (.if_icmp .ne 7, 3) := by decide +kernel
theorem dX9_command_78 : decode cX9_command 78 = .ok (.iconst 0, 1) := by decide +kernel
theorem dX9_command_79 : decode cX9_command 79 = .ok (.goto 38, 3) := by decide +kernel
theorem dX9_command_82 : decode cX9_command 82 = .ok (.iload_n 1, 1) := by decide +kernel
theorem dX9_command_83 : decode cX9_command 83 = .ok (.bipush 114, 2) := by decide +kernel
theorem dX9_command_85 : decode cX9_command 85 = .ok (.if_icmp .ne 8, 3) := by decide +kernel
theorem dX9_command_88 : decode cX9_command 88 = .ok (.bipush 9, 2) := by decide +kernel
theorem dX9_command_90 : decode cX9_command 90 = .ok (.goto 27, 3) := by decide +kernel
theorem dX9_command_93 : decode cX9_command 93 = .ok (.iload_n 1, 1) := by decide +kernel
theorem dX9_command_94 : decode cX9_command 94 = .ok (.bipush 115, 2) := by decide +kernel
theorem dX9_command_96 : decode cX9_command 96 = .ok (.if_icmp .ne 8, 3) := by decide +kernel
theorem dX9_command_99 : decode cX9_command 99 = .ok (.bipush 10, 2) := by decide +kernel
theorem dX9_command_101 : decode cX9_command 101 = .ok (.goto 16, 3) := by decide +kernel
theorem dX9_command_104 : decode cX9_command 104 = .ok (.iload_n 1, 1) := by decide +kernel
theorem dX9_command_105 : decode cX9_command 105 = .ok (.bipush 109, 2) := by decide +kernel
theorem dX9_command_107 : decode cX9_command 107 = .ok (.if_icmp .ne 8, 3) := by decide +kernel
theorem dX9_command_110 : decode cX9_command 110 = .ok (.bipush 11, 2) := by decide +kernel
theorem dX9_command_112 : decode cX9_command 112 = .ok (.goto 5, 3) := by decide +kernel
theorem dX9_command_115 : decode cX9_command 115 = .ok (.bipush 12, 2) := by decide +kernel
theorem dX9_command_117 : decode cX9_command 117 = .ok (.iastore, 1) := by decide +kernel
theorem dX9_command_118 : decode cX9_command 118 = .ok (.aload_n 0, 1) := by decide +kernel
theorem dX9_command_119 : decode cX9_command 119 = .ok (.getfield 83, 3) := by decide +kernel
theorem dX9_command_122 : decode cX9_command 122 = .ok (.iconst 1, 1) := by decide +kernel
theorem dX9_command_123 : decode cX9_command 123 = .ok (.iload_n 1, 1) := by decide +kernel
theorem dX9_command_124 : decode cX9_command 124 = .ok (.bipush 110, 2) := by decide +kernel
theorem dX9_command_126 : decode cX9_command 126 = .ok (.if_icmp .ne 7, 3) := by decide +kernel
theorem dX9_command_129 : decode cX9_command 129 = .ok (.iconst (-1), 1) := by decide +kernel
theorem dX9_command_130 : decode cX9_command 130 = .ok (.goto 42, 3) := by decide +kernel
theorem dX9_command_133 : decode cX9_command 133 = .ok (.iload_n 1, 1) := by decide +kernel
theorem dX9_command_134 : decode cX9_command 134 = .ok (.bipush 115, 2) := by decide +kernel
theorem dX9_command_136 : decode cX9_command 136 = .ok (.if_icmp .eq 9, 3) := by decide +kernel
theorem dX9_command_139 : decode cX9_command 139 = .ok (.iload_n 1, 1) := by decide +kernel
theorem dX9_command_140 : decode cX9_command 140 = .ok (.bipush 109, 2) := by decide +kernel
theorem dX9_command_142 : decode cX9_command 142 = .ok (.if_icmp .ne 24, 3) := by decide +kernel
theorem dX9_command_145 : decode cX9_command 145 = .ok (.iload_n 1, 1) := by decide +kernel
theorem dX9_command_146 : decode cX9_command 146 = .ok (.bipush 115, 2) := by decide +kernel
theorem dX9_command_148 : decode cX9_command 148 = .ok (.if_icmp .ne 11, 3) := by decide +kernel
theorem dX9_command_151 : decode cX9_command 151 = .ok (.aload_n 0, 1) := by decide +kernel
theorem dX9_command_152 : decode cX9_command 152 = .ok (.iconst 1, 1) := by decide +kernel
theorem dX9_command_153 : decode cX9_command 153 = .ok (.invokevirtual 295, 3) := by decide +kernel
theorem dX9_command_156 : decode cX9_command 156 = .ok (.goto 16, 3) := by decide +kernel
theorem dX9_command_159 : decode cX9_command 159 = .ok (.aload_n 0, 1) := by decide +kernel
theorem dX9_command_160 : decode cX9_command 160 = .ok (.invokevirtual 298, 3) := by decide +kernel
theorem dX9_command_163 : decode cX9_command 163 = .ok (.goto 9, 3) := by decide +kernel
theorem dX9_command_166 : decode cX9_command 166 = .ok (.aload_n 0, 1) := by decide +kernel
theorem dX9_command_167 : decode cX9_command 167 = .ok (.bipush 7, 2) := by decide +kernel
theorem dX9_command_169 : decode cX9_command 169 = .ok (.invokevirtual 295, 3) := by decide +kernel
theorem dX9_command_172 : decode cX9_command 172 = .ok (.iastore, 1) := by decide +kernel
theorem dX9_command_173 : decode cX9_command 173 = .ok (.aload_n 0, 1) := by decide +kernel
theorem dX9_command_174 : decode cX9_command 174 = .ok (.getfield 83, 3) := by decide +kernel
theorem dX9_command_177 : decode cX9_command 177 = .ok (.iconst 2, 1) := by decide +kernel
theorem dX9_command_178 : decode cX9_command 178 = .ok (.iconst 0, 1) := by decide +kernel
theorem dX9_command_179 : decode cX9_command 179 = .ok (.iastore, 1) := by decide +kernel
theorem dX9_command_180 : decode cX9_command 180 = .ok (.aload_n 0, 1) := by decide +kernel
theorem dX9_command_181 : decode cX9_command 181 = .ok (.getfield 83, 3) := by decide +kernel
theorem dX9_command_184 : decode cX9_command 184 = .ok (.iconst 3, 1) := by decide +kernel
theorem dX9_command_185 : decode cX9_command 185 = .ok (.iconst 0, 1) := by decide +kernel
theorem dX9_command_186 : decode cX9_command 186 = .ok (.iastore, 1) := by decide +kernel
theorem dX9_command_187 : decode cX9_command 187 = .ok (.iload_n 1, 1) := by decide +kernel
theorem dX9_command_188 : decode cX9_command 188 = .ok (.bipush 109, 2) := by decide +kernel
theorem dX9_command_190 : decode cX9_command 190 = .ok (.if_icmp .ne 30, 3) := by decide +kernel
theorem dX9_command_193 : decode cX9_command 193 = .ok (.aload_n 0, 1) := by decide +kernel
theorem dX9_command_194 : decode cX9_command 194 = .ok (.bipush 62, 2) := by decide +kernel
theorem dX9_command_196 : decode cX9_command 196 = .ok (.invokevirtual 301, 3) := by decide +kernel
theorem dX9_command_199 : decode cX9_command 199 = .ok (.aload_n 0, 1) := by decide +kernel
theorem dX9_command_200 : decode cX9_command 200 = .ok (.getfield 83, 3) := by decide +kernel
theorem dX9_command_203 : decode cX9_command 203 = .ok (.iconst 2, 1) := by decide +kernel
theorem dX9_command_204 : decode cX9_command 204 = .ok (.aload_n 0, 1) := by decide +kernel
theorem dX9_command_205 : decode cX9_command 205 = .ok (.getfield 80, 3) := by decide +kernel
theorem dX9_command_208 : decode cX9_command 208 = .ok (.ifCond .eq 7, 3) := by decide +kernel
theorem dX9_command_211 : decode cX9_command 211 = .ok (.iconst 0, 1) := by decide +kernel
theorem dX9_command_212 : decode cX9_command 212 = .ok (.goto 7, 3) := by decide +kernel
theorem dX9_command_215 : decode cX9_command 215 = .ok (.aload_n 0, 1) := by decide +kernel
theorem dX9_command_216 : decode cX9_command 216 = .ok (.invokevirtual 298, 3) := by decide +kernel
theorem dX9_command_219 : decode cX9_command 219 = .ok (.iastore, 1) := by decide +kernel
theorem dX9_command_220 : decode cX9_command 220 = .ok (.iload_n 1, 1) := by decide +kernel
theorem dX9_command_221 : decode cX9_command 221 = .ok (.bipush 115, 2) := by decide +kernel
theorem dX9_command_223 : decode cX9_command 223 = .ok (.if_icmp .eq 10, 3) := by decide +kernel
theorem dX9_command_226 : decode cX9_command 226 = .ok (.iload_n 1, 1) := by decide +kernel
theorem dX9_command_227 : decode cX9_command 227 = .ok (.bipush 109, 2) := by decide +kernel
theorem dX9_command_229 : decode cX9_command 229 = .ok (.if_icmp .eq 4, 3) := by decide +kernel
theorem dX9_command_232 : decode cX9_command 232 = .ok (.return_, 1) := by decide +kernel
theorem dX9_command_233 : decode cX9_command 233 = .ok (.aload_n 0, 1) := by decide +kernel
theorem dX9_command_234 : decode cX9_command 234 = .ok (.bipush 58, 2) := by decide +kernel
theorem dX9_command_236 : decode cX9_command 236 = .ok (.invokevirtual 301, 3) := by decide +kernel
theorem dX9_command_239 : decode cX9_command 239 = .ok (.aload_n 0, 1) := by decide +kernel
theorem dX9_command_240 : decode cX9_command 240 = .ok (.getfield 83, 3) := by decide +kernel
theorem dX9_command_243 : decode cX9_command 243 = .ok (.iload_n 1, 1) := by decide +kernel
theorem dX9_command_244 : decode cX9_command 244 = .ok (.bipush 115, 2) := by decide +kernel
theorem dX9_command_246 : decode cX9_command 246 = .ok (.if_icmp .ne 7, 3) := by decide +kernel
theorem dX9_command_249 : decode cX9_command 249 = .ok (.iconst 2, 1) := by decide +kernel
theorem dX9_command_250 : decode cX9_command 250 = .ok (.goto 4, 3) := by decide +kernel
theorem dX9_command_253 : decode cX9_command 253 = .ok (.iconst 3, 1) := by decide +kernel
theorem dX9_command_254 : decode cX9_command 254 = .ok (.aload_n 0, 1) := by decide +kernel
theorem dX9_command_255 : decode cX9_command 255 = .ok (.getfield 80, 3) := by decide +kernel
theorem dX9_command_258 : decode cX9_command 258 = .ok (.ifCond .eq 7, 3) := by decide +kernel
theorem dX9_command_261 : decode cX9_command 261 = .ok (.iconst 0, 1) := by decide +kernel
theorem dX9_command_262 : decode cX9_command 262 = .ok (.goto 9, 3) := by decide +kernel
theorem dX9_command_265 : decode cX9_command 265 = .ok (.aload_n 0, 1) := by decide +kernel
theorem dX9_command_266 : decode cX9_command 266 = .ok (.bipush 7, 2) := by decide +kernel
theorem dX9_command_268 : decode cX9_command 268 = .ok (.invokevirtual 295, 3) := by decide +kernel
theorem dX9_command_271 : decode cX9_command 271 = .ok (.iastore, 1) := by decide +kernel
theorem dX9_command_272 : decode cX9_command 272 = .ok (.return_, 1) := by decide +kernel
theorem dX9_isFaulty_0 : decode cX9_isFaulty 0 = .ok (.aload_n 0, 1) := by decide +kernel
theorem dX9_isFaulty_1 : decode cX9_isFaulty 1 = .ok (.iconst 0, 1) := by decide +kernel
theorem dX9_isFaulty_2 : decode cX9_isFaulty 2 = .ok (.putfield 77, 3) := by decide +kernel
theorem dX9_isFaulty_5 : decode cX9_isFaulty 5 = .ok (.aload_n 0, 1) := by decide +kernel
theorem dX9_isFaulty_6 : decode cX9_isFaulty 6 = .ok (.iconst 0, 1) := by decide +kernel
theorem dX9_isFaulty_7 : decode cX9_isFaulty 7 = .ok (.putfield 80, 3) := by decide +kernel
theorem dX9_isFaulty_10 : decode cX9_isFaulty 10 = .ok (.aload_n 0, 1) := by decide +kernel
theorem dX9_isFaulty_11 : decode cX9_isFaulty 11 = .ok (.invokevirtual 304, 3) := by decide +kernel
theorem dX9_isFaulty_14 : decode cX9_isFaulty 14 = .ok (.aload_n 0, 1) := by decide +kernel
theorem dX9_isFaulty_15 : decode cX9_isFaulty 15 = .ok (.invokevirtual 287, 3) := by decide +kernel
theorem dX9_isFaulty_18 : decode cX9_isFaulty 18 = .ok (.bipush 59, 2) := by decide +kernel
theorem dX9_isFaulty_20 : decode cX9_isFaulty 20 = .ok (.if_icmp .ne 20, 3) := by decide +kernel
theorem dX9_isFaulty_23 : decode cX9_isFaulty 23 = .ok (.aload_n 0, 1) := by decide +kernel
theorem dX9_isFaulty_24 : decode cX9_isFaulty 24 = .ok (.dup, 1) := by decide +kernel
theorem dX9_isFaulty_25 : decode cX9_isFaulty 25 = .ok (.getfield 77, 3) := by decide +kernel
theorem dX9_isFaulty_28 : decode cX9_isFaulty 28 = .ok (.iconst 1, 1) := by decide +kernel
theorem dX9_isFaulty_29 : decode cX9_isFaulty 29 = .ok (.iadd, 1) := by decide +kernel
theorem dX9_isFaulty_30 : decode cX9_isFaulty 30 = .ok (.putfield 77, 3) := by decide +kernel
theorem dX9_isFaulty_33 : decode cX9_isFaulty 33 = .ok (.aload_n 0, 1) := by decide +kernel
theorem dX9_isFaulty_34 : decode cX9_isFaulty 34 = .ok (.invokevirtual 304, 3) := by decide +kernel
theorem dX9_isFaulty_37 : decode cX9_isFaulty 37 = .ok (.goto (-23), 3) := by decide +kernel
theorem dX9_isFaulty_40 : decode cX9_isFaulty 40 = .ok (.aload_n 0, 1) := by decide +kernel
theorem dX9_isFaulty_41 : decode cX9_isFaulty 41 = .ok (.getfield 80, 3) := by decide +kernel
theorem dX9_isFaulty_44 : decode cX9_isFaulty 44 = .ok (.ifCond .ne 14, 3) := by decide +kernel
theorem dX9_isFaulty_47 : decode cX9_isFaulty 47 = .ok (.aload_n 0, 1) := by decide +kernel
theorem dX9_isFaulty_48 : decode cX9_isFaulty 48 = .ok (.getfield 77, 3) := by decide +kernel
theorem dX9_isFaulty_51 : decode cX9_isFaulty 51 = .ok (.aload_n 0, 1) := by decide +kernel
theorem dX9_isFaulty_52 : decode cX9_isFaulty 52 = .ok (.getfield 74, 3) := by decide +kernel
theorem dX9_isFaulty_55 : decode cX9_isFaulty 55 = .ok (.if_icmp .ge 7, 3) := by decide +kernel
theorem dX9_isFaulty_58 : decode cX9_isFaulty 58 = .ok (.iconst 1, 1) := by decide +kernel
theorem dX9_isFaulty_59 : decode cX9_isFaulty 59 = .ok (.goto 4, 3) := by decide +kernel
theorem dX9_isFaulty_62 : decode cX9_isFaulty 62 = .ok (.iconst 0, 1) := by decide +kernel
theorem dX9_isFaulty_63 : decode cX9_isFaulty 63 = .ok (.ireturn, 1) := by decide +kernel
theorem dX9_readPlan_0 : decode cX9_readPlan 0 = .ok (.aload_n 0, 1) := by decide +kernel
theorem dX9_readPlan_1 : decode cX9_readPlan 1 = .ok (.invokevirtual 306, 3) := by decide +kernel
theorem dX9_readPlan_4 : decode cX9_readPlan 4 = .ok (.ifCond .eq 16, 3) := by decide +kernel
theorem dX9_readPlan_7 : decode cX9_readPlan 7 = .ok (.aload_n 0, 1) := by decide +kernel
theorem dX9_readPlan_8 : decode cX9_readPlan 8 = .ok (.iconst 0, 1) := by decide +kernel
theorem dX9_readPlan_9 : decode cX9_readPlan 9 = .ok (.putfield 74, 3) := by decide +kernel
theorem dX9_readPlan_12 : decode cX9_readPlan 12 = .ok (.bipush (-100), 2) := by decide +kernel
theorem dX9_readPlan_14 : decode cX9_readPlan 14 = .ok (.aload_n 0, 1) := by decide +kernel
theorem dX9_readPlan_15 : decode cX9_readPlan 15 = .ok (.getfield 77, 3) := by decide +kernel
theorem dX9_readPlan_18 : decode cX9_readPlan 18 = .ok (.isub, 1) := by decide +kernel
theorem dX9_readPlan_19 : decode cX9_readPlan 19 = .ok (.ireturn, 1) := by decide +kernel
theorem dX9_readPlan_20 : decode cX9_readPlan 20 = .ok (.aload_n 0, 1) := by decide +kernel
theorem dX9_readPlan_21 : decode cX9_readPlan 21 = .ok (.iconst 0, 1) := by decide +kernel
theorem dX9_readPlan_22 : decode cX9_readPlan 22 = .ok (.putfield 77, 3) := by decide +kernel
theorem dX9_readPlan_25 : decode cX9_readPlan 25 = .ok (.iconst 0, 1) := by decide +kernel
theorem dX9_readPlan_26 : decode cX9_readPlan 26 = .ok (.istore_n 1, 1) := by decide +kernel
theorem dX9_readPlan_27 : decode cX9_readPlan 27 = .ok (.aload_n 0, 1) := by decide +kernel
theorem dX9_readPlan_28 : decode cX9_readPlan 28 = .ok (.iconst 0, 1) := by decide +kernel
theorem dX9_readPlan_29 : decode cX9_readPlan 29 = .ok (.putfield 57, 3) := by decide +kernel
theorem dX9_readPlan_32 : decode cX9_readPlan 32 = .ok (.aload_n 0, 1) := by decide +kernel
theorem dX9_readPlan_33 : decode cX9_readPlan 33 = .ok (.getfield 77, 3) := by decide +kernel
theorem dX9_readPlan_36 : decode cX9_readPlan 36 = .ok (.aload_n 0, 1) := by decide +kernel
theorem dX9_readPlan_37 : decode cX9_readPlan 37 = .ok (.getfield 74, 3) := by decide +kernel
theorem dX9_readPlan_40 : decode cX9_readPlan 40 = .ok (.if_icmp .ge 76, 3) := by decide +kernel
theorem dX9_readPlan_43 : decode cX9_readPlan 43 = .ok (.aload_n 0, 1) := by decide +kernel
theorem dX9_readPlan_44 : decode cX9_readPlan 44 = .ok (.getfield 57, 3) := by decide +kernel
theorem dX9_readPlan_47 : decode cX9_readPlan 47 = .ok (.ifCond .ne 69, 3) := by decide +kernel
theorem dX9_readPlan_50 : decode cX9_readPlan 50 = .ok (.iload_n 1, 1) := by decide +kernel
theorem dX9_readPlan_51 : decode cX9_readPlan 51 = .ok (.ifCond .le 13, 3) := by decide +kernel
theorem dX9_readPlan_54 : decode cX9_readPlan 54 = .ok (.aload_n 0, 1) := by decide +kernel
theorem dX9_readPlan_55 : decode cX9_readPlan 55 = .ok (.dup, 1) := by decide +kernel
theorem dX9_readPlan_56 : decode cX9_readPlan 56 = .ok (.getfield 77, 3) := by decide +kernel
theorem dX9_readPlan_59 : decode cX9_readPlan 59 = .ok (.iconst 1, 1) := by decide +kernel
theorem dX9_readPlan_60 : decode cX9_readPlan 60 = .ok (.iadd, 1) := by decide +kernel
theorem dX9_readPlan_61 : decode cX9_readPlan 61 = .ok (.putfield 77, 3) := by decide +kernel
theorem dX9_readPlan_64 : decode cX9_readPlan 64 = .ok (.aload_n 0, 1) := by decide +kernel
theorem dX9_readPlan_65 : decode cX9_readPlan 65 = .ok (.invokevirtual 304, 3) := by decide +kernel
theorem dX9_readPlan_68 : decode cX9_readPlan 68 = .ok (.aload_n 0, 1) := by decide +kernel
theorem dX9_readPlan_69 : decode cX9_readPlan 69 = .ok (.aload_n 0, 1) := by decide +kernel
theorem dX9_readPlan_70 : decode cX9_readPlan 70 = .ok (.getfield 83, 3) := by decide +kernel
theorem dX9_readPlan_73 : decode cX9_readPlan 73 = .ok (.iconst 0, 1) := by decide +kernel
theorem dX9_readPlan_74 : decode cX9_readPlan 74 = .ok (.iaload, 1) := by decide +kernel
theorem dX9_readPlan_75 : decode cX9_readPlan 75 = .ok (.aload_n 0, 1) := by decide +kernel
theorem dX9_readPlan_76 : decode cX9_readPlan 76 = .ok (.getfield 83, 3) := by decide +kernel
theorem dX9_readPlan_79 : decode cX9_readPlan 79 = .ok (.iconst 1, 1) := by decide +kernel
theorem dX9_readPlan_80 : decode cX9_readPlan 80 = .ok (.iaload, 1) := by decide +kernel
theorem dX9_readPlan_81 : decode cX9_readPlan 81 = .ok (.aload_n 0, 1) := by decide +kernel
theorem dX9_readPlan_82 : decode cX9_readPlan 82 = .ok (.getfield 83, 3) := by decide +kernel
theorem dX9_readPlan_85 : decode cX9_readPlan 85 = .ok (.iconst 2, 1) := by decide +kernel
theorem dX9_readPlan_86 : decode cX9_readPlan 86 = .ok (.iaload, 1) := by decide +kernel
theorem dX9_readPlan_87 : decode cX9_readPlan 87 = .ok (.aload_n 0, 1) := by decide +kernel
theorem dX9_readPlan_88 : decode cX9_readPlan 88 = .ok (.getfield 83, 3) := by decide +kernel
theorem dX9_readPlan_91 : decode cX9_readPlan 91 = .ok (.iconst 3, 1) := by decide +kernel
theorem dX9_readPlan_92 : decode cX9_readPlan 92 = .ok (.iaload, 1) := by decide +kernel
theorem dX9_readPlan_93 : decode cX9_readPlan 93 = .ok (.iconst 0, 1) := by decide +kernel
theorem dX9_readPlan_94 : decode cX9_readPlan 94 = .ok (.invokevirtual 222, 3) := by decide +kernel
theorem dX9_readPlan_97 : decode cX9_readPlan 97 = .ok (.istore_n 2, 1) := by decide +kernel
theorem dX9_readPlan_98 : decode cX9_readPlan 98 = .ok (.iload_n 1, 1) := by decide +kernel
theorem dX9_readPlan_99 : decode cX9_readPlan 99 = .ok (.aload_n 0, 1) := by decide +kernel
theorem dX9_readPlan_100 : decode cX9_readPlan 100 = .ok (.getfield 57, 3) := by decide +kernel
theorem dX9_readPlan_103 : decode cX9_readPlan 103 = .ok (.ifCond .ne 7, 3) := by decide +kernel
theorem dX9_readPlan_106 : decode cX9_readPlan 106 = .ok (.iconst 1, 1) := by decide +kernel
theorem dX9_readPlan_107 : decode cX9_readPlan 107 = .ok (.goto 4, 3) := by decide +kernel
theorem dX9_readPlan_110 : decode cX9_readPlan 110 = .ok (.iconst 0, 1) := by decide +kernel
theorem dX9_readPlan_111 : decode cX9_readPlan 111 = .ok (.iadd, 1) := by decide +kernel
theorem dX9_readPlan_112 : decode cX9_readPlan 112 = .ok (.istore_n 1, 1) := by decide +kernel
theorem dX9_readPlan_113 : decode cX9_readPlan 113 = .ok (.goto (-81), 3) := by decide +kernel
theorem dX9_readPlan_116 : decode cX9_readPlan 116 = .ok (.aload_n 0, 1) := by decide +kernel
theorem dX9_readPlan_117 : decode cX9_readPlan 117 = .ok (.iconst 0, 1) := by decide +kernel
theorem dX9_readPlan_118 : decode cX9_readPlan 118 = .ok (.putfield 74, 3) := by decide +kernel
theorem dX9_readPlan_121 : decode cX9_readPlan 121 = .ok (.iload_n 1, 1) := by decide +kernel
theorem dX9_readPlan_122 : decode cX9_readPlan 122 = .ok (.ireturn, 1) := by decide +kernel
theorem dX9_copiesAll_0 : decode cX9_copiesAll 0 = .ok (.iconst 0, 1) := by decide +kernel
theorem dX9_copiesAll_1 : decode cX9_copiesAll 1 = .ok (.istore_n 2, 1) := by decide +kernel
theorem dX9_copiesAll_2 : decode cX9_copiesAll 2 = .ok (.iload_n 2, 1) := by decide +kernel
theorem dX9_copiesAll_3 : decode cX9_copiesAll 3 = .ok (.aload_n 0, 1) := by decide +kernel
theorem dX9_copiesAll_4 : decode cX9_copiesAll 4 = .ok (.arraylength, 1) := by decide +kernel
theorem dX9_copiesAll_5 : decode cX9_copiesAll 5 = .ok (.if_icmp .ge 15, 3) := by decide +kernel
theorem dX9_copiesAll_8 : decode cX9_copiesAll 8 = .ok (.aload_n 1, 1) := by decide +kernel
theorem dX9_copiesAll_9 : decode cX9_copiesAll 9 = .ok (.iload_n 2, 1) := by decide +kernel
theorem dX9_copiesAll_10 : decode cX9_copiesAll 10 = .ok (.aload_n 0, 1) := by decide +kernel
theorem dX9_copiesAll_11 : decode cX9_copiesAll 11 = .ok (.iload_n 2, 1) := by decide +kernel
theorem dX9_copiesAll_12 : decode cX9_copiesAll 12 = .ok (.laload, 1) := by decide +kernel
theorem dX9_copiesAll_13 : decode cX9_copiesAll 13 = .ok (.lastore, 1) := by decide +kernel
theorem dX9_copiesAll_14 : decode cX9_copiesAll 14 = .ok (.iinc 2 1, 3) := by decide +kernel
theorem dX9_copiesAll_17 : decode cX9_copiesAll 17 = .ok (.goto (-15), 3) := by decide +kernel
theorem dX9_copiesAll_20 : decode cX9_copiesAll 20 = .ok (.return_, 1) := by decide +kernel
theorem dX9_copiesAll__0 : decode cX9_copiesAll_ 0 = .ok (.iconst 0, 1) := by decide +kernel
theorem dX9_copiesAll__1 : decode cX9_copiesAll_ 1 = .ok (.istore_n 2, 1) := by decide +kernel
theorem dX9_copiesAll__2 : decode cX9_copiesAll_ 2 = .ok (.iload_n 2, 1) := by decide +kernel
theorem dX9_copiesAll__3 : decode cX9_copiesAll_ 3 = .ok (.aload_n 0, 1) := by decide +kernel
theorem dX9_copiesAll__4 : decode cX9_copiesAll_ 4 = .ok (.arraylength, 1) := by decide +kernel
theorem dX9_copiesAll__5 : decode cX9_copiesAll_ 5 = .ok (.if_icmp .ge 15, 3) := by decide +kernel
theorem dX9_copiesAll__8 : decode cX9_copiesAll_ 8 = .ok (.aload_n 1, 1) := by decide +kernel
theorem dX9_copiesAll__9 : decode cX9_copiesAll_ 9 = .ok (.iload_n 2, 1) := by decide +kernel
theorem dX9_copiesAll__10 : decode cX9_copiesAll_ 10 = .ok (.aload_n 0, 1) := by decide +kernel
theorem dX9_copiesAll__11 : decode cX9_copiesAll_ 11 = .ok (.iload_n 2, 1) := by decide +kernel
theorem dX9_copiesAll__12 : decode cX9_copiesAll_ 12 = .ok (.iaload, 1) := by decide +kernel
theorem dX9_copiesAll__13 : decode cX9_copiesAll_ 13 = .ok (.iastore, 1) := by decide +kernel
theorem dX9_copiesAll__14 : decode cX9_copiesAll_ 14 = .ok (.iinc 2 1, 3) := by decide +kernel
theorem dX9_copiesAll__17 : decode cX9_copiesAll_ 17 = .ok (.goto (-15), 3) := by decide +kernel
theorem dX9_copiesAll__20 : decode cX9_copiesAll_ 20 = .ok (.return_, 1) := by decide +kernel
theorem dX9_save_0 : decode cX9_save 0 = .ok (.aload_n 0, 1) := by decide +kernel
theorem dX9_save_1 : decode cX9_save 1 = .ok (.getfield 13, 3) := by decide +kernel
theorem dX9_save_4 : decode cX9_save 4 = .ok (.aload_n 0, 1) := by decide +kernel
theorem dX9_save_5 : decode cX9_save 5 = .ok (.getfield 17, 3) := by decide +kernel
theorem dX9_save_8 : decode cX9_save 8 = .ok (.invokestatic 310, 3) := by decide +kernel
theorem dX9_save_11 : decode cX9_save 11 = .ok (.aload_n 0, 1) := by decide +kernel
theorem dX9_save_12 : decode cX9_save 12 = .ok (.getfield 20, 3) := by decide +kernel
theorem dX9_save_15 : decode cX9_save 15 = .ok (.aload_n 0, 1) := by decide +kernel
theorem dX9_save_16 : decode cX9_save 16 = .ok (.getfield 30, 3) := by decide +kernel
theorem dX9_save_19 : decode cX9_save 19 = .ok (.invokestatic 314, 3) := by decide +kernel
theorem dX9_save_22 : decode cX9_save 22 = .ok (.aload_n 0, 1) := by decide +kernel
theorem dX9_save_23 : decode cX9_save 23 = .ok (.getfield 24, 3) := by decide +kernel
theorem dX9_save_26 : decode cX9_save 26 = .ok (.aload_n 0, 1) := by decide +kernel
theorem dX9_save_27 : decode cX9_save 27 = .ok (.getfield 33, 3) := by decide +kernel
theorem dX9_save_30 : decode cX9_save 30 = .ok (.invokestatic 314, 3) := by decide +kernel
theorem dX9_save_33 : decode cX9_save 33 = .ok (.aload_n 0, 1) := by decide +kernel
theorem dX9_save_34 : decode cX9_save 34 = .ok (.getfield 27, 3) := by decide +kernel
theorem dX9_save_37 : decode cX9_save 37 = .ok (.aload_n 0, 1) := by decide +kernel
theorem dX9_save_38 : decode cX9_save 38 = .ok (.getfield 36, 3) := by decide +kernel
theorem dX9_save_41 : decode cX9_save 41 = .ok (.invokestatic 314, 3) := by decide +kernel
theorem dX9_save_44 : decode cX9_save 44 = .ok (.aload_n 0, 1) := by decide +kernel
theorem dX9_save_45 : decode cX9_save 45 = .ok (.aload_n 0, 1) := by decide +kernel
theorem dX9_save_46 : decode cX9_save 46 = .ok (.getfield 39, 3) := by decide +kernel
theorem dX9_save_49 : decode cX9_save 49 = .ok (.putfield 42, 3) := by decide +kernel
theorem dX9_save_52 : decode cX9_save 52 = .ok (.aload_n 0, 1) := by decide +kernel
theorem dX9_save_53 : decode cX9_save 53 = .ok (.iconst 1, 1) := by decide +kernel
theorem dX9_save_54 : decode cX9_save 54 = .ok (.putfield 60, 3) := by decide +kernel
theorem dX9_save_57 : decode cX9_save 57 = .ok (.aload_n 0, 1) := by decide +kernel
theorem dX9_save_58 : decode cX9_save 58 = .ok (.invokevirtual 317, 3) := by decide +kernel
theorem dX9_save_61 : decode cX9_save 61 = .ok (.ireturn, 1) := by decide +kernel
theorem dX9_restore_0 : decode cX9_restore 0 = .ok (.aload_n 0, 1) := by decide +kernel
theorem dX9_restore_1 : decode cX9_restore 1 = .ok (.iconst 0, 1) := by decide +kernel
theorem dX9_restore_2 : decode cX9_restore 2 = .ok (.putfield 3, 3) := by decide +kernel
theorem dX9_restore_5 : decode cX9_restore 5 = .ok (.aload_n 0, 1) := by decide +kernel
theorem dX9_restore_6 : decode cX9_restore 6 = .ok (.getfield 60, 3) := by decide +kernel
theorem dX9_restore_9 : decode cX9_restore 9 = .ok (.ifCond .ne 9, 3) := by decide +kernel
theorem dX9_restore_12 : decode cX9_restore 12 = .ok (.aload_n 0, 1) := by decide +kernel
theorem dX9_restore_13 : decode cX9_restore 13 = .ok (.iconst 1, 1) := by decide +kernel
theorem dX9_restore_14 : decode cX9_restore 14 = .ok (.invokevirtual 232, 3) := by decide +kernel
theorem dX9_restore_17 : decode cX9_restore 17 = .ok (.ireturn, 1) := by decide +kernel
theorem dX9_restore_18 : decode cX9_restore 18 = .ok (.aload_n 0, 1) := by decide +kernel
theorem dX9_restore_19 : decode cX9_restore 19 = .ok (.getfield 17, 3) := by decide +kernel
theorem dX9_restore_22 : decode cX9_restore 22 = .ok (.aload_n 0, 1) := by decide +kernel
theorem dX9_restore_23 : decode cX9_restore 23 = .ok (.getfield 13, 3) := by decide +kernel
theorem dX9_restore_26 : decode cX9_restore 26 = .ok (.invokestatic 310, 3) := by decide +kernel
theorem dX9_restore_29 : decode cX9_restore 29 = .ok (.aload_n 0, 1) := by decide +kernel
theorem dX9_restore_30 : decode cX9_restore 30 = .ok (.getfield 30, 3) := by decide +kernel
theorem dX9_restore_33 : decode cX9_restore 33 = .ok (.aload_n 0, 1) := by decide +kernel
theorem dX9_restore_34 : decode cX9_restore 34 = .ok (.getfield 20, 3) := by decide +kernel
theorem dX9_restore_37 : decode cX9_restore 37 = .ok (.invokestatic 314, 3) := by decide +kernel
theorem dX9_restore_40 : decode cX9_restore 40 = .ok (.aload_n 0, 1) := by decide +kernel
theorem dX9_restore_41 : decode cX9_restore 41 = .ok (.getfield 33, 3) := by decide +kernel
theorem dX9_restore_44 : decode cX9_restore 44 = .ok (.aload_n 0, 1) := by decide +kernel
theorem dX9_restore_45 : decode cX9_restore 45 = .ok (.getfield 24, 3) := by decide +kernel
theorem dX9_restore_48 : decode cX9_restore 48 = .ok (.invokestatic 314, 3) := by decide +kernel
theorem dX9_restore_51 : decode cX9_restore 51 = .ok (.aload_n 0, 1) := by decide +kernel
theorem dX9_restore_52 : decode cX9_restore 52 = .ok (.getfield 36, 3) := by decide +kernel
theorem dX9_restore_55 : decode cX9_restore 55 = .ok (.aload_n 0, 1) := by decide +kernel
theorem dX9_restore_56 : decode cX9_restore 56 = .ok (.getfield 27, 3) := by decide +kernel
theorem dX9_restore_59 : decode cX9_restore 59 = .ok (.invokestatic 314, 3) := by decide +kernel
theorem dX9_restore_62 : decode cX9_restore 62 = .ok (.aload_n 0, 1) := by decide +kernel
theorem dX9_restore_63 : decode cX9_restore 63 = .ok (.aload_n 0, 1) := by decide +kernel
theorem dX9_restore_64 : decode cX9_restore 64 = .ok (.getfield 42, 3) := by decide +kernel
theorem dX9_restore_67 : decode cX9_restore 67 = .ok (.putfield 39, 3) := by decide +kernel
theorem dX9_restore_70 : decode cX9_restore 70 = .ok (.aload_n 0, 1) := by decide +kernel
theorem dX9_restore_71 : decode cX9_restore 71 = .ok (.invokevirtual 317, 3) := by decide +kernel
theorem dX9_restore_74 : decode cX9_restore 74 = .ok (.ireturn, 1) := by decide +kernel
