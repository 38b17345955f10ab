theorem d_Wk_isFree_0 : decode b_Wk_isFree 0 = .ok (.aload_n 0, 1) := by decide +kernel
theorem d_Wk_isFree_1 : decode b_Wk_isFree 1 = .ok (.getfield 25, 3) := by decide +kernel
theorem d_Wk_isFree_4 : decode b_Wk_isFree 4 = .ok (.ifnonnull 7, 3) := by decide +kernel
theorem d_Wk_isFree_7 : decode b_Wk_isFree 7 = .ok (.iconst 1, 1) := by decide +kernel
theorem d_Wk_isFree_8 : decode b_Wk_isFree 8 = .ok (.goto 4, 3) := by decide +kernel
theorem d_Wk_isFree_11 : decode b_Wk_isFree 11 = .ok (.iconst 0, 1) := by decide +kernel
theorem d_Wk_isFree_12 : decode b_Wk_isFree 12 = .ok (.ireturn, 1) := by decide +kernel
theorem d_Wk_init_0 : decode b_Wk_init 0 = .ok (.aload_n 0, 1) := by decide +kernel
theorem d_Wk_init_1 : decode b_Wk_init 1 = .ok (.invokespecial 3, 3) := by decide +kernel
theorem d_Wk_init_4 : decode b_Wk_init 4 = .ok (.aload_n 0, 1) := by decide +kernel
theorem d_Wk_init_5 : decode b_Wk_init 5 = .ok (.bipush 8, 2) := by decide +kernel
theorem d_Wk_init_7 : decode b_Wk_init 7 = .ok (.newarray .long, 2) := by decide +kernel
theorem d_Wk_init_9 : decode b_Wk_init 9 = .ok (.putfield 9, 3) := by decide +kernel
theorem d_Wk_init_12 : decode b_Wk_init 12 = .ok (.aload_n 0, 1) := by decide +kernel
theorem d_Wk_init_13 : decode b_Wk_init 13 = .ok (.new 15, 3) := by decide +kernel
theorem d_Wk_init_16 : decode b_Wk_init 16 = .ok (.dup, 1) := by decide +kernel
theorem d_Wk_init_17 : decode b_Wk_init 17 = .ok (.invokespecial 17, 3) := by decide +kernel
theorem d_Wk_init_20 : decode b_Wk_init 20 = .ok (.putfield 18, 3) := by decide +kernel
theorem d_Wk_init_23 : decode b_Wk_init 23 = .ok (.aload_n 0, 1) := by decide +kernel
theorem d_Wk_init_24 : decode b_Wk_init 24 = .ok (.new 15, 3) := by decide +kernel
theorem d_Wk_init_27 : decode b_Wk_init 27 = .ok (.dup, 1) := by decide +kernel
theorem d_Wk_init_28 : decode b_Wk_init 28 = .ok (.invokespecial 17, 3) := by decide +kernel
theorem d_Wk_init_31 : decode b_Wk_init 31 = .ok (.putfield 22, 3) := by decide +kernel
theorem d_Wk_init_34 : decode b_Wk_init 34 = .ok (.return_, 1) := by decide +kernel
theorem d_Wk_take_0 : decode b_Wk_take 0 = .ok (.aload_n 0, 1) := by decide +kernel
theorem d_Wk_take_1 : decode b_Wk_take 1 = .ok (.aload_n 1, 1) := by decide +kernel
theorem d_Wk_take_2 : decode b_Wk_take 2 = .ok (.putfield 25, 3) := by decide +kernel
theorem d_Wk_take_5 : decode b_Wk_take 5 = .ok (.aload_n 0, 1) := by decide +kernel
theorem d_Wk_take_6 : decode b_Wk_take 6 = .ok (.iload_n 2, 1) := by decide +kernel
theorem d_Wk_take_7 : decode b_Wk_take 7 = .ok (.putfield 33, 3) := by decide +kernel
theorem d_Wk_take_10 : decode b_Wk_take 10 = .ok (.aload_n 0, 1) := by decide +kernel
theorem d_Wk_take_11 : decode b_Wk_take 11 = .ok (.invokevirtual 36, 3) := by decide +kernel
theorem d_Wk_take_14 : decode b_Wk_take 14 = .ok (.return_, 1) := by decide +kernel
theorem d_Wk_startAnew_0 : decode b_Wk_startAnew 0 = .ok (.aload_n 0, 1) := by decide +kernel
theorem d_Wk_startAnew_1 : decode b_Wk_startAnew 1 = .ok (.getfield 9, 3) := by decide +kernel
theorem d_Wk_startAnew_4 : decode b_Wk_startAnew 4 = .ok (.lconst 0, 1) := by decide +kernel
theorem d_Wk_startAnew_5 : decode b_Wk_startAnew 5 = .ok (.invokestatic 39, 3) := by decide +kernel
theorem d_Wk_startAnew_8 : decode b_Wk_startAnew 8 = .ok (.aload_n 0, 1) := by decide +kernel
theorem d_Wk_startAnew_9 : decode b_Wk_startAnew 9 = .ok (.getfield 18, 3) := by decide +kernel
theorem d_Wk_startAnew_12 : decode b_Wk_startAnew 12 = .ok (.invokevirtual 45, 3) := by decide +kernel
theorem d_Wk_startAnew_15 : decode b_Wk_startAnew 15 = .ok (.aload_n 0, 1) := by decide +kernel
theorem d_Wk_startAnew_16 : decode b_Wk_startAnew 16 = .ok (.getfield 22, 3) := by decide +kernel
theorem d_Wk_startAnew_19 : decode b_Wk_startAnew 19 = .ok (.invokevirtual 45, 3) := by decide +kernel
theorem d_Wk_startAnew_22 : decode b_Wk_startAnew 22 = .ok (.aload_n 0, 1) := by decide +kernel
theorem d_Wk_startAnew_23 : decode b_Wk_startAnew 23 = .ok (.iconst 0, 1) := by decide +kernel
theorem d_Wk_startAnew_24 : decode b_Wk_startAnew 24 = .ok (.putfield 48, 3) := by decide +kernel
theorem d_Wk_startAnew_27 : decode b_Wk_startAnew 27 = .ok (.aload_n 0, 1) := by decide +kernel
theorem d_Wk_startAnew_28 : decode b_Wk_startAnew 28 = .ok (.iconst 0, 1) := by decide +kernel
theorem d_Wk_startAnew_29 : decode b_Wk_startAnew 29 = .ok (.putfield 51, 3) := by decide +kernel
theorem d_Wk_startAnew_32 : decode b_Wk_startAnew 32 = .ok (.aload_n 0, 1) := by decide +kernel
theorem d_Wk_startAnew_33 : decode b_Wk_startAnew 33 = .ok (.iconst 0, 1) := by decide +kernel
theorem d_Wk_startAnew_34 : decode b_Wk_startAnew 34 = .ok (.putfield 54, 3) := by decide +kernel
theorem d_Wk_startAnew_37 : decode b_Wk_startAnew 37 = .ok (.aload_n 0, 1) := by decide +kernel
theorem d_Wk_startAnew_38 : decode b_Wk_startAnew 38 = .ok (.iconst 0, 1) := by decide +kernel
theorem d_Wk_startAnew_39 : decode b_Wk_startAnew 39 = .ok (.putfield 29, 3) := by decide +kernel
theorem d_Wk_startAnew_42 : decode b_Wk_startAnew 42 = .ok (.return_, 1) := by decide +kernel
theorem d_Wk_isAtEnd_0 : decode b_Wk_isAtEnd 0 = .ok (.aload_n 0, 1) := by decide +kernel
theorem d_Wk_isAtEnd_1 : decode b_Wk_isAtEnd 1 = .ok (.getfield 29, 3) := by decide +kernel
theorem d_Wk_isAtEnd_4 : decode b_Wk_isAtEnd 4 = .ok (.ifCond .eq 7, 3) := by decide +kernel
theorem d_Wk_isAtEnd_7 : decode b_Wk_isAtEnd 7 = .ok (.iconst 1, 1) := by decide +kernel
theorem d_Wk_isAtEnd_8 : decode b_Wk_isAtEnd 8 = .ok (.goto 4, 3) := by decide +kernel
theorem d_Wk_isAtEnd_11 : decode b_Wk_isAtEnd 11 = .ok (.iconst 0, 1) := by decide +kernel
theorem d_Wk_isAtEnd_12 : decode b_Wk_isAtEnd 12 = .ok (.ireturn, 1) := by decide +kernel
theorem d_Wk_doNext_0 : decode b_Wk_doNext 0 = .ok (.aload_n 0, 1) := by decide +kernel
theorem d_Wk_doNext_1 : decode b_Wk_doNext 1 = .ok (.getfield 25, 3) := by decide +kernel
theorem d_Wk_doNext_4 : decode b_Wk_doNext 4 = .ok (.astore_n 2, 1) := by decide +kernel
theorem d_Wk_doNext_5 : decode b_Wk_doNext 5 = .ok (.aload_n 2, 1) := by decide +kernel
theorem d_Wk_doNext_6 : decode b_Wk_doNext 6 = .ok (.ifnull 15, 3) := by decide +kernel
theorem d_Wk_doNext_9 : decode b_Wk_doNext 9 = .ok (.aload_n 2, 1) := by decide +kernel
theorem d_Wk_doNext_10 : decode b_Wk_doNext 10 = .ok (.aload_n 0, 1) := by decide +kernel
theorem d_Wk_doNext_11 : decode b_Wk_doNext 11 = .ok (.getfield 48, 3) := by decide +kernel
theorem d_Wk_doNext_14 : decode b_Wk_doNext 14 = .ok (.i2l, 1) := by decide +kernel
theorem d_Wk_doNext_15 : decode b_Wk_doNext 15 = .ok (.invokevirtual 57, 3) := by decide +kernel
theorem d_Wk_doNext_18 : decode b_Wk_doNext 18 = .ok (.ifCond .ne 11, 3) := by decide +kernel
theorem d_Wk_doNext_21 : decode b_Wk_doNext 21 = .ok (.aload_n 0, 1) := by decide +kernel
theorem d_Wk_doNext_22 : decode b_Wk_doNext 22 = .ok (.iconst 1, 1) := by decide +kernel
theorem d_Wk_doNext_23 : decode b_Wk_doNext 23 = .ok (.putfield 29, 3) := by decide +kernel
theorem d_Wk_doNext_26 : decode b_Wk_doNext 26 = .ok (.goto 53, 3) := by decide +kernel
theorem d_Wk_doNext_29 : decode b_Wk_doNext 29 = .ok (.aload_n 0, 1) := by decide +kernel
theorem d_Wk_doNext_30 : decode b_Wk_doNext 30 = .ok (.getfield 51, 3) := by decide +kernel
theorem d_Wk_doNext_33 : decode b_Wk_doNext 33 = .ok (.sipush 300, 3) := by decide +kernel
theorem d_Wk_doNext_36 : decode b_Wk_doNext 36 = .ok (.if_icmp .lt 11, 3) := by decide +kernel
theorem d_Wk_doNext_39 : decode b_Wk_doNext 39 = .ok (.aload_n 0, 1) := by decide +kernel
theorem d_Wk_doNext_40 : decode b_Wk_doNext 40 = .ok (.iconst 3, 1) := by decide +kernel
theorem d_Wk_doNext_41 : decode b_Wk_doNext 41 = .ok (.putfield 29, 3) := by decide +kernel
theorem d_Wk_doNext_44 : decode b_Wk_doNext 44 = .ok (.goto 35, 3) := by decide +kernel
theorem d_Wk_doNext_47 : decode b_Wk_doNext 47 = .ok (.aload_n 0, 1) := by decide +kernel
theorem d_Wk_doNext_48 : decode b_Wk_doNext 48 = .ok (.getfield 48, 3) := by decide +kernel
theorem d_Wk_doNext_51 : decode b_Wk_doNext 51 = .ok (.istore_n 3, 1) := by decide +kernel
theorem d_Wk_doNext_52 : decode b_Wk_doNext 52 = .ok (.aload_n 0, 1) := by decide +kernel
theorem d_Wk_doNext_53 : decode b_Wk_doNext 53 = .ok (.dup, 1) := by decide +kernel
theorem d_Wk_doNext_54 : decode b_Wk_doNext 54 = .ok (.getfield 48, 3) := by decide +kernel
theorem d_Wk_doNext_57 : decode b_Wk_doNext 57 = .ok (.iconst 1, 1) := by decide +kernel
theorem d_Wk_doNext_58 : decode b_Wk_doNext 58 = .ok (.iadd, 1) := by decide +kernel
theorem d_Wk_doNext_59 : decode b_Wk_doNext 59 = .ok (.putfield 48, 3) := by decide +kernel
theorem d_Wk_doNext_62 : decode b_Wk_doNext 62 = .ok (.aload_n 0, 1) := by decide +kernel
theorem d_Wk_doNext_63 : decode b_Wk_doNext 63 = .ok (.dup, 1) := by decide +kernel
theorem d_Wk_doNext_64 : decode b_Wk_doNext 64 = .ok (.getfield 51, 3) := by decide +kernel
theorem d_Wk_doNext_67 : decode b_Wk_doNext 67 = .ok (.iconst 1, 1) := by decide +kernel
theorem d_Wk_doNext_68 : decode b_Wk_doNext 68 = .ok (.iadd, 1) := by decide +kernel
theorem d_Wk_doNext_69 : decode b_Wk_doNext 69 = .ok (.putfield 51, 3) := by decide +kernel
theorem d_Wk_doNext_72 : decode b_Wk_doNext 72 = .ok (.aload_n 0, 1) := by decide +kernel
theorem d_Wk_doNext_73 : decode b_Wk_doNext 73 = .ok (.aload_n 2, 1) := by decide +kernel
theorem d_Wk_doNext_74 : decode b_Wk_doNext 74 = .ok (.iload_n 3, 1) := by decide +kernel
theorem d_Wk_doNext_75 : decode b_Wk_doNext 75 = .ok (.aload_n 1, 1) := by decide +kernel
theorem d_Wk_doNext_76 : decode b_Wk_doNext 76 = .ok (.invokevirtual 63, 3) := by decide +kernel
theorem d_Wk_doNext_79 : decode b_Wk_doNext 79 = .ok (.return_, 1) := by decide +kernel
theorem d_Wk_perform_0 : decode b_Wk_perform 0 = .ok (.aload_n 1, 1) := by decide +kernel
theorem d_Wk_perform_1 : decode b_Wk_perform 1 = .ok (.iload_n 2, 1) := by decide +kernel
theorem d_Wk_perform_2 : decode b_Wk_perform 2 = .ok (.invokevirtual 67, 3) := by decide +kernel
theorem d_Wk_perform_5 : decode b_Wk_perform 5 = .ok (.lstore 4, 2) := by decide +kernel
theorem d_Wk_perform_7 : decode b_Wk_perform 7 = .ok (.aload_n 1, 1) := by decide +kernel
theorem d_Wk_perform_8 : decode b_Wk_perform 8 = .ok (.iload_n 2, 1) := by decide +kernel
theorem d_Wk_perform_9 : decode b_Wk_perform 9 = .ok (.invokevirtual 71, 3) := by decide +kernel
theorem d_Wk_perform_12 : decode b_Wk_perform 12 = .ok (.i2l, 1) := by decide +kernel
theorem d_Wk_perform_13 : decode b_Wk_perform 13 = .ok (.invokestatic 75, 3) := by decide +kernel
theorem d_Wk_perform_16 : decode b_Wk_perform 16 = .ok (.istore 6, 2) := by decide +kernel
theorem d_Wk_perform_18 : decode b_Wk_perform 18 = .ok (.lload 4, 2) := by decide +kernel
theorem d_Wk_perform_20 : decode b_Wk_perform 20 = .ok (.invokestatic 75, 3) := by decide +kernel
theorem d_Wk_perform_23 : decode b_Wk_perform 23 = .ok (.istore 7, 2) := by decide +kernel
theorem d_Wk_perform_25 : decode b_Wk_perform 25 = .ok (.aload_n 1, 1) := by decide +kernel
theorem d_Wk_perform_26 : decode b_Wk_perform 26 = .ok (.iload_n 2, 1) := by decide +kernel
theorem d_Wk_perform_27 : decode b_Wk_perform 27 = .ok (.invokevirtual 79, 3) := by decide +kernel
theorem d_Wk_perform_30 : decode b_Wk_perform 30 = .ok (.tableswitch 271 1 10 #[54, 66, 91, 118, 138, 158, 178, 213, 263, 246], 54) := by decide +kernel
theorem d_Wk_perform_84 : decode b_Wk_perform 84 = .ok (.aload_n 0, 1) := by decide +kernel
theorem d_Wk_perform_85 : decode b_Wk_perform 85 = .ok (.getfield 9, 3) := by decide +kernel
theorem d_Wk_perform_88 : decode b_Wk_perform 88 = .ok (.iload 6, 2) := by decide +kernel
theorem d_Wk_perform_90 : decode b_Wk_perform 90 = .ok (.lload 4, 2) := by decide +kernel
theorem d_Wk_perform_92 : decode b_Wk_perform 92 = .ok (.lastore, 1) := by decide +kernel
theorem d_Wk_perform_93 : decode b_Wk_perform 93 = .ok (.goto 213, 3) := by decide +kernel
theorem d_Wk_perform_96 : decode b_Wk_perform 96 = .ok (.aload_n 0, 1) := by decide +kernel
theorem d_Wk_perform_97 : decode b_Wk_perform 97 = .ok (.getfield 9, 3) := by decide +kernel
theorem d_Wk_perform_100 : decode b_Wk_perform 100 = .ok (.iload 6, 2) := by decide +kernel
theorem d_Wk_perform_102 : decode b_Wk_perform 102 = .ok (.aload_n 0, 1) := by decide +kernel
theorem d_Wk_perform_103 : decode b_Wk_perform 103 = .ok (.aload_n 0, 1) := by decide +kernel
theorem d_Wk_perform_104 : decode b_Wk_perform 104 = .ok (.getfield 9, 3) := by decide +kernel
theorem d_Wk_perform_107 : decode b_Wk_perform 107 = .ok (.iload 7, 2) := by decide +kernel
theorem d_Wk_perform_109 : decode b_Wk_perform 109 = .ok (.laload, 1) := by decide +kernel
theorem d_Wk_perform_110 : decode b_Wk_perform 110 = .ok (.invokestatic 82, 3) := by decide +kernel
theorem d_Wk_perform_113 : decode b_Wk_perform 113 = .ok (.aload_n 3, 1) := by decide +kernel
theorem d_Wk_perform_114 : decode b_Wk_perform 114 = .ok (.invokevirtual 85, 3) := by decide +kernel
theorem d_Wk_perform_117 : decode b_Wk_perform 117 = .ok (.lastore, 1) := by decide +kernel
theorem d_Wk_perform_118 : decode b_Wk_perform 118 = .ok (.goto 188, 3) := by decide +kernel
theorem d_Wk_perform_121 : decode b_Wk_perform 121 = .ok (.aload_n 0, 1) := by decide +kernel
theorem d_Wk_perform_122 : decode b_Wk_perform 122 = .ok (.getfield 22, 3) := by decide +kernel
theorem d_Wk_perform_125 : decode b_Wk_perform 125 = .ok (.aload_n 0, 1) := by decide +kernel
theorem d_Wk_perform_126 : decode b_Wk_perform 126 = .ok (.getfield 9, 3) := by decide +kernel
theorem d_Wk_perform_129 : decode b_Wk_perform 129 = .ok (.iload 7, 2) := by decide +kernel
theorem d_Wk_perform_131 : decode b_Wk_perform 131 = .ok (.laload, 1) := by decide +kernel
theorem d_Wk_perform_132 : decode b_Wk_perform 132 = .ok (.invokestatic 82, 3) := by decide +kernel
theorem d_Wk_perform_135 : decode b_Wk_perform 135 = .ok (.aload_n 0, 1) := by decide +kernel
theorem d_Wk_perform_136 : decode b_Wk_perform 136 = .ok (.getfield 9, 3) := by decide +kernel
theorem d_Wk_perform_139 : decode b_Wk_perform 139 = .ok (.iload 6, 2) := by decide +kernel
theorem d_Wk_perform_141 : decode b_Wk_perform 141 = .ok (.laload, 1) := by decide +kernel
theorem d_Wk_perform_142 : decode b_Wk_perform 142 = .ok (.invokevirtual 89, 3) := by decide +kernel
theorem d_Wk_perform_145 : decode b_Wk_perform 145 = .ok (.goto 161, 3) := by decide +kernel
theorem d_Wk_perform_148 : decode b_Wk_perform 148 = .ok (.aload_n 0, 1) := by decide +kernel
theorem d_Wk_perform_149 : decode b_Wk_perform 149 = .ok (.getfield 9, 3) := by decide +kernel
theorem d_Wk_perform_152 : decode b_Wk_perform 152 = .ok (.iload 6, 2) := by decide +kernel
theorem d_Wk_perform_154 : decode b_Wk_perform 154 = .ok (.dup2, 1) := by decide +kernel
theorem d_Wk_perform_155 : decode b_Wk_perform 155 = .ok (.laload, 1) := by decide +kernel
theorem d_Wk_perform_156 : decode b_Wk_perform 156 = .ok (.aload_n 0, 1) := by decide +kernel
theorem d_Wk_perform_157 : decode b_Wk_perform 157 = .ok (.getfield 9, 3) := by decide +kernel
theorem d_Wk_perform_160 : decode b_Wk_perform 160 = .ok (.iload 7, 2) := by decide +kernel
theorem d_Wk_perform_162 : decode b_Wk_perform 162 = .ok (.laload, 1) := by decide +kernel
theorem d_Wk_perform_163 : decode b_Wk_perform 163 = .ok (.ladd, 1) := by decide +kernel
theorem d_Wk_perform_164 : decode b_Wk_perform 164 = .ok (.lastore, 1) := by decide +kernel
theorem d_Wk_perform_165 : decode b_Wk_perform 165 = .ok (.goto 141, 3) := by decide +kernel
theorem d_Wk_perform_168 : decode b_Wk_perform 168 = .ok (.aload_n 0, 1) := by decide +kernel
theorem d_Wk_perform_169 : decode b_Wk_perform 169 = .ok (.getfield 9, 3) := by decide +kernel
theorem d_Wk_perform_172 : decode b_Wk_perform 172 = .ok (.iload 6, 2) := by decide +kernel
theorem d_Wk_perform_174 : decode b_Wk_perform 174 = .ok (.dup2, 1) := by decide +kernel
theorem d_Wk_perform_175 : decode b_Wk_perform 175 = .ok (.laload, 1) := by decide +kernel
theorem d_Wk_perform_176 : decode b_Wk_perform 176 = .ok (.aload_n 0, 1) := by decide +kernel
theorem d_Wk_perform_177 : decode b_Wk_perform 177 = .ok (.getfield 9, 3) := by decide +kernel
theorem d_Wk_perform_180 : decode b_Wk_perform 180 = .ok (.iload 7, 2) := by decide +kernel
theorem d_Wk_perform_182 : decode b_Wk_perform 182 = .ok (.laload, 1) := by decide +kernel
theorem d_Wk_perform_183 : decode b_Wk_perform 183 = .ok (.lsub, 1) := by decide +kernel
theorem d_Wk_perform_184 : decode b_Wk_perform 184 = .ok (.lastore, 1) := by decide +kernel
theorem d_Wk_perform_185 : decode b_Wk_perform 185 = .ok (.goto 121, 3) := by decide +kernel
theorem d_Wk_perform_188 : decode b_Wk_perform 188 = .ok (.aload_n 0, 1) := by decide +kernel
theorem d_Wk_perform_189 : decode b_Wk_perform 189 = .ok (.getfield 9, 3) := by decide +kernel
theorem d_Wk_perform_192 : decode b_Wk_perform 192 = .ok (.iload 6, 2) := by decide +kernel
theorem d_Wk_perform_194 : decode b_Wk_perform 194 = .ok (.dup2, 1) := by decide +kernel
theorem d_Wk_perform_195 : decode b_Wk_perform 195 = .ok (.laload, 1) := by decide +kernel
theorem d_Wk_perform_196 : decode b_Wk_perform 196 = .ok (.aload_n 0, 1) := by decide +kernel
theorem d_Wk_perform_197 : decode b_Wk_perform 197 = .ok (.getfield 9, 3) := by decide +kernel
theorem d_Wk_perform_200 : decode b_Wk_perform 200 = .ok (.iload 7, 2) := by decide +kernel
theorem d_Wk_perform_202 : decode b_Wk_perform 202 = .ok (.laload, 1) := by decide +kernel
theorem d_Wk_perform_203 : decode b_Wk_perform 203 = .ok (.lmul, 1) := by decide +kernel
theorem d_Wk_perform_204 : decode b_Wk_perform 204 = .ok (.lastore, 1) := by decide +kernel
theorem d_Wk_perform_205 : decode b_Wk_perform 205 = .ok (.goto 101, 3) := by decide +kernel
theorem d_Wk_perform_208 : decode b_Wk_perform 208 = .ok (.aload_n 0, 1) := by decide +kernel
theorem d_Wk_perform_209 : decode b_Wk_perform 209 = .ok (.getfield 9, 3) := by decide +kernel
theorem d_Wk_perform_212 : decode b_Wk_perform 212 = .ok (.iload 6, 2) := by decide +kernel
theorem d_Wk_perform_214 : decode b_Wk_perform 214 = .ok (.laload, 1) := by decide +kernel
theorem d_Wk_perform_215 : decode b_Wk_perform 215 = .ok (.lconst 0, 1) := by decide +kernel
theorem d_Wk_perform_216 : decode b_Wk_perform 216 = .ok (.lcmp, 1) := by decide +kernel
theorem d_Wk_perform_217 : decode b_Wk_perform 217 = .ok (.ifCond .eq 89, 3) := by decide +kernel
theorem d_Wk_perform_220 : decode b_Wk_perform 220 = .ok (.aload_n 0, 1) := by decide +kernel
theorem d_Wk_perform_221 : decode b_Wk_perform 221 = .ok (.aload_n 1, 1) := by decide +kernel
theorem d_Wk_perform_222 : decode b_Wk_perform 222 = .ok (.lload 4, 2) := by decide +kernel
theorem d_Wk_perform_224 : decode b_Wk_perform 224 = .ok (.invokevirtual 57, 3) := by decide +kernel
theorem d_Wk_perform_227 : decode b_Wk_perform 227 = .ok (.ifCond .eq 9, 3) := by decide +kernel
theorem d_Wk_perform_230 : decode b_Wk_perform 230 = .ok (.lload 4, 2) := by decide +kernel
theorem d_Wk_perform_232 : decode b_Wk_perform 232 = .ok (.l2i, 1) := by decide +kernel
theorem d_Wk_perform_233 : decode b_Wk_perform 233 = .ok (.goto 4, 3) := by decide +kernel
theorem d_Wk_perform_236 : decode b_Wk_perform 236 = .ok (.iconst (-1), 1) := by decide +kernel
theorem d_Wk_perform_237 : decode b_Wk_perform 237 = .ok (.putfield 48, 3) := by decide +kernel
theorem d_Wk_perform_240 : decode b_Wk_perform 240 = .ok (.goto 66, 3) := by decide +kernel
theorem d_Wk_perform_243 : decode b_Wk_perform 243 = .ok (.aload_n 0, 1) := by decide +kernel
theorem d_Wk_perform_244 : decode b_Wk_perform 244 = .ok (.getfield 9, 3) := by decide +kernel
theorem d_Wk_perform_247 : decode b_Wk_perform 247 = .ok (.iload 6, 2) := by decide +kernel
theorem d_Wk_perform_249 : decode b_Wk_perform 249 = .ok (.aload_n 0, 1) := by decide +kernel
theorem d_Wk_perform_250 : decode b_Wk_perform 250 = .ok (.getfield 9, 3) := by decide +kernel
theorem d_Wk_perform_253 : decode b_Wk_perform 253 = .ok (.iload 6, 2) := by decide +kernel
theorem d_Wk_perform_255 : decode b_Wk_perform 255 = .ok (.laload, 1) := by decide +kernel
theorem d_Wk_perform_256 : decode b_Wk_perform 256 = .ok (.aload_n 0, 1) := by decide +kernel
theorem d_Wk_perform_257 : decode b_Wk_perform 257 = .ok (.getfield 9, 3) := by decide +kernel
theorem d_Wk_perform_260 : decode b_Wk_perform 260 = .ok (.iload 7, 2) := by decide +kernel
theorem d_Wk_perform_262 : decode b_Wk_perform 262 = .ok (.laload, 1) := by decide +kernel
theorem d_Wk_perform_263 : decode b_Wk_perform 263 = .ok (.lcmp, 1) := by decide +kernel
theorem d_Wk_perform_264 : decode b_Wk_perform 264 = .ok (.ifCond .ge 7, 3) := by decide +kernel
theorem d_Wk_perform_267 : decode b_Wk_perform 267 = .ok (.lconst 1, 1) := by decide +kernel
theorem d_Wk_perform_268 : decode b_Wk_perform 268 = .ok (.goto 4, 3) := by decide +kernel
theorem d_Wk_perform_271 : decode b_Wk_perform 271 = .ok (.lconst 0, 1) := by decide +kernel
theorem d_Wk_perform_272 : decode b_Wk_perform 272 = .ok (.lastore, 1) := by decide +kernel
theorem d_Wk_perform_273 : decode b_Wk_perform 273 = .ok (.goto 33, 3) := by decide +kernel
theorem d_Wk_perform_276 : decode b_Wk_perform 276 = .ok (.aload_n 0, 1) := by decide +kernel
theorem d_Wk_perform_277 : decode b_Wk_perform 277 = .ok (.getfield 9, 3) := by decide +kernel
theorem d_Wk_perform_280 : decode b_Wk_perform 280 = .ok (.iload 6, 2) := by decide +kernel
theorem d_Wk_perform_282 : decode b_Wk_perform 282 = .ok (.aload_n 0, 1) := by decide +kernel
theorem d_Wk_perform_283 : decode b_Wk_perform 283 = .ok (.getfield 9, 3) := by decide +kernel
theorem d_Wk_perform_286 : decode b_Wk_perform 286 = .ok (.iload 7, 2) := by decide +kernel
theorem d_Wk_perform_288 : decode b_Wk_perform 288 = .ok (.laload, 1) := by decide +kernel
theorem d_Wk_perform_289 : decode b_Wk_perform 289 = .ok (.lastore, 1) := by decide +kernel
theorem d_Wk_perform_290 : decode b_Wk_perform 290 = .ok (.goto 16, 3) := by decide +kernel
theorem d_Wk_perform_293 : decode b_Wk_perform 293 = .ok (.aload_n 0, 1) := by decide +kernel
theorem d_Wk_perform_294 : decode b_Wk_perform 294 = .ok (.iconst 2, 1) := by decide +kernel
theorem d_Wk_perform_295 : decode b_Wk_perform 295 = .ok (.putfield 29, 3) := by decide +kernel
theorem d_Wk_perform_298 : decode b_Wk_perform 298 = .ok (.goto 8, 3) := by decide +kernel
theorem d_Wk_perform_301 : decode b_Wk_perform 301 = .ok (.aload_n 0, 1) := by decide +kernel
theorem d_Wk_perform_302 : decode b_Wk_perform 302 = .ok (.iconst 1, 1) := by decide +kernel
theorem d_Wk_perform_303 : decode b_Wk_perform 303 = .ok (.putfield 29, 3) := by decide +kernel
theorem d_Wk_perform_306 : decode b_Wk_perform 306 = .ok (.return_, 1) := by decide +kernel
theorem d_Wk_load_0 : decode b_Wk_load 0 = .ok (.aload_n 0, 1) := by decide +kernel
theorem d_Wk_load_1 : decode b_Wk_load 1 = .ok (.dup, 1) := by decide +kernel
theorem d_Wk_load_2 : decode b_Wk_load 2 = .ok (.getfield 54, 3) := by decide +kernel
theorem d_Wk_load_5 : decode b_Wk_load 5 = .ok (.iconst 1, 1) := by decide +kernel
theorem d_Wk_load_6 : decode b_Wk_load 6 = .ok (.iadd, 1) := by decide +kernel
theorem d_Wk_load_7 : decode b_Wk_load 7 = .ok (.putfield 54, 3) := by decide +kernel
theorem d_Wk_load_10 : decode b_Wk_load 10 = .ok (.aload_n 0, 1) := by decide +kernel
theorem d_Wk_load_11 : decode b_Wk_load 11 = .ok (.getfield 22, 3) := by decide +kernel
theorem d_Wk_load_14 : decode b_Wk_load 14 = .ok (.iload_n 1, 1) := by decide +kernel
theorem d_Wk_load_15 : decode b_Wk_load 15 = .ok (.invokevirtual 93, 3) := by decide +kernel
theorem d_Wk_load_18 : decode b_Wk_load 18 = .ok (.ifCond .eq 12, 3) := by decide +kernel
theorem d_Wk_load_21 : decode b_Wk_load 21 = .ok (.aload_n 0, 1) := by decide +kernel
theorem d_Wk_load_22 : decode b_Wk_load 22 = .ok (.getfield 22, 3) := by decide +kernel
theorem d_Wk_load_25 : decode b_Wk_load 25 = .ok (.iload_n 1, 1) := by decide +kernel
theorem d_Wk_load_26 : decode b_Wk_load 26 = .ok (.invokevirtual 96, 3) := by decide +kernel
theorem d_Wk_load_29 : decode b_Wk_load 29 = .ok (.lreturn, 1) := by decide +kernel
theorem d_Wk_load_30 : decode b_Wk_load 30 = .ok (.aload_n 0, 1) := by decide +kernel
theorem d_Wk_load_31 : decode b_Wk_load 31 = .ok (.getfield 18, 3) := by decide +kernel
theorem d_Wk_load_34 : decode b_Wk_load 34 = .ok (.iload_n 1, 1) := by decide +kernel
theorem d_Wk_load_35 : decode b_Wk_load 35 = .ok (.invokevirtual 93, 3) := by decide +kernel
theorem d_Wk_load_38 : decode b_Wk_load 38 = .ok (.ifCond .ne 14, 3) := by decide +kernel
theorem d_Wk_load_41 : decode b_Wk_load 41 = .ok (.aload_n 0, 1) := by decide +kernel
theorem d_Wk_load_42 : decode b_Wk_load 42 = .ok (.getfield 18, 3) := by decide +kernel
theorem d_Wk_load_45 : decode b_Wk_load 45 = .ok (.iload_n 1, 1) := by decide +kernel
theorem d_Wk_load_46 : decode b_Wk_load 46 = .ok (.aload_n 2, 1) := by decide +kernel
theorem d_Wk_load_47 : decode b_Wk_load 47 = .ok (.iload_n 1, 1) := by decide +kernel
theorem d_Wk_load_48 : decode b_Wk_load 48 = .ok (.laload, 1) := by decide +kernel
theorem d_Wk_load_49 : decode b_Wk_load 49 = .ok (.invokevirtual 89, 3) := by decide +kernel
theorem d_Wk_load_52 : decode b_Wk_load 52 = .ok (.aload_n 0, 1) := by decide +kernel
theorem d_Wk_load_53 : decode b_Wk_load 53 = .ok (.getfield 18, 3) := by decide +kernel
theorem d_Wk_load_56 : decode b_Wk_load 56 = .ok (.iload_n 1, 1) := by decide +kernel
theorem d_Wk_load_57 : decode b_Wk_load 57 = .ok (.invokevirtual 96, 3) := by decide +kernel
theorem d_Wk_load_60 : decode b_Wk_load 60 = .ok (.lreturn, 1) := by decide +kernel
theorem d_Wk_number_0 : decode b_Wk_number 0 = .ok (.aload_n 0, 1) := by decide +kernel
theorem d_Wk_number_1 : decode b_Wk_number 1 = .ok (.getfield 33, 3) := by decide +kernel
theorem d_Wk_number_4 : decode b_Wk_number 4 = .ok (.ireturn, 1) := by decide +kernel
theorem d_Wk_sawWhatHolds_0 : decode b_Wk_sawWhatHolds 0 = .ok (.iconst 0, 1) := by decide +kernel
theorem d_Wk_sawWhatHolds_1 : decode b_Wk_sawWhatHolds 1 = .ok (.istore_n 2, 1) := by decide +kernel
theorem d_Wk_sawWhatHolds_2 : decode b_Wk_sawWhatHolds 2 = .ok (.iload_n 2, 1) := by decide +kernel
theorem d_Wk_sawWhatHolds_3 : decode b_Wk_sawWhatHolds 3 = .ok (.aload_n 0, 1) := by decide +kernel
theorem d_Wk_sawWhatHolds_4 : decode b_Wk_sawWhatHolds 4 = .ok (.getfield 18, 3) := by decide +kernel
theorem d_Wk_sawWhatHolds_7 : decode b_Wk_sawWhatHolds 7 = .ok (.invokevirtual 99, 3) := by decide +kernel
theorem d_Wk_sawWhatHolds_10 : decode b_Wk_sawWhatHolds 10 = .ok (.if_icmp .ge 35, 3) := by decide +kernel
theorem d_Wk_sawWhatHolds_13 : decode b_Wk_sawWhatHolds 13 = .ok (.aload_n 0, 1) := by decide +kernel
theorem d_Wk_sawWhatHolds_14 : decode b_Wk_sawWhatHolds 14 = .ok (.getfield 18, 3) := by decide +kernel
theorem d_Wk_sawWhatHolds_17 : decode b_Wk_sawWhatHolds 17 = .ok (.iload_n 2, 1) := by decide +kernel
theorem d_Wk_sawWhatHolds_18 : decode b_Wk_sawWhatHolds 18 = .ok (.invokevirtual 103, 3) := by decide +kernel
theorem d_Wk_sawWhatHolds_21 : decode b_Wk_sawWhatHolds 21 = .ok (.istore_n 3, 1) := by decide +kernel
theorem d_Wk_sawWhatHolds_22 : decode b_Wk_sawWhatHolds 22 = .ok (.aload_n 0, 1) := by decide +kernel
theorem d_Wk_sawWhatHolds_23 : decode b_Wk_sawWhatHolds 23 = .ok (.getfield 18, 3) := by decide +kernel
theorem d_Wk_sawWhatHolds_26 : decode b_Wk_sawWhatHolds 26 = .ok (.iload_n 3, 1) := by decide +kernel
theorem d_Wk_sawWhatHolds_27 : decode b_Wk_sawWhatHolds 27 = .ok (.invokevirtual 96, 3) := by decide +kernel
theorem d_Wk_sawWhatHolds_30 : decode b_Wk_sawWhatHolds 30 = .ok (.aload_n 1, 1) := by decide +kernel
theorem d_Wk_sawWhatHolds_31 : decode b_Wk_sawWhatHolds 31 = .ok (.iload_n 3, 1) := by decide +kernel
theorem d_Wk_sawWhatHolds_32 : decode b_Wk_sawWhatHolds 32 = .ok (.laload, 1) := by decide +kernel
theorem d_Wk_sawWhatHolds_33 : decode b_Wk_sawWhatHolds 33 = .ok (.lcmp, 1) := by decide +kernel
theorem d_Wk_sawWhatHolds_34 : decode b_Wk_sawWhatHolds 34 = .ok (.ifCond .eq 5, 3) := by decide +kernel
theorem d_Wk_sawWhatHolds_37 : decode b_Wk_sawWhatHolds 37 = .ok (.iconst 0, 1) := by decide +kernel
theorem d_Wk_sawWhatHolds_38 : decode b_Wk_sawWhatHolds 38 = .ok (.ireturn, 1) := by decide +kernel
theorem d_Wk_sawWhatHolds_39 : decode b_Wk_sawWhatHolds 39 = .ok (.iinc 2 1, 3) := by decide +kernel
theorem d_Wk_sawWhatHolds_42 : decode b_Wk_sawWhatHolds 42 = .ok (.goto (-40), 3) := by decide +kernel
theorem d_Wk_sawWhatHolds_45 : decode b_Wk_sawWhatHolds 45 = .ok (.iconst 1, 1) := by decide +kernel
theorem d_Wk_sawWhatHolds_46 : decode b_Wk_sawWhatHolds 46 = .ok (.ireturn, 1) := by decide +kernel
theorem d_Wk_handIn_0 : decode b_Wk_handIn 0 = .ok (.aload_n 0, 1) := by decide +kernel
theorem d_Wk_handIn_1 : decode b_Wk_handIn 1 = .ok (.getfield 25, 3) := by decide +kernel
theorem d_Wk_handIn_4 : decode b_Wk_handIn 4 = .ok (.astore_n 2, 1) := by decide +kernel
theorem d_Wk_handIn_5 : decode b_Wk_handIn 5 = .ok (.aload_n 0, 1) := by decide +kernel
theorem d_Wk_handIn_6 : decode b_Wk_handIn 6 = .ok (.aconst_null, 1) := by decide +kernel
theorem d_Wk_handIn_7 : decode b_Wk_handIn 7 = .ok (.putfield 25, 3) := by decide +kernel
theorem d_Wk_handIn_10 : decode b_Wk_handIn 10 = .ok (.aload_n 0, 1) := by decide +kernel
theorem d_Wk_handIn_11 : decode b_Wk_handIn 11 = .ok (.getfield 29, 3) := by decide +kernel
theorem d_Wk_handIn_14 : decode b_Wk_handIn 14 = .ok (.iconst 1, 1) := by decide +kernel
theorem d_Wk_handIn_15 : decode b_Wk_handIn 15 = .ok (.if_icmp .ne 7, 3) := by decide +kernel
theorem d_Wk_handIn_18 : decode b_Wk_handIn 18 = .ok (.iconst 1, 1) := by decide +kernel
theorem d_Wk_handIn_19 : decode b_Wk_handIn 19 = .ok (.goto 4, 3) := by decide +kernel
theorem d_Wk_handIn_22 : decode b_Wk_handIn 22 = .ok (.iconst 0, 1) := by decide +kernel
theorem d_Wk_handIn_23 : decode b_Wk_handIn 23 = .ok (.istore_n 3, 1) := by decide +kernel
theorem d_Wk_handIn_24 : decode b_Wk_handIn 24 = .ok (.iload_n 3, 1) := by decide +kernel
theorem d_Wk_handIn_25 : decode b_Wk_handIn 25 = .ok (.ifCond .eq 11, 3) := by decide +kernel
theorem d_Wk_handIn_28 : decode b_Wk_handIn 28 = .ok (.aload_n 0, 1) := by decide +kernel
theorem d_Wk_handIn_29 : decode b_Wk_handIn 29 = .ok (.aload_n 1, 1) := by decide +kernel
theorem d_Wk_handIn_30 : decode b_Wk_handIn 30 = .ok (.invokevirtual 106, 3) := by decide +kernel
theorem d_Wk_handIn_33 : decode b_Wk_handIn 33 = .ok (.goto 4, 3) := by decide +kernel
theorem d_Wk_handIn_36 : decode b_Wk_handIn 36 = .ok (.iconst 0, 1) := by decide +kernel
theorem d_Wk_handIn_37 : decode b_Wk_handIn 37 = .ok (.istore 4, 2) := by decide +kernel
theorem d_Wk_handIn_39 : decode b_Wk_handIn 39 = .ok (.aload_n 2, 1) := by decide +kernel
theorem d_Wk_handIn_40 : decode b_Wk_handIn 40 = .ok (.ifnull 39, 3) := by decide +kernel
theorem d_Wk_handIn_43 : decode b_Wk_handIn 43 = .ok (.aload_n 2, 1) := by decide +kernel
theorem d_Wk_handIn_44 : decode b_Wk_handIn 44 = .ok (.aload_n 0, 1) := by decide +kernel
theorem d_Wk_handIn_45 : decode b_Wk_handIn 45 = .ok (.getfield 29, 3) := by decide +kernel
theorem d_Wk_handIn_48 : decode b_Wk_handIn 48 = .ok (.aload_n 0, 1) := by decide +kernel
theorem d_Wk_handIn_49 : decode b_Wk_handIn 49 = .ok (.getfield 51, 3) := by decide +kernel
theorem d_Wk_handIn_52 : decode b_Wk_handIn 52 = .ok (.aload_n 0, 1) := by decide +kernel
theorem d_Wk_handIn_53 : decode b_Wk_handIn 53 = .ok (.getfield 54, 3) := by decide +kernel
theorem d_Wk_handIn_56 : decode b_Wk_handIn 56 = .ok (.iload 4, 2) := by decide +kernel
theorem d_Wk_handIn_58 : decode b_Wk_handIn 58 = .ok (.aload_n 0, 1) := by decide +kernel
theorem d_Wk_handIn_59 : decode b_Wk_handIn 59 = .ok (.getfield 29, 3) := by decide +kernel
theorem d_Wk_handIn_62 : decode b_Wk_handIn 62 = .ok (.iconst 3, 1) := by decide +kernel
theorem d_Wk_handIn_63 : decode b_Wk_handIn 63 = .ok (.if_icmp .ne 7, 3) := by decide +kernel
theorem d_Wk_handIn_66 : decode b_Wk_handIn 66 = .ok (.lconst 0, 1) := by decide +kernel
theorem d_Wk_handIn_67 : decode b_Wk_handIn 67 = .ok (.goto 9, 3) := by decide +kernel
theorem d_Wk_handIn_70 : decode b_Wk_handIn 70 = .ok (.aload_n 0, 1) := by decide +kernel
theorem d_Wk_handIn_71 : decode b_Wk_handIn 71 = .ok (.getfield 9, 3) := by decide +kernel
theorem d_Wk_handIn_74 : decode b_Wk_handIn 74 = .ok (.iconst 0, 1) := by decide +kernel
theorem d_Wk_handIn_75 : decode b_Wk_handIn 75 = .ok (.laload, 1) := by decide +kernel
theorem d_Wk_handIn_76 : decode b_Wk_handIn 76 = .ok (.invokevirtual 110, 3) := by decide +kernel
theorem d_Wk_handIn_79 : decode b_Wk_handIn 79 = .ok (.iload_n 3, 1) := by decide +kernel
theorem d_Wk_handIn_80 : decode b_Wk_handIn 80 = .ok (.ireturn, 1) := by decide +kernel
theorem d_Wk_storeInto_0 : decode b_Wk_storeInto 0 = .ok (.iconst 0, 1) := by decide +kernel
theorem d_Wk_storeInto_1 : decode b_Wk_storeInto 1 = .ok (.istore_n 2, 1) := by decide +kernel
theorem d_Wk_storeInto_2 : decode b_Wk_storeInto 2 = .ok (.iload_n 2, 1) := by decide +kernel
theorem d_Wk_storeInto_3 : decode b_Wk_storeInto 3 = .ok (.aload_n 0, 1) := by decide +kernel
theorem d_Wk_storeInto_4 : decode b_Wk_storeInto 4 = .ok (.getfield 22, 3) := by decide +kernel
theorem d_Wk_storeInto_7 : decode b_Wk_storeInto 7 = .ok (.invokevirtual 99, 3) := by decide +kernel
theorem d_Wk_storeInto_10 : decode b_Wk_storeInto 10 = .ok (.if_icmp .ge 29, 3) := by decide +kernel
theorem d_Wk_storeInto_13 : decode b_Wk_storeInto 13 = .ok (.aload_n 0, 1) := by decide +kernel
theorem d_Wk_storeInto_14 : decode b_Wk_storeInto 14 = .ok (.getfield 22, 3) := by decide +kernel
theorem d_Wk_storeInto_17 : decode b_Wk_storeInto 17 = .ok (.iload_n 2, 1) := by decide +kernel
theorem d_Wk_storeInto_18 : decode b_Wk_storeInto 18 = .ok (.invokevirtual 103, 3) := by decide +kernel
theorem d_Wk_storeInto_21 : decode b_Wk_storeInto 21 = .ok (.istore_n 3, 1) := by decide +kernel
theorem d_Wk_storeInto_22 : decode b_Wk_storeInto 22 = .ok (.aload_n 1, 1) := by decide +kernel
theorem d_Wk_storeInto_23 : decode b_Wk_storeInto 23 = .ok (.iload_n 3, 1) := by decide +kernel
theorem d_Wk_storeInto_24 : decode b_Wk_storeInto 24 = .ok (.aload_n 0, 1) := by decide +kernel
theorem d_Wk_storeInto_25 : decode b_Wk_storeInto 25 = .ok (.getfield 22, 3) := by decide +kernel
theorem d_Wk_storeInto_28 : decode b_Wk_storeInto 28 = .ok (.iload_n 3, 1) := by decide +kernel
theorem d_Wk_storeInto_29 : decode b_Wk_storeInto 29 = .ok (.invokevirtual 96, 3) := by decide +kernel
theorem d_Wk_storeInto_32 : decode b_Wk_storeInto 32 = .ok (.lastore, 1) := by decide +kernel
theorem d_Wk_storeInto_33 : decode b_Wk_storeInto 33 = .ok (.iinc 2 1, 3) := by decide +kernel
theorem d_Wk_storeInto_36 : decode b_Wk_storeInto 36 = .ok (.goto (-34), 3) := by decide +kernel
theorem d_Wk_storeInto_39 : decode b_Wk_storeInto 39 = .ok (.aload_n 0, 1) := by decide +kernel
theorem d_Wk_storeInto_40 : decode b_Wk_storeInto 40 = .ok (.getfield 22, 3) := by decide +kernel
theorem d_Wk_storeInto_43 : decode b_Wk_storeInto 43 = .ok (.invokevirtual 99, 3) := by decide +kernel
theorem d_Wk_storeInto_46 : decode b_Wk_storeInto 46 = .ok (.ireturn, 1) := by decide +kernel
