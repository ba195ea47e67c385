theorem dX9_init_0 : decode cX9_init 0 = .ok (.aload_n 0, 1) := by decide +kernel
theorem dX9_init_1 : decode cX9_init 1 = .ok (.invokespecial 1, 3) := by decide +kernel
theorem dX9_init_4 : decode cX9_init 4 = .ok (.aload_n 0, 1) := by decide +kernel
theorem dX9_init_5 : decode cX9_init 5 = .ok (.bipush 64, 2) := by decide +kernel
theorem dX9_init_7 : decode cX9_init 7 = .ok (.newarray .int, 2) := by decide +kernel
theorem dX9_init_9 : decode cX9_init 9 = .ok (.putfield 7, 3) := by decide +kernel
theorem dX9_init_12 : decode cX9_init 12 = .ok (.aload_n 0, 1) := by decide +kernel
theorem dX9_init_13 : decode cX9_init 13 = .ok (.bipush 16, 2) := by decide +kernel
theorem dX9_init_15 : decode cX9_init 15 = .ok (.newarray .int, 2) := by decide +kernel
theorem dX9_init_17 : decode cX9_init 17 = .ok (.putfield 13, 3) := by decide +kernel
theorem dX9_init_20 : decode cX9_init 20 = .ok (.aload_n 0, 1) := by decide +kernel
theorem dX9_init_21 : decode cX9_init 21 = .ok (.bipush 6, 2) := by decide +kernel
theorem dX9_init_23 : decode cX9_init 23 = .ok (.newarray .int, 2) := by decide +kernel
theorem dX9_init_25 : decode cX9_init 25 = .ok (.putfield 16, 3) := by decide +kernel
theorem dX9_init_28 : decode cX9_init 28 = .ok (.aload_n 0, 1) := by decide +kernel
theorem dX9_init_29 : decode cX9_init 29 = .ok (.bipush 6, 2) := by decide +kernel
theorem dX9_init_31 : decode cX9_init 31 = .ok (.newarray .boolean, 2) := by decide +kernel
theorem dX9_init_33 : decode cX9_init 33 = .ok (.putfield 19, 3) := by decide +kernel
theorem dX9_init_36 : decode cX9_init 36 = .ok (.aload_n 0, 1) := by decide +kernel
theorem dX9_init_37 : decode cX9_init 37 = .ok (.bipush 6, 2) := by decide +kernel
theorem dX9_init_39 : decode cX9_init 39 = .ok (.newarray .boolean, 2) := by decide +kernel
theorem dX9_init_41 : decode cX9_init 41 = .ok (.putfield 23, 3) := by decide +kernel
theorem dX9_init_44 : decode cX9_init 44 = .ok (.aload_n 0, 1) := by decide +kernel
theorem dX9_init_45 : decode cX9_init 45 = .ok (.bipush 8, 2) := by decide +kernel
theorem dX9_init_47 : decode cX9_init 47 = .ok (.newarray .int, 2) := by decide +kernel
theorem dX9_init_49 : decode cX9_init 49 = .ok (.putfield 26, 3) := by decide +kernel
theorem dX9_init_52 : decode cX9_init 52 = .ok (.aload_n 0, 1) := by decide +kernel
theorem dX9_init_53 : decode cX9_init 53 = .ok (.bipush 8, 2) := by decide +kernel
theorem dX9_init_55 : decode cX9_init 55 = .ok (.newarray .int, 2) := by decide +kernel
theorem dX9_init_57 : decode cX9_init 57 = .ok (.putfield 29, 3) := by decide +kernel
theorem dX9_init_60 : decode cX9_init 60 = .ok (.aload_n 0, 1) := by decide +kernel
theorem dX9_init_61 : decode cX9_init 61 = .ok (.sipush 200, 3) := by decide +kernel
theorem dX9_init_64 : decode cX9_init 64 = .ok (.newarray .long, 2) := by decide +kernel
theorem dX9_init_66 : decode cX9_init 66 = .ok (.putfield 32, 3) := by decide +kernel
theorem dX9_init_69 : decode cX9_init 69 = .ok (.aload_n 0, 1) := by decide +kernel
theorem dX9_init_70 : decode cX9_init 70 = .ok (.sipush 200, 3) := by decide +kernel
theorem dX9_init_73 : decode cX9_init 73 = .ok (.newarray .int, 2) := by decide +kernel
theorem dX9_init_75 : decode cX9_init 75 = .ok (.putfield 36, 3) := by decide +kernel
theorem dX9_init_78 : decode cX9_init 78 = .ok (.aload_n 0, 1) := by decide +kernel
theorem dX9_init_79 : decode cX9_init 79 = .ok (.sipush 200, 3) := by decide +kernel
theorem dX9_init_82 : decode cX9_init 82 = .ok (.newarray .int, 2) := by decide +kernel
theorem dX9_init_84 : decode cX9_init 84 = .ok (.putfield 39, 3) := by decide +kernel
theorem dX9_init_87 : decode cX9_init 87 = .ok (.aload_n 0, 1) := by decide +kernel
theorem dX9_init_88 : decode cX9_init 88 = .ok (.sipush 200, 3) := by decide +kernel
theorem dX9_init_91 : decode cX9_init 91 = .ok (.newarray .long, 2) := by decide +kernel
theorem dX9_init_93 : decode cX9_init 93 = .ok (.putfield 42, 3) := by decide +kernel
theorem dX9_init_96 : decode cX9_init 96 = .ok (.aload_n 0, 1) := by decide +kernel
theorem dX9_init_97 : decode cX9_init 97 = .ok (.sipush 200, 3) := by decide +kernel
theorem dX9_init_100 : decode cX9_init 100 = .ok (.newarray .boolean, 2) := by decide +kernel
theorem dX9_init_102 : decode cX9_init 102 = .ok (.putfield 45, 3) := by decide +kernel
theorem dX9_init_105 : decode cX9_init 105 = .ok (.aload_n 0, 1) := by decide +kernel
theorem dX9_init_106 : decode cX9_init 106 = .ok (.sipush 200, 3) := by decide +kernel
theorem dX9_init_109 : decode cX9_init 109 = .ok (.newarray .boolean, 2) := by decide +kernel
theorem dX9_init_111 : decode cX9_init 111 = .ok (.putfield 48, 3) := by decide +kernel
theorem dX9_init_114 : decode cX9_init 114 = .ok (.aload_n 0, 1) := by decide +kernel
theorem dX9_init_115 : decode cX9_init 115 = .ok (.sipush 1100, 3) := by decide +kernel
theorem dX9_init_118 : decode cX9_init 118 = .ok (.newarray .long, 2) := by decide +kernel
theorem dX9_init_120 : decode cX9_init 120 = .ok (.putfield 51, 3) := by decide +kernel
theorem dX9_init_123 : decode cX9_init 123 = .ok (.aload_n 0, 1) := by decide +kernel
theorem dX9_init_124 : decode cX9_init 124 = .ok (.sipush 1100, 3) := by decide +kernel
theorem dX9_init_127 : decode cX9_init 127 = .ok (.newarray .int, 2) := by decide +kernel
theorem dX9_init_129 : decode cX9_init 129 = .ok (.putfield 54, 3) := by decide +kernel
theorem dX9_init_132 : decode cX9_init 132 = .ok (.aload_n 0, 1) := by decide +kernel
theorem dX9_init_133 : decode cX9_init 133 = .ok (.sipush 1100, 3) := by decide +kernel
theorem dX9_init_136 : decode cX9_init 136 = .ok (.newarray .int, 2) := by decide +kernel
theorem dX9_init_138 : decode cX9_init 138 = .ok (.putfield 57, 3) := by decide +kernel
theorem dX9_init_141 : decode cX9_init 141 = .ok (.aload_n 0, 1) := by decide +kernel
theorem dX9_init_142 : decode cX9_init 142 = .ok (.sipush 1100, 3) := by decide +kernel
theorem dX9_init_145 : decode cX9_init 145 = .ok (.newarray .long, 2) := by decide +kernel
theorem dX9_init_147 : decode cX9_init 147 = .ok (.putfield 60, 3) := by decide +kernel
theorem dX9_init_150 : decode cX9_init 150 = .ok (.aload_n 0, 1) := by decide +kernel
theorem dX9_init_151 : decode cX9_init 151 = .ok (.sipush 1100, 3) := by decide +kernel
theorem dX9_init_154 : decode cX9_init 154 = .ok (.newarray .int, 2) := by decide +kernel
theorem dX9_init_156 : decode cX9_init 156 = .ok (.putfield 63, 3) := by decide +kernel
theorem dX9_init_159 : decode cX9_init 159 = .ok (.aload_n 0, 1) := by decide +kernel
theorem dX9_init_160 : decode cX9_init 160 = .ok (.sipush 1100, 3) := by decide +kernel
theorem dX9_init_163 : decode cX9_init 163 = .ok (.newarray .int, 2) := by decide +kernel
theorem dX9_init_165 : decode cX9_init 165 = .ok (.putfield 66, 3) := by decide +kernel
theorem dX9_init_168 : decode cX9_init 168 = .ok (.aload_n 0, 1) := by decide +kernel
theorem dX9_init_169 : decode cX9_init 169 = .ok (.sipush 1100, 3) := by decide +kernel
theorem dX9_init_172 : decode cX9_init 172 = .ok (.newarray .int, 2) := by decide +kernel
theorem dX9_init_174 : decode cX9_init 174 = .ok (.putfield 69, 3) := by decide +kernel
theorem dX9_init_177 : decode cX9_init 177 = .ok (.aload_n 0, 1) := by decide +kernel
theorem dX9_init_178 : decode cX9_init 178 = .ok (.sipush 1100, 3) := by decide +kernel
theorem dX9_init_181 : decode cX9_init 181 = .ok (.newarray .boolean, 2) := by decide +kernel
theorem dX9_init_183 : decode cX9_init 183 = .ok (.putfield 72, 3) := by decide +kernel
theorem dX9_init_186 : decode cX9_init 186 = .ok (.aload_n 0, 1) := by decide +kernel
theorem dX9_init_187 : decode cX9_init 187 = .ok (.bipush 100, 2) := by decide +kernel
theorem dX9_init_189 : decode cX9_init 189 = .ok (.newarray .long, 2) := by decide +kernel
theorem dX9_init_191 : decode cX9_init 191 = .ok (.putfield 75, 3) := by decide +kernel
theorem dX9_init_194 : decode cX9_init 194 = .ok (.aload_n 0, 1) := by decide +kernel
theorem dX9_init_195 : decode cX9_init 195 = .ok (.iconst 3, 1) := by decide +kernel
theorem dX9_init_196 : decode cX9_init 196 = .ok (.newarray .long, 2) := by decide +kernel
theorem dX9_init_198 : decode cX9_init 198 = .ok (.putfield 78, 3) := by decide +kernel
theorem dX9_init_201 : decode cX9_init 201 = .ok (.iconst 0, 1) := by decide +kernel
theorem dX9_init_202 : decode cX9_init 202 = .ok (.istore_n 1, 1) := by decide +kernel
theorem dX9_init_203 : decode cX9_init 203 = .ok (.iload_n 1, 1) := by decide +kernel
theorem dX9_init_204 : decode cX9_init 204 = .ok (.bipush 8, 2) := by decide +kernel
theorem dX9_init_206 : decode cX9_init 206 = .ok (.if_icmp .ge 16, 3) := by decide +kernel
theorem dX9_init_209 : decode cX9_init 209 = .ok (.aload_n 0, 1) := by decide +kernel
theorem dX9_init_210 : decode cX9_init 210 = .ok (.getfield 26, 3) := by decide +kernel
theorem dX9_init_213 : decode cX9_init 213 = .ok (.iload_n 1, 1) := by decide +kernel
theorem dX9_init_214 : decode cX9_init 214 = .ok (.iconst (-1), 1) := by decide +kernel
theorem dX9_init_215 : decode cX9_init 215 = .ok (.iastore, 1) := by decide +kernel
theorem dX9_init_216 : decode cX9_init 216 = .ok (.iinc 1 1, 3) := by decide +kernel
theorem dX9_init_219 : decode cX9_init 219 = .ok (.goto (-16), 3) := by decide +kernel
theorem dX9_init_222 : decode cX9_init 222 = .ok (.return_, 1) := by decide +kernel
theorem dX9_thrown_0 : decode cX9_thrown 0 = .ok (.aload_n 0, 1) := by decide +kernel
theorem dX9_thrown_1 : decode cX9_thrown 1 = .ok (.getfield 81, 3) := by decide +kernel
theorem dX9_thrown_4 : decode cX9_thrown 4 = .ok (.ireturn, 1) := by decide +kernel
theorem dX9_isIn_0 : decode cX9_isIn 0 = .ok (.lload_n 0, 1) := by decide +kernel
theorem dX9_isIn_1 : decode cX9_isIn 1 = .ok (.lconst 0, 1) := by decide +kernel
theorem dX9_isIn_2 : decode cX9_isIn 2 = .ok (.lcmp, 1) := by decide +kernel
theorem dX9_isIn_3 : decode cX9_isIn 3 = .ok (.ifCond .lt 13, 3) := by decide +kernel
theorem dX9_isIn_6 : decode cX9_isIn 6 = .ok (.lload_n 0, 1) := by decide +kernel
theorem dX9_isIn_7 : decode cX9_isIn 7 = .ok (.lload_n 2, 1) := by decide +kernel
theorem dX9_isIn_8 : decode cX9_isIn 8 = .ok (.lcmp, 1) := by decide +kernel
theorem dX9_isIn_9 : decode cX9_isIn 9 = .ok (.ifCond .gt 7, 3) := by decide +kernel
theorem dX9_isIn_12 : decode cX9_isIn 12 = .ok (.iconst 1, 1) := by decide +kernel
theorem dX9_isIn_13 : decode cX9_isIn 13 = .ok (.goto 4, 3) := by decide +kernel
theorem dX9_isIn_16 : decode cX9_isIn 16 = .ok (.iconst 0, 1) := by decide +kernel
theorem dX9_isIn_17 : decode cX9_isIn 17 = .ok (.ireturn, 1) := by decide +kernel
set_option maxRecDepth 20000 in
theorem ggX9_width_X9_isIn : GoodIn wsX9_width wsX9_isIn := goodIn_r _ [8] (by decide +kernel) (by decide +kernel)
set_option maxRecDepth 20000 in
theorem gX9_width_X9_isIn : GoodIn wsX9_width (va_wsS RX9 87 yX9_isIn wsX9_isIn) := goodIn_app (goodIn_of _ (by decide +kernel)) ggX9_width_X9_isIn
theorem dX9_width_0 : decode cX9_width 0 = .ok (.aload_n 0, 1) := by decide +kernel
theorem dX9_width_1 : decode cX9_width 1 = .ok (.iconst 0, 1) := by decide +kernel
theorem dX9_width_2 : decode cX9_width 2 = .ok (.putfield 81, 3) := by decide +kernel
theorem dX9_width_5 : decode cX9_width 5 = .ok (.iload_n 1, 1) := by decide +kernel
theorem dX9_width_6 : decode cX9_width 6 = .ok (.i2l, 1) := by decide +kernel
theorem dX9_width_7 : decode cX9_width 7 = .ok (.ldc2_w 85, 3) := by decide +kernel
theorem dX9_width_10 : decode cX9_width 10 = .ok (.invokestatic 87, 3) := by decide +kernel
theorem dX9_width_13 : decode cX9_width 13 = .ok (.ifCond .eq 14, 3) := by decide +kernel
theorem dX9_width_16 : decode cX9_width 16 = .ok (.iload_n 2, 1) := by decide +kernel
theorem dX9_width_17 : decode cX9_width 17 = .ok (.i2l, 1) := by decide +kernel
theorem dX9_width_18 : decode cX9_width 18 = .ok (.ldc2_w 91, 3) := by decide +kernel
theorem dX9_width_21 : decode cX9_width 21 = .ok (.invokestatic 87, 3) := by decide +kernel
theorem dX9_width_24 : decode cX9_width 24 = .ok (.ifCond .ne 5, 3) := by decide +kernel
theorem dX9_width_27 : decode cX9_width 27 = .ok (.iconst 0, 1) := by decide +kernel
theorem dX9_width_28 : decode cX9_width 28 = .ok (.ireturn, 1) := by decide +kernel
theorem dX9_width_29 : decode cX9_width 29 = .ok (.aload_n 0, 1) := by decide +kernel
theorem dX9_width_30 : decode cX9_width 30 = .ok (.getfield 7, 3) := by decide +kernel
theorem dX9_width_33 : decode cX9_width 33 = .ok (.iload_n 1, 1) := by decide +kernel
theorem dX9_width_34 : decode cX9_width 34 = .ok (.iload_n 2, 1) := by decide +kernel
theorem dX9_width_35 : decode cX9_width 35 = .ok (.iastore, 1) := by decide +kernel
theorem dX9_width_36 : decode cX9_width 36 = .ok (.iconst 1, 1) := by decide +kernel
theorem dX9_width_37 : decode cX9_width 37 = .ok (.ireturn, 1) := by decide +kernel
theorem dX9_size_0 : decode cX9_size 0 = .ok (.iconst 0, 1) := by decide +kernel
theorem dX9_size_1 : decode cX9_size 1 = .ok (.istore_n 1, 1) := by decide +kernel
theorem dX9_size_2 : decode cX9_size 2 = .ok (.iload_n 1, 1) := by decide +kernel
theorem dX9_size_3 : decode cX9_size 3 = .ok (.bipush 64, 2) := by decide +kernel
theorem dX9_size_5 : decode cX9_size 5 = .ok (.if_icmp .ge 18, 3) := by decide +kernel
theorem dX9_size_8 : decode cX9_size 8 = .ok (.aload_n 0, 1) := by decide +kernel
theorem dX9_size_9 : decode cX9_size 9 = .ok (.getfield 7, 3) := by decide +kernel
theorem dX9_size_12 : decode cX9_size 12 = .ok (.iload_n 1, 1) := by decide +kernel
theorem dX9_size_13 : decode cX9_size 13 = .ok (.iaload, 1) := by decide +kernel
theorem dX9_size_14 : decode cX9_size 14 = .ok (.ifCond .le 9, 3) := by decide +kernel
theorem dX9_size_17 : decode cX9_size 17 = .ok (.iinc 1 1, 3) := by decide +kernel
theorem dX9_size_20 : decode cX9_size 20 = .ok (.goto (-18), 3) := by decide +kernel
theorem dX9_size_23 : decode cX9_size 23 = .ok (.iload_n 1, 1) := by decide +kernel
theorem dX9_size_24 : decode cX9_size 24 = .ok (.ireturn, 1) := by decide +kernel
set_option maxRecDepth 20000 in
theorem ggX9_at_X9_size : GoodIn wsX9_at wsX9_size := goodIn_r _ [6, 1, 7, 8, 9, 10, 11, 12, 13, 14, 15, 16, 17, 18, 19, 20, 21, 22, 23, 24, 25, 26, 27, 28, 29, 30, 31, 32, 33, 34, 35, 36, 37, 38] (by decide +kernel) (by decide +kernel)
set_option maxRecDepth 20000 in
theorem gX9_at_X9_size : GoodIn wsX9_at (wsV RX9 93 RX9 yX9_size wsX9_size) := goodIn_app (goodIn_of _ (by decide +kernel)) ggX9_at_X9_size
theorem dX9_at_0 : decode cX9_at 0 = .ok (.aload_n 0, 1) := by decide +kernel
theorem dX9_at_1 : decode cX9_at 1 = .ok (.getfield 7, 3) := by decide +kernel
theorem dX9_at_4 : decode cX9_at 4 = .ok (.iload_n 2, 1) := by decide +kernel
theorem dX9_at_5 : decode cX9_at 5 = .ok (.ifCond .eq 14, 3) := by decide +kernel
theorem dX9_at_8 : decode cX9_at 8 = .ok (.aload_n 0, 1) := by decide +kernel
theorem dX9_at_9 : decode cX9_at 9 = .ok (.invokevirtual 93, 3) := by decide +kernel
theorem dX9_at_12 : decode cX9_at 12 = .ok (.iconst 1, 1) := by decide +kernel
theorem dX9_at_13 : decode cX9_at 13 = .ok (.isub, 1) := by decide +kernel
theorem dX9_at_14 : decode cX9_at 14 = .ok (.iload_n 1, 1) := by decide +kernel
theorem dX9_at_15 : decode cX9_at 15 = .ok (.isub, 1) := by decide +kernel
theorem dX9_at_16 : decode cX9_at 16 = .ok (.goto 4, 3) := by decide +kernel
theorem dX9_at_19 : decode cX9_at 19 = .ok (.iload_n 1, 1) := by decide +kernel
theorem dX9_at_20 : decode cX9_at 20 = .ok (.iaload, 1) := by decide +kernel
theorem dX9_at_21 : decode cX9_at 21 = .ok (.ireturn, 1) := by decide +kernel
theorem dX9_pattern_0 : decode cX9_pattern 0 = .ok (.iconst 0, 1) := by decide +kernel
theorem dX9_pattern_1 : decode cX9_pattern 1 = .ok (.istore_n 2, 1) := by decide +kernel
theorem dX9_pattern_2 : decode cX9_pattern 2 = .ok (.iload_n 0, 1) := by decide +kernel
theorem dX9_pattern_3 : decode cX9_pattern 3 = .ok (.tableswitch 112 0 8 #[49, 56, 63, 70, 77, 84, 91, 98, 105], 49) := by decide +kernel
theorem dX9_pattern_52 : decode cX9_pattern 52 = .ok (.sipush 3211, 3) := by decide +kernel
theorem dX9_pattern_55 : decode cX9_pattern 55 = .ok (.istore_n 2, 1) := by decide +kernel
theorem dX9_pattern_56 : decode cX9_pattern 56 = .ok (.goto 63, 3) := by decide +kernel
theorem dX9_pattern_59 : decode cX9_pattern 59 = .ok (.sipush 2221, 3) := by decide +kernel
theorem dX9_pattern_62 : decode cX9_pattern 62 = .ok (.istore_n 2, 1) := by decide +kernel
theorem dX9_pattern_63 : decode cX9_pattern 63 = .ok (.goto 56, 3) := by decide +kernel
theorem dX9_pattern_66 : decode cX9_pattern 66 = .ok (.sipush 2122, 3) := by decide +kernel
theorem dX9_pattern_69 : decode cX9_pattern 69 = .ok (.istore_n 2, 1) := by decide +kernel
theorem dX9_pattern_70 : decode cX9_pattern 70 = .ok (.goto 49, 3) := by decide +kernel
theorem dX9_pattern_73 : decode cX9_pattern 73 = .ok (.sipush 1411, 3) := by decide +kernel
theorem dX9_pattern_76 : decode cX9_pattern 76 = .ok (.istore_n 2, 1) := by decide +kernel
theorem dX9_pattern_77 : decode cX9_pattern 77 = .ok (.goto 42, 3) := by decide +kernel
theorem dX9_pattern_80 : decode cX9_pattern 80 = .ok (.sipush 1132, 3) := by decide +kernel
theorem dX9_pattern_83 : decode cX9_pattern 83 = .ok (.istore_n 2, 1) := by decide +kernel
theorem dX9_pattern_84 : decode cX9_pattern 84 = .ok (.goto 35, 3) := by decide +kernel
theorem dX9_pattern_87 : decode cX9_pattern 87 = .ok (.sipush 1231, 3) := by decide +kernel
theorem dX9_pattern_90 : decode cX9_pattern 90 = .ok (.istore_n 2, 1) := by decide +kernel
theorem dX9_pattern_91 : decode cX9_pattern 91 = .ok (.goto 28, 3) := by decide +kernel
theorem dX9_pattern_94 : decode cX9_pattern 94 = .ok (.sipush 1114, 3) := by decide +kernel
theorem dX9_pattern_97 : decode cX9_pattern 97 = .ok (.istore_n 2, 1) := by decide +kernel
theorem dX9_pattern_98 : decode cX9_pattern 98 = .ok (.goto 21, 3) := by decide +kernel
theorem dX9_pattern_101 : decode cX9_pattern 101 = .ok (.sipush 1312, 3) := by decide +kernel
theorem dX9_pattern_104 : decode cX9_pattern 104 = .ok (.istore_n 2, 1) := by decide +kernel
theorem dX9_pattern_105 : decode cX9_pattern 105 = .ok (.goto 14, 3) := by decide +kernel
theorem dX9_pattern_108 : decode cX9_pattern 108 = .ok (.sipush 1213, 3) := by decide +kernel
theorem dX9_pattern_111 : decode cX9_pattern 111 = .ok (.istore_n 2, 1) := by decide +kernel
theorem dX9_pattern_112 : decode cX9_pattern 112 = .ok (.goto 7, 3) := by decide +kernel
theorem dX9_pattern_115 : decode cX9_pattern 115 = .ok (.sipush 3112, 3) := by decide +kernel
theorem dX9_pattern_118 : decode cX9_pattern 118 = .ok (.istore_n 2, 1) := by decide +kernel
theorem dX9_pattern_119 : decode cX9_pattern 119 = .ok (.iconst 3, 1) := by decide +kernel
theorem dX9_pattern_120 : decode cX9_pattern 120 = .ok (.istore_n 3, 1) := by decide +kernel
theorem dX9_pattern_121 : decode cX9_pattern 121 = .ok (.iload_n 3, 1) := by decide +kernel
theorem dX9_pattern_122 : decode cX9_pattern 122 = .ok (.iload_n 1, 1) := by decide +kernel
theorem dX9_pattern_123 : decode cX9_pattern 123 = .ok (.if_icmp .le 14, 3) := by decide +kernel
theorem dX9_pattern_126 : decode cX9_pattern 126 = .ok (.iload_n 2, 1) := by decide +kernel
theorem dX9_pattern_127 : decode cX9_pattern 127 = .ok (.bipush 10, 2) := by decide +kernel
theorem dX9_pattern_129 : decode cX9_pattern 129 = .ok (.idiv, 1) := by decide +kernel
theorem dX9_pattern_130 : decode cX9_pattern 130 = .ok (.istore_n 2, 1) := by decide +kernel
theorem dX9_pattern_131 : decode cX9_pattern 131 = .ok (.iinc 3 (-1), 3) := by decide +kernel
theorem dX9_pattern_134 : decode cX9_pattern 134 = .ok (.goto (-13), 3) := by decide +kernel
theorem dX9_pattern_137 : decode cX9_pattern 137 = .ok (.iload_n 2, 1) := by decide +kernel
theorem dX9_pattern_138 : decode cX9_pattern 138 = .ok (.bipush 10, 2) := by decide +kernel
theorem dX9_pattern_140 : decode cX9_pattern 140 = .ok (.irem, 1) := by decide +kernel
theorem dX9_pattern_141 : decode cX9_pattern 141 = .ok (.ireturn, 1) := by decide +kernel
set_option maxRecDepth 20000 in
theorem ggX9_digitAt_X9_at : GoodIn wsX9_digitAt wsX9_at := goodIn_r _ [5, 6, 7, 8, 9, 4, 10, 14, 15, 16, 17, 18, 19, 20, 21, 22, 23, 24, 25, 26, 27, 28, 29, 30, 31, 32, 33, 34, 35, 36, 37, 38, 39, 40, 41, 42, 43, 44, 45] (by decide +kernel) (by decide +kernel)
set_option maxRecDepth 20000 in
theorem gX9_digitAt_X9_at : GoodIn wsX9_digitAt (wsV RX9 97 RX9 yX9_at wsX9_at) := goodIn_app (goodIn_of _ (by decide +kernel)) ggX9_digitAt_X9_at
set_option maxRecDepth 20000 in
theorem ggX9_digitAt_X9_pattern : GoodIn wsX9_digitAt wsX9_pattern := goodIn_r _ [13] (by decide +kernel) (by decide +kernel)
set_option maxRecDepth 20000 in
theorem gX9_digitAt_X9_pattern : GoodIn wsX9_digitAt (va_wsS RX9 101 yX9_pattern wsX9_pattern) := goodIn_app (goodIn_of _ (by decide +kernel)) ggX9_digitAt_X9_pattern
theorem dX9_digitAt_0 : decode cX9_digitAt 0 = .ok (.iconst 0, 1) := by decide +kernel
theorem dX9_digitAt_1 : decode cX9_digitAt 1 = .ok (.istore_n 3, 1) := by decide +kernel
theorem dX9_digitAt_2 : decode cX9_digitAt 2 = .ok (.iconst 0, 1) := by decide +kernel
theorem dX9_digitAt_3 : decode cX9_digitAt 3 = .ok (.istore 4, 2) := by decide +kernel
theorem dX9_digitAt_5 : decode cX9_digitAt 5 = .ok (.iload 4, 2) := by decide +kernel
theorem dX9_digitAt_7 : decode cX9_digitAt 7 = .ok (.iconst 4, 1) := by decide +kernel
theorem dX9_digitAt_8 : decode cX9_digitAt 8 = .ok (.if_icmp .ge 21, 3) := by decide +kernel
theorem dX9_digitAt_11 : decode cX9_digitAt 11 = .ok (.iload_n 3, 1) := by decide +kernel
theorem dX9_digitAt_12 : decode cX9_digitAt 12 = .ok (.aload_n 0, 1) := by decide +kernel
theorem dX9_digitAt_13 : decode cX9_digitAt 13 = .ok (.iload_n 1, 1) := by decide +kernel
theorem dX9_digitAt_14 : decode cX9_digitAt 14 = .ok (.iload 4, 2) := by decide +kernel
theorem dX9_digitAt_16 : decode cX9_digitAt 16 = .ok (.iadd, 1) := by decide +kernel
theorem dX9_digitAt_17 : decode cX9_digitAt 17 = .ok (.iload_n 2, 1) := by decide +kernel
theorem dX9_digitAt_18 : decode cX9_digitAt 18 = .ok (.invokevirtual 97, 3) := by decide +kernel
theorem dX9_digitAt_21 : decode cX9_digitAt 21 = .ok (.iadd, 1) := by decide +kernel
theorem dX9_digitAt_22 : decode cX9_digitAt 22 = .ok (.istore_n 3, 1) := by decide +kernel
theorem dX9_digitAt_23 : decode cX9_digitAt 23 = .ok (.iinc 4 1, 3) := by decide +kernel
theorem dX9_digitAt_26 : decode cX9_digitAt 26 = .ok (.goto (-21), 3) := by decide +kernel
theorem dX9_digitAt_29 : decode cX9_digitAt 29 = .ok (.iconst (-1), 1) := by decide +kernel
theorem dX9_digitAt_30 : decode cX9_digitAt 30 = .ok (.istore 4, 2) := by decide +kernel
theorem dX9_digitAt_32 : decode cX9_digitAt 32 = .ok (.iconst 0, 1) := by decide +kernel
theorem dX9_digitAt_33 : decode cX9_digitAt 33 = .ok (.istore 5, 2) := by decide +kernel
theorem dX9_digitAt_35 : decode cX9_digitAt 35 = .ok (.iload 5, 2) := by decide +kernel
theorem dX9_digitAt_37 : decode cX9_digitAt 37 = .ok (.bipush 10, 2) := by decide +kernel
theorem dX9_digitAt_39 : decode cX9_digitAt 39 = .ok (.if_icmp .ge 77, 3) := by decide +kernel
theorem dX9_digitAt_42 : decode cX9_digitAt 42 = .ok (.iconst 1, 1) := by decide +kernel
theorem dX9_digitAt_43 : decode cX9_digitAt 43 = .ok (.istore 6, 2) := by decide +kernel
theorem dX9_digitAt_45 : decode cX9_digitAt 45 = .ok (.iconst 0, 1) := by decide +kernel
theorem dX9_digitAt_46 : decode cX9_digitAt 46 = .ok (.istore 7, 2) := by decide +kernel
theorem dX9_digitAt_48 : decode cX9_digitAt 48 = .ok (.iload 7, 2) := by decide +kernel
theorem dX9_digitAt_50 : decode cX9_digitAt 50 = .ok (.iconst 4, 1) := by decide +kernel
theorem dX9_digitAt_51 : decode cX9_digitAt 51 = .ok (.if_icmp .ge 45, 3) := by decide +kernel
theorem dX9_digitAt_54 : decode cX9_digitAt 54 = .ok (.iload 6, 2) := by decide +kernel
theorem dX9_digitAt_56 : decode cX9_digitAt 56 = .ok (.ifCond .eq 31, 3) := by decide +kernel
theorem dX9_digitAt_59 : decode cX9_digitAt 59 = .ok (.bipush 7, 2) := by decide +kernel
theorem dX9_digitAt_61 : decode cX9_digitAt 61 = .ok (.aload_n 0, 1) := by decide +kernel
theorem dX9_digitAt_62 : decode cX9_digitAt 62 = .ok (.iload_n 1, 1) := by decide +kernel
theorem dX9_digitAt_63 : decode cX9_digitAt 63 = .ok (.iload 7, 2) := by decide +kernel
theorem dX9_digitAt_65 : decode cX9_digitAt 65 = .ok (.iadd, 1) := by decide +kernel
theorem dX9_digitAt_66 : decode cX9_digitAt 66 = .ok (.iload_n 2, 1) := by decide +kernel
theorem dX9_digitAt_67 : decode cX9_digitAt 67 = .ok (.invokevirtual 97, 3) := by decide +kernel
theorem dX9_digitAt_70 : decode cX9_digitAt 70 = .ok (.imul, 1) := by decide +kernel
theorem dX9_digitAt_71 : decode cX9_digitAt 71 = .ok (.iload_n 3, 1) := by decide +kernel
theorem dX9_digitAt_72 : decode cX9_digitAt 72 = .ok (.iload 5, 2) := by decide +kernel
theorem dX9_digitAt_74 : decode cX9_digitAt 74 = .ok (.iload 7, 2) := by decide +kernel
theorem dX9_digitAt_76 : decode cX9_digitAt 76 = .ok (.invokestatic 101, 3) := by decide +kernel
theorem dX9_digitAt_79 : decode cX9_digitAt 79 = .ok (.imul, 1) := by decide +kernel
theorem dX9_digitAt_80 : decode cX9_digitAt 80 = .ok (.if_icmp .ne 7, 3) := by decide +kernel
theorem dX9_digitAt_83 : decode cX9_digitAt 83 = .ok (.iconst 1, 1) := by decide +kernel
theorem dX9_digitAt_84 : decode cX9_digitAt 84 = .ok (.goto 4, 3) := by decide +kernel
theorem dX9_digitAt_87 : decode cX9_digitAt 87 = .ok (.iconst 0, 1) := by decide +kernel
theorem dX9_digitAt_88 : decode cX9_digitAt 88 = .ok (.istore 6, 2) := by decide +kernel
theorem dX9_digitAt_90 : decode cX9_digitAt 90 = .ok (.iinc 7 1, 3) := by decide +kernel
theorem dX9_digitAt_93 : decode cX9_digitAt 93 = .ok (.goto (-45), 3) := by decide +kernel
theorem dX9_digitAt_96 : decode cX9_digitAt 96 = .ok (.iload 6, 2) := by decide +kernel
theorem dX9_digitAt_98 : decode cX9_digitAt 98 = .ok (.ifCond .eq 8, 3) := by decide +kernel
theorem dX9_digitAt_101 : decode cX9_digitAt 101 = .ok (.iload 5, 2) := by decide +kernel
theorem dX9_digitAt_103 : decode cX9_digitAt 103 = .ok (.goto 5, 3) := by decide +kernel
theorem dX9_digitAt_106 : decode cX9_digitAt 106 = .ok (.iload 4, 2) := by decide +kernel
theorem dX9_digitAt_108 : decode cX9_digitAt 108 = .ok (.istore 4, 2) := by decide +kernel
theorem dX9_digitAt_110 : decode cX9_digitAt 110 = .ok (.iinc 5 1, 3) := by decide +kernel
theorem dX9_digitAt_113 : decode cX9_digitAt 113 = .ok (.goto (-78), 3) := by decide +kernel
theorem dX9_digitAt_116 : decode cX9_digitAt 116 = .ok (.iload 4, 2) := by decide +kernel
theorem dX9_digitAt_118 : decode cX9_digitAt 118 = .ok (.ireturn, 1) := by decide +kernel
set_option maxRecDepth 20000 in
theorem ggX9_readSo_X9_size : GoodIn wsX9_readSo wsX9_size := goodIn_r _ [7, 8, 20, 21, 22, 23, 24, 25, 26, 27, 28, 29, 30, 31, 32, 33, 34, 35, 36, 37, 38, 39, 40, 41, 42, 43, 44, 45, 46, 47, 48, 49, 50, 51] (by decide +kernel) (by decide +kernel)
set_option maxRecDepth 20000 in
theorem gX9_readSo_X9_size : GoodIn wsX9_readSo (wsV RX9 93 RX9 yX9_size wsX9_size) := goodIn_app (goodIn_of _ (by decide +kernel)) ggX9_readSo_X9_size
set_option maxRecDepth 20000 in
theorem ggX9_readSo_X9_at : GoodIn wsX9_readSo wsX9_at := goodIn_r _ [12, 8, 3, 4, 5, 6, 7, 20, 21, 22, 23, 24, 25, 26, 27, 28, 29, 30, 31, 32, 33, 34, 35, 36, 37, 38, 39, 40, 41, 42, 43, 44, 45, 46, 47, 48, 49, 50, 51] (by decide +kernel) (by decide +kernel)
set_option maxRecDepth 20000 in
theorem gX9_readSo_X9_at : GoodIn wsX9_readSo (wsV RX9 97 RX9 yX9_at wsX9_at) := goodIn_app (goodIn_of _ (by decide +kernel)) ggX9_readSo_X9_at
set_option maxRecDepth 20000 in
theorem ggX9_readSo_X9_digitAt : GoodIn wsX9_readSo wsX9_digitAt := goodIn_r _ [16, 9, 10, 11, 6, 12, 8, 3, 4, 5, 7, 17, 18, 19, 20, 21, 22, 23, 24, 25, 26, 27, 28, 29, 30, 31, 32, 33, 34, 35, 36, 37, 38, 39, 40, 41, 42, 43, 44, 45, 46, 47, 48, 49, 50, 51] (by decide +kernel) (by decide +kernel)
set_option maxRecDepth 20000 in
theorem gX9_readSo_X9_digitAt : GoodIn wsX9_readSo (wsV RX9 108 RX9 yX9_digitAt wsX9_digitAt) := goodIn_app (goodIn_of _ (by decide +kernel)) ggX9_readSo_X9_digitAt
theorem dX9_readSo_0 : decode cX9_readSo 0 = .ok (.aload_n 0, 1) := by decide +kernel
theorem dX9_readSo_1 : decode cX9_readSo 1 = .ok (.invokevirtual 93, 3) := by decide +kernel
theorem dX9_readSo_4 : decode cX9_readSo 4 = .ok (.istore_n 2, 1) := by decide +kernel
theorem dX9_readSo_5 : decode cX9_readSo 5 = .ok (.aload_n 0, 1) := by decide +kernel
theorem dX9_readSo_6 : decode cX9_readSo 6 = .ok (.iconst 0, 1) := by decide +kernel
theorem dX9_readSo_7 : decode cX9_readSo 7 = .ok (.putfield 105, 3) := by decide +kernel
theorem dX9_readSo_10 : decode cX9_readSo 10 = .ok (.iload_n 2, 1) := by decide +kernel
theorem dX9_readSo_11 : decode cX9_readSo 11 = .ok (.bipush 10, 2) := by decide +kernel
theorem dX9_readSo_13 : decode cX9_readSo 13 = .ok (.if_icmp .lt 12, 3) := by decide +kernel
theorem dX9_readSo_16 : decode cX9_readSo 16 = .ok (.iload_n 2, 1) := by decide +kernel
theorem dX9_readSo_17 : decode cX9_readSo 17 = .ok (.bipush 6, 2) := by decide +kernel
theorem dX9_readSo_19 : decode cX9_readSo 19 = .ok (.isub, 1) := by decide +kernel
theorem dX9_readSo_20 : decode cX9_readSo 20 = .ok (.iconst 4, 1) := by decide +kernel
theorem dX9_readSo_21 : decode cX9_readSo 21 = .ok (.irem, 1) := by decide +kernel
theorem dX9_readSo_22 : decode cX9_readSo 22 = .ok (.ifCond .eq 5, 3) := by decide +kernel
theorem dX9_readSo_25 : decode cX9_readSo 25 = .ok (.iconst 0, 1) := by decide +kernel
theorem dX9_readSo_26 : decode cX9_readSo 26 = .ok (.ireturn, 1) := by decide +kernel
theorem dX9_readSo_27 : decode cX9_readSo 27 = .ok (.aload_n 0, 1) := by decide +kernel
theorem dX9_readSo_28 : decode cX9_readSo 28 = .ok (.iconst 0, 1) := by decide +kernel
theorem dX9_readSo_29 : decode cX9_readSo 29 = .ok (.iload_n 1, 1) := by decide +kernel
theorem dX9_readSo_30 : decode cX9_readSo 30 = .ok (.invokevirtual 97, 3) := by decide +kernel
theorem dX9_readSo_33 : decode cX9_readSo 33 = .ok (.aload_n 0, 1) := by decide +kernel
theorem dX9_readSo_34 : decode cX9_readSo 34 = .ok (.iconst 1, 1) := by decide +kernel
theorem dX9_readSo_35 : decode cX9_readSo 35 = .ok (.iload_n 1, 1) := by decide +kernel
theorem dX9_readSo_36 : decode cX9_readSo 36 = .ok (.invokevirtual 97, 3) := by decide +kernel
theorem dX9_readSo_39 : decode cX9_readSo 39 = .ok (.if_icmp .ne 60, 3) := by decide +kernel
theorem dX9_readSo_42 : decode cX9_readSo 42 = .ok (.aload_n 0, 1) := by decide +kernel
theorem dX9_readSo_43 : decode cX9_readSo 43 = .ok (.iconst 1, 1) := by decide +kernel
theorem dX9_readSo_44 : decode cX9_readSo 44 = .ok (.iload_n 1, 1) := by decide +kernel
theorem dX9_readSo_45 : decode cX9_readSo 45 = .ok (.invokevirtual 97, 3) := by decide +kernel
theorem dX9_readSo_48 : decode cX9_readSo 48 = .ok (.aload_n 0, 1) := by decide +kernel
theorem dX9_readSo_49 : decode cX9_readSo 49 = .ok (.iconst 2, 1) := by decide +kernel
theorem dX9_readSo_50 : decode cX9_readSo 50 = .ok (.iload_n 1, 1) := by decide +kernel
theorem dX9_readSo_51 : decode cX9_readSo 51 = .ok (.invokevirtual 97, 3) := by decide +kernel
theorem dX9_readSo_54 : decode cX9_readSo 54 = .ok (.if_icmp .ne 45, 3) := by decide +kernel
theorem dX9_readSo_57 : decode cX9_readSo 57 = .ok (.aload_n 0, 1) := by decide +kernel
theorem dX9_readSo_58 : decode cX9_readSo 58 = .ok (.iload_n 2, 1) := by decide +kernel
theorem dX9_readSo_59 : decode cX9_readSo 59 = .ok (.iconst 1, 1) := by decide +kernel
theorem dX9_readSo_60 : decode cX9_readSo 60 = .ok (.isub, 1) := by decide +kernel
theorem dX9_readSo_61 : decode cX9_readSo 61 = .ok (.iload_n 1, 1) := by decide +kernel
theorem dX9_readSo_62 : decode cX9_readSo 62 = .ok (.invokevirtual 97, 3) := by decide +kernel
theorem dX9_readSo_65 : decode cX9_readSo 65 = .ok (.aload_n 0, 1) := by decide +kernel
theorem dX9_readSo_66 : decode cX9_readSo 66 = .ok (.iload_n 2, 1) := by decide +kernel
theorem dX9_readSo_67 : decode cX9_readSo 67 = .ok (.iconst 2, 1) := by decide +kernel
theorem dX9_readSo_68 : decode cX9_readSo 68 = .ok (.isub, 1) := by decide +kernel
theorem dX9_readSo_69 : decode cX9_readSo 69 = .ok (.iload_n 1, 1) := by decide +kernel
theorem dX9_readSo_70 : decode cX9_readSo 70 = .ok (.invokevirtual 97, 3) := by decide +kernel
theorem dX9_readSo_73 : decode cX9_readSo 73 = .ok (.if_icmp .ne 26, 3) := by decide +kernel
theorem dX9_readSo_76 : decode cX9_readSo 76 = .ok (.aload_n 0, 1) := by decide +kernel
theorem dX9_readSo_77 : decode cX9_readSo 77 = .ok (.iload_n 2, 1) := by decide +kernel
theorem dX9_readSo_78 : decode cX9_readSo 78 = .ok (.iconst 2, 1) := by decide +kernel
theorem dX9_readSo_79 : decode cX9_readSo 79 = .ok (.isub, 1) := by decide +kernel
theorem dX9_readSo_80 : decode cX9_readSo 80 = .ok (.iload_n 1, 1) := by decide +kernel
theorem dX9_readSo_81 : decode cX9_readSo 81 = .ok (.invokevirtual 97, 3) := by decide +kernel
theorem dX9_readSo_84 : decode cX9_readSo 84 = .ok (.aload_n 0, 1) := by decide +kernel
theorem dX9_readSo_85 : decode cX9_readSo 85 = .ok (.iload_n 2, 1) := by decide +kernel
theorem dX9_readSo_86 : decode cX9_readSo 86 = .ok (.iconst 3, 1) := by decide +kernel
theorem dX9_readSo_87 : decode cX9_readSo 87 = .ok (.isub, 1) := by decide +kernel
theorem dX9_readSo_88 : decode cX9_readSo 88 = .ok (.iload_n 1, 1) := by decide +kernel
theorem dX9_readSo_89 : decode cX9_readSo 89 = .ok (.invokevirtual 97, 3) := by decide +kernel
theorem dX9_readSo_92 : decode cX9_readSo 92 = .ok (.if_icmp .ne 7, 3) := by decide +kernel
theorem dX9_readSo_95 : decode cX9_readSo 95 = .ok (.iconst 1, 1) := by decide +kernel
theorem dX9_readSo_96 : decode cX9_readSo 96 = .ok (.goto 4, 3) := by decide +kernel
theorem dX9_readSo_99 : decode cX9_readSo 99 = .ok (.iconst 0, 1) := by decide +kernel
theorem dX9_readSo_100 : decode cX9_readSo 100 = .ok (.istore_n 3, 1) := by decide +kernel
theorem dX9_readSo_101 : decode cX9_readSo 101 = .ok (.iload_n 2, 1) := by decide +kernel
theorem dX9_readSo_102 : decode cX9_readSo 102 = .ok (.bipush 6, 2) := by decide +kernel
theorem dX9_readSo_104 : decode cX9_readSo 104 = .ok (.isub, 1) := by decide +kernel
theorem dX9_readSo_105 : decode cX9_readSo 105 = .ok (.iconst 4, 1) := by decide +kernel
theorem dX9_readSo_106 : decode cX9_readSo 106 = .ok (.idiv, 1) := by decide +kernel
theorem dX9_readSo_107 : decode cX9_readSo 107 = .ok (.istore 4, 2) := by decide +kernel
theorem dX9_readSo_109 : decode cX9_readSo 109 = .ok (.iconst 0, 1) := by decide +kernel
theorem dX9_readSo_110 : decode cX9_readSo 110 = .ok (.istore 5, 2) := by decide +kernel
theorem dX9_readSo_112 : decode cX9_readSo 112 = .ok (.iload 5, 2) := by decide +kernel
theorem dX9_readSo_114 : decode cX9_readSo 114 = .ok (.iload 4, 2) := by decide +kernel
theorem dX9_readSo_116 : decode cX9_readSo 116 = .ok (.if_icmp .ge 47, 3) := by decide +kernel
theorem dX9_readSo_119 : decode cX9_readSo 119 = .ok (.iload_n 3, 1) := by decide +kernel
theorem dX9_readSo_120 : decode cX9_readSo 120 = .ok (.ifCond .eq 43, 3) := by decide +kernel
theorem dX9_readSo_123 : decode cX9_readSo 123 = .ok (.aload_n 0, 1) := by decide +kernel
theorem dX9_readSo_124 : decode cX9_readSo 124 = .ok (.getfield 13, 3) := by decide +kernel
theorem dX9_readSo_127 : decode cX9_readSo 127 = .ok (.iload 5, 2) := by decide +kernel
theorem dX9_readSo_129 : decode cX9_readSo 129 = .ok (.aload_n 0, 1) := by decide +kernel
theorem dX9_readSo_130 : decode cX9_readSo 130 = .ok (.iconst 3, 1) := by decide +kernel
theorem dX9_readSo_131 : decode cX9_readSo 131 = .ok (.iconst 4, 1) := by decide +kernel
theorem dX9_readSo_132 : decode cX9_readSo 132 = .ok (.iload 5, 2) := by decide +kernel
theorem dX9_readSo_134 : decode cX9_readSo 134 = .ok (.imul, 1) := by decide +kernel
theorem dX9_readSo_135 : decode cX9_readSo 135 = .ok (.iadd, 1) := by decide +kernel
theorem dX9_readSo_136 : decode cX9_readSo 136 = .ok (.iload_n 1, 1) := by decide +kernel
theorem dX9_readSo_137 : decode cX9_readSo 137 = .ok (.invokevirtual 108, 3) := by decide +kernel
theorem dX9_readSo_140 : decode cX9_readSo 140 = .ok (.iastore, 1) := by decide +kernel
theorem dX9_readSo_141 : decode cX9_readSo 141 = .ok (.aload_n 0, 1) := by decide +kernel
theorem dX9_readSo_142 : decode cX9_readSo 142 = .ok (.getfield 13, 3) := by decide +kernel
theorem dX9_readSo_145 : decode cX9_readSo 145 = .ok (.iload 5, 2) := by decide +kernel
theorem dX9_readSo_147 : decode cX9_readSo 147 = .ok (.iaload, 1) := by decide +kernel
theorem dX9_readSo_148 : decode cX9_readSo 148 = .ok (.ifCond .lt 7, 3) := by decide +kernel
theorem dX9_readSo_151 : decode cX9_readSo 151 = .ok (.iconst 1, 1) := by decide +kernel
theorem dX9_readSo_152 : decode cX9_readSo 152 = .ok (.goto 4, 3) := by decide +kernel
theorem dX9_readSo_155 : decode cX9_readSo 155 = .ok (.iconst 0, 1) := by decide +kernel
theorem dX9_readSo_156 : decode cX9_readSo 156 = .ok (.istore_n 3, 1) := by decide +kernel
theorem dX9_readSo_157 : decode cX9_readSo 157 = .ok (.iinc 5 1, 3) := by decide +kernel
theorem dX9_readSo_160 : decode cX9_readSo 160 = .ok (.goto (-48), 3) := by decide +kernel
theorem dX9_readSo_163 : decode cX9_readSo 163 = .ok (.aload_n 0, 1) := by decide +kernel
theorem dX9_readSo_164 : decode cX9_readSo 164 = .ok (.iload_n 3, 1) := by decide +kernel
theorem dX9_readSo_165 : decode cX9_readSo 165 = .ok (.ifCond .eq 8, 3) := by decide +kernel
theorem dX9_readSo_168 : decode cX9_readSo 168 = .ok (.iload 4, 2) := by decide +kernel
theorem dX9_readSo_170 : decode cX9_readSo 170 = .ok (.goto 4, 3) := by decide +kernel
theorem dX9_readSo_173 : decode cX9_readSo 173 = .ok (.iconst 0, 1) := by decide +kernel
theorem dX9_readSo_174 : decode cX9_readSo 174 = .ok (.putfield 105, 3) := by decide +kernel
theorem dX9_readSo_177 : decode cX9_readSo 177 = .ok (.iload_n 3, 1) := by decide +kernel
theorem dX9_readSo_178 : decode cX9_readSo 178 = .ok (.ireturn, 1) := by decide +kernel
set_option maxRecDepth 20000 in
theorem ggX9_read_X9_readSo : GoodIn wsX9_read wsX9_readSo := goodIn_r _ [7, 2, 8, 9, 10, 11, 6, 12, 13, 14, 15, 16, 17, 18, 19, 20, 21, 22, 23, 24, 25, 26, 27, 28, 29, 30, 31, 32, 33, 34, 35, 36, 37, 38, 39, 40, 41, 42, 43, 44, 45, 46, 47, 48, 49, 50, 51, 52, 53, 54, 55, 56] (by decide +kernel) (by decide +kernel)
set_option maxRecDepth 20000 in
theorem gX9_read_X9_readSo : GoodIn wsX9_read (wsV RX9 111 RX9 yX9_readSo wsX9_readSo) := goodIn_app (goodIn_of _ (by decide +kernel)) ggX9_read_X9_readSo
theorem dX9_read_0 : decode cX9_read 0 = .ok (.aload_n 0, 1) := by decide +kernel
theorem dX9_read_1 : decode cX9_read 1 = .ok (.iconst 0, 1) := by decide +kernel
theorem dX9_read_2 : decode cX9_read 2 = .ok (.putfield 81, 3) := by decide +kernel
theorem dX9_read_5 : decode cX9_read 5 = .ok (.aload_n 0, 1) := by decide +kernel
theorem dX9_read_6 : decode cX9_read 6 = .ok (.iconst 0, 1) := by decide +kernel
theorem dX9_read_7 : decode cX9_read 7 = .ok (.invokevirtual 111, 3) := by decide +kernel
theorem dX9_read_10 : decode cX9_read 10 = .ok (.ifCond .ne 11, 3) := by decide +kernel
theorem dX9_read_13 : decode cX9_read 13 = .ok (.aload_n 0, 1) := by decide +kernel
theorem dX9_read_14 : decode cX9_read 14 = .ok (.iconst 1, 1) := by decide +kernel
theorem dX9_read_15 : decode cX9_read 15 = .ok (.invokevirtual 111, 3) := by decide +kernel
theorem dX9_read_18 : decode cX9_read 18 = .ok (.ifCond .eq 10, 3) := by decide +kernel
theorem dX9_read_21 : decode cX9_read 21 = .ok (.aload_n 0, 1) := by decide +kernel
theorem dX9_read_22 : decode cX9_read 22 = .ok (.getfield 105, 3) := by decide +kernel
theorem dX9_read_25 : decode cX9_read 25 = .ok (.goto 4, 3) := by decide +kernel
theorem dX9_read_28 : decode cX9_read 28 = .ok (.iconst (-1), 1) := by decide +kernel
theorem dX9_read_29 : decode cX9_read 29 = .ok (.ireturn, 1) := by decide +kernel
set_option maxRecDepth 20000 in
theorem ggX9_back_X9_readSo : GoodIn wsX9_back wsX9_readSo := goodIn_r _ [7, 2, 8, 9, 10, 11, 6, 12, 13, 14, 15, 16, 17, 18, 19, 20, 21, 22, 23, 24, 25, 26, 27, 28, 29, 30, 31, 32, 33, 34, 35, 36, 37, 38, 39, 40, 41, 42, 43, 44, 45, 46, 47, 48, 49, 50, 51, 52, 53, 54, 55, 56] (by decide +kernel) (by decide +kernel)
set_option maxRecDepth 20000 in
theorem gX9_back_X9_readSo : GoodIn wsX9_back (wsV RX9 111 RX9 yX9_readSo wsX9_readSo) := goodIn_app (goodIn_of _ (by decide +kernel)) ggX9_back_X9_readSo
theorem dX9_back_0 : decode cX9_back 0 = .ok (.aload_n 0, 1) := by decide +kernel
theorem dX9_back_1 : decode cX9_back 1 = .ok (.iconst 0, 1) := by decide +kernel
theorem dX9_back_2 : decode cX9_back 2 = .ok (.putfield 81, 3) := by decide +kernel
theorem dX9_back_5 : decode cX9_back 5 = .ok (.aload_n 0, 1) := by decide +kernel
theorem dX9_back_6 : decode cX9_back 6 = .ok (.iconst 1, 1) := by decide +kernel
theorem dX9_back_7 : decode cX9_back 7 = .ok (.invokevirtual 111, 3) := by decide +kernel
theorem dX9_back_10 : decode cX9_back 10 = .ok (.ifCond .ne 11, 3) := by decide +kernel
theorem dX9_back_13 : decode cX9_back 13 = .ok (.aload_n 0, 1) := by decide +kernel
theorem dX9_back_14 : decode cX9_back 14 = .ok (.iconst 0, 1) := by decide +kernel
theorem dX9_back_15 : decode cX9_back 15 = .ok (.invokevirtual 111, 3) := by decide +kernel
theorem dX9_back_18 : decode cX9_back 18 = .ok (.ifCond .eq 10, 3) := by decide +kernel
theorem dX9_back_21 : decode cX9_back 21 = .ok (.aload_n 0, 1) := by decide +kernel
theorem dX9_back_22 : decode cX9_back 22 = .ok (.getfield 105, 3) := by decide +kernel
theorem dX9_back_25 : decode cX9_back 25 = .ok (.goto 4, 3) := by decide +kernel
theorem dX9_back_28 : decode cX9_back 28 = .ok (.iconst (-1), 1) := by decide +kernel
theorem dX9_back_29 : decode cX9_back 29 = .ok (.ireturn, 1) := by decide +kernel
theorem dX9_digit_0 : decode cX9_digit 0 = .ok (.aload_n 0, 1) := by decide +kernel
theorem dX9_digit_1 : decode cX9_digit 1 = .ok (.iload_n 1, 1) := by decide +kernel
theorem dX9_digit_2 : decode cX9_digit 2 = .ok (.ifCond .lt 11, 3) := by decide +kernel
theorem dX9_digit_5 : decode cX9_digit 5 = .ok (.iload_n 1, 1) := by decide +kernel
theorem dX9_digit_6 : decode cX9_digit 6 = .ok (.aload_n 0, 1) := by decide +kernel
theorem dX9_digit_7 : decode cX9_digit 7 = .ok (.getfield 105, 3) := by decide +kernel
theorem dX9_digit_10 : decode cX9_digit 10 = .ok (.if_icmp .lt 7, 3) := by decide +kernel
theorem dX9_digit_13 : decode cX9_digit 13 = .ok (.iconst 1, 1) := by decide +kernel
theorem dX9_digit_14 : decode cX9_digit 14 = .ok (.goto 4, 3) := by decide +kernel
theorem dX9_digit_17 : decode cX9_digit 17 = .ok (.iconst 0, 1) := by decide +kernel
theorem dX9_digit_18 : decode cX9_digit 18 = .ok (.putfield 81, 3) := by decide +kernel
theorem dX9_digit_21 : decode cX9_digit 21 = .ok (.aload_n 0, 1) := by decide +kernel
theorem dX9_digit_22 : decode cX9_digit 22 = .ok (.getfield 81, 3) := by decide +kernel
theorem dX9_digit_25 : decode cX9_digit 25 = .ok (.ifCond .le 7, 3) := by decide +kernel
theorem dX9_digit_28 : decode cX9_digit 28 = .ok (.iconst 0, 1) := by decide +kernel
theorem dX9_digit_29 : decode cX9_digit 29 = .ok (.goto 9, 3) := by decide +kernel
theorem dX9_digit_32 : decode cX9_digit 32 = .ok (.aload_n 0, 1) := by decide +kernel
theorem dX9_digit_33 : decode cX9_digit 33 = .ok (.getfield 13, 3) := by decide +kernel
theorem dX9_digit_36 : decode cX9_digit 36 = .ok (.iload_n 1, 1) := by decide +kernel
theorem dX9_digit_37 : decode cX9_digit 37 = .ok (.iaload, 1) := by decide +kernel
theorem dX9_digit_38 : decode cX9_digit 38 = .ok (.ireturn, 1) := by decide +kernel
theorem dX9_checkOf_0 : decode cX9_checkOf 0 = .ok (.iconst 0, 1) := by decide +kernel
theorem dX9_checkOf_1 : decode cX9_checkOf 1 = .ok (.istore_n 3, 1) := by decide +kernel
theorem dX9_checkOf_2 : decode cX9_checkOf 2 = .ok (.iconst 1, 1) := by decide +kernel
theorem dX9_checkOf_3 : decode cX9_checkOf 3 = .ok (.istore 4, 2) := by decide +kernel
theorem dX9_checkOf_5 : decode cX9_checkOf 5 = .ok (.lload_n 1, 1) := by decide +kernel
theorem dX9_checkOf_6 : decode cX9_checkOf 6 = .ok (.lstore 5, 2) := by decide +kernel
theorem dX9_checkOf_8 : decode cX9_checkOf 8 = .ok (.lload 5, 2) := by decide +kernel
theorem dX9_checkOf_10 : decode cX9_checkOf 10 = .ok (.lconst 0, 1) := by decide +kernel
theorem dX9_checkOf_11 : decode cX9_checkOf 11 = .ok (.lcmp, 1) := by decide +kernel
theorem dX9_checkOf_12 : decode cX9_checkOf 12 = .ok (.ifCond .le 86, 3) := by decide +kernel
theorem dX9_checkOf_15 : decode cX9_checkOf 15 = .ok (.lload 5, 2) := by decide +kernel
theorem dX9_checkOf_17 : decode cX9_checkOf 17 = .ok (.ldc2_w 115, 3) := by decide +kernel
theorem dX9_checkOf_20 : decode cX9_checkOf 20 = .ok (.lrem, 1) := by decide +kernel
theorem dX9_checkOf_21 : decode cX9_checkOf 21 = .ok (.l2i, 1) := by decide +kernel
theorem dX9_checkOf_22 : decode cX9_checkOf 22 = .ok (.istore 7, 2) := by decide +kernel
theorem dX9_checkOf_24 : decode cX9_checkOf 24 = .ok (.iconst 2, 1) := by decide +kernel
theorem dX9_checkOf_25 : decode cX9_checkOf 25 = .ok (.iload 7, 2) := by decide +kernel
theorem dX9_checkOf_27 : decode cX9_checkOf 27 = .ok (.imul, 1) := by decide +kernel
theorem dX9_checkOf_28 : decode cX9_checkOf 28 = .ok (.bipush 9, 2) := by decide +kernel
theorem dX9_checkOf_30 : decode cX9_checkOf 30 = .ok (.if_icmp .le 13, 3) := by decide +kernel
theorem dX9_checkOf_33 : decode cX9_checkOf 33 = .ok (.iconst 2, 1) := by decide +kernel
theorem dX9_checkOf_34 : decode cX9_checkOf 34 = .ok (.iload 7, 2) := by decide +kernel
theorem dX9_checkOf_36 : decode cX9_checkOf 36 = .ok (.imul, 1) := by decide +kernel
theorem dX9_checkOf_37 : decode cX9_checkOf 37 = .ok (.bipush 9, 2) := by decide +kernel
theorem dX9_checkOf_39 : decode cX9_checkOf 39 = .ok (.isub, 1) := by decide +kernel
theorem dX9_checkOf_40 : decode cX9_checkOf 40 = .ok (.goto 7, 3) := by decide +kernel
theorem dX9_checkOf_43 : decode cX9_checkOf 43 = .ok (.iconst 2, 1) := by decide +kernel
theorem dX9_checkOf_44 : decode cX9_checkOf 44 = .ok (.iload 7, 2) := by decide +kernel
theorem dX9_checkOf_46 : decode cX9_checkOf 46 = .ok (.imul, 1) := by decide +kernel
theorem dX9_checkOf_47 : decode cX9_checkOf 47 = .ok (.istore 8, 2) := by decide +kernel
theorem dX9_checkOf_49 : decode cX9_checkOf 49 = .ok (.iload_n 3, 1) := by decide +kernel
theorem dX9_checkOf_50 : decode cX9_checkOf 50 = .ok (.iload 4, 2) := by decide +kernel
theorem dX9_checkOf_52 : decode cX9_checkOf 52 = .ok (.ifCond .ne 8, 3) := by decide +kernel
theorem dX9_checkOf_55 : decode cX9_checkOf 55 = .ok (.iload 7, 2) := by decide +kernel
theorem dX9_checkOf_57 : decode cX9_checkOf 57 = .ok (.goto 16, 3) := by decide +kernel
theorem dX9_checkOf_60 : decode cX9_checkOf 60 = .ok (.iload_n 0, 1) := by decide +kernel
theorem dX9_checkOf_61 : decode cX9_checkOf 61 = .ok (.ifCond .ne 10, 3) := by decide +kernel
theorem dX9_checkOf_64 : decode cX9_checkOf 64 = .ok (.iconst 3, 1) := by decide +kernel
theorem dX9_checkOf_65 : decode cX9_checkOf 65 = .ok (.iload 7, 2) := by decide +kernel
theorem dX9_checkOf_67 : decode cX9_checkOf 67 = .ok (.imul, 1) := by decide +kernel
theorem dX9_checkOf_68 : decode cX9_checkOf 68 = .ok (.goto 5, 3) := by decide +kernel
theorem dX9_checkOf_71 : decode cX9_checkOf 71 = .ok (.iload 8, 2) := by decide +kernel
theorem dX9_checkOf_73 : decode cX9_checkOf 73 = .ok (.iadd, 1) := by decide +kernel
theorem dX9_checkOf_74 : decode cX9_checkOf 74 = .ok (.istore_n 3, 1) := by decide +kernel
theorem dX9_checkOf_75 : decode cX9_checkOf 75 = .ok (.iload 4, 2) := by decide +kernel
theorem dX9_checkOf_77 : decode cX9_checkOf 77 = .ok (.ifCond .ne 7, 3) := by decide +kernel
theorem dX9_checkOf_80 : decode cX9_checkOf 80 = .ok (.iconst 1, 1) := by decide +kernel
theorem dX9_checkOf_81 : decode cX9_checkOf 81 = .ok (.goto 4, 3) := by decide +kernel
theorem dX9_checkOf_84 : decode cX9_checkOf 84 = .ok (.iconst 0, 1) := by decide +kernel
theorem dX9_checkOf_85 : decode cX9_checkOf 85 = .ok (.istore 4, 2) := by decide +kernel
theorem dX9_checkOf_87 : decode cX9_checkOf 87 = .ok (.lload 5, 2) := by decide +kernel
theorem dX9_checkOf_89 : decode cX9_checkOf 89 = .ok (.ldc2_w 115, 3) := by decide +kernel
theorem dX9_checkOf_92 : decode cX9_checkOf 92 = .ok (.ldiv, 1) := by decide +kernel
theorem dX9_checkOf_93 : decode cX9_checkOf 93 = .ok (.lstore 5, 2) := by decide +kernel
theorem dX9_checkOf_95 : decode cX9_checkOf 95 = .ok (.goto (-87), 3) := by decide +kernel
theorem dX9_checkOf_98 : decode cX9_checkOf 98 = .ok (.bipush 10, 2) := by decide +kernel
theorem dX9_checkOf_100 : decode cX9_checkOf 100 = .ok (.iload_n 3, 1) := by decide +kernel
theorem dX9_checkOf_101 : decode cX9_checkOf 101 = .ok (.bipush 10, 2) := by decide +kernel
theorem dX9_checkOf_103 : decode cX9_checkOf 103 = .ok (.irem, 1) := by decide +kernel
theorem dX9_checkOf_104 : decode cX9_checkOf 104 = .ok (.isub, 1) := by decide +kernel
theorem dX9_checkOf_105 : decode cX9_checkOf 105 = .ok (.bipush 10, 2) := by decide +kernel
theorem dX9_checkOf_107 : decode cX9_checkOf 107 = .ok (.irem, 1) := by decide +kernel
theorem dX9_checkOf_108 : decode cX9_checkOf 108 = .ok (.ireturn, 1) := by decide +kernel
set_option maxRecDepth 20000 in
theorem ggX9_check_X9_isIn : GoodIn wsX9_check wsX9_isIn := goodIn_r _ [6] (by decide +kernel) (by decide +kernel)
set_option maxRecDepth 20000 in
theorem gX9_check_X9_isIn : GoodIn wsX9_check (va_wsS RX9 87 yX9_isIn wsX9_isIn) := goodIn_app (goodIn_of _ (by decide +kernel)) ggX9_check_X9_isIn
set_option maxRecDepth 20000 in
theorem ggX9_check_X9_checkOf : GoodIn wsX9_check wsX9_checkOf := goodIn_r _ [9, 10] (by decide +kernel) (by decide +kernel)
set_option maxRecDepth 20000 in
theorem gX9_check_X9_checkOf : GoodIn wsX9_check (va_wsS RX9 119 yX9_checkOf wsX9_checkOf) := goodIn_app (goodIn_of _ (by decide +kernel)) ggX9_check_X9_checkOf
theorem dX9_check_0 : decode cX9_check 0 = .ok (.aload_n 0, 1) := by decide +kernel
theorem dX9_check_1 : decode cX9_check 1 = .ok (.iconst 0, 1) := by decide +kernel
theorem dX9_check_2 : decode cX9_check 2 = .ok (.putfield 81, 3) := by decide +kernel
theorem dX9_check_5 : decode cX9_check 5 = .ok (.iload_n 1, 1) := by decide +kernel
theorem dX9_check_6 : decode cX9_check 6 = .ok (.i2l, 1) := by decide +kernel
theorem dX9_check_7 : decode cX9_check 7 = .ok (.lconst 1, 1) := by decide +kernel
theorem dX9_check_8 : decode cX9_check 8 = .ok (.invokestatic 87, 3) := by decide +kernel
theorem dX9_check_11 : decode cX9_check 11 = .ok (.ifCond .eq 21, 3) := by decide +kernel
theorem dX9_check_14 : decode cX9_check 14 = .ok (.lload_n 2, 1) := by decide +kernel
theorem dX9_check_15 : decode cX9_check 15 = .ok (.ldc2_w 117, 3) := by decide +kernel
theorem dX9_check_18 : decode cX9_check 18 = .ok (.invokestatic 87, 3) := by decide +kernel
theorem dX9_check_21 : decode cX9_check 21 = .ok (.ifCond .eq 11, 3) := by decide +kernel
theorem dX9_check_24 : decode cX9_check 24 = .ok (.iload_n 1, 1) := by decide +kernel
theorem dX9_check_25 : decode cX9_check 25 = .ok (.lload_n 2, 1) := by decide +kernel
theorem dX9_check_26 : decode cX9_check 26 = .ok (.invokestatic 119, 3) := by decide +kernel
theorem dX9_check_29 : decode cX9_check 29 = .ok (.goto 4, 3) := by decide +kernel
theorem dX9_check_32 : decode cX9_check 32 = .ok (.iconst (-1), 1) := by decide +kernel
theorem dX9_check_33 : decode cX9_check 33 = .ok (.ireturn, 1) := by decide +kernel
set_option maxRecDepth 20000 in
theorem ggX9_good_X9_isIn : GoodIn wsX9_good wsX9_isIn := goodIn_r _ [7] (by decide +kernel) (by decide +kernel)
set_option maxRecDepth 20000 in
theorem gX9_good_X9_isIn : GoodIn wsX9_good (va_wsS RX9 87 yX9_isIn wsX9_isIn) := goodIn_app (goodIn_of _ (by decide +kernel)) ggX9_good_X9_isIn
set_option maxRecDepth 20000 in
theorem ggX9_good_X9_checkOf : GoodIn wsX9_good wsX9_checkOf := goodIn_r _ [10, 3] (by decide +kernel) (by decide +kernel)
set_option maxRecDepth 20000 in
theorem gX9_good_X9_checkOf : GoodIn wsX9_good (va_wsS RX9 119 yX9_checkOf wsX9_checkOf) := goodIn_app (goodIn_of _ (by decide +kernel)) ggX9_good_X9_checkOf
theorem dX9_good_0 : decode cX9_good 0 = .ok (.aload_n 0, 1) := by decide +kernel
theorem dX9_good_1 : decode cX9_good 1 = .ok (.iconst 0, 1) := by decide +kernel
theorem dX9_good_2 : decode cX9_good 2 = .ok (.putfield 81, 3) := by decide +kernel
theorem dX9_good_5 : decode cX9_good 5 = .ok (.iload_n 1, 1) := by decide +kernel
theorem dX9_good_6 : decode cX9_good 6 = .ok (.i2l, 1) := by decide +kernel
theorem dX9_good_7 : decode cX9_good 7 = .ok (.lconst 1, 1) := by decide +kernel
theorem dX9_good_8 : decode cX9_good 8 = .ok (.invokestatic 87, 3) := by decide +kernel
theorem dX9_good_11 : decode cX9_good 11 = .ok (.ifCond .eq 36, 3) := by decide +kernel
theorem dX9_good_14 : decode cX9_good 14 = .ok (.lload_n 2, 1) := by decide +kernel
theorem dX9_good_15 : decode cX9_good 15 = .ok (.ldc2_w 117, 3) := by decide +kernel
theorem dX9_good_18 : decode cX9_good 18 = .ok (.invokestatic 87, 3) := by decide +kernel
theorem dX9_good_21 : decode cX9_good 21 = .ok (.ifCond .eq 26, 3) := by decide +kernel
theorem dX9_good_24 : decode cX9_good 24 = .ok (.lload_n 2, 1) := by decide +kernel
theorem dX9_good_25 : decode cX9_good 25 = .ok (.ldc2_w 115, 3) := by decide +kernel
theorem dX9_good_28 : decode cX9_good 28 = .ok (.lrem, 1) := by decide +kernel
theorem dX9_good_29 : decode cX9_good 29 = .ok (.iload_n 1, 1) := by decide +kernel
theorem dX9_good_30 : decode cX9_good 30 = .ok (.lload_n 2, 1) := by decide +kernel
theorem dX9_good_31 : decode cX9_good 31 = .ok (.ldc2_w 115, 3) := by decide +kernel
theorem dX9_good_34 : decode cX9_good 34 = .ok (.ldiv, 1) := by decide +kernel
theorem dX9_good_35 : decode cX9_good 35 = .ok (.invokestatic 119, 3) := by decide +kernel
theorem dX9_good_38 : decode cX9_good 38 = .ok (.i2l, 1) := by decide +kernel
theorem dX9_good_39 : decode cX9_good 39 = .ok (.lcmp, 1) := by decide +kernel
theorem dX9_good_40 : decode cX9_good 40 = .ok (.ifCond .ne 7, 3) := by decide +kernel
theorem dX9_good_43 : decode cX9_good 43 = .ok (.iconst 1, 1) := by decide +kernel
theorem dX9_good_44 : decode cX9_good 44 = .ok (.goto 4, 3) := by decide +kernel
theorem dX9_good_47 : decode cX9_good 47 = .ok (.iconst 0, 1) := by decide +kernel
theorem dX9_good_48 : decode cX9_good 48 = .ok (.ireturn, 1) := by decide +kernel
set_option maxRecDepth 20000 in
theorem ggX9_mark_X9_isIn : GoodIn wsX9_mark wsX9_isIn := goodIn_r _ [10] (by decide +kernel) (by decide +kernel)
set_option maxRecDepth 20000 in
theorem gX9_mark_X9_isIn : GoodIn wsX9_mark (va_wsS RX9 87 yX9_isIn wsX9_isIn) := goodIn_app (goodIn_of _ (by decide +kernel)) ggX9_mark_X9_isIn
theorem dX9_mark_0 : decode cX9_mark 0 = .ok (.aload_n 0, 1) := by decide +kernel
theorem dX9_mark_1 : decode cX9_mark 1 = .ok (.iconst 0, 1) := by decide +kernel
theorem dX9_mark_2 : decode cX9_mark 2 = .ok (.putfield 81, 3) := by decide +kernel
theorem dX9_mark_5 : decode cX9_mark 5 = .ok (.lload_n 1, 1) := by decide +kernel
theorem dX9_mark_6 : decode cX9_mark 6 = .ok (.ldc2_w 117, 3) := by decide +kernel
theorem dX9_mark_9 : decode cX9_mark 9 = .ok (.invokestatic 87, 3) := by decide +kernel
theorem dX9_mark_12 : decode cX9_mark 12 = .ok (.ifCond .eq 24, 3) := by decide +kernel
theorem dX9_mark_15 : decode cX9_mark 15 = .ok (.lload_n 3, 1) := by decide +kernel
theorem dX9_mark_16 : decode cX9_mark 16 = .ok (.ldc2_w 117, 3) := by decide +kernel
theorem dX9_mark_19 : decode cX9_mark 19 = .ok (.invokestatic 87, 3) := by decide +kernel
theorem dX9_mark_22 : decode cX9_mark 22 = .ok (.ifCond .eq 14, 3) := by decide +kernel
theorem dX9_mark_25 : decode cX9_mark 25 = .ok (.lload 5, 2) := by decide +kernel
theorem dX9_mark_27 : decode cX9_mark 27 = .ok (.ldc2_w 117, 3) := by decide +kernel
theorem dX9_mark_30 : decode cX9_mark 30 = .ok (.invokestatic 87, 3) := by decide +kernel
theorem dX9_mark_33 : decode cX9_mark 33 = .ok (.ifCond .ne 5, 3) := by decide +kernel
theorem dX9_mark_36 : decode cX9_mark 36 = .ok (.iconst 0, 1) := by decide +kernel
theorem dX9_mark_37 : decode cX9_mark 37 = .ok (.ireturn, 1) := by decide +kernel
theorem dX9_mark_38 : decode cX9_mark 38 = .ok (.lload_n 1, 1) := by decide +kernel
theorem dX9_mark_39 : decode cX9_mark 39 = .ok (.ldc2_w 123, 3) := by decide +kernel
theorem dX9_mark_42 : decode cX9_mark 42 = .ok (.lrem, 1) := by decide +kernel
theorem dX9_mark_43 : decode cX9_mark 43 = .ok (.lstore 7, 2) := by decide +kernel
theorem dX9_mark_45 : decode cX9_mark 45 = .ok (.lload_n 3, 1) := by decide +kernel
theorem dX9_mark_46 : decode cX9_mark 46 = .ok (.ldc2_w 123, 3) := by decide +kernel
theorem dX9_mark_49 : decode cX9_mark 49 = .ok (.lrem, 1) := by decide +kernel
theorem dX9_mark_50 : decode cX9_mark 50 = .ok (.lstore 9, 2) := by decide +kernel
theorem dX9_mark_52 : decode cX9_mark 52 = .ok (.lload 7, 2) := by decide +kernel
theorem dX9_mark_54 : decode cX9_mark 54 = .ok (.ldc2_w 125, 3) := by decide +kernel
theorem dX9_mark_57 : decode cX9_mark 57 = .ok (.lload 9, 2) := by decide +kernel
theorem dX9_mark_59 : decode cX9_mark 59 = .ok (.lmul, 1) := by decide +kernel
theorem dX9_mark_60 : decode cX9_mark 60 = .ok (.ladd, 1) := by decide +kernel
theorem dX9_mark_61 : decode cX9_mark 61 = .ok (.lload 7, 2) := by decide +kernel
theorem dX9_mark_63 : decode cX9_mark 63 = .ok (.ldc2_w 127, 3) := by decide +kernel
theorem dX9_mark_66 : decode cX9_mark 66 = .ok (.lload 9, 2) := by decide +kernel
theorem dX9_mark_68 : decode cX9_mark 68 = .ok (.lmul, 1) := by decide +kernel
theorem dX9_mark_69 : decode cX9_mark 69 = .ok (.ladd, 1) := by decide +kernel
theorem dX9_mark_70 : decode cX9_mark 70 = .ok (.lconst 1, 1) := by decide +kernel
theorem dX9_mark_71 : decode cX9_mark 71 = .ok (.ladd, 1) := by decide +kernel
theorem dX9_mark_72 : decode cX9_mark 72 = .ok (.lmul, 1) := by decide +kernel
theorem dX9_mark_73 : decode cX9_mark 73 = .ok (.ldc2_w 129, 3) := by decide +kernel
theorem dX9_mark_76 : decode cX9_mark 76 = .ok (.lrem, 1) := by decide +kernel
theorem dX9_mark_77 : decode cX9_mark 77 = .ok (.lload 5, 2) := by decide +kernel
theorem dX9_mark_79 : decode cX9_mark 79 = .ok (.lcmp, 1) := by decide +kernel
theorem dX9_mark_80 : decode cX9_mark 80 = .ok (.ifCond .ne 7, 3) := by decide +kernel
theorem dX9_mark_83 : decode cX9_mark 83 = .ok (.iconst 1, 1) := by decide +kernel
theorem dX9_mark_84 : decode cX9_mark 84 = .ok (.goto 4, 3) := by decide +kernel
theorem dX9_mark_87 : decode cX9_mark 87 = .ok (.iconst 0, 1) := by decide +kernel
theorem dX9_mark_88 : decode cX9_mark 88 = .ok (.ireturn, 1) := by decide +kernel
theorem dX9_isMachine_0 : decode cX9_isMachine 0 = .ok (.aload_n 0, 1) := by decide +kernel
theorem dX9_isMachine_1 : decode cX9_isMachine 1 = .ok (.iconst 0, 1) := by decide +kernel
theorem dX9_isMachine_2 : decode cX9_isMachine 2 = .ok (.putfield 81, 3) := by decide +kernel
theorem dX9_isMachine_5 : decode cX9_isMachine 5 = .ok (.iload_n 1, 1) := by decide +kernel
theorem dX9_isMachine_6 : decode cX9_isMachine 6 = .ok (.ifCond .lt 15, 3) := by decide +kernel
theorem dX9_isMachine_9 : decode cX9_isMachine 9 = .ok (.iload_n 1, 1) := by decide +kernel
theorem dX9_isMachine_10 : decode cX9_isMachine 10 = .ok (.aload_n 0, 1) := by decide +kernel
theorem dX9_isMachine_11 : decode cX9_isMachine 11 = .ok (.getfield 131, 3) := by decide +kernel
theorem dX9_isMachine_14 : decode cX9_isMachine 14 = .ok (.if_icmp .ge 7, 3) := by decide +kernel
theorem dX9_isMachine_17 : decode cX9_isMachine 17 = .ok (.iconst 1, 1) := by decide +kernel
theorem dX9_isMachine_18 : decode cX9_isMachine 18 = .ok (.goto 4, 3) := by decide +kernel
theorem dX9_isMachine_21 : decode cX9_isMachine 21 = .ok (.iconst 0, 1) := by decide +kernel
theorem dX9_isMachine_22 : decode cX9_isMachine 22 = .ok (.ireturn, 1) := by decide +kernel
theorem dX9_machine_0 : decode cX9_machine 0 = .ok (.aload_n 0, 1) := by decide +kernel
theorem dX9_machine_1 : decode cX9_machine 1 = .ok (.iconst 0, 1) := by decide +kernel
theorem dX9_machine_2 : decode cX9_machine 2 = .ok (.putfield 81, 3) := by decide +kernel
theorem dX9_machine_5 : decode cX9_machine 5 = .ok (.aload_n 0, 1) := by decide +kernel
theorem dX9_machine_6 : decode cX9_machine 6 = .ok (.getfield 131, 3) := by decide +kernel
theorem dX9_machine_9 : decode cX9_machine 9 = .ok (.bipush 6, 2) := by decide +kernel
theorem dX9_machine_11 : decode cX9_machine 11 = .ok (.if_icmp .ne 5, 3) := by decide +kernel
theorem dX9_machine_14 : decode cX9_machine 14 = .ok (.iconst (-1), 1) := by decide +kernel
theorem dX9_machine_15 : decode cX9_machine 15 = .ok (.ireturn, 1) := by decide +kernel
theorem dX9_machine_16 : decode cX9_machine 16 = .ok (.aload_n 0, 1) := by decide +kernel
theorem dX9_machine_17 : decode cX9_machine 17 = .ok (.getfield 16, 3) := by decide +kernel
theorem dX9_machine_20 : decode cX9_machine 20 = .ok (.aload_n 0, 1) := by decide +kernel
theorem dX9_machine_21 : decode cX9_machine 21 = .ok (.getfield 131, 3) := by decide +kernel
theorem dX9_machine_24 : decode cX9_machine 24 = .ok (.aload_n 0, 1) := by decide +kernel
theorem dX9_machine_25 : decode cX9_machine 25 = .ok (.getfield 131, 3) := by decide +kernel
theorem dX9_machine_28 : decode cX9_machine 28 = .ok (.iastore, 1) := by decide +kernel
theorem dX9_machine_29 : decode cX9_machine 29 = .ok (.aload_n 0, 1) := by decide +kernel
theorem dX9_machine_30 : decode cX9_machine 30 = .ok (.dup, 1) := by decide +kernel
theorem dX9_machine_31 : decode cX9_machine 31 = .ok (.getfield 131, 3) := by decide +kernel
theorem dX9_machine_34 : decode cX9_machine 34 = .ok (.iconst 1, 1) := by decide +kernel
theorem dX9_machine_35 : decode cX9_machine 35 = .ok (.iadd, 1) := by decide +kernel
theorem dX9_machine_36 : decode cX9_machine 36 = .ok (.putfield 131, 3) := by decide +kernel
theorem dX9_machine_39 : decode cX9_machine 39 = .ok (.aload_n 0, 1) := by decide +kernel
theorem dX9_machine_40 : decode cX9_machine 40 = .ok (.getfield 131, 3) := by decide +kernel
theorem dX9_machine_43 : decode cX9_machine 43 = .ok (.iconst 1, 1) := by decide +kernel
theorem dX9_machine_44 : decode cX9_machine 44 = .ok (.isub, 1) := by decide +kernel
theorem dX9_machine_45 : decode cX9_machine 45 = .ok (.ireturn, 1) := by decide +kernel
set_option maxRecDepth 20000 in
theorem ggX9_shape_X9_isIn : GoodIn wsX9_shape wsX9_isIn := goodIn_r _ [9] (by decide +kernel) (by decide +kernel)
set_option maxRecDepth 20000 in
theorem gX9_shape_X9_isIn : GoodIn wsX9_shape (va_wsS RX9 87 yX9_isIn wsX9_isIn) := goodIn_app (goodIn_of _ (by decide +kernel)) ggX9_shape_X9_isIn
theorem dX9_shape_0 : decode cX9_shape 0 = .ok (.aload_n 0, 1) := by decide +kernel
theorem dX9_shape_1 : decode cX9_shape 1 = .ok (.iconst 0, 1) := by decide +kernel
theorem dX9_shape_2 : decode cX9_shape 2 = .ok (.putfield 81, 3) := by decide +kernel
theorem dX9_shape_5 : decode cX9_shape 5 = .ok (.iload_n 1, 1) := by decide +kernel
theorem dX9_shape_6 : decode cX9_shape 6 = .ok (.i2l, 1) := by decide +kernel
theorem dX9_shape_7 : decode cX9_shape 7 = .ok (.ldc2_w 125, 3) := by decide +kernel
theorem dX9_shape_10 : decode cX9_shape 10 = .ok (.invokestatic 87, 3) := by decide +kernel
theorem dX9_shape_13 : decode cX9_shape 13 = .ok (.ifCond .eq 30, 3) := by decide +kernel
theorem dX9_shape_16 : decode cX9_shape 16 = .ok (.iload_n 2, 1) := by decide +kernel
theorem dX9_shape_17 : decode cX9_shape 17 = .ok (.i2l, 1) := by decide +kernel
theorem dX9_shape_18 : decode cX9_shape 18 = .ok (.ldc2_w 134, 3) := by decide +kernel
theorem dX9_shape_21 : decode cX9_shape 21 = .ok (.invokestatic 87, 3) := by decide +kernel
theorem dX9_shape_24 : decode cX9_shape 24 = .ok (.ifCond .eq 19, 3) := by decide +kernel
theorem dX9_shape_27 : decode cX9_shape 27 = .ok (.iload_n 3, 1) := by decide +kernel
theorem dX9_shape_28 : decode cX9_shape 28 = .ok (.i2l, 1) := by decide +kernel
theorem dX9_shape_29 : decode cX9_shape 29 = .ok (.ldc2_w 134, 3) := by decide +kernel
theorem dX9_shape_32 : decode cX9_shape 32 = .ok (.invokestatic 87, 3) := by decide +kernel
theorem dX9_shape_35 : decode cX9_shape 35 = .ok (.ifCond .eq 8, 3) := by decide +kernel
theorem dX9_shape_38 : decode cX9_shape 38 = .ok (.iload_n 2, 1) := by decide +kernel
theorem dX9_shape_39 : decode cX9_shape 39 = .ok (.iload_n 3, 1) := by decide +kernel
theorem dX9_shape_40 : decode cX9_shape 40 = .ok (.if_icmp .le 5, 3) := by decide +kernel
theorem dX9_shape_43 : decode cX9_shape 43 = .ok (.iconst 0, 1) := by decide +kernel
theorem dX9_shape_44 : decode cX9_shape 44 = .ok (.ireturn, 1) := by decide +kernel
theorem dX9_shape_45 : decode cX9_shape 45 = .ok (.aload_n 0, 1) := by decide +kernel
theorem dX9_shape_46 : decode cX9_shape 46 = .ok (.getfield 26, 3) := by decide +kernel
theorem dX9_shape_49 : decode cX9_shape 49 = .ok (.iload_n 1, 1) := by decide +kernel
theorem dX9_shape_50 : decode cX9_shape 50 = .ok (.iload_n 2, 1) := by decide +kernel
theorem dX9_shape_51 : decode cX9_shape 51 = .ok (.iastore, 1) := by decide +kernel
theorem dX9_shape_52 : decode cX9_shape 52 = .ok (.aload_n 0, 1) := by decide +kernel
theorem dX9_shape_53 : decode cX9_shape 53 = .ok (.getfield 29, 3) := by decide +kernel
theorem dX9_shape_56 : decode cX9_shape 56 = .ok (.iload_n 1, 1) := by decide +kernel
theorem dX9_shape_57 : decode cX9_shape 57 = .ok (.iload_n 3, 1) := by decide +kernel
theorem dX9_shape_58 : decode cX9_shape 58 = .ok (.iastore, 1) := by decide +kernel
theorem dX9_shape_59 : decode cX9_shape 59 = .ok (.iconst 1, 1) := by decide +kernel
theorem dX9_shape_60 : decode cX9_shape 60 = .ok (.ireturn, 1) := by decide +kernel
set_option maxRecDepth 20000 in
theorem ggX9_full_X9_isMachine : GoodIn wsX9_full wsX9_isMachine := goodIn_r _ [6, 7, 8, 9, 10, 11, 12, 13, 14, 15, 16, 17, 18, 19, 20, 21, 22, 23, 24, 25, 26, 27, 28, 29, 30, 31, 32, 33, 34, 35, 36, 37, 38, 39, 40] (by decide +kernel) (by decide +kernel)
set_option maxRecDepth 20000 in
theorem gX9_full_X9_isMachine : GoodIn wsX9_full (wsV RX9 136 RX9 yX9_isMachine wsX9_isMachine) := goodIn_app (goodIn_of _ (by decide +kernel)) ggX9_full_X9_isMachine
theorem dX9_full_0 : decode cX9_full 0 = .ok (.aload_n 0, 1) := by decide +kernel
theorem dX9_full_1 : decode cX9_full 1 = .ok (.iload_n 1, 1) := by decide +kernel
theorem dX9_full_2 : decode cX9_full 2 = .ok (.invokevirtual 136, 3) := by decide +kernel
theorem dX9_full_5 : decode cX9_full 5 = .ok (.ifCond .ne 5, 3) := by decide +kernel
theorem dX9_full_8 : decode cX9_full 8 = .ok (.iconst 0, 1) := by decide +kernel
theorem dX9_full_9 : decode cX9_full 9 = .ok (.ireturn, 1) := by decide +kernel
theorem dX9_full_10 : decode cX9_full 10 = .ok (.aload_n 0, 1) := by decide +kernel
theorem dX9_full_11 : decode cX9_full 11 = .ok (.getfield 19, 3) := by decide +kernel
theorem dX9_full_14 : decode cX9_full 14 = .ok (.iload_n 1, 1) := by decide +kernel
theorem dX9_full_15 : decode cX9_full 15 = .ok (.iload_n 2, 1) := by decide +kernel
theorem dX9_full_16 : decode cX9_full 16 = .ok (.bastore, 1) := by decide +kernel
theorem dX9_full_17 : decode cX9_full 17 = .ok (.iconst 1, 1) := by decide +kernel
theorem dX9_full_18 : decode cX9_full 18 = .ok (.ireturn, 1) := by decide +kernel
set_option maxRecDepth 20000 in
theorem ggX9_power_X9_isMachine : GoodIn wsX9_power wsX9_isMachine := goodIn_r _ [6, 7, 8, 9, 10, 11, 12, 13, 14, 15, 16, 17, 18, 19, 20, 21, 22, 23, 24, 25, 26, 27, 28, 29, 30, 31, 32, 33, 34, 35, 36, 37, 38, 39, 40] (by decide +kernel) (by decide +kernel)
set_option maxRecDepth 20000 in
theorem gX9_power_X9_isMachine : GoodIn wsX9_power (wsV RX9 136 RX9 yX9_isMachine wsX9_isMachine) := goodIn_app (goodIn_of _ (by decide +kernel)) ggX9_power_X9_isMachine
theorem dX9_power_0 : decode cX9_power 0 = .ok (.aload_n 0, 1) := by decide +kernel
theorem dX9_power_1 : decode cX9_power 1 = .ok (.iload_n 1, 1) := by decide +kernel
theorem dX9_power_2 : decode cX9_power 2 = .ok (.invokevirtual 136, 3) := by decide +kernel
theorem dX9_power_5 : decode cX9_power 5 = .ok (.ifCond .ne 5, 3) := by decide +kernel
theorem dX9_power_8 : decode cX9_power 8 = .ok (.iconst 0, 1) := by decide +kernel
theorem dX9_power_9 : decode cX9_power 9 = .ok (.ireturn, 1) := by decide +kernel
theorem dX9_power_10 : decode cX9_power 10 = .ok (.aload_n 0, 1) := by decide +kernel
theorem dX9_power_11 : decode cX9_power 11 = .ok (.getfield 23, 3) := by decide +kernel
theorem dX9_power_14 : decode cX9_power 14 = .ok (.iload_n 1, 1) := by decide +kernel
theorem dX9_power_15 : decode cX9_power 15 = .ok (.iload_n 2, 1) := by decide +kernel
theorem dX9_power_16 : decode cX9_power 16 = .ok (.ifCond .ne 7, 3) := by decide +kernel
theorem dX9_power_19 : decode cX9_power 19 = .ok (.iconst 1, 1) := by decide +kernel
theorem dX9_power_20 : decode cX9_power 20 = .ok (.goto 4, 3) := by decide +kernel
theorem dX9_power_23 : decode cX9_power 23 = .ok (.iconst 0, 1) := by decide +kernel
theorem dX9_power_24 : decode cX9_power 24 = .ok (.bastore, 1) := by decide +kernel
theorem dX9_power_25 : decode cX9_power 25 = .ok (.iconst 1, 1) := by decide +kernel
theorem dX9_power_26 : decode cX9_power 26 = .ok (.ireturn, 1) := by decide +kernel
theorem dX9_payingOf_0 : decode cX9_payingOf 0 = .ok (.iconst (-1), 1) := by decide +kernel
theorem dX9_payingOf_1 : decode cX9_payingOf 1 = .ok (.istore 4, 2) := by decide +kernel
theorem dX9_payingOf_3 : decode cX9_payingOf 3 = .ok (.iconst 0, 1) := by decide +kernel
theorem dX9_payingOf_4 : decode cX9_payingOf 4 = .ok (.istore 5, 2) := by decide +kernel
theorem dX9_payingOf_6 : decode cX9_payingOf 6 = .ok (.iload 5, 2) := by decide +kernel
theorem dX9_payingOf_8 : decode cX9_payingOf 8 = .ok (.aload_n 0, 1) := by decide +kernel
theorem dX9_payingOf_9 : decode cX9_payingOf 9 = .ok (.getfield 140, 3) := by decide +kernel
theorem dX9_payingOf_12 : decode cX9_payingOf 12 = .ok (.if_icmp .ge 56, 3) := by decide +kernel
theorem dX9_payingOf_15 : decode cX9_payingOf 15 = .ok (.aload_n 0, 1) := by decide +kernel
theorem dX9_payingOf_16 : decode cX9_payingOf 16 = .ok (.getfield 45, 3) := by decide +kernel
theorem dX9_payingOf_19 : decode cX9_payingOf 19 = .ok (.iload 5, 2) := by decide +kernel
theorem dX9_payingOf_21 : decode cX9_payingOf 21 = .ok (.baload, 1) := by decide +kernel
theorem dX9_payingOf_22 : decode cX9_payingOf 22 = .ok (.ifCond .eq 36, 3) := by decide +kernel
theorem dX9_payingOf_25 : decode cX9_payingOf 25 = .ok (.aload_n 0, 1) := by decide +kernel
theorem dX9_payingOf_26 : decode cX9_payingOf 26 = .ok (.getfield 32, 3) := by decide +kernel
theorem dX9_payingOf_29 : decode cX9_payingOf 29 = .ok (.iload 5, 2) := by decide +kernel
theorem dX9_payingOf_31 : decode cX9_payingOf 31 = .ok (.laload, 1) := by decide +kernel
theorem dX9_payingOf_32 : decode cX9_payingOf 32 = .ok (.lload_n 1, 1) := by decide +kernel
theorem dX9_payingOf_33 : decode cX9_payingOf 33 = .ok (.lcmp, 1) := by decide +kernel
theorem dX9_payingOf_34 : decode cX9_payingOf 34 = .ok (.ifCond .ne 24, 3) := by decide +kernel
theorem dX9_payingOf_37 : decode cX9_payingOf 37 = .ok (.aload_n 0, 1) := by decide +kernel
theorem dX9_payingOf_38 : decode cX9_payingOf 38 = .ok (.getfield 16, 3) := by decide +kernel
theorem dX9_payingOf_41 : decode cX9_payingOf 41 = .ok (.aload_n 0, 1) := by decide +kernel
theorem dX9_payingOf_42 : decode cX9_payingOf 42 = .ok (.getfield 36, 3) := by decide +kernel
theorem dX9_payingOf_45 : decode cX9_payingOf 45 = .ok (.iload 5, 2) := by decide +kernel
theorem dX9_payingOf_47 : decode cX9_payingOf 47 = .ok (.iaload, 1) := by decide +kernel
theorem dX9_payingOf_48 : decode cX9_payingOf 48 = .ok (.iaload, 1) := by decide +kernel
theorem dX9_payingOf_49 : decode cX9_payingOf 49 = .ok (.iload_n 3, 1) := by decide +kernel
theorem dX9_payingOf_50 : decode cX9_payingOf 50 = .ok (.if_icmp .ne 8, 3) := by decide +kernel
theorem dX9_payingOf_53 : decode cX9_payingOf 53 = .ok (.iload 5, 2) := by decide +kernel
theorem dX9_payingOf_55 : decode cX9_payingOf 55 = .ok (.goto 5, 3) := by decide +kernel
theorem dX9_payingOf_58 : decode cX9_payingOf 58 = .ok (.iload 4, 2) := by decide +kernel
theorem dX9_payingOf_60 : decode cX9_payingOf 60 = .ok (.istore 4, 2) := by decide +kernel
theorem dX9_payingOf_62 : decode cX9_payingOf 62 = .ok (.iinc 5 1, 3) := by decide +kernel
theorem dX9_payingOf_65 : decode cX9_payingOf 65 = .ok (.goto (-59), 3) := by decide +kernel
theorem dX9_payingOf_68 : decode cX9_payingOf 68 = .ok (.iload 4, 2) := by decide +kernel
theorem dX9_payingOf_70 : decode cX9_payingOf 70 = .ok (.ireturn, 1) := by decide +kernel
set_option maxRecDepth 20000 in
theorem ggX9_reasonFor_X9_isMachine : GoodIn wsX9_reasonFor wsX9_isMachine := goodIn_r _ [12, 13, 14, 29, 30, 31, 32, 33, 34, 35, 36, 37, 38, 39, 40, 41, 42, 43, 44, 45, 46, 47, 48, 49, 50, 51, 52, 53, 54, 55, 56, 57, 58, 59, 60] (by decide +kernel) (by decide +kernel)
set_option maxRecDepth 20000 in
theorem gX9_reasonFor_X9_isMachine : GoodIn wsX9_reasonFor (wsV RX9 136 RX9 yX9_isMachine wsX9_isMachine) := goodIn_app (goodIn_of _ (by decide +kernel)) ggX9_reasonFor_X9_isMachine
set_option maxRecDepth 20000 in
theorem ggX9_reasonFor_X9_isIn : GoodIn wsX9_reasonFor wsX9_isIn := goodIn_r _ [17] (by decide +kernel) (by decide +kernel)
set_option maxRecDepth 20000 in
theorem gX9_reasonFor_X9_isIn : GoodIn wsX9_reasonFor (va_wsS RX9 87 yX9_isIn wsX9_isIn) := goodIn_app (goodIn_of _ (by decide +kernel)) ggX9_reasonFor_X9_isIn
set_option maxRecDepth 20000 in
theorem ggX9_reasonFor_X9_checkOf : GoodIn wsX9_reasonFor wsX9_checkOf := goodIn_r _ [20, 6] (by decide +kernel) (by decide +kernel)
set_option maxRecDepth 20000 in
theorem gX9_reasonFor_X9_checkOf : GoodIn wsX9_reasonFor (va_wsS RX9 119 yX9_checkOf wsX9_checkOf) := goodIn_app (goodIn_of _ (by decide +kernel)) ggX9_reasonFor_X9_checkOf
set_option maxRecDepth 20000 in
theorem ggX9_reasonFor_X9_payingOf : GoodIn wsX9_reasonFor wsX9_payingOf := goodIn_r _ [24, 25, 26, 27, 7, 28, 29, 30, 31, 32, 33, 34, 35, 36, 37, 38, 39, 40, 41, 42, 43, 44, 45, 46, 47, 48, 49, 50, 51, 52, 53, 54, 55, 56, 57, 58, 59, 60] (by decide +kernel) (by decide +kernel)
set_option maxRecDepth 20000 in
theorem gX9_reasonFor_X9_payingOf : GoodIn wsX9_reasonFor (wsV RX9 143 RX9 yX9_payingOf wsX9_payingOf) := goodIn_app (goodIn_of _ (by decide +kernel)) ggX9_reasonFor_X9_payingOf
theorem dX9_reasonFor_0 : decode cX9_reasonFor 0 = .ok (.aload_n 0, 1) := by decide +kernel
theorem dX9_reasonFor_1 : decode cX9_reasonFor 1 = .ok (.iload_n 1, 1) := by decide +kernel
theorem dX9_reasonFor_2 : decode cX9_reasonFor 2 = .ok (.invokevirtual 136, 3) := by decide +kernel
theorem dX9_reasonFor_5 : decode cX9_reasonFor 5 = .ok (.ifCond .ne 5, 3) := by decide +kernel
theorem dX9_reasonFor_8 : decode cX9_reasonFor 8 = .ok (.iconst 1, 1) := by decide +kernel
theorem dX9_reasonFor_9 : decode cX9_reasonFor 9 = .ok (.ireturn, 1) := by decide +kernel
theorem dX9_reasonFor_10 : decode cX9_reasonFor 10 = .ok (.aload_n 0, 1) := by decide +kernel
theorem dX9_reasonFor_11 : decode cX9_reasonFor 11 = .ok (.getfield 19, 3) := by decide +kernel
theorem dX9_reasonFor_14 : decode cX9_reasonFor 14 = .ok (.iload_n 1, 1) := by decide +kernel
theorem dX9_reasonFor_15 : decode cX9_reasonFor 15 = .ok (.baload, 1) := by decide +kernel
theorem dX9_reasonFor_16 : decode cX9_reasonFor 16 = .ok (.ifCond .eq 5, 3) := by decide +kernel
theorem dX9_reasonFor_19 : decode cX9_reasonFor 19 = .ok (.iconst 2, 1) := by decide +kernel
theorem dX9_reasonFor_20 : decode cX9_reasonFor 20 = .ok (.ireturn, 1) := by decide +kernel
theorem dX9_reasonFor_21 : decode cX9_reasonFor 21 = .ok (.aload_n 0, 1) := by decide +kernel
theorem dX9_reasonFor_22 : decode cX9_reasonFor 22 = .ok (.getfield 23, 3) := by decide +kernel
theorem dX9_reasonFor_25 : decode cX9_reasonFor 25 = .ok (.iload_n 1, 1) := by decide +kernel
theorem dX9_reasonFor_26 : decode cX9_reasonFor 26 = .ok (.baload, 1) := by decide +kernel
theorem dX9_reasonFor_27 : decode cX9_reasonFor 27 = .ok (.ifCond .eq 5, 3) := by decide +kernel
theorem dX9_reasonFor_30 : decode cX9_reasonFor 30 = .ok (.iconst 3, 1) := by decide +kernel
theorem dX9_reasonFor_31 : decode cX9_reasonFor 31 = .ok (.ireturn, 1) := by decide +kernel
theorem dX9_reasonFor_32 : decode cX9_reasonFor 32 = .ok (.iload 4, 2) := by decide +kernel
theorem dX9_reasonFor_34 : decode cX9_reasonFor 34 = .ok (.i2l, 1) := by decide +kernel
theorem dX9_reasonFor_35 : decode cX9_reasonFor 35 = .ok (.ldc2_w 125, 3) := by decide +kernel
theorem dX9_reasonFor_38 : decode cX9_reasonFor 38 = .ok (.invokestatic 87, 3) := by decide +kernel
theorem dX9_reasonFor_41 : decode cX9_reasonFor 41 = .ok (.ifCond .eq 14, 3) := by decide +kernel
theorem dX9_reasonFor_44 : decode cX9_reasonFor 44 = .ok (.aload_n 0, 1) := by decide +kernel
theorem dX9_reasonFor_45 : decode cX9_reasonFor 45 = .ok (.getfield 26, 3) := by decide +kernel
theorem dX9_reasonFor_48 : decode cX9_reasonFor 48 = .ok (.iload 4, 2) := by decide +kernel
theorem dX9_reasonFor_50 : decode cX9_reasonFor 50 = .ok (.iaload, 1) := by decide +kernel
theorem dX9_reasonFor_51 : decode cX9_reasonFor 51 = .ok (.iconst (-1), 1) := by decide +kernel
theorem dX9_reasonFor_52 : decode cX9_reasonFor 52 = .ok (.if_icmp .ne 5, 3) := by decide +kernel
theorem dX9_reasonFor_55 : decode cX9_reasonFor 55 = .ok (.iconst 4, 1) := by decide +kernel
theorem dX9_reasonFor_56 : decode cX9_reasonFor 56 = .ok (.ireturn, 1) := by decide +kernel
theorem dX9_reasonFor_57 : decode cX9_reasonFor 57 = .ok (.iload 5, 2) := by decide +kernel
theorem dX9_reasonFor_59 : decode cX9_reasonFor 59 = .ok (.aload_n 0, 1) := by decide +kernel
theorem dX9_reasonFor_60 : decode cX9_reasonFor 60 = .ok (.getfield 26, 3) := by decide +kernel
theorem dX9_reasonFor_63 : decode cX9_reasonFor 63 = .ok (.iload 4, 2) := by decide +kernel
theorem dX9_reasonFor_65 : decode cX9_reasonFor 65 = .ok (.iaload, 1) := by decide +kernel
theorem dX9_reasonFor_66 : decode cX9_reasonFor 66 = .ok (.if_icmp .lt 15, 3) := by decide +kernel
theorem dX9_reasonFor_69 : decode cX9_reasonFor 69 = .ok (.iload 5, 2) := by decide +kernel
theorem dX9_reasonFor_71 : decode cX9_reasonFor 71 = .ok (.aload_n 0, 1) := by decide +kernel
theorem dX9_reasonFor_72 : decode cX9_reasonFor 72 = .ok (.getfield 29, 3) := by decide +kernel
theorem dX9_reasonFor_75 : decode cX9_reasonFor 75 = .ok (.iload 4, 2) := by decide +kernel
theorem dX9_reasonFor_77 : decode cX9_reasonFor 77 = .ok (.iaload, 1) := by decide +kernel
theorem dX9_reasonFor_78 : decode cX9_reasonFor 78 = .ok (.if_icmp .le 5, 3) := by decide +kernel
theorem dX9_reasonFor_81 : decode cX9_reasonFor 81 = .ok (.iconst 5, 1) := by decide +kernel
theorem dX9_reasonFor_82 : decode cX9_reasonFor 82 = .ok (.ireturn, 1) := by decide +kernel
theorem dX9_reasonFor_83 : decode cX9_reasonFor 83 = .ok (.lload_n 2, 1) := by decide +kernel
theorem dX9_reasonFor_84 : decode cX9_reasonFor 84 = .ok (.ldc2_w 115, 3) := by decide +kernel
theorem dX9_reasonFor_87 : decode cX9_reasonFor 87 = .ok (.lrem, 1) := by decide +kernel
theorem dX9_reasonFor_88 : decode cX9_reasonFor 88 = .ok (.iconst 0, 1) := by decide +kernel
theorem dX9_reasonFor_89 : decode cX9_reasonFor 89 = .ok (.lload_n 2, 1) := by decide +kernel
theorem dX9_reasonFor_90 : decode cX9_reasonFor 90 = .ok (.ldc2_w 115, 3) := by decide +kernel
theorem dX9_reasonFor_93 : decode cX9_reasonFor 93 = .ok (.ldiv, 1) := by decide +kernel
theorem dX9_reasonFor_94 : decode cX9_reasonFor 94 = .ok (.invokestatic 119, 3) := by decide +kernel
theorem dX9_reasonFor_97 : decode cX9_reasonFor 97 = .ok (.i2l, 1) := by decide +kernel
theorem dX9_reasonFor_98 : decode cX9_reasonFor 98 = .ok (.lcmp, 1) := by decide +kernel
theorem dX9_reasonFor_99 : decode cX9_reasonFor 99 = .ok (.ifCond .eq 6, 3) := by decide +kernel
theorem dX9_reasonFor_102 : decode cX9_reasonFor 102 = .ok (.bipush 6, 2) := by decide +kernel
theorem dX9_reasonFor_104 : decode cX9_reasonFor 104 = .ok (.ireturn, 1) := by decide +kernel
theorem dX9_reasonFor_105 : decode cX9_reasonFor 105 = .ok (.aload_n 0, 1) := by decide +kernel
theorem dX9_reasonFor_106 : decode cX9_reasonFor 106 = .ok (.lload_n 2, 1) := by decide +kernel
theorem dX9_reasonFor_107 : decode cX9_reasonFor 107 = .ok (.aload_n 0, 1) := by decide +kernel
theorem dX9_reasonFor_108 : decode cX9_reasonFor 108 = .ok (.getfield 16, 3) := by decide +kernel
theorem dX9_reasonFor_111 : decode cX9_reasonFor 111 = .ok (.iload_n 1, 1) := by decide +kernel
theorem dX9_reasonFor_112 : decode cX9_reasonFor 112 = .ok (.iaload, 1) := by decide +kernel
theorem dX9_reasonFor_113 : decode cX9_reasonFor 113 = .ok (.invokevirtual 143, 3) := by decide +kernel
theorem dX9_reasonFor_116 : decode cX9_reasonFor 116 = .ok (.ifCond .ge 7, 3) := by decide +kernel
theorem dX9_reasonFor_119 : decode cX9_reasonFor 119 = .ok (.iconst 0, 1) := by decide +kernel
theorem dX9_reasonFor_120 : decode cX9_reasonFor 120 = .ok (.goto 5, 3) := by decide +kernel
theorem dX9_reasonFor_123 : decode cX9_reasonFor 123 = .ok (.bipush 7, 2) := by decide +kernel
theorem dX9_reasonFor_125 : decode cX9_reasonFor 125 = .ok (.ireturn, 1) := by decide +kernel
theorem dX9_refuse_0 : decode cX9_refuse 0 = .ok (.iconst 0, 1) := by decide +kernel
theorem dX9_refuse_1 : decode cX9_refuse 1 = .ok (.istore 4, 2) := by decide +kernel
theorem dX9_refuse_3 : decode cX9_refuse 3 = .ok (.iload 4, 2) := by decide +kernel
theorem dX9_refuse_5 : decode cX9_refuse 5 = .ok (.aload_n 0, 1) := by decide +kernel
theorem dX9_refuse_6 : decode cX9_refuse 6 = .ok (.getfield 147, 3) := by decide +kernel
theorem dX9_refuse_9 : decode cX9_refuse 9 = .ok (.if_icmp .ge 21, 3) := by decide +kernel
theorem dX9_refuse_12 : decode cX9_refuse 12 = .ok (.aload_n 0, 1) := by decide +kernel
theorem dX9_refuse_13 : decode cX9_refuse 13 = .ok (.getfield 51, 3) := by decide +kernel
theorem dX9_refuse_16 : decode cX9_refuse 16 = .ok (.iload 4, 2) := by decide +kernel
theorem dX9_refuse_18 : decode cX9_refuse 18 = .ok (.laload, 1) := by decide +kernel
theorem dX9_refuse_19 : decode cX9_refuse 19 = .ok (.lload_n 2, 1) := by decide +kernel
theorem dX9_refuse_20 : decode cX9_refuse 20 = .ok (.lcmp, 1) := by decide +kernel
theorem dX9_refuse_21 : decode cX9_refuse 21 = .ok (.ifCond .eq 9, 3) := by decide +kernel
theorem dX9_refuse_24 : decode cX9_refuse 24 = .ok (.iinc 4 1, 3) := by decide +kernel
theorem dX9_refuse_27 : decode cX9_refuse 27 = .ok (.goto (-24), 3) := by decide +kernel
theorem dX9_refuse_30 : decode cX9_refuse 30 = .ok (.aload_n 0, 1) := by decide +kernel
theorem dX9_refuse_31 : decode cX9_refuse 31 = .ok (.getfield 51, 3) := by decide +kernel
theorem dX9_refuse_34 : decode cX9_refuse 34 = .ok (.iload 4, 2) := by decide +kernel
theorem dX9_refuse_36 : decode cX9_refuse 36 = .ok (.lload_n 2, 1) := by decide +kernel
theorem dX9_refuse_37 : decode cX9_refuse 37 = .ok (.lastore, 1) := by decide +kernel
theorem dX9_refuse_38 : decode cX9_refuse 38 = .ok (.aload_n 0, 1) := by decide +kernel
theorem dX9_refuse_39 : decode cX9_refuse 39 = .ok (.getfield 54, 3) := by decide +kernel
theorem dX9_refuse_42 : decode cX9_refuse 42 = .ok (.iload 4, 2) := by decide +kernel
theorem dX9_refuse_44 : decode cX9_refuse 44 = .ok (.iload 4, 2) := by decide +kernel
theorem dX9_refuse_46 : decode cX9_refuse 46 = .ok (.aload_n 0, 1) := by decide +kernel
theorem dX9_refuse_47 : decode cX9_refuse 47 = .ok (.getfield 147, 3) := by decide +kernel
theorem dX9_refuse_50 : decode cX9_refuse 50 = .ok (.if_icmp .ne 7, 3) := by decide +kernel
theorem dX9_refuse_53 : decode cX9_refuse 53 = .ok (.iconst 1, 1) := by decide +kernel
theorem dX9_refuse_54 : decode cX9_refuse 54 = .ok (.goto 12, 3) := by decide +kernel
theorem dX9_refuse_57 : decode cX9_refuse 57 = .ok (.aload_n 0, 1) := by decide +kernel
theorem dX9_refuse_58 : decode cX9_refuse 58 = .ok (.getfield 54, 3) := by decide +kernel
theorem dX9_refuse_61 : decode cX9_refuse 61 = .ok (.iload 4, 2) := by decide +kernel
theorem dX9_refuse_63 : decode cX9_refuse 63 = .ok (.iaload, 1) := by decide +kernel
theorem dX9_refuse_64 : decode cX9_refuse 64 = .ok (.iconst 1, 1) := by decide +kernel
theorem dX9_refuse_65 : decode cX9_refuse 65 = .ok (.iadd, 1) := by decide +kernel
theorem dX9_refuse_66 : decode cX9_refuse 66 = .ok (.iastore, 1) := by decide +kernel
theorem dX9_refuse_67 : decode cX9_refuse 67 = .ok (.aload_n 0, 1) := by decide +kernel
theorem dX9_refuse_68 : decode cX9_refuse 68 = .ok (.iload 4, 2) := by decide +kernel
theorem dX9_refuse_70 : decode cX9_refuse 70 = .ok (.aload_n 0, 1) := by decide +kernel
theorem dX9_refuse_71 : decode cX9_refuse 71 = .ok (.getfield 147, 3) := by decide +kernel
theorem dX9_refuse_74 : decode cX9_refuse 74 = .ok (.if_icmp .ne 12, 3) := by decide +kernel
theorem dX9_refuse_77 : decode cX9_refuse 77 = .ok (.aload_n 0, 1) := by decide +kernel
theorem dX9_refuse_78 : decode cX9_refuse 78 = .ok (.getfield 147, 3) := by decide +kernel
theorem dX9_refuse_81 : decode cX9_refuse 81 = .ok (.iconst 1, 1) := by decide +kernel
theorem dX9_refuse_82 : decode cX9_refuse 82 = .ok (.iadd, 1) := by decide +kernel
theorem dX9_refuse_83 : decode cX9_refuse 83 = .ok (.goto 7, 3) := by decide +kernel
theorem dX9_refuse_86 : decode cX9_refuse 86 = .ok (.aload_n 0, 1) := by decide +kernel
theorem dX9_refuse_87 : decode cX9_refuse 87 = .ok (.getfield 147, 3) := by decide +kernel
theorem dX9_refuse_90 : decode cX9_refuse 90 = .ok (.putfield 147, 3) := by decide +kernel
theorem dX9_refuse_93 : decode cX9_refuse 93 = .ok (.aload_n 0, 1) := by decide +kernel
theorem dX9_refuse_94 : decode cX9_refuse 94 = .ok (.getfield 54, 3) := by decide +kernel
theorem dX9_refuse_97 : decode cX9_refuse 97 = .ok (.iload 4, 2) := by decide +kernel
theorem dX9_refuse_99 : decode cX9_refuse 99 = .ok (.iaload, 1) := by decide +kernel
theorem dX9_refuse_100 : decode cX9_refuse 100 = .ok (.iconst 3, 1) := by decide +kernel
theorem dX9_refuse_101 : decode cX9_refuse 101 = .ok (.irem, 1) := by decide +kernel
theorem dX9_refuse_102 : decode cX9_refuse 102 = .ok (.ifCond .ne 23, 3) := by decide +kernel
theorem dX9_refuse_105 : decode cX9_refuse 105 = .ok (.aload_n 0, 1) := by decide +kernel
theorem dX9_refuse_106 : decode cX9_refuse 106 = .ok (.getfield 57, 3) := by decide +kernel
theorem dX9_refuse_109 : decode cX9_refuse 109 = .ok (.aload_n 0, 1) := by decide +kernel
theorem dX9_refuse_110 : decode cX9_refuse 110 = .ok (.getfield 150, 3) := by decide +kernel
theorem dX9_refuse_113 : decode cX9_refuse 113 = .ok (.iload_n 1, 1) := by decide +kernel
theorem dX9_refuse_114 : decode cX9_refuse 114 = .ok (.iastore, 1) := by decide +kernel
theorem dX9_refuse_115 : decode cX9_refuse 115 = .ok (.aload_n 0, 1) := by decide +kernel
theorem dX9_refuse_116 : decode cX9_refuse 116 = .ok (.dup, 1) := by decide +kernel
theorem dX9_refuse_117 : decode cX9_refuse 117 = .ok (.getfield 150, 3) := by decide +kernel
theorem dX9_refuse_120 : decode cX9_refuse 120 = .ok (.iconst 1, 1) := by decide +kernel
theorem dX9_refuse_121 : decode cX9_refuse 121 = .ok (.iadd, 1) := by decide +kernel
theorem dX9_refuse_122 : decode cX9_refuse 122 = .ok (.putfield 150, 3) := by decide +kernel
theorem dX9_refuse_125 : decode cX9_refuse 125 = .ok (.return_, 1) := by decide +kernel
set_option maxRecDepth 20000 in
theorem ggX9_give_X9_isIn : GoodIn wsX9_give wsX9_isIn := goodIn_r _ [16] (by decide +kernel) (by decide +kernel)
set_option maxRecDepth 20000 in
theorem gX9_give_X9_isIn : GoodIn wsX9_give (va_wsS RX9 87 yX9_isIn wsX9_isIn) := goodIn_app (goodIn_of _ (by decide +kernel)) ggX9_give_X9_isIn
set_option maxRecDepth 20000 in
theorem ggX9_give_X9_reasonFor : GoodIn wsX9_give wsX9_reasonFor := goodIn_r _ [20, 21, 22, 23, 24, 25, 26, 27, 28, 29, 30, 15, 31, 1, 32, 13, 14, 16, 33, 34, 35, 36, 37, 38, 39, 4, 11, 6, 7, 49, 50, 51, 52, 53, 54, 55, 56, 57, 58, 59, 60, 61, 62, 63, 64, 65, 66, 67, 68, 69, 70, 71, 72, 73, 74, 75, 76, 77, 78, 79, 80] (by decide +kernel) (by decide +kernel)
set_option maxRecDepth 20000 in
theorem gX9_give_X9_reasonFor : GoodIn wsX9_give (wsV RX9 155 RX9 yX9_reasonFor wsX9_reasonFor) := goodIn_app (goodIn_of _ (by decide +kernel)) ggX9_give_X9_reasonFor
set_option maxRecDepth 20000 in
theorem ggX9_give_X9_refuse : GoodIn wsX9_give wsX9_refuse := goodIn_r _ [43, 44, 45, 46, 47, 48, 49, 50, 51, 52, 53, 54, 55, 56, 57, 58, 59, 60, 61, 62, 63, 64, 65, 66, 67, 68, 69, 70, 71, 72, 73, 74, 75, 76, 77, 78, 79, 80] (by decide +kernel) (by decide +kernel)
set_option maxRecDepth 20000 in
theorem gX9_give_X9_refuse : GoodIn wsX9_give (wsV RX9 162 RX9 yX9_refuse wsX9_refuse) := goodIn_app (goodIn_of _ (by decide +kernel)) ggX9_give_X9_refuse
theorem dX9_give_0 : decode cX9_give 0 = .ok (.aload_n 0, 1) := by decide +kernel
theorem dX9_give_1 : decode cX9_give 1 = .ok (.iconst 0, 1) := by decide +kernel
theorem dX9_give_2 : decode cX9_give 2 = .ok (.putfield 81, 3) := by decide +kernel
theorem dX9_give_5 : decode cX9_give 5 = .ok (.lload_n 2, 1) := by decide +kernel
theorem dX9_give_6 : decode cX9_give 6 = .ok (.ldc2_w 117, 3) := by decide +kernel
theorem dX9_give_9 : decode cX9_give 9 = .ok (.invokestatic 87, 3) := by decide +kernel
theorem dX9_give_12 : decode cX9_give 12 = .ok (.ifCond .eq 24, 3) := by decide +kernel
theorem dX9_give_15 : decode cX9_give 15 = .ok (.lload 6, 2) := by decide +kernel
theorem dX9_give_17 : decode cX9_give 17 = .ok (.ldc2_w 153, 3) := by decide +kernel
theorem dX9_give_20 : decode cX9_give 20 = .ok (.invokestatic 87, 3) := by decide +kernel
theorem dX9_give_23 : decode cX9_give 23 = .ok (.ifCond .eq 13, 3) := by decide +kernel
theorem dX9_give_26 : decode cX9_give 26 = .ok (.aload_n 0, 1) := by decide +kernel
theorem dX9_give_27 : decode cX9_give 27 = .ok (.getfield 140, 3) := by decide +kernel
theorem dX9_give_30 : decode cX9_give 30 = .ok (.sipush 200, 3) := by decide +kernel
theorem dX9_give_33 : decode cX9_give 33 = .ok (.if_icmp .ne 5, 3) := by decide +kernel
theorem dX9_give_36 : decode cX9_give 36 = .ok (.iconst (-1), 1) := by decide +kernel
theorem dX9_give_37 : decode cX9_give 37 = .ok (.ireturn, 1) := by decide +kernel
theorem dX9_give_38 : decode cX9_give 38 = .ok (.aload_n 0, 1) := by decide +kernel
theorem dX9_give_39 : decode cX9_give 39 = .ok (.aload_n 0, 1) := by decide +kernel
theorem dX9_give_40 : decode cX9_give 40 = .ok (.iload_n 1, 1) := by decide +kernel
theorem dX9_give_41 : decode cX9_give 41 = .ok (.lload_n 2, 1) := by decide +kernel
theorem dX9_give_42 : decode cX9_give 42 = .ok (.iload 4, 2) := by decide +kernel
theorem dX9_give_44 : decode cX9_give 44 = .ok (.iload 5, 2) := by decide +kernel
theorem dX9_give_46 : decode cX9_give 46 = .ok (.invokevirtual 155, 3) := by decide +kernel
theorem dX9_give_49 : decode cX9_give 49 = .ok (.putfield 159, 3) := by decide +kernel
theorem dX9_give_52 : decode cX9_give 52 = .ok (.aload_n 0, 1) := by decide +kernel
theorem dX9_give_53 : decode cX9_give 53 = .ok (.getfield 159, 3) := by decide +kernel
theorem dX9_give_56 : decode cX9_give 56 = .ok (.bipush 7, 2) := by decide +kernel
theorem dX9_give_58 : decode cX9_give 58 = .ok (.if_icmp .ne 9, 3) := by decide +kernel
theorem dX9_give_61 : decode cX9_give 61 = .ok (.aload_n 0, 1) := by decide +kernel
theorem dX9_give_62 : decode cX9_give 62 = .ok (.iload_n 1, 1) := by decide +kernel
theorem dX9_give_63 : decode cX9_give 63 = .ok (.lload_n 2, 1) := by decide +kernel
theorem dX9_give_64 : decode cX9_give 64 = .ok (.invokevirtual 162, 3) := by decide +kernel
theorem dX9_give_67 : decode cX9_give 67 = .ok (.aload_n 0, 1) := by decide +kernel
theorem dX9_give_68 : decode cX9_give 68 = .ok (.getfield 159, 3) := by decide +kernel
theorem dX9_give_71 : decode cX9_give 71 = .ok (.ifCond .le 5, 3) := by decide +kernel
theorem dX9_give_74 : decode cX9_give 74 = .ok (.iconst 0, 1) := by decide +kernel
theorem dX9_give_75 : decode cX9_give 75 = .ok (.ireturn, 1) := by decide +kernel
theorem dX9_give_76 : decode cX9_give 76 = .ok (.aload_n 0, 1) := by decide +kernel
theorem dX9_give_77 : decode cX9_give 77 = .ok (.getfield 32, 3) := by decide +kernel
theorem dX9_give_80 : decode cX9_give 80 = .ok (.aload_n 0, 1) := by decide +kernel
theorem dX9_give_81 : decode cX9_give 81 = .ok (.getfield 140, 3) := by decide +kernel
theorem dX9_give_84 : decode cX9_give 84 = .ok (.lload_n 2, 1) := by decide +kernel
theorem dX9_give_85 : decode cX9_give 85 = .ok (.lastore, 1) := by decide +kernel
theorem dX9_give_86 : decode cX9_give 86 = .ok (.aload_n 0, 1) := by decide +kernel
theorem dX9_give_87 : decode cX9_give 87 = .ok (.getfield 36, 3) := by decide +kernel
theorem dX9_give_90 : decode cX9_give 90 = .ok (.aload_n 0, 1) := by decide +kernel
theorem dX9_give_91 : decode cX9_give 91 = .ok (.getfield 140, 3) := by decide +kernel
theorem dX9_give_94 : decode cX9_give 94 = .ok (.iload_n 1, 1) := by decide +kernel
theorem dX9_give_95 : decode cX9_give 95 = .ok (.iastore, 1) := by decide +kernel
theorem dX9_give_96 : decode cX9_give 96 = .ok (.aload_n 0, 1) := by decide +kernel
theorem dX9_give_97 : decode cX9_give 97 = .ok (.getfield 39, 3) := by decide +kernel
theorem dX9_give_100 : decode cX9_give 100 = .ok (.aload_n 0, 1) := by decide +kernel
theorem dX9_give_101 : decode cX9_give 101 = .ok (.getfield 140, 3) := by decide +kernel
theorem dX9_give_104 : decode cX9_give 104 = .ok (.iload 4, 2) := by decide +kernel
theorem dX9_give_106 : decode cX9_give 106 = .ok (.iastore, 1) := by decide +kernel
theorem dX9_give_107 : decode cX9_give 107 = .ok (.aload_n 0, 1) := by decide +kernel
theorem dX9_give_108 : decode cX9_give 108 = .ok (.getfield 42, 3) := by decide +kernel
theorem dX9_give_111 : decode cX9_give 111 = .ok (.aload_n 0, 1) := by decide +kernel
theorem dX9_give_112 : decode cX9_give 112 = .ok (.getfield 140, 3) := by decide +kernel
theorem dX9_give_115 : decode cX9_give 115 = .ok (.lload 6, 2) := by decide +kernel
theorem dX9_give_117 : decode cX9_give 117 = .ok (.ldc2_w 166, 3) := by decide +kernel
theorem dX9_give_120 : decode cX9_give 120 = .ok (.ldiv, 1) := by decide +kernel
theorem dX9_give_121 : decode cX9_give 121 = .ok (.lastore, 1) := by decide +kernel
theorem dX9_give_122 : decode cX9_give 122 = .ok (.aload_n 0, 1) := by decide +kernel
theorem dX9_give_123 : decode cX9_give 123 = .ok (.getfield 45, 3) := by decide +kernel
theorem dX9_give_126 : decode cX9_give 126 = .ok (.aload_n 0, 1) := by decide +kernel
theorem dX9_give_127 : decode cX9_give 127 = .ok (.getfield 140, 3) := by decide +kernel
theorem dX9_give_130 : decode cX9_give 130 = .ok (.iconst 1, 1) := by decide +kernel
theorem dX9_give_131 : decode cX9_give 131 = .ok (.bastore, 1) := by decide +kernel
theorem dX9_give_132 : decode cX9_give 132 = .ok (.aload_n 0, 1) := by decide +kernel
theorem dX9_give_133 : decode cX9_give 133 = .ok (.getfield 48, 3) := by decide +kernel
theorem dX9_give_136 : decode cX9_give 136 = .ok (.aload_n 0, 1) := by decide +kernel
theorem dX9_give_137 : decode cX9_give 137 = .ok (.getfield 140, 3) := by decide +kernel
theorem dX9_give_140 : decode cX9_give 140 = .ok (.iconst 0, 1) := by decide +kernel
theorem dX9_give_141 : decode cX9_give 141 = .ok (.bastore, 1) := by decide +kernel
theorem dX9_give_142 : decode cX9_give 142 = .ok (.aload_n 0, 1) := by decide +kernel
theorem dX9_give_143 : decode cX9_give 143 = .ok (.dup, 1) := by decide +kernel
theorem dX9_give_144 : decode cX9_give 144 = .ok (.getfield 140, 3) := by decide +kernel
theorem dX9_give_147 : decode cX9_give 147 = .ok (.iconst 1, 1) := by decide +kernel
theorem dX9_give_148 : decode cX9_give 148 = .ok (.iadd, 1) := by decide +kernel
theorem dX9_give_149 : decode cX9_give 149 = .ok (.putfield 140, 3) := by decide +kernel
theorem dX9_give_152 : decode cX9_give 152 = .ok (.iconst 1, 1) := by decide +kernel
theorem dX9_give_153 : decode cX9_give 153 = .ok (.ireturn, 1) := by decide +kernel
theorem dX9_reason_0 : decode cX9_reason 0 = .ok (.aload_n 0, 1) := by decide +kernel
theorem dX9_reason_1 : decode cX9_reason 1 = .ok (.iconst 0, 1) := by decide +kernel
theorem dX9_reason_2 : decode cX9_reason 2 = .ok (.putfield 81, 3) := by decide +kernel
theorem dX9_reason_5 : decode cX9_reason 5 = .ok (.aload_n 0, 1) := by decide +kernel
theorem dX9_reason_6 : decode cX9_reason 6 = .ok (.getfield 159, 3) := by decide +kernel
theorem dX9_reason_9 : decode cX9_reason 9 = .ok (.ireturn, 1) := by decide +kernel
set_option maxRecDepth 20000 in
theorem ggX9_count_X9_isMachine : GoodIn wsX9_count wsX9_isMachine := goodIn_r _ [10, 11, 12, 16, 17, 18, 19, 20, 21, 22, 23, 24, 25, 26, 27, 28, 29, 30, 31, 32, 33, 34, 35, 36, 37, 38, 39, 40, 41, 42, 43, 44, 45, 46, 47] (by decide +kernel) (by decide +kernel)
set_option maxRecDepth 20000 in
theorem gX9_count_X9_isMachine : GoodIn wsX9_count (wsV RX9 136 RX9 yX9_isMachine wsX9_isMachine) := goodIn_app (goodIn_of _ (by decide +kernel)) ggX9_count_X9_isMachine
set_option maxRecDepth 20000 in
theorem ggX9_count_X9_isIn : GoodIn wsX9_count wsX9_isIn := goodIn_r _ [15] (by decide +kernel) (by decide +kernel)
set_option maxRecDepth 20000 in
theorem gX9_count_X9_isIn : GoodIn wsX9_count (va_wsS RX9 87 yX9_isIn wsX9_isIn) := goodIn_app (goodIn_of _ (by decide +kernel)) ggX9_count_X9_isIn
theorem dX9_count_0 : decode cX9_count 0 = .ok (.aload_n 0, 1) := by decide +kernel
theorem dX9_count_1 : decode cX9_count 1 = .ok (.iload_n 1, 1) := by decide +kernel
theorem dX9_count_2 : decode cX9_count 2 = .ok (.invokevirtual 136, 3) := by decide +kernel
theorem dX9_count_5 : decode cX9_count 5 = .ok (.ifCond .eq 14, 3) := by decide +kernel
theorem dX9_count_8 : decode cX9_count 8 = .ok (.iload_n 2, 1) := by decide +kernel
theorem dX9_count_9 : decode cX9_count 9 = .ok (.i2l, 1) := by decide +kernel
theorem dX9_count_10 : decode cX9_count 10 = .ok (.ldc2_w 125, 3) := by decide +kernel
theorem dX9_count_13 : decode cX9_count 13 = .ok (.invokestatic 87, 3) := by decide +kernel
theorem dX9_count_16 : decode cX9_count 16 = .ok (.ifCond .ne 7, 3) := by decide +kernel
theorem dX9_count_19 : decode cX9_count 19 = .ok (.ldc2_w 168, 3) := by decide +kernel
theorem dX9_count_22 : decode cX9_count 22 = .ok (.lreturn, 1) := by decide +kernel
theorem dX9_count_23 : decode cX9_count 23 = .ok (.iconst 0, 1) := by decide +kernel
theorem dX9_count_24 : decode cX9_count 24 = .ok (.istore_n 3, 1) := by decide +kernel
theorem dX9_count_25 : decode cX9_count 25 = .ok (.iconst 0, 1) := by decide +kernel
theorem dX9_count_26 : decode cX9_count 26 = .ok (.istore 4, 2) := by decide +kernel
theorem dX9_count_28 : decode cX9_count 28 = .ok (.iload 4, 2) := by decide +kernel
theorem dX9_count_30 : decode cX9_count 30 = .ok (.aload_n 0, 1) := by decide +kernel
theorem dX9_count_31 : decode cX9_count 31 = .ok (.getfield 140, 3) := by decide +kernel
theorem dX9_count_34 : decode cX9_count 34 = .ok (.if_icmp .ge 39, 3) := by decide +kernel
theorem dX9_count_37 : decode cX9_count 37 = .ok (.aload_n 0, 1) := by decide +kernel
theorem dX9_count_38 : decode cX9_count 38 = .ok (.getfield 36, 3) := by decide +kernel
theorem dX9_count_41 : decode cX9_count 41 = .ok (.iload 4, 2) := by decide +kernel
theorem dX9_count_43 : decode cX9_count 43 = .ok (.iaload, 1) := by decide +kernel
theorem dX9_count_44 : decode cX9_count 44 = .ok (.iload_n 1, 1) := by decide +kernel
theorem dX9_count_45 : decode cX9_count 45 = .ok (.if_icmp .ne 20, 3) := by decide +kernel
theorem dX9_count_48 : decode cX9_count 48 = .ok (.aload_n 0, 1) := by decide +kernel
theorem dX9_count_49 : decode cX9_count 49 = .ok (.getfield 39, 3) := by decide +kernel
theorem dX9_count_52 : decode cX9_count 52 = .ok (.iload 4, 2) := by decide +kernel
theorem dX9_count_54 : decode cX9_count 54 = .ok (.iaload, 1) := by decide +kernel
theorem dX9_count_55 : decode cX9_count 55 = .ok (.iload_n 2, 1) := by decide +kernel
theorem dX9_count_56 : decode cX9_count 56 = .ok (.if_icmp .ne 9, 3) := by decide +kernel
theorem dX9_count_59 : decode cX9_count 59 = .ok (.iload_n 3, 1) := by decide +kernel
theorem dX9_count_60 : decode cX9_count 60 = .ok (.iconst 1, 1) := by decide +kernel
theorem dX9_count_61 : decode cX9_count 61 = .ok (.iadd, 1) := by decide +kernel
theorem dX9_count_62 : decode cX9_count 62 = .ok (.goto 4, 3) := by decide +kernel
theorem dX9_count_65 : decode cX9_count 65 = .ok (.iload_n 3, 1) := by decide +kernel
theorem dX9_count_66 : decode cX9_count 66 = .ok (.istore_n 3, 1) := by decide +kernel
theorem dX9_count_67 : decode cX9_count 67 = .ok (.iinc 4 1, 3) := by decide +kernel
theorem dX9_count_70 : decode cX9_count 70 = .ok (.goto (-42), 3) := by decide +kernel
theorem dX9_count_73 : decode cX9_count 73 = .ok (.iload_n 3, 1) := by decide +kernel
theorem dX9_count_74 : decode cX9_count 74 = .ok (.i2l, 1) := by decide +kernel
theorem dX9_count_75 : decode cX9_count 75 = .ok (.lreturn, 1) := by decide +kernel
set_option maxRecDepth 20000 in
theorem ggX9_join_X9_isMachine : GoodIn wsX9_join wsX9_isMachine := goodIn_r _ [13, 14, 8, 25, 26, 27, 28, 29, 30, 31, 32, 33, 34, 35, 36, 37, 38, 39, 40, 41, 42, 43, 44, 45, 46, 47, 48, 49, 50, 51, 52, 53, 54, 55, 56] (by decide +kernel) (by decide +kernel)
set_option maxRecDepth 20000 in
theorem gX9_join_X9_isMachine : GoodIn wsX9_join (wsV RX9 136 RX9 yX9_isMachine wsX9_isMachine) := goodIn_app (goodIn_of _ (by decide +kernel)) ggX9_join_X9_isMachine
set_option maxRecDepth 20000 in
theorem ggX9_join_X9_payingOf : GoodIn wsX9_join wsX9_payingOf := goodIn_r _ [18, 3, 4, 6, 1, 5, 25, 26, 27, 28, 29, 30, 31, 32, 33, 34, 35, 36, 37, 38, 39, 40, 41, 42, 43, 44, 45, 46, 47, 48, 49, 50, 51, 52, 53, 54, 55, 56] (by decide +kernel) (by decide +kernel)
set_option maxRecDepth 20000 in
theorem gX9_join_X9_payingOf : GoodIn wsX9_join (wsV RX9 143 RX9 yX9_payingOf wsX9_payingOf) := goodIn_app (goodIn_of _ (by decide +kernel)) ggX9_join_X9_payingOf
set_option maxRecDepth 20000 in
theorem ggX9_join_X9_insert : GoodIn wsX9_join wsX9_insert := goodIn_r _ [22, 2, 7, 23, 24, 25, 26, 27, 28, 29, 30, 31, 32, 33, 34, 35, 36, 37, 38, 39, 40, 41, 42, 43, 44, 45, 46, 47, 48, 49, 50, 51, 52, 53, 54, 55, 56] (by decide +kernel) (by decide +kernel)
set_option maxRecDepth 20000 in
theorem gX9_join_X9_insert : GoodIn wsX9_join (wsV RX9 173 RX9 yX9_insert wsX9_insert) := goodIn_app (goodIn_of _ (by decide +kernel)) ggX9_join_X9_insert
theorem dX9_join_0 : decode cX9_join 0 = .ok (.aload_n 0, 1) := by decide +kernel
theorem dX9_join_1 : decode cX9_join 1 = .ok (.iload_n 1, 1) := by decide +kernel
theorem dX9_join_2 : decode cX9_join 2 = .ok (.invokevirtual 136, 3) := by decide +kernel
theorem dX9_join_5 : decode cX9_join 5 = .ok (.ifCond .eq 11, 3) := by decide +kernel
theorem dX9_join_8 : decode cX9_join 8 = .ok (.aload_n 0, 1) := by decide +kernel
theorem dX9_join_9 : decode cX9_join 9 = .ok (.iload_n 2, 1) := by decide +kernel
theorem dX9_join_10 : decode cX9_join 10 = .ok (.invokevirtual 136, 3) := by decide +kernel
theorem dX9_join_13 : decode cX9_join 13 = .ok (.ifCond .ne 5, 3) := by decide +kernel
theorem dX9_join_16 : decode cX9_join 16 = .ok (.iconst (-1), 1) := by decide +kernel
theorem dX9_join_17 : decode cX9_join 17 = .ok (.ireturn, 1) := by decide +kernel
theorem dX9_join_18 : decode cX9_join 18 = .ok (.aload_n 0, 1) := by decide +kernel
theorem dX9_join_19 : decode cX9_join 19 = .ok (.getfield 16, 3) := by decide +kernel
theorem dX9_join_22 : decode cX9_join 22 = .ok (.iload_n 1, 1) := by decide +kernel
theorem dX9_join_23 : decode cX9_join 23 = .ok (.iaload, 1) := by decide +kernel
theorem dX9_join_24 : decode cX9_join 24 = .ok (.istore_n 3, 1) := by decide +kernel
theorem dX9_join_25 : decode cX9_join 25 = .ok (.aload_n 0, 1) := by decide +kernel
theorem dX9_join_26 : decode cX9_join 26 = .ok (.getfield 16, 3) := by decide +kernel
theorem dX9_join_29 : decode cX9_join 29 = .ok (.iload_n 2, 1) := by decide +kernel
theorem dX9_join_30 : decode cX9_join 30 = .ok (.iaload, 1) := by decide +kernel
theorem dX9_join_31 : decode cX9_join 31 = .ok (.istore 4, 2) := by decide +kernel
theorem dX9_join_33 : decode cX9_join 33 = .ok (.iload_n 3, 1) := by decide +kernel
theorem dX9_join_34 : decode cX9_join 34 = .ok (.iload 4, 2) := by decide +kernel
theorem dX9_join_36 : decode cX9_join 36 = .ok (.if_icmp .ne 5, 3) := by decide +kernel
theorem dX9_join_39 : decode cX9_join 39 = .ok (.iconst 0, 1) := by decide +kernel
theorem dX9_join_40 : decode cX9_join 40 = .ok (.ireturn, 1) := by decide +kernel
theorem dX9_join_41 : decode cX9_join 41 = .ok (.aload_n 0, 1) := by decide +kernel
theorem dX9_join_42 : decode cX9_join 42 = .ok (.getfield 170, 3) := by decide +kernel
theorem dX9_join_45 : decode cX9_join 45 = .ok (.istore 5, 2) := by decide +kernel
theorem dX9_join_47 : decode cX9_join 47 = .ok (.iconst 0, 1) := by decide +kernel
theorem dX9_join_48 : decode cX9_join 48 = .ok (.istore 6, 2) := by decide +kernel
theorem dX9_join_50 : decode cX9_join 50 = .ok (.iload 6, 2) := by decide +kernel
theorem dX9_join_52 : decode cX9_join 52 = .ok (.aload_n 0, 1) := by decide +kernel
theorem dX9_join_53 : decode cX9_join 53 = .ok (.getfield 140, 3) := by decide +kernel
theorem dX9_join_56 : decode cX9_join 56 = .ok (.if_icmp .ge 86, 3) := by decide +kernel
theorem dX9_join_59 : decode cX9_join 59 = .ok (.aload_n 0, 1) := by decide +kernel
theorem dX9_join_60 : decode cX9_join 60 = .ok (.getfield 45, 3) := by decide +kernel
theorem dX9_join_63 : decode cX9_join 63 = .ok (.iload 6, 2) := by decide +kernel
theorem dX9_join_65 : decode cX9_join 65 = .ok (.baload, 1) := by decide +kernel
theorem dX9_join_66 : decode cX9_join 66 = .ok (.ifCond .eq 35, 3) := by decide +kernel
theorem dX9_join_69 : decode cX9_join 69 = .ok (.aload_n 0, 1) := by decide +kernel
theorem dX9_join_70 : decode cX9_join 70 = .ok (.getfield 16, 3) := by decide +kernel
theorem dX9_join_73 : decode cX9_join 73 = .ok (.aload_n 0, 1) := by decide +kernel
theorem dX9_join_74 : decode cX9_join 74 = .ok (.getfield 36, 3) := by decide +kernel
theorem dX9_join_77 : decode cX9_join 77 = .ok (.iload 6, 2) := by decide +kernel
theorem dX9_join_79 : decode cX9_join 79 = .ok (.iaload, 1) := by decide +kernel
theorem dX9_join_80 : decode cX9_join 80 = .ok (.iaload, 1) := by decide +kernel
theorem dX9_join_81 : decode cX9_join 81 = .ok (.iload_n 3, 1) := by decide +kernel
theorem dX9_join_82 : decode cX9_join 82 = .ok (.if_icmp .ne 19, 3) := by decide +kernel
theorem dX9_join_85 : decode cX9_join 85 = .ok (.aload_n 0, 1) := by decide +kernel
theorem dX9_join_86 : decode cX9_join 86 = .ok (.aload_n 0, 1) := by decide +kernel
theorem dX9_join_87 : decode cX9_join 87 = .ok (.getfield 32, 3) := by decide +kernel
theorem dX9_join_90 : decode cX9_join 90 = .ok (.iload 6, 2) := by decide +kernel
theorem dX9_join_92 : decode cX9_join 92 = .ok (.laload, 1) := by decide +kernel
theorem dX9_join_93 : decode cX9_join 93 = .ok (.iload 4, 2) := by decide +kernel
theorem dX9_join_95 : decode cX9_join 95 = .ok (.invokevirtual 143, 3) := by decide +kernel
theorem dX9_join_98 : decode cX9_join 98 = .ok (.goto 4, 3) := by decide +kernel
theorem dX9_join_101 : decode cX9_join 101 = .ok (.iconst (-1), 1) := by decide +kernel
theorem dX9_join_102 : decode cX9_join 102 = .ok (.istore 7, 2) := by decide +kernel
theorem dX9_join_104 : decode cX9_join 104 = .ok (.iload 7, 2) := by decide +kernel
theorem dX9_join_106 : decode cX9_join 106 = .ok (.ifCond .lt 30, 3) := by decide +kernel
theorem dX9_join_109 : decode cX9_join 109 = .ok (.aload_n 0, 1) := by decide +kernel
theorem dX9_join_110 : decode cX9_join 110 = .ok (.iload 5, 2) := by decide +kernel
theorem dX9_join_112 : decode cX9_join 112 = .ok (.aload_n 0, 1) := by decide +kernel
theorem dX9_join_113 : decode cX9_join 113 = .ok (.getfield 32, 3) := by decide +kernel
theorem dX9_join_116 : decode cX9_join 116 = .ok (.iload 6, 2) := by decide +kernel
theorem dX9_join_118 : decode cX9_join 118 = .ok (.laload, 1) := by decide +kernel
theorem dX9_join_119 : decode cX9_join 119 = .ok (.aload_n 0, 1) := by decide +kernel
theorem dX9_join_120 : decode cX9_join 120 = .ok (.getfield 36, 3) := by decide +kernel
theorem dX9_join_123 : decode cX9_join 123 = .ok (.iload 6, 2) := by decide +kernel
theorem dX9_join_125 : decode cX9_join 125 = .ok (.iaload, 1) := by decide +kernel
theorem dX9_join_126 : decode cX9_join 126 = .ok (.aload_n 0, 1) := by decide +kernel
theorem dX9_join_127 : decode cX9_join 127 = .ok (.getfield 36, 3) := by decide +kernel
theorem dX9_join_130 : decode cX9_join 130 = .ok (.iload 7, 2) := by decide +kernel
theorem dX9_join_132 : decode cX9_join 132 = .ok (.iaload, 1) := by decide +kernel
theorem dX9_join_133 : decode cX9_join 133 = .ok (.invokevirtual 173, 3) := by decide +kernel
theorem dX9_join_136 : decode cX9_join 136 = .ok (.iinc 6 1, 3) := by decide +kernel
theorem dX9_join_139 : decode cX9_join 139 = .ok (.goto (-89), 3) := by decide +kernel
theorem dX9_join_142 : decode cX9_join 142 = .ok (.iload 5, 2) := by decide +kernel
theorem dX9_join_144 : decode cX9_join 144 = .ok (.istore 6, 2) := by decide +kernel
theorem dX9_join_146 : decode cX9_join 146 = .ok (.iload 6, 2) := by decide +kernel
theorem dX9_join_148 : decode cX9_join 148 = .ok (.aload_n 0, 1) := by decide +kernel
theorem dX9_join_149 : decode cX9_join 149 = .ok (.getfield 170, 3) := by decide +kernel
theorem dX9_join_152 : decode cX9_join 152 = .ok (.if_icmp .ge 28, 3) := by decide +kernel
theorem dX9_join_155 : decode cX9_join 155 = .ok (.aload_n 0, 1) := by decide +kernel
theorem dX9_join_156 : decode cX9_join 156 = .ok (.getfield 45, 3) := by decide +kernel
theorem dX9_join_159 : decode cX9_join 159 = .ok (.aload_n 0, 1) := by decide +kernel
theorem dX9_join_160 : decode cX9_join 160 = .ok (.aload_n 0, 1) := by decide +kernel
theorem dX9_join_161 : decode cX9_join 161 = .ok (.getfield 60, 3) := by decide +kernel
theorem dX9_join_164 : decode cX9_join 164 = .ok (.iload 6, 2) := by decide +kernel
theorem dX9_join_166 : decode cX9_join 166 = .ok (.laload, 1) := by decide +kernel
theorem dX9_join_167 : decode cX9_join 167 = .ok (.iload 4, 2) := by decide +kernel
theorem dX9_join_169 : decode cX9_join 169 = .ok (.invokevirtual 143, 3) := by decide +kernel
theorem dX9_join_172 : decode cX9_join 172 = .ok (.iconst 0, 1) := by decide +kernel
theorem dX9_join_173 : decode cX9_join 173 = .ok (.bastore, 1) := by decide +kernel
theorem dX9_join_174 : decode cX9_join 174 = .ok (.iinc 6 1, 3) := by decide +kernel
theorem dX9_join_177 : decode cX9_join 177 = .ok (.goto (-31), 3) := by decide +kernel
theorem dX9_join_180 : decode cX9_join 180 = .ok (.iconst 0, 1) := by decide +kernel
theorem dX9_join_181 : decode cX9_join 181 = .ok (.istore 6, 2) := by decide +kernel
theorem dX9_join_183 : decode cX9_join 183 = .ok (.iload 6, 2) := by decide +kernel
theorem dX9_join_185 : decode cX9_join 185 = .ok (.aload_n 0, 1) := by decide +kernel
theorem dX9_join_186 : decode cX9_join 186 = .ok (.getfield 131, 3) := by decide +kernel
theorem dX9_join_189 : decode cX9_join 189 = .ok (.if_icmp .ge 39, 3) := by decide +kernel
theorem dX9_join_192 : decode cX9_join 192 = .ok (.aload_n 0, 1) := by decide +kernel
theorem dX9_join_193 : decode cX9_join 193 = .ok (.getfield 16, 3) := by decide +kernel
theorem dX9_join_196 : decode cX9_join 196 = .ok (.iload 6, 2) := by decide +kernel
theorem dX9_join_198 : decode cX9_join 198 = .ok (.aload_n 0, 1) := by decide +kernel
theorem dX9_join_199 : decode cX9_join 199 = .ok (.getfield 16, 3) := by decide +kernel
theorem dX9_join_202 : decode cX9_join 202 = .ok (.iload 6, 2) := by decide +kernel
theorem dX9_join_204 : decode cX9_join 204 = .ok (.iaload, 1) := by decide +kernel
theorem dX9_join_205 : decode cX9_join 205 = .ok (.iload 4, 2) := by decide +kernel
theorem dX9_join_207 : decode cX9_join 207 = .ok (.if_icmp .ne 7, 3) := by decide +kernel
theorem dX9_join_210 : decode cX9_join 210 = .ok (.iload_n 3, 1) := by decide +kernel
theorem dX9_join_211 : decode cX9_join 211 = .ok (.goto 10, 3) := by decide +kernel
theorem dX9_join_214 : decode cX9_join 214 = .ok (.aload_n 0, 1) := by decide +kernel
theorem dX9_join_215 : decode cX9_join 215 = .ok (.getfield 16, 3) := by decide +kernel
theorem dX9_join_218 : decode cX9_join 218 = .ok (.iload 6, 2) := by decide +kernel
theorem dX9_join_220 : decode cX9_join 220 = .ok (.iaload, 1) := by decide +kernel
theorem dX9_join_221 : decode cX9_join 221 = .ok (.iastore, 1) := by decide +kernel
theorem dX9_join_222 : decode cX9_join 222 = .ok (.iinc 6 1, 3) := by decide +kernel
theorem dX9_join_225 : decode cX9_join 225 = .ok (.goto (-42), 3) := by decide +kernel
theorem dX9_join_228 : decode cX9_join 228 = .ok (.aload_n 0, 1) := by decide +kernel
theorem dX9_join_229 : decode cX9_join 229 = .ok (.getfield 170, 3) := by decide +kernel
theorem dX9_join_232 : decode cX9_join 232 = .ok (.iload 5, 2) := by decide +kernel
theorem dX9_join_234 : decode cX9_join 234 = .ok (.isub, 1) := by decide +kernel
theorem dX9_join_235 : decode cX9_join 235 = .ok (.ireturn, 1) := by decide +kernel
theorem dX9_insert_0 : decode cX9_insert 0 = .ok (.aload_n 0, 1) := by decide +kernel
theorem dX9_insert_1 : decode cX9_insert 1 = .ok (.getfield 170, 3) := by decide +kernel
theorem dX9_insert_4 : decode cX9_insert 4 = .ok (.istore 6, 2) := by decide +kernel
theorem dX9_insert_6 : decode cX9_insert 6 = .ok (.iload 6, 2) := by decide +kernel
theorem dX9_insert_8 : decode cX9_insert 8 = .ok (.iload_n 1, 1) := by decide +kernel
theorem dX9_insert_9 : decode cX9_insert 9 = .ok (.if_icmp .le 71, 3) := by decide +kernel
theorem dX9_insert_12 : decode cX9_insert 12 = .ok (.aload_n 0, 1) := by decide +kernel
theorem dX9_insert_13 : decode cX9_insert 13 = .ok (.getfield 60, 3) := by decide +kernel
theorem dX9_insert_16 : decode cX9_insert 16 = .ok (.iload 6, 2) := by decide +kernel
theorem dX9_insert_18 : decode cX9_insert 18 = .ok (.iconst 1, 1) := by decide +kernel
theorem dX9_insert_19 : decode cX9_insert 19 = .ok (.isub, 1) := by decide +kernel
theorem dX9_insert_20 : decode cX9_insert 20 = .ok (.laload, 1) := by decide +kernel
theorem dX9_insert_21 : decode cX9_insert 21 = .ok (.lload_n 2, 1) := by decide +kernel
theorem dX9_insert_22 : decode cX9_insert 22 = .ok (.lcmp, 1) := by decide +kernel
theorem dX9_insert_23 : decode cX9_insert 23 = .ok (.ifCond .le 57, 3) := by decide +kernel
theorem dX9_insert_26 : decode cX9_insert 26 = .ok (.aload_n 0, 1) := by decide +kernel
theorem dX9_insert_27 : decode cX9_insert 27 = .ok (.getfield 60, 3) := by decide +kernel
theorem dX9_insert_30 : decode cX9_insert 30 = .ok (.iload 6, 2) := by decide +kernel
theorem dX9_insert_32 : decode cX9_insert 32 = .ok (.aload_n 0, 1) := by decide +kernel
theorem dX9_insert_33 : decode cX9_insert 33 = .ok (.getfield 60, 3) := by decide +kernel
theorem dX9_insert_36 : decode cX9_insert 36 = .ok (.iload 6, 2) := by decide +kernel
theorem dX9_insert_38 : decode cX9_insert 38 = .ok (.iconst 1, 1) := by decide +kernel
theorem dX9_insert_39 : decode cX9_insert 39 = .ok (.isub, 1) := by decide +kernel
theorem dX9_insert_40 : decode cX9_insert 40 = .ok (.laload, 1) := by decide +kernel
theorem dX9_insert_41 : decode cX9_insert 41 = .ok (.lastore, 1) := by decide +kernel
theorem dX9_insert_42 : decode cX9_insert 42 = .ok (.aload_n 0, 1) := by decide +kernel
theorem dX9_insert_43 : decode cX9_insert 43 = .ok (.getfield 63, 3) := by decide +kernel
theorem dX9_insert_46 : decode cX9_insert 46 = .ok (.iload 6, 2) := by decide +kernel
theorem dX9_insert_48 : decode cX9_insert 48 = .ok (.aload_n 0, 1) := by decide +kernel
theorem dX9_insert_49 : decode cX9_insert 49 = .ok (.getfield 63, 3) := by decide +kernel
theorem dX9_insert_52 : decode cX9_insert 52 = .ok (.iload 6, 2) := by decide +kernel
theorem dX9_insert_54 : decode cX9_insert 54 = .ok (.iconst 1, 1) := by decide +kernel
theorem dX9_insert_55 : decode cX9_insert 55 = .ok (.isub, 1) := by decide +kernel
theorem dX9_insert_56 : decode cX9_insert 56 = .ok (.iaload, 1) := by decide +kernel
theorem dX9_insert_57 : decode cX9_insert 57 = .ok (.iastore, 1) := by decide +kernel
theorem dX9_insert_58 : decode cX9_insert 58 = .ok (.aload_n 0, 1) := by decide +kernel
theorem dX9_insert_59 : decode cX9_insert 59 = .ok (.getfield 66, 3) := by decide +kernel
theorem dX9_insert_62 : decode cX9_insert 62 = .ok (.iload 6, 2) := by decide +kernel
theorem dX9_insert_64 : decode cX9_insert 64 = .ok (.aload_n 0, 1) := by decide +kernel
theorem dX9_insert_65 : decode cX9_insert 65 = .ok (.getfield 66, 3) := by decide +kernel
theorem dX9_insert_68 : decode cX9_insert 68 = .ok (.iload 6, 2) := by decide +kernel
theorem dX9_insert_70 : decode cX9_insert 70 = .ok (.iconst 1, 1) := by decide +kernel
theorem dX9_insert_71 : decode cX9_insert 71 = .ok (.isub, 1) := by decide +kernel
theorem dX9_insert_72 : decode cX9_insert 72 = .ok (.iaload, 1) := by decide +kernel
theorem dX9_insert_73 : decode cX9_insert 73 = .ok (.iastore, 1) := by decide +kernel
theorem dX9_insert_74 : decode cX9_insert 74 = .ok (.iinc 6 (-1), 3) := by decide +kernel
theorem dX9_insert_77 : decode cX9_insert 77 = .ok (.goto (-71), 3) := by decide +kernel
theorem dX9_insert_80 : decode cX9_insert 80 = .ok (.aload_n 0, 1) := by decide +kernel
theorem dX9_insert_81 : decode cX9_insert 81 = .ok (.getfield 60, 3) := by decide +kernel
theorem dX9_insert_84 : decode cX9_insert 84 = .ok (.iload 6, 2) := by decide +kernel
theorem dX9_insert_86 : decode cX9_insert 86 = .ok (.lload_n 2, 1) := by decide +kernel
theorem dX9_insert_87 : decode cX9_insert 87 = .ok (.lastore, 1) := by decide +kernel
theorem dX9_insert_88 : decode cX9_insert 88 = .ok (.aload_n 0, 1) := by decide +kernel
theorem dX9_insert_89 : decode cX9_insert 89 = .ok (.getfield 63, 3) := by decide +kernel
theorem dX9_insert_92 : decode cX9_insert 92 = .ok (.iload 6, 2) := by decide +kernel
theorem dX9_insert_94 : decode cX9_insert 94 = .ok (.iload 4, 2) := by decide +kernel
theorem dX9_insert_96 : decode cX9_insert 96 = .ok (.iastore, 1) := by decide +kernel
theorem dX9_insert_97 : decode cX9_insert 97 = .ok (.aload_n 0, 1) := by decide +kernel
theorem dX9_insert_98 : decode cX9_insert 98 = .ok (.getfield 66, 3) := by decide +kernel
theorem dX9_insert_101 : decode cX9_insert 101 = .ok (.iload 6, 2) := by decide +kernel
theorem dX9_insert_103 : decode cX9_insert 103 = .ok (.iload 5, 2) := by decide +kernel
theorem dX9_insert_105 : decode cX9_insert 105 = .ok (.iastore, 1) := by decide +kernel
theorem dX9_insert_106 : decode cX9_insert 106 = .ok (.aload_n 0, 1) := by decide +kernel
theorem dX9_insert_107 : decode cX9_insert 107 = .ok (.dup, 1) := by decide +kernel
theorem dX9_insert_108 : decode cX9_insert 108 = .ok (.getfield 170, 3) := by decide +kernel
theorem dX9_insert_111 : decode cX9_insert 111 = .ok (.iconst 1, 1) := by decide +kernel
theorem dX9_insert_112 : decode cX9_insert 112 = .ok (.iadd, 1) := by decide +kernel
theorem dX9_insert_113 : decode cX9_insert 113 = .ok (.putfield 170, 3) := by decide +kernel
theorem dX9_insert_116 : decode cX9_insert 116 = .ok (.return_, 1) := by decide +kernel
theorem dX9_decimals_0 : decode cX9_decimals 0 = .ok (.iconst 1, 1) := by decide +kernel
theorem dX9_decimals_1 : decode cX9_decimals 1 = .ok (.istore_n 2, 1) := by decide +kernel
theorem dX9_decimals_2 : decode cX9_decimals 2 = .ok (.lload_n 0, 1) := by decide +kernel
theorem dX9_decimals_3 : decode cX9_decimals 3 = .ok (.lstore_n 3, 1) := by decide +kernel
theorem dX9_decimals_4 : decode cX9_decimals 4 = .ok (.lload_n 3, 1) := by decide +kernel
theorem dX9_decimals_5 : decode cX9_decimals 5 = .ok (.ldc2_w 177, 3) := by decide +kernel
theorem dX9_decimals_8 : decode cX9_decimals 8 = .ok (.lcmp, 1) := by decide +kernel
theorem dX9_decimals_9 : decode cX9_decimals 9 = .ok (.ifCond .le 15, 3) := by decide +kernel
theorem dX9_decimals_12 : decode cX9_decimals 12 = .ok (.iinc 2 1, 3) := by decide +kernel
theorem dX9_decimals_15 : decode cX9_decimals 15 = .ok (.lload_n 3, 1) := by decide +kernel
theorem dX9_decimals_16 : decode cX9_decimals 16 = .ok (.ldc2_w 115, 3) := by decide +kernel
theorem dX9_decimals_19 : decode cX9_decimals 19 = .ok (.ldiv, 1) := by decide +kernel
theorem dX9_decimals_20 : decode cX9_decimals 20 = .ok (.lstore_n 3, 1) := by decide +kernel
theorem dX9_decimals_21 : decode cX9_decimals 21 = .ok (.goto (-17), 3) := by decide +kernel
theorem dX9_decimals_24 : decode cX9_decimals 24 = .ok (.iload_n 2, 1) := by decide +kernel
theorem dX9_decimals_25 : decode cX9_decimals 25 = .ok (.ireturn, 1) := by decide +kernel
set_option maxRecDepth 20000 in
theorem ggX9_double2_X9_decimals : GoodIn wsX9_double2 wsX9_decimals := goodIn_r _ [10, 11, 6] (by decide +kernel) (by decide +kernel)
set_option maxRecDepth 20000 in
theorem gX9_double2_X9_decimals : GoodIn wsX9_double2 (va_wsS RX9 179 yX9_decimals wsX9_decimals) := goodIn_app (goodIn_of _ (by decide +kernel)) ggX9_double2_X9_decimals
theorem dX9_double2_0 : decode cX9_double2 0 = .ok (.aload_n 0, 1) := by decide +kernel
theorem dX9_double2_1 : decode cX9_double2 1 = .ok (.iconst 0, 1) := by decide +kernel
theorem dX9_double2_2 : decode cX9_double2 2 = .ok (.putfield 81, 3) := by decide +kernel
theorem dX9_double2_5 : decode cX9_double2 5 = .ok (.iload_n 1, 1) := by decide +kernel
theorem dX9_double2_6 : decode cX9_double2 6 = .ok (.ifCond .lt 21, 3) := by decide +kernel
theorem dX9_double2_9 : decode cX9_double2 9 = .ok (.iload_n 1, 1) := by decide +kernel
theorem dX9_double2_10 : decode cX9_double2 10 = .ok (.aload_n 0, 1) := by decide +kernel
theorem dX9_double2_11 : decode cX9_double2 11 = .ok (.getfield 170, 3) := by decide +kernel
theorem dX9_double2_14 : decode cX9_double2 14 = .ok (.if_icmp .ge 13, 3) := by decide +kernel
theorem dX9_double2_17 : decode cX9_double2 17 = .ok (.iload_n 2, 1) := by decide +kernel
theorem dX9_double2_18 : decode cX9_double2 18 = .ok (.ifCond .lt 9, 3) := by decide +kernel
theorem dX9_double2_21 : decode cX9_double2 21 = .ok (.iload_n 2, 1) := by decide +kernel
theorem dX9_double2_22 : decode cX9_double2 22 = .ok (.bipush 20, 2) := by decide +kernel
theorem dX9_double2_24 : decode cX9_double2 24 = .ok (.if_icmp .le 5, 3) := by decide +kernel
theorem dX9_double2_27 : decode cX9_double2 27 = .ok (.iconst (-1), 1) := by decide +kernel
theorem dX9_double2_28 : decode cX9_double2 28 = .ok (.ireturn, 1) := by decide +kernel
theorem dX9_double2_29 : decode cX9_double2 29 = .ok (.aload_n 0, 1) := by decide +kernel
theorem dX9_double2_30 : decode cX9_double2 30 = .ok (.getfield 60, 3) := by decide +kernel
theorem dX9_double2_33 : decode cX9_double2 33 = .ok (.iload_n 1, 1) := by decide +kernel
theorem dX9_double2_34 : decode cX9_double2 34 = .ok (.laload, 1) := by decide +kernel
theorem dX9_double2_35 : decode cX9_double2 35 = .ok (.invokestatic 179, 3) := by decide +kernel
theorem dX9_double2_38 : decode cX9_double2 38 = .ok (.istore_n 3, 1) := by decide +kernel
theorem dX9_double2_39 : decode cX9_double2 39 = .ok (.iload_n 2, 1) := by decide +kernel
theorem dX9_double2_40 : decode cX9_double2 40 = .ok (.iconst 3, 1) := by decide +kernel
theorem dX9_double2_41 : decode cX9_double2 41 = .ok (.if_icmp .ge 32, 3) := by decide +kernel
theorem dX9_double2_44 : decode cX9_double2 44 = .ok (.iload_n 2, 1) := by decide +kernel
theorem dX9_double2_45 : decode cX9_double2 45 = .ok (.ifCond .ne 12, 3) := by decide +kernel
theorem dX9_double2_48 : decode cX9_double2 48 = .ok (.aload_n 0, 1) := by decide +kernel
theorem dX9_double2_49 : decode cX9_double2 49 = .ok (.getfield 63, 3) := by decide +kernel
theorem dX9_double2_52 : decode cX9_double2 52 = .ok (.iload_n 1, 1) := by decide +kernel
theorem dX9_double2_53 : decode cX9_double2 53 = .ok (.iaload, 1) := by decide +kernel
theorem dX9_double2_54 : decode cX9_double2 54 = .ok (.goto 18, 3) := by decide +kernel
theorem dX9_double2_57 : decode cX9_double2 57 = .ok (.iload_n 2, 1) := by decide +kernel
theorem dX9_double2_58 : decode cX9_double2 58 = .ok (.iconst 1, 1) := by decide +kernel
theorem dX9_double2_59 : decode cX9_double2 59 = .ok (.if_icmp .ne 12, 3) := by decide +kernel
theorem dX9_double2_62 : decode cX9_double2 62 = .ok (.aload_n 0, 1) := by decide +kernel
theorem dX9_double2_63 : decode cX9_double2 63 = .ok (.getfield 66, 3) := by decide +kernel
theorem dX9_double2_66 : decode cX9_double2 66 = .ok (.iload_n 1, 1) := by decide +kernel
theorem dX9_double2_67 : decode cX9_double2 67 = .ok (.iaload, 1) := by decide +kernel
theorem dX9_double2_68 : decode cX9_double2 68 = .ok (.goto 4, 3) := by decide +kernel
theorem dX9_double2_71 : decode cX9_double2 71 = .ok (.iload_n 3, 1) := by decide +kernel
theorem dX9_double2_72 : decode cX9_double2 72 = .ok (.ireturn, 1) := by decide +kernel
theorem dX9_double2_73 : decode cX9_double2 73 = .ok (.iload_n 2, 1) := by decide +kernel
theorem dX9_double2_74 : decode cX9_double2 74 = .ok (.iconst 3, 1) := by decide +kernel
theorem dX9_double2_75 : decode cX9_double2 75 = .ok (.isub, 1) := by decide +kernel
theorem dX9_double2_76 : decode cX9_double2 76 = .ok (.iload_n 3, 1) := by decide +kernel
theorem dX9_double2_77 : decode cX9_double2 77 = .ok (.if_icmp .lt 5, 3) := by decide +kernel
theorem dX9_double2_80 : decode cX9_double2 80 = .ok (.iconst (-1), 1) := by decide +kernel
theorem dX9_double2_81 : decode cX9_double2 81 = .ok (.ireturn, 1) := by decide +kernel
theorem dX9_double2_82 : decode cX9_double2 82 = .ok (.aload_n 0, 1) := by decide +kernel
theorem dX9_double2_83 : decode cX9_double2 83 = .ok (.getfield 60, 3) := by decide +kernel
theorem dX9_double2_86 : decode cX9_double2 86 = .ok (.iload_n 1, 1) := by decide +kernel
theorem dX9_double2_87 : decode cX9_double2 87 = .ok (.laload, 1) := by decide +kernel
theorem dX9_double2_88 : decode cX9_double2 88 = .ok (.lstore 4, 2) := by decide +kernel
theorem dX9_double2_90 : decode cX9_double2 90 = .ok (.iload_n 3, 1) := by decide +kernel
theorem dX9_double2_91 : decode cX9_double2 91 = .ok (.iconst 1, 1) := by decide +kernel
theorem dX9_double2_92 : decode cX9_double2 92 = .ok (.isub, 1) := by decide +kernel
theorem dX9_double2_93 : decode cX9_double2 93 = .ok (.istore 6, 2) := by decide +kernel
theorem dX9_double2_95 : decode cX9_double2 95 = .ok (.iload 6, 2) := by decide +kernel
theorem dX9_double2_97 : decode cX9_double2 97 = .ok (.iload_n 2, 1) := by decide +kernel
theorem dX9_double2_98 : decode cX9_double2 98 = .ok (.iconst 3, 1) := by decide +kernel
theorem dX9_double2_99 : decode cX9_double2 99 = .ok (.isub, 1) := by decide +kernel
theorem dX9_double2_100 : decode cX9_double2 100 = .ok (.if_icmp .le 17, 3) := by decide +kernel
theorem dX9_double2_103 : decode cX9_double2 103 = .ok (.lload 4, 2) := by decide +kernel
theorem dX9_double2_105 : decode cX9_double2 105 = .ok (.ldc2_w 115, 3) := by decide +kernel
theorem dX9_double2_108 : decode cX9_double2 108 = .ok (.ldiv, 1) := by decide +kernel
theorem dX9_double2_109 : decode cX9_double2 109 = .ok (.lstore 4, 2) := by decide +kernel
theorem dX9_double2_111 : decode cX9_double2 111 = .ok (.iinc 6 (-1), 3) := by decide +kernel
theorem dX9_double2_114 : decode cX9_double2 114 = .ok (.goto (-19), 3) := by decide +kernel
theorem dX9_double2_117 : decode cX9_double2 117 = .ok (.lload 4, 2) := by decide +kernel
theorem dX9_double2_119 : decode cX9_double2 119 = .ok (.ldc2_w 115, 3) := by decide +kernel
theorem dX9_double2_122 : decode cX9_double2 122 = .ok (.lrem, 1) := by decide +kernel
theorem dX9_double2_123 : decode cX9_double2 123 = .ok (.l2i, 1) := by decide +kernel
theorem dX9_double2_124 : decode cX9_double2 124 = .ok (.ireturn, 1) := by decide +kernel
set_option maxRecDepth 20000 in
theorem ggX9_coupon_X9_isMachine : GoodIn wsX9_coupon wsX9_isMachine := goodIn_r _ [11, 12, 13, 14, 15, 16, 17, 18, 19, 20, 21, 22, 23, 24, 25, 26, 27, 28, 29, 30, 31, 32, 33, 34, 35, 36, 37, 38, 39, 40, 41, 42, 43, 44, 45] (by decide +kernel) (by decide +kernel)
set_option maxRecDepth 20000 in
theorem gX9_coupon_X9_isMachine : GoodIn wsX9_coupon (wsV RX9 136 RX9 yX9_isMachine wsX9_isMachine) := goodIn_app (goodIn_of _ (by decide +kernel)) ggX9_coupon_X9_isMachine
theorem dX9_coupon_0 : decode cX9_coupon 0 = .ok (.aload_n 0, 1) := by decide +kernel
theorem dX9_coupon_1 : decode cX9_coupon 1 = .ok (.iload_n 1, 1) := by decide +kernel
theorem dX9_coupon_2 : decode cX9_coupon 2 = .ok (.invokevirtual 136, 3) := by decide +kernel
theorem dX9_coupon_5 : decode cX9_coupon 5 = .ok (.ifCond .eq 12, 3) := by decide +kernel
theorem dX9_coupon_8 : decode cX9_coupon 8 = .ok (.aload_n 0, 1) := by decide +kernel
theorem dX9_coupon_9 : decode cX9_coupon 9 = .ok (.getfield 23, 3) := by decide +kernel
theorem dX9_coupon_12 : decode cX9_coupon 12 = .ok (.iload_n 1, 1) := by decide +kernel
theorem dX9_coupon_13 : decode cX9_coupon 13 = .ok (.baload, 1) := by decide +kernel
theorem dX9_coupon_14 : decode cX9_coupon 14 = .ok (.ifCond .eq 5, 3) := by decide +kernel
theorem dX9_coupon_17 : decode cX9_coupon 17 = .ok (.iconst (-1), 1) := by decide +kernel
theorem dX9_coupon_18 : decode cX9_coupon 18 = .ok (.ireturn, 1) := by decide +kernel
theorem dX9_coupon_19 : decode cX9_coupon 19 = .ok (.iconst 0, 1) := by decide +kernel
theorem dX9_coupon_20 : decode cX9_coupon 20 = .ok (.istore_n 2, 1) := by decide +kernel
theorem dX9_coupon_21 : decode cX9_coupon 21 = .ok (.iconst 0, 1) := by decide +kernel
theorem dX9_coupon_22 : decode cX9_coupon 22 = .ok (.istore_n 3, 1) := by decide +kernel
theorem dX9_coupon_23 : decode cX9_coupon 23 = .ok (.iload_n 3, 1) := by decide +kernel
theorem dX9_coupon_24 : decode cX9_coupon 24 = .ok (.aload_n 0, 1) := by decide +kernel
theorem dX9_coupon_25 : decode cX9_coupon 25 = .ok (.getfield 140, 3) := by decide +kernel
theorem dX9_coupon_28 : decode cX9_coupon 28 = .ok (.if_icmp .ge 38, 3) := by decide +kernel
theorem dX9_coupon_31 : decode cX9_coupon 31 = .ok (.aload_n 0, 1) := by decide +kernel
theorem dX9_coupon_32 : decode cX9_coupon 32 = .ok (.getfield 36, 3) := by decide +kernel
theorem dX9_coupon_35 : decode cX9_coupon 35 = .ok (.iload_n 3, 1) := by decide +kernel
theorem dX9_coupon_36 : decode cX9_coupon 36 = .ok (.iaload, 1) := by decide +kernel
theorem dX9_coupon_37 : decode cX9_coupon 37 = .ok (.iload_n 1, 1) := by decide +kernel
theorem dX9_coupon_38 : decode cX9_coupon 38 = .ok (.if_icmp .ne 22, 3) := by decide +kernel
theorem dX9_coupon_41 : decode cX9_coupon 41 = .ok (.aload_n 0, 1) := by decide +kernel
theorem dX9_coupon_42 : decode cX9_coupon 42 = .ok (.getfield 48, 3) := by decide +kernel
theorem dX9_coupon_45 : decode cX9_coupon 45 = .ok (.iload_n 3, 1) := by decide +kernel
theorem dX9_coupon_46 : decode cX9_coupon 46 = .ok (.baload, 1) := by decide +kernel
theorem dX9_coupon_47 : decode cX9_coupon 47 = .ok (.ifCond .ne 13, 3) := by decide +kernel
theorem dX9_coupon_50 : decode cX9_coupon 50 = .ok (.aload_n 0, 1) := by decide +kernel
theorem dX9_coupon_51 : decode cX9_coupon 51 = .ok (.getfield 48, 3) := by decide +kernel
theorem dX9_coupon_54 : decode cX9_coupon 54 = .ok (.iload_n 3, 1) := by decide +kernel
theorem dX9_coupon_55 : decode cX9_coupon 55 = .ok (.iconst 1, 1) := by decide +kernel
theorem dX9_coupon_56 : decode cX9_coupon 56 = .ok (.bastore, 1) := by decide +kernel
theorem dX9_coupon_57 : decode cX9_coupon 57 = .ok (.iinc 2 1, 3) := by decide +kernel
theorem dX9_coupon_60 : decode cX9_coupon 60 = .ok (.iinc 3 1, 3) := by decide +kernel
theorem dX9_coupon_63 : decode cX9_coupon 63 = .ok (.goto (-40), 3) := by decide +kernel
theorem dX9_coupon_66 : decode cX9_coupon 66 = .ok (.iload_n 2, 1) := by decide +kernel
theorem dX9_coupon_67 : decode cX9_coupon 67 = .ok (.ifCond .ne 5, 3) := by decide +kernel
theorem dX9_coupon_70 : decode cX9_coupon 70 = .ok (.iconst (-1), 1) := by decide +kernel
theorem dX9_coupon_71 : decode cX9_coupon 71 = .ok (.ireturn, 1) := by decide +kernel
theorem dX9_coupon_72 : decode cX9_coupon 72 = .ok (.aload_n 0, 1) := by decide +kernel
theorem dX9_coupon_73 : decode cX9_coupon 73 = .ok (.getfield 69, 3) := by decide +kernel
theorem dX9_coupon_76 : decode cX9_coupon 76 = .ok (.aload_n 0, 1) := by decide +kernel
theorem dX9_coupon_77 : decode cX9_coupon 77 = .ok (.getfield 183, 3) := by decide +kernel
theorem dX9_coupon_80 : decode cX9_coupon 80 = .ok (.bipush 25, 2) := by decide +kernel
theorem dX9_coupon_82 : decode cX9_coupon 82 = .ok (.iload_n 2, 1) := by decide +kernel
theorem dX9_coupon_83 : decode cX9_coupon 83 = .ok (.imul, 1) := by decide +kernel
theorem dX9_coupon_84 : decode cX9_coupon 84 = .ok (.iastore, 1) := by decide +kernel
theorem dX9_coupon_85 : decode cX9_coupon 85 = .ok (.aload_n 0, 1) := by decide +kernel
theorem dX9_coupon_86 : decode cX9_coupon 86 = .ok (.dup, 1) := by decide +kernel
theorem dX9_coupon_87 : decode cX9_coupon 87 = .ok (.getfield 183, 3) := by decide +kernel
theorem dX9_coupon_90 : decode cX9_coupon 90 = .ok (.iconst 1, 1) := by decide +kernel
theorem dX9_coupon_91 : decode cX9_coupon 91 = .ok (.iadd, 1) := by decide +kernel
theorem dX9_coupon_92 : decode cX9_coupon 92 = .ok (.putfield 183, 3) := by decide +kernel
theorem dX9_coupon_95 : decode cX9_coupon 95 = .ok (.aload_n 0, 1) := by decide +kernel
theorem dX9_coupon_96 : decode cX9_coupon 96 = .ok (.getfield 183, 3) := by decide +kernel
theorem dX9_coupon_99 : decode cX9_coupon 99 = .ok (.iconst 1, 1) := by decide +kernel
theorem dX9_coupon_100 : decode cX9_coupon 100 = .ok (.isub, 1) := by decide +kernel
theorem dX9_coupon_101 : decode cX9_coupon 101 = .ok (.ireturn, 1) := by decide +kernel
set_option maxRecDepth 20000 in
theorem ggX9_redeem_X9_isIn : GoodIn wsX9_redeem wsX9_isIn := goodIn_r _ [10] (by decide +kernel) (by decide +kernel)
set_option maxRecDepth 20000 in
theorem gX9_redeem_X9_isIn : GoodIn wsX9_redeem (va_wsS RX9 87 yX9_isIn wsX9_isIn) := goodIn_app (goodIn_of _ (by decide +kernel)) ggX9_redeem_X9_isIn
theorem dX9_redeem_0 : decode cX9_redeem 0 = .ok (.aload_n 0, 1) := by decide +kernel
theorem dX9_redeem_1 : decode cX9_redeem 1 = .ok (.iconst 0, 1) := by decide +kernel
theorem dX9_redeem_2 : decode cX9_redeem 2 = .ok (.putfield 81, 3) := by decide +kernel
theorem dX9_redeem_5 : decode cX9_redeem 5 = .ok (.iload_n 1, 1) := by decide +kernel
theorem dX9_redeem_6 : decode cX9_redeem 6 = .ok (.ifCond .lt 31, 3) := by decide +kernel
theorem dX9_redeem_9 : decode cX9_redeem 9 = .ok (.iload_n 1, 1) := by decide +kernel
theorem dX9_redeem_10 : decode cX9_redeem 10 = .ok (.aload_n 0, 1) := by decide +kernel
theorem dX9_redeem_11 : decode cX9_redeem 11 = .ok (.getfield 183, 3) := by decide +kernel
theorem dX9_redeem_14 : decode cX9_redeem 14 = .ok (.if_icmp .ge 23, 3) := by decide +kernel
theorem dX9_redeem_17 : decode cX9_redeem 17 = .ok (.iload_n 2, 1) := by decide +kernel
theorem dX9_redeem_18 : decode cX9_redeem 18 = .ok (.i2l, 1) := by decide +kernel
theorem dX9_redeem_19 : decode cX9_redeem 19 = .ok (.ldc2_w 186, 3) := by decide +kernel
theorem dX9_redeem_22 : decode cX9_redeem 22 = .ok (.invokestatic 87, 3) := by decide +kernel
theorem dX9_redeem_25 : decode cX9_redeem 25 = .ok (.ifCond .eq 12, 3) := by decide +kernel
theorem dX9_redeem_28 : decode cX9_redeem 28 = .ok (.aload_n 0, 1) := by decide +kernel
theorem dX9_redeem_29 : decode cX9_redeem 29 = .ok (.getfield 72, 3) := by decide +kernel
theorem dX9_redeem_32 : decode cX9_redeem 32 = .ok (.iload_n 1, 1) := by decide +kernel
theorem dX9_redeem_33 : decode cX9_redeem 33 = .ok (.baload, 1) := by decide +kernel
theorem dX9_redeem_34 : decode cX9_redeem 34 = .ok (.ifCond .eq 5, 3) := by decide +kernel
theorem dX9_redeem_37 : decode cX9_redeem 37 = .ok (.iconst 0, 1) := by decide +kernel
theorem dX9_redeem_38 : decode cX9_redeem 38 = .ok (.ireturn, 1) := by decide +kernel
theorem dX9_redeem_39 : decode cX9_redeem 39 = .ok (.aload_n 0, 1) := by decide +kernel
theorem dX9_redeem_40 : decode cX9_redeem 40 = .ok (.getfield 72, 3) := by decide +kernel
theorem dX9_redeem_43 : decode cX9_redeem 43 = .ok (.iload_n 1, 1) := by decide +kernel
theorem dX9_redeem_44 : decode cX9_redeem 44 = .ok (.iconst 1, 1) := by decide +kernel
theorem dX9_redeem_45 : decode cX9_redeem 45 = .ok (.bastore, 1) := by decide +kernel
theorem dX9_redeem_46 : decode cX9_redeem 46 = .ok (.aload_n 0, 1) := by decide +kernel
theorem dX9_redeem_47 : decode cX9_redeem 47 = .ok (.getfield 75, 3) := by decide +kernel
theorem dX9_redeem_50 : decode cX9_redeem 50 = .ok (.iload_n 2, 1) := by decide +kernel
theorem dX9_redeem_51 : decode cX9_redeem 51 = .ok (.dup2, 1) := by decide +kernel
theorem dX9_redeem_52 : decode cX9_redeem 52 = .ok (.laload, 1) := by decide +kernel
theorem dX9_redeem_53 : decode cX9_redeem 53 = .ok (.aload_n 0, 1) := by decide +kernel
theorem dX9_redeem_54 : decode cX9_redeem 54 = .ok (.getfield 69, 3) := by decide +kernel
theorem dX9_redeem_57 : decode cX9_redeem 57 = .ok (.iload_n 1, 1) := by decide +kernel
theorem dX9_redeem_58 : decode cX9_redeem 58 = .ok (.iaload, 1) := by decide +kernel
theorem dX9_redeem_59 : decode cX9_redeem 59 = .ok (.i2l, 1) := by decide +kernel
theorem dX9_redeem_60 : decode cX9_redeem 60 = .ok (.ladd, 1) := by decide +kernel
theorem dX9_redeem_61 : decode cX9_redeem 61 = .ok (.lastore, 1) := by decide +kernel
theorem dX9_redeem_62 : decode cX9_redeem 62 = .ok (.iconst 1, 1) := by decide +kernel
theorem dX9_redeem_63 : decode cX9_redeem 63 = .ok (.ireturn, 1) := by decide +kernel
set_option maxRecDepth 20000 in
theorem ggX9_shop_X9_isIn : GoodIn wsX9_shop wsX9_isIn := goodIn_r _ [8] (by decide +kernel) (by decide +kernel)
set_option maxRecDepth 20000 in
theorem gX9_shop_X9_isIn : GoodIn wsX9_shop (va_wsS RX9 87 yX9_isIn wsX9_isIn) := goodIn_app (goodIn_of _ (by decide +kernel)) ggX9_shop_X9_isIn
theorem dX9_shop_0 : decode cX9_shop 0 = .ok (.aload_n 0, 1) := by decide +kernel
theorem dX9_shop_1 : decode cX9_shop 1 = .ok (.iconst 0, 1) := by decide +kernel
theorem dX9_shop_2 : decode cX9_shop 2 = .ok (.putfield 81, 3) := by decide +kernel
theorem dX9_shop_5 : decode cX9_shop 5 = .ok (.iload_n 1, 1) := by decide +kernel
theorem dX9_shop_6 : decode cX9_shop 6 = .ok (.i2l, 1) := by decide +kernel
theorem dX9_shop_7 : decode cX9_shop 7 = .ok (.ldc2_w 186, 3) := by decide +kernel
theorem dX9_shop_10 : decode cX9_shop 10 = .ok (.invokestatic 87, 3) := by decide +kernel
theorem dX9_shop_13 : decode cX9_shop 13 = .ok (.ifCond .eq 12, 3) := by decide +kernel
theorem dX9_shop_16 : decode cX9_shop 16 = .ok (.aload_n 0, 1) := by decide +kernel
theorem dX9_shop_17 : decode cX9_shop 17 = .ok (.getfield 75, 3) := by decide +kernel
theorem dX9_shop_20 : decode cX9_shop 20 = .ok (.iload_n 1, 1) := by decide +kernel
theorem dX9_shop_21 : decode cX9_shop 21 = .ok (.laload, 1) := by decide +kernel
theorem dX9_shop_22 : decode cX9_shop 22 = .ok (.goto 6, 3) := by decide +kernel
theorem dX9_shop_25 : decode cX9_shop 25 = .ok (.ldc2_w 168, 3) := by decide +kernel
theorem dX9_shop_28 : decode cX9_shop 28 = .ok (.lreturn, 1) := by decide +kernel
set_option maxRecDepth 20000 in
theorem ggX9_clear_X9_isIn : GoodIn wsX9_clear wsX9_isIn := goodIn_r _ [14] (by decide +kernel) (by decide +kernel)
set_option maxRecDepth 20000 in
theorem gX9_clear_X9_isIn : GoodIn wsX9_clear (va_wsS RX9 87 yX9_isIn wsX9_isIn) := goodIn_app (goodIn_of _ (by decide +kernel)) ggX9_clear_X9_isIn
theorem dX9_clear_0 : decode cX9_clear 0 = .ok (.aload_n 0, 1) := by decide +kernel
theorem dX9_clear_1 : decode cX9_clear 1 = .ok (.iconst 0, 1) := by decide +kernel
theorem dX9_clear_2 : decode cX9_clear 2 = .ok (.putfield 81, 3) := by decide +kernel
theorem dX9_clear_5 : decode cX9_clear 5 = .ok (.iload_n 1, 1) := by decide +kernel
theorem dX9_clear_6 : decode cX9_clear 6 = .ok (.i2l, 1) := by decide +kernel
theorem dX9_clear_7 : decode cX9_clear 7 = .ok (.ldc2_w 188, 3) := by decide +kernel
theorem dX9_clear_10 : decode cX9_clear 10 = .ok (.invokestatic 87, 3) := by decide +kernel
theorem dX9_clear_13 : decode cX9_clear 13 = .ok (.ifCond .ne 5, 3) := by decide +kernel
theorem dX9_clear_16 : decode cX9_clear 16 = .ok (.iconst (-1), 1) := by decide +kernel
theorem dX9_clear_17 : decode cX9_clear 17 = .ok (.ireturn, 1) := by decide +kernel
theorem dX9_clear_18 : decode cX9_clear 18 = .ok (.iconst 0, 1) := by decide +kernel
theorem dX9_clear_19 : decode cX9_clear 19 = .ok (.istore_n 2, 1) := by decide +kernel
theorem dX9_clear_20 : decode cX9_clear 20 = .ok (.iconst 0, 1) := by decide +kernel
theorem dX9_clear_21 : decode cX9_clear 21 = .ok (.istore_n 3, 1) := by decide +kernel
theorem dX9_clear_22 : decode cX9_clear 22 = .ok (.iload_n 3, 1) := by decide +kernel
theorem dX9_clear_23 : decode cX9_clear 23 = .ok (.iconst 3, 1) := by decide +kernel
theorem dX9_clear_24 : decode cX9_clear 24 = .ok (.if_icmp .ge 136, 3) := by decide +kernel
theorem dX9_clear_27 : decode cX9_clear 27 = .ok (.aload_n 0, 1) := by decide +kernel
theorem dX9_clear_28 : decode cX9_clear 28 = .ok (.getfield 78, 3) := by decide +kernel
theorem dX9_clear_31 : decode cX9_clear 31 = .ok (.iload_n 3, 1) := by decide +kernel
theorem dX9_clear_32 : decode cX9_clear 32 = .ok (.lconst 0, 1) := by decide +kernel
theorem dX9_clear_33 : decode cX9_clear 33 = .ok (.lastore, 1) := by decide +kernel
theorem dX9_clear_34 : decode cX9_clear 34 = .ok (.iconst 0, 1) := by decide +kernel
theorem dX9_clear_35 : decode cX9_clear 35 = .ok (.istore 4, 2) := by decide +kernel
theorem dX9_clear_37 : decode cX9_clear 37 = .ok (.iload 4, 2) := by decide +kernel
theorem dX9_clear_39 : decode cX9_clear 39 = .ok (.aload_n 0, 1) := by decide +kernel
theorem dX9_clear_40 : decode cX9_clear 40 = .ok (.getfield 140, 3) := by decide +kernel
theorem dX9_clear_43 : decode cX9_clear 43 = .ok (.if_icmp .ge 92, 3) := by decide +kernel
theorem dX9_clear_46 : decode cX9_clear 46 = .ok (.aload_n 0, 1) := by decide +kernel
theorem dX9_clear_47 : decode cX9_clear 47 = .ok (.getfield 42, 3) := by decide +kernel
theorem dX9_clear_50 : decode cX9_clear 50 = .ok (.iload 4, 2) := by decide +kernel
theorem dX9_clear_52 : decode cX9_clear 52 = .ok (.laload, 1) := by decide +kernel
theorem dX9_clear_53 : decode cX9_clear 53 = .ok (.iload_n 1, 1) := by decide +kernel
theorem dX9_clear_54 : decode cX9_clear 54 = .ok (.i2l, 1) := by decide +kernel
theorem dX9_clear_55 : decode cX9_clear 55 = .ok (.lcmp, 1) := by decide +kernel
theorem dX9_clear_56 : decode cX9_clear 56 = .ok (.ifCond .ne 73, 3) := by decide +kernel
theorem dX9_clear_59 : decode cX9_clear 59 = .ok (.aload_n 0, 1) := by decide +kernel
theorem dX9_clear_60 : decode cX9_clear 60 = .ok (.getfield 78, 3) := by decide +kernel
theorem dX9_clear_63 : decode cX9_clear 63 = .ok (.iload_n 3, 1) := by decide +kernel
theorem dX9_clear_64 : decode cX9_clear 64 = .ok (.dup2, 1) := by decide +kernel
theorem dX9_clear_65 : decode cX9_clear 65 = .ok (.laload, 1) := by decide +kernel
theorem dX9_clear_66 : decode cX9_clear 66 = .ok (.aload_n 0, 1) := by decide +kernel
theorem dX9_clear_67 : decode cX9_clear 67 = .ok (.getfield 36, 3) := by decide +kernel
theorem dX9_clear_70 : decode cX9_clear 70 = .ok (.iload 4, 2) := by decide +kernel
theorem dX9_clear_72 : decode cX9_clear 72 = .ok (.iaload, 1) := by decide +kernel
theorem dX9_clear_73 : decode cX9_clear 73 = .ok (.iconst 3, 1) := by decide +kernel
theorem dX9_clear_74 : decode cX9_clear 74 = .ok (.irem, 1) := by decide +kernel
theorem dX9_clear_75 : decode cX9_clear 75 = .ok (.iload_n 3, 1) := by decide +kernel
theorem dX9_clear_76 : decode cX9_clear 76 = .ok (.if_icmp .ne 9, 3) := by decide +kernel
theorem dX9_clear_79 : decode cX9_clear 79 = .ok (.ldc2_w 190, 3) := by decide +kernel
theorem dX9_clear_82 : decode cX9_clear 82 = .ok (.goto 4, 3) := by decide +kernel
theorem dX9_clear_85 : decode cX9_clear 85 = .ok (.lconst 0, 1) := by decide +kernel
theorem dX9_clear_86 : decode cX9_clear 86 = .ok (.lsub, 1) := by decide +kernel
theorem dX9_clear_87 : decode cX9_clear 87 = .ok (.lastore, 1) := by decide +kernel
theorem dX9_clear_88 : decode cX9_clear 88 = .ok (.aload_n 0, 1) := by decide +kernel
theorem dX9_clear_89 : decode cX9_clear 89 = .ok (.getfield 78, 3) := by decide +kernel
theorem dX9_clear_92 : decode cX9_clear 92 = .ok (.iload_n 3, 1) := by decide +kernel
theorem dX9_clear_93 : decode cX9_clear 93 = .ok (.dup2, 1) := by decide +kernel
theorem dX9_clear_94 : decode cX9_clear 94 = .ok (.laload, 1) := by decide +kernel
theorem dX9_clear_95 : decode cX9_clear 95 = .ok (.aload_n 0, 1) := by decide +kernel
theorem dX9_clear_96 : decode cX9_clear 96 = .ok (.getfield 32, 3) := by decide +kernel
theorem dX9_clear_99 : decode cX9_clear 99 = .ok (.iload 4, 2) := by decide +kernel
theorem dX9_clear_101 : decode cX9_clear 101 = .ok (.laload, 1) := by decide +kernel
theorem dX9_clear_102 : decode cX9_clear 102 = .ok (.ldc2_w 115, 3) := by decide +kernel
theorem dX9_clear_105 : decode cX9_clear 105 = .ok (.ldiv, 1) := by decide +kernel
theorem dX9_clear_106 : decode cX9_clear 106 = .ok (.ldc2_w 115, 3) := by decide +kernel
theorem dX9_clear_109 : decode cX9_clear 109 = .ok (.lrem, 1) := by decide +kernel
theorem dX9_clear_110 : decode cX9_clear 110 = .ok (.ldc2_w 192, 3) := by decide +kernel
theorem dX9_clear_113 : decode cX9_clear 113 = .ok (.lrem, 1) := by decide +kernel
theorem dX9_clear_114 : decode cX9_clear 114 = .ok (.iload_n 3, 1) := by decide +kernel
theorem dX9_clear_115 : decode cX9_clear 115 = .ok (.i2l, 1) := by decide +kernel
theorem dX9_clear_116 : decode cX9_clear 116 = .ok (.lcmp, 1) := by decide +kernel
theorem dX9_clear_117 : decode cX9_clear 117 = .ok (.ifCond .ne 9, 3) := by decide +kernel
theorem dX9_clear_120 : decode cX9_clear 120 = .ok (.ldc2_w 190, 3) := by decide +kernel
theorem dX9_clear_123 : decode cX9_clear 123 = .ok (.goto 4, 3) := by decide +kernel
theorem dX9_clear_126 : decode cX9_clear 126 = .ok (.lconst 0, 1) := by decide +kernel
theorem dX9_clear_127 : decode cX9_clear 127 = .ok (.ladd, 1) := by decide +kernel
theorem dX9_clear_128 : decode cX9_clear 128 = .ok (.lastore, 1) := by decide +kernel
theorem dX9_clear_129 : decode cX9_clear 129 = .ok (.iinc 4 1, 3) := by decide +kernel
theorem dX9_clear_132 : decode cX9_clear 132 = .ok (.goto (-95), 3) := by decide +kernel
theorem dX9_clear_135 : decode cX9_clear 135 = .ok (.aload_n 0, 1) := by decide +kernel
theorem dX9_clear_136 : decode cX9_clear 136 = .ok (.getfield 78, 3) := by decide +kernel
theorem dX9_clear_139 : decode cX9_clear 139 = .ok (.iload_n 3, 1) := by decide +kernel
theorem dX9_clear_140 : decode cX9_clear 140 = .ok (.laload, 1) := by decide +kernel
theorem dX9_clear_141 : decode cX9_clear 141 = .ok (.lconst 0, 1) := by decide +kernel
theorem dX9_clear_142 : decode cX9_clear 142 = .ok (.lcmp, 1) := by decide +kernel
theorem dX9_clear_143 : decode cX9_clear 143 = .ok (.ifCond .ne 7, 3) := by decide +kernel
theorem dX9_clear_146 : decode cX9_clear 146 = .ok (.iload_n 2, 1) := by decide +kernel
theorem dX9_clear_147 : decode cX9_clear 147 = .ok (.goto 6, 3) := by decide +kernel
theorem dX9_clear_150 : decode cX9_clear 150 = .ok (.iload_n 2, 1) := by decide +kernel
theorem dX9_clear_151 : decode cX9_clear 151 = .ok (.iconst 1, 1) := by decide +kernel
theorem dX9_clear_152 : decode cX9_clear 152 = .ok (.iadd, 1) := by decide +kernel
theorem dX9_clear_153 : decode cX9_clear 153 = .ok (.istore_n 2, 1) := by decide +kernel
theorem dX9_clear_154 : decode cX9_clear 154 = .ok (.iinc 3 1, 3) := by decide +kernel
theorem dX9_clear_157 : decode cX9_clear 157 = .ok (.goto (-135), 3) := by decide +kernel
theorem dX9_clear_160 : decode cX9_clear 160 = .ok (.iload_n 2, 1) := by decide +kernel
theorem dX9_clear_161 : decode cX9_clear 161 = .ok (.ireturn, 1) := by decide +kernel
set_option maxRecDepth 20000 in
theorem ggX9_cleared_X9_isIn : GoodIn wsX9_cleared wsX9_isIn := goodIn_r _ [7] (by decide +kernel) (by decide +kernel)
set_option maxRecDepth 20000 in
theorem gX9_cleared_X9_isIn : GoodIn wsX9_cleared (va_wsS RX9 87 yX9_isIn wsX9_isIn) := goodIn_app (goodIn_of _ (by decide +kernel)) ggX9_cleared_X9_isIn
theorem dX9_cleared_0 : decode cX9_cleared 0 = .ok (.aload_n 0, 1) := by decide +kernel
theorem dX9_cleared_1 : decode cX9_cleared 1 = .ok (.iconst 0, 1) := by decide +kernel
theorem dX9_cleared_2 : decode cX9_cleared 2 = .ok (.putfield 81, 3) := by decide +kernel
theorem dX9_cleared_5 : decode cX9_cleared 5 = .ok (.iload_n 1, 1) := by decide +kernel
theorem dX9_cleared_6 : decode cX9_cleared 6 = .ok (.i2l, 1) := by decide +kernel
theorem dX9_cleared_7 : decode cX9_cleared 7 = .ok (.ldc2_w 194, 3) := by decide +kernel
theorem dX9_cleared_10 : decode cX9_cleared 10 = .ok (.invokestatic 87, 3) := by decide +kernel
theorem dX9_cleared_13 : decode cX9_cleared 13 = .ok (.ifCond .eq 12, 3) := by decide +kernel
theorem dX9_cleared_16 : decode cX9_cleared 16 = .ok (.aload_n 0, 1) := by decide +kernel
theorem dX9_cleared_17 : decode cX9_cleared 17 = .ok (.getfield 78, 3) := by decide +kernel
theorem dX9_cleared_20 : decode cX9_cleared 20 = .ok (.iload_n 1, 1) := by decide +kernel
theorem dX9_cleared_21 : decode cX9_cleared 21 = .ok (.laload, 1) := by decide +kernel
theorem dX9_cleared_22 : decode cX9_cleared 22 = .ok (.goto 4, 3) := by decide +kernel
theorem dX9_cleared_25 : decode cX9_cleared 25 = .ok (.lconst 0, 1) := by decide +kernel
theorem dX9_cleared_26 : decode cX9_cleared 26 = .ok (.lreturn, 1) := by decide +kernel
theorem dX9_fraud_0 : decode cX9_fraud 0 = .ok (.aload_n 0, 1) := by decide +kernel
theorem dX9_fraud_1 : decode cX9_fraud 1 = .ok (.iconst 0, 1) := by decide +kernel
theorem dX9_fraud_2 : decode cX9_fraud 2 = .ok (.putfield 81, 3) := by decide +kernel
theorem dX9_fraud_5 : decode cX9_fraud 5 = .ok (.iload_n 1, 1) := by decide +kernel
theorem dX9_fraud_6 : decode cX9_fraud 6 = .ok (.ifCond .lt 20, 3) := by decide +kernel
theorem dX9_fraud_9 : decode cX9_fraud 9 = .ok (.iload_n 1, 1) := by decide +kernel
theorem dX9_fraud_10 : decode cX9_fraud 10 = .ok (.aload_n 0, 1) := by decide +kernel
theorem dX9_fraud_11 : decode cX9_fraud 11 = .ok (.getfield 150, 3) := by decide +kernel
theorem dX9_fraud_14 : decode cX9_fraud 14 = .ok (.if_icmp .ge 12, 3) := by decide +kernel
theorem dX9_fraud_17 : decode cX9_fraud 17 = .ok (.aload_n 0, 1) := by decide +kernel
theorem dX9_fraud_18 : decode cX9_fraud 18 = .ok (.getfield 57, 3) := by decide +kernel
theorem dX9_fraud_21 : decode cX9_fraud 21 = .ok (.iload_n 1, 1) := by decide +kernel
theorem dX9_fraud_22 : decode cX9_fraud 22 = .ok (.iaload, 1) := by decide +kernel
theorem dX9_fraud_23 : decode cX9_fraud 23 = .ok (.goto 4, 3) := by decide +kernel
theorem dX9_fraud_26 : decode cX9_fraud 26 = .ok (.iconst (-1), 1) := by decide +kernel
theorem dX9_fraud_27 : decode cX9_fraud 27 = .ok (.ireturn, 1) := by decide +kernel
