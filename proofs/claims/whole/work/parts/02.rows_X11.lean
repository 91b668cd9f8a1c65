theorem dX11_init_0 : decode cX11_init 0 = .ok (.aload_n 0, 1) := by decide +kernel
theorem dX11_init_1 : decode cX11_init 1 = .ok (.invokespecial 1, 3) := by decide +kernel
theorem dX11_init_4 : decode cX11_init 4 = .ok (.aload_n 0, 1) := by decide +kernel
theorem dX11_init_5 : decode cX11_init 5 = .ok (.iconst 3, 1) := by decide +kernel
theorem dX11_init_6 : decode cX11_init 6 = .ok (.newarray .int, 2) := by decide +kernel
theorem dX11_init_8 : decode cX11_init 8 = .ok (.putfield 7, 3) := by decide +kernel
theorem dX11_init_11 : decode cX11_init 11 = .ok (.aload_n 0, 1) := by decide +kernel
theorem dX11_init_12 : decode cX11_init 12 = .ok (.bipush 120, 2) := by decide +kernel
theorem dX11_init_14 : decode cX11_init 14 = .ok (.newarray .int, 2) := by decide +kernel
theorem dX11_init_16 : decode cX11_init 16 = .ok (.putfield 13, 3) := by decide +kernel
theorem dX11_init_19 : decode cX11_init 19 = .ok (.aload_n 0, 1) := by decide +kernel
theorem dX11_init_20 : decode cX11_init 20 = .ok (.sipush 1440, 3) := by decide +kernel
theorem dX11_init_23 : decode cX11_init 23 = .ok (.newarray .int, 2) := by decide +kernel
theorem dX11_init_25 : decode cX11_init 25 = .ok (.putfield 16, 3) := by decide +kernel
theorem dX11_init_28 : decode cX11_init 28 = .ok (.aload_n 0, 1) := by decide +kernel
theorem dX11_init_29 : decode cX11_init 29 = .ok (.sipush 200, 3) := by decide +kernel
theorem dX11_init_32 : decode cX11_init 32 = .ok (.newarray .byte, 2) := by decide +kernel
theorem dX11_init_34 : decode cX11_init 34 = .ok (.putfield 19, 3) := by decide +kernel
theorem dX11_init_37 : decode cX11_init 37 = .ok (.aload_n 0, 1) := by decide +kernel
theorem dX11_init_38 : decode cX11_init 38 = .ok (.bipush 40, 2) := by decide +kernel
theorem dX11_init_40 : decode cX11_init 40 = .ok (.newarray .int, 2) := by decide +kernel
theorem dX11_init_42 : decode cX11_init 42 = .ok (.putfield 23, 3) := by decide +kernel
theorem dX11_init_45 : decode cX11_init 45 = .ok (.aload_n 0, 1) := by decide +kernel
theorem dX11_init_46 : decode cX11_init 46 = .ok (.bipush 40, 2) := by decide +kernel
theorem dX11_init_48 : decode cX11_init 48 = .ok (.newarray .int, 2) := by decide +kernel
theorem dX11_init_50 : decode cX11_init 50 = .ok (.putfield 26, 3) := by decide +kernel
theorem dX11_init_53 : decode cX11_init 53 = .ok (.aload_n 0, 1) := by decide +kernel
theorem dX11_init_54 : decode cX11_init 54 = .ok (.bipush 40, 2) := by decide +kernel
theorem dX11_init_56 : decode cX11_init 56 = .ok (.newarray .int, 2) := by decide +kernel
theorem dX11_init_58 : decode cX11_init 58 = .ok (.putfield 29, 3) := by decide +kernel
theorem dX11_init_61 : decode cX11_init 61 = .ok (.aload_n 0, 1) := by decide +kernel
theorem dX11_init_62 : decode cX11_init 62 = .ok (.bipush 40, 2) := by decide +kernel
theorem dX11_init_64 : decode cX11_init 64 = .ok (.newarray .int, 2) := by decide +kernel
theorem dX11_init_66 : decode cX11_init 66 = .ok (.putfield 32, 3) := by decide +kernel
theorem dX11_init_69 : decode cX11_init 69 = .ok (.aload_n 0, 1) := by decide +kernel
theorem dX11_init_70 : decode cX11_init 70 = .ok (.bipush 40, 2) := by decide +kernel
theorem dX11_init_72 : decode cX11_init 72 = .ok (.newarray .int, 2) := by decide +kernel
theorem dX11_init_74 : decode cX11_init 74 = .ok (.putfield 35, 3) := by decide +kernel
theorem dX11_init_77 : decode cX11_init 77 = .ok (.aload_n 0, 1) := by decide +kernel
theorem dX11_init_78 : decode cX11_init 78 = .ok (.bipush 40, 2) := by decide +kernel
theorem dX11_init_80 : decode cX11_init 80 = .ok (.newarray .int, 2) := by decide +kernel
theorem dX11_init_82 : decode cX11_init 82 = .ok (.putfield 38, 3) := by decide +kernel
theorem dX11_init_85 : decode cX11_init 85 = .ok (.aload_n 0, 1) := by decide +kernel
theorem dX11_init_86 : decode cX11_init 86 = .ok (.bipush 40, 2) := by decide +kernel
theorem dX11_init_88 : decode cX11_init 88 = .ok (.newarray .int, 2) := by decide +kernel
theorem dX11_init_90 : decode cX11_init 90 = .ok (.putfield 41, 3) := by decide +kernel
theorem dX11_init_93 : decode cX11_init 93 = .ok (.aload_n 0, 1) := by decide +kernel
theorem dX11_init_94 : decode cX11_init 94 = .ok (.bipush 40, 2) := by decide +kernel
theorem dX11_init_96 : decode cX11_init 96 = .ok (.newarray .int, 2) := by decide +kernel
theorem dX11_init_98 : decode cX11_init 98 = .ok (.putfield 44, 3) := by decide +kernel
theorem dX11_init_101 : decode cX11_init 101 = .ok (.aload_n 0, 1) := by decide +kernel
theorem dX11_init_102 : decode cX11_init 102 = .ok (.bipush 40, 2) := by decide +kernel
theorem dX11_init_104 : decode cX11_init 104 = .ok (.newarray .int, 2) := by decide +kernel
theorem dX11_init_106 : decode cX11_init 106 = .ok (.putfield 47, 3) := by decide +kernel
theorem dX11_init_109 : decode cX11_init 109 = .ok (.aload_n 0, 1) := by decide +kernel
theorem dX11_init_110 : decode cX11_init 110 = .ok (.bipush 40, 2) := by decide +kernel
theorem dX11_init_112 : decode cX11_init 112 = .ok (.newarray .int, 2) := by decide +kernel
theorem dX11_init_114 : decode cX11_init 114 = .ok (.putfield 50, 3) := by decide +kernel
theorem dX11_init_117 : decode cX11_init 117 = .ok (.aload_n 0, 1) := by decide +kernel
theorem dX11_init_118 : decode cX11_init 118 = .ok (.bipush 8, 2) := by decide +kernel
theorem dX11_init_120 : decode cX11_init 120 = .ok (.newarray .long, 2) := by decide +kernel
theorem dX11_init_122 : decode cX11_init 122 = .ok (.putfield 53, 3) := by decide +kernel
theorem dX11_init_125 : decode cX11_init 125 = .ok (.aload_n 0, 1) := by decide +kernel
theorem dX11_init_126 : decode cX11_init 126 = .ok (.bipush 8, 2) := by decide +kernel
theorem dX11_init_128 : decode cX11_init 128 = .ok (.newarray .int, 2) := by decide +kernel
theorem dX11_init_130 : decode cX11_init 130 = .ok (.putfield 57, 3) := by decide +kernel
theorem dX11_init_133 : decode cX11_init 133 = .ok (.aload_n 0, 1) := by decide +kernel
theorem dX11_init_134 : decode cX11_init 134 = .ok (.bipush 12, 2) := by decide +kernel
theorem dX11_init_136 : decode cX11_init 136 = .ok (.newarray .long, 2) := by decide +kernel
theorem dX11_init_138 : decode cX11_init 138 = .ok (.putfield 60, 3) := by decide +kernel
theorem dX11_init_141 : decode cX11_init 141 = .ok (.aload_n 0, 1) := by decide +kernel
theorem dX11_init_142 : decode cX11_init 142 = .ok (.bipush 12, 2) := by decide +kernel
theorem dX11_init_144 : decode cX11_init 144 = .ok (.newarray .int, 2) := by decide +kernel
theorem dX11_init_146 : decode cX11_init 146 = .ok (.putfield 63, 3) := by decide +kernel
theorem dX11_init_149 : decode cX11_init 149 = .ok (.aload_n 0, 1) := by decide +kernel
theorem dX11_init_150 : decode cX11_init 150 = .ok (.bipush 12, 2) := by decide +kernel
theorem dX11_init_152 : decode cX11_init 152 = .ok (.newarray .int, 2) := by decide +kernel
theorem dX11_init_154 : decode cX11_init 154 = .ok (.putfield 66, 3) := by decide +kernel
theorem dX11_init_157 : decode cX11_init 157 = .ok (.aload_n 0, 1) := by decide +kernel
theorem dX11_init_158 : decode cX11_init 158 = .ok (.bipush 80, 2) := by decide +kernel
theorem dX11_init_160 : decode cX11_init 160 = .ok (.putfield 69, 3) := by decide +kernel
theorem dX11_init_163 : decode cX11_init 163 = .ok (.aload_n 0, 1) := by decide +kernel
theorem dX11_init_164 : decode cX11_init 164 = .ok (.iconst 5, 1) := by decide +kernel
theorem dX11_init_165 : decode cX11_init 165 = .ok (.newarray .int, 2) := by decide +kernel
theorem dX11_init_167 : decode cX11_init 167 = .ok (.putfield 73, 3) := by decide +kernel
theorem dX11_init_170 : decode cX11_init 170 = .ok (.aload_n 0, 1) := by decide +kernel
theorem dX11_init_171 : decode cX11_init 171 = .ok (.iconst 5, 1) := by decide +kernel
theorem dX11_init_172 : decode cX11_init 172 = .ok (.newarray .int, 2) := by decide +kernel
theorem dX11_init_174 : decode cX11_init 174 = .ok (.dup, 1) := by decide +kernel
theorem dX11_init_175 : decode cX11_init 175 = .ok (.iconst 0, 1) := by decide +kernel
theorem dX11_init_176 : decode cX11_init 176 = .ok (.iconst 1, 1) := by decide +kernel
theorem dX11_init_177 : decode cX11_init 177 = .ok (.iastore, 1) := by decide +kernel
theorem dX11_init_178 : decode cX11_init 178 = .ok (.dup, 1) := by decide +kernel
theorem dX11_init_179 : decode cX11_init 179 = .ok (.iconst 1, 1) := by decide +kernel
theorem dX11_init_180 : decode cX11_init 180 = .ok (.iconst 1, 1) := by decide +kernel
theorem dX11_init_181 : decode cX11_init 181 = .ok (.iastore, 1) := by decide +kernel
theorem dX11_init_182 : decode cX11_init 182 = .ok (.dup, 1) := by decide +kernel
theorem dX11_init_183 : decode cX11_init 183 = .ok (.iconst 2, 1) := by decide +kernel
theorem dX11_init_184 : decode cX11_init 184 = .ok (.iconst 1, 1) := by decide +kernel
theorem dX11_init_185 : decode cX11_init 185 = .ok (.iastore, 1) := by decide +kernel
theorem dX11_init_186 : decode cX11_init 186 = .ok (.dup, 1) := by decide +kernel
theorem dX11_init_187 : decode cX11_init 187 = .ok (.iconst 3, 1) := by decide +kernel
theorem dX11_init_188 : decode cX11_init 188 = .ok (.iconst 1, 1) := by decide +kernel
theorem dX11_init_189 : decode cX11_init 189 = .ok (.iastore, 1) := by decide +kernel
theorem dX11_init_190 : decode cX11_init 190 = .ok (.dup, 1) := by decide +kernel
theorem dX11_init_191 : decode cX11_init 191 = .ok (.iconst 4, 1) := by decide +kernel
theorem dX11_init_192 : decode cX11_init 192 = .ok (.iconst 1, 1) := by decide +kernel
theorem dX11_init_193 : decode cX11_init 193 = .ok (.iastore, 1) := by decide +kernel
theorem dX11_init_194 : decode cX11_init 194 = .ok (.putfield 76, 3) := by decide +kernel
theorem dX11_init_197 : decode cX11_init 197 = .ok (.aload_n 0, 1) := by decide +kernel
theorem dX11_init_198 : decode cX11_init 198 = .ok (.iconst 4, 1) := by decide +kernel
theorem dX11_init_199 : decode cX11_init 199 = .ok (.newarray .int, 2) := by decide +kernel
theorem dX11_init_201 : decode cX11_init 201 = .ok (.putfield 79, 3) := by decide +kernel
theorem dX11_init_204 : decode cX11_init 204 = .ok (.aload_n 0, 1) := by decide +kernel
theorem dX11_init_205 : decode cX11_init 205 = .ok (.bipush 120, 2) := by decide +kernel
theorem dX11_init_207 : decode cX11_init 207 = .ok (.newarray .int, 2) := by decide +kernel
theorem dX11_init_209 : decode cX11_init 209 = .ok (.putfield 82, 3) := by decide +kernel
theorem dX11_init_212 : decode cX11_init 212 = .ok (.aload_n 0, 1) := by decide +kernel
theorem dX11_init_213 : decode cX11_init 213 = .ok (.bipush 32, 2) := by decide +kernel
theorem dX11_init_215 : decode cX11_init 215 = .ok (.newarray .int, 2) := by decide +kernel
theorem dX11_init_217 : decode cX11_init 217 = .ok (.putfield 85, 3) := by decide +kernel
theorem dX11_init_220 : decode cX11_init 220 = .ok (.aload_n 0, 1) := by decide +kernel
theorem dX11_init_221 : decode cX11_init 221 = .ok (.iconst 5, 1) := by decide +kernel
theorem dX11_init_222 : decode cX11_init 222 = .ok (.newarray .int, 2) := by decide +kernel
theorem dX11_init_224 : decode cX11_init 224 = .ok (.putfield 88, 3) := by decide +kernel
theorem dX11_init_227 : decode cX11_init 227 = .ok (.aload_n 0, 1) := by decide +kernel
theorem dX11_init_228 : decode cX11_init 228 = .ok (.iconst 5, 1) := by decide +kernel
theorem dX11_init_229 : decode cX11_init 229 = .ok (.newarray .int, 2) := by decide +kernel
theorem dX11_init_231 : decode cX11_init 231 = .ok (.putfield 91, 3) := by decide +kernel
theorem dX11_init_234 : decode cX11_init 234 = .ok (.aload_n 0, 1) := by decide +kernel
theorem dX11_init_235 : decode cX11_init 235 = .ok (.iconst 5, 1) := by decide +kernel
theorem dX11_init_236 : decode cX11_init 236 = .ok (.newarray .int, 2) := by decide +kernel
theorem dX11_init_238 : decode cX11_init 238 = .ok (.putfield 94, 3) := by decide +kernel
theorem dX11_init_241 : decode cX11_init 241 = .ok (.return_, 1) := by decide +kernel
theorem dX11_in_0 : decode cX11_in 0 = .ok (.lload_n 0, 1) := by decide +kernel
theorem dX11_in_1 : decode cX11_in 1 = .ok (.lload_n 2, 1) := by decide +kernel
theorem dX11_in_2 : decode cX11_in 2 = .ok (.lcmp, 1) := by decide +kernel
theorem dX11_in_3 : decode cX11_in 3 = .ok (.ifCond .lt 14, 3) := by decide +kernel
theorem dX11_in_6 : decode cX11_in 6 = .ok (.lload_n 0, 1) := by decide +kernel
theorem dX11_in_7 : decode cX11_in 7 = .ok (.lload 4, 2) := by decide +kernel
theorem dX11_in_9 : decode cX11_in 9 = .ok (.lcmp, 1) := by decide +kernel
theorem dX11_in_10 : decode cX11_in 10 = .ok (.ifCond .gt 7, 3) := by decide +kernel
theorem dX11_in_13 : decode cX11_in 13 = .ok (.iconst 1, 1) := by decide +kernel
theorem dX11_in_14 : decode cX11_in 14 = .ok (.goto 4, 3) := by decide +kernel
theorem dX11_in_17 : decode cX11_in 17 = .ok (.iconst 0, 1) := by decide +kernel
theorem dX11_in_18 : decode cX11_in 18 = .ok (.ireturn, 1) := by decide +kernel
theorem dX11_has_0 : decode cX11_has 0 = .ok (.iload_n 0, 1) := by decide +kernel
theorem dX11_has_1 : decode cX11_has 1 = .ok (.iload_n 1, 1) := by decide +kernel
theorem dX11_has_2 : decode cX11_has 2 = .ok (.ishr, 1) := by decide +kernel
theorem dX11_has_3 : decode cX11_has 3 = .ok (.iconst 1, 1) := by decide +kernel
theorem dX11_has_4 : decode cX11_has 4 = .ok (.iand, 1) := by decide +kernel
theorem dX11_has_5 : decode cX11_has 5 = .ok (.iconst 1, 1) := by decide +kernel
theorem dX11_has_6 : decode cX11_has 6 = .ok (.if_icmp .ne 7, 3) := by decide +kernel
theorem dX11_has_9 : decode cX11_has 9 = .ok (.iconst 1, 1) := by decide +kernel
theorem dX11_has_10 : decode cX11_has 10 = .ok (.goto 4, 3) := by decide +kernel
theorem dX11_has_13 : decode cX11_has 13 = .ok (.iconst 0, 1) := by decide +kernel
theorem dX11_has_14 : decode cX11_has 14 = .ok (.ireturn, 1) := by decide +kernel
set_option maxRecDepth 20000 in
theorem ggX11_size_X11_has : GoodIn wsX11_size wsX11_has := goodIn_r _ [4] (by decide +kernel) (by decide +kernel)
set_option maxRecDepth 20000 in
theorem gX11_size_X11_has : GoodIn wsX11_size (va_wsS RX11 97 yX11_has wsX11_has) := goodIn_app (goodIn_of _ (by decide +kernel)) ggX11_size_X11_has
theorem dX11_size_0 : decode cX11_size 0 = .ok (.iconst 0, 1) := by decide +kernel
theorem dX11_size_1 : decode cX11_size 1 = .ok (.istore_n 1, 1) := by decide +kernel
theorem dX11_size_2 : decode cX11_size 2 = .ok (.iconst 0, 1) := by decide +kernel
theorem dX11_size_3 : decode cX11_size 3 = .ok (.istore_n 2, 1) := by decide +kernel
theorem dX11_size_4 : decode cX11_size 4 = .ok (.iload_n 2, 1) := by decide +kernel
theorem dX11_size_5 : decode cX11_size 5 = .ok (.bipush 8, 2) := by decide +kernel
theorem dX11_size_7 : decode cX11_size 7 = .ok (.if_icmp .ge 25, 3) := by decide +kernel
theorem dX11_size_10 : decode cX11_size 10 = .ok (.iload_n 1, 1) := by decide +kernel
theorem dX11_size_11 : decode cX11_size 11 = .ok (.iload_n 0, 1) := by decide +kernel
theorem dX11_size_12 : decode cX11_size 12 = .ok (.iload_n 2, 1) := by decide +kernel
theorem dX11_size_13 : decode cX11_size 13 = .ok (.invokestatic 97, 3) := by decide +kernel
theorem dX11_size_16 : decode cX11_size 16 = .ok (.ifCond .eq 7, 3) := by decide +kernel
theorem dX11_size_19 : decode cX11_size 19 = .ok (.iconst 1, 1) := by decide +kernel
theorem dX11_size_20 : decode cX11_size 20 = .ok (.goto 4, 3) := by decide +kernel
theorem dX11_size_23 : decode cX11_size 23 = .ok (.iconst 0, 1) := by decide +kernel
theorem dX11_size_24 : decode cX11_size 24 = .ok (.iadd, 1) := by decide +kernel
theorem dX11_size_25 : decode cX11_size 25 = .ok (.istore_n 1, 1) := by decide +kernel
theorem dX11_size_26 : decode cX11_size 26 = .ok (.iinc 2 1, 3) := by decide +kernel
theorem dX11_size_29 : decode cX11_size 29 = .ok (.goto (-25), 3) := by decide +kernel
theorem dX11_size_32 : decode cX11_size 32 = .ok (.iload_n 1, 1) := by decide +kernel
theorem dX11_size_33 : decode cX11_size 33 = .ok (.ireturn, 1) := by decide +kernel
set_option maxRecDepth 20000 in
theorem ggX11_card_X11_in : GoodIn wsX11_card wsX11_in := goodIn_r _ [10] (by decide +kernel) (by decide +kernel)
set_option maxRecDepth 20000 in
theorem gX11_card_X11_in : GoodIn wsX11_card (va_wsS RX11 103 yX11_in wsX11_in) := goodIn_app (goodIn_of _ (by decide +kernel)) ggX11_card_X11_in
theorem dX11_card_0 : decode cX11_card 0 = .ok (.iload_n 1, 1) := by decide +kernel
theorem dX11_card_1 : decode cX11_card 1 = .ok (.i2l, 1) := by decide +kernel
theorem dX11_card_2 : decode cX11_card 2 = .ok (.lconst 0, 1) := by decide +kernel
theorem dX11_card_3 : decode cX11_card 3 = .ok (.ldc2_w 101, 3) := by decide +kernel
theorem dX11_card_6 : decode cX11_card 6 = .ok (.invokestatic 103, 3) := by decide +kernel
theorem dX11_card_9 : decode cX11_card 9 = .ok (.ifCond .eq 14, 3) := by decide +kernel
theorem dX11_card_12 : decode cX11_card 12 = .ok (.lload_n 2, 1) := by decide +kernel
theorem dX11_card_13 : decode cX11_card 13 = .ok (.lconst 0, 1) := by decide +kernel
theorem dX11_card_14 : decode cX11_card 14 = .ok (.ldc2_w 107, 3) := by decide +kernel
theorem dX11_card_17 : decode cX11_card 17 = .ok (.invokestatic 103, 3) := by decide +kernel
theorem dX11_card_20 : decode cX11_card 20 = .ok (.ifCond .ne 5, 3) := by decide +kernel
theorem dX11_card_23 : decode cX11_card 23 = .ok (.iconst (-1), 1) := by decide +kernel
theorem dX11_card_24 : decode cX11_card 24 = .ok (.ireturn, 1) := by decide +kernel
theorem dX11_card_25 : decode cX11_card 25 = .ok (.aload_n 0, 1) := by decide +kernel
theorem dX11_card_26 : decode cX11_card 26 = .ok (.getfield 7, 3) := by decide +kernel
theorem dX11_card_29 : decode cX11_card 29 = .ok (.iconst 0, 1) := by decide +kernel
theorem dX11_card_30 : decode cX11_card 30 = .ok (.iaload, 1) := by decide +kernel
theorem dX11_card_31 : decode cX11_card 31 = .ok (.bipush 40, 2) := by decide +kernel
theorem dX11_card_33 : decode cX11_card 33 = .ok (.if_icmp .ne 6, 3) := by decide +kernel
theorem dX11_card_36 : decode cX11_card 36 = .ok (.bipush (-3), 2) := by decide +kernel
theorem dX11_card_38 : decode cX11_card 38 = .ok (.ireturn, 1) := by decide +kernel
theorem dX11_card_39 : decode cX11_card 39 = .ok (.lload_n 2, 1) := by decide +kernel
theorem dX11_card_40 : decode cX11_card 40 = .ok (.lstore 4, 2) := by decide +kernel
theorem dX11_card_42 : decode cX11_card 42 = .ok (.bipush 11, 2) := by decide +kernel
theorem dX11_card_44 : decode cX11_card 44 = .ok (.istore 6, 2) := by decide +kernel
theorem dX11_card_46 : decode cX11_card 46 = .ok (.iload 6, 2) := by decide +kernel
theorem dX11_card_48 : decode cX11_card 48 = .ok (.ifCond .lt 41, 3) := by decide +kernel
theorem dX11_card_51 : decode cX11_card 51 = .ok (.aload_n 0, 1) := by decide +kernel
theorem dX11_card_52 : decode cX11_card 52 = .ok (.getfield 16, 3) := by decide +kernel
theorem dX11_card_55 : decode cX11_card 55 = .ok (.bipush 12, 2) := by decide +kernel
theorem dX11_card_57 : decode cX11_card 57 = .ok (.aload_n 0, 1) := by decide +kernel
theorem dX11_card_58 : decode cX11_card 58 = .ok (.getfield 7, 3) := by decide +kernel
theorem dX11_card_61 : decode cX11_card 61 = .ok (.iconst 0, 1) := by decide +kernel
theorem dX11_card_62 : decode cX11_card 62 = .ok (.iaload, 1) := by decide +kernel
theorem dX11_card_63 : decode cX11_card 63 = .ok (.imul, 1) := by decide +kernel
theorem dX11_card_64 : decode cX11_card 64 = .ok (.iload 6, 2) := by decide +kernel
theorem dX11_card_66 : decode cX11_card 66 = .ok (.iadd, 1) := by decide +kernel
theorem dX11_card_67 : decode cX11_card 67 = .ok (.lload 4, 2) := by decide +kernel
theorem dX11_card_69 : decode cX11_card 69 = .ok (.ldc2_w 109, 3) := by decide +kernel
theorem dX11_card_72 : decode cX11_card 72 = .ok (.lrem, 1) := by decide +kernel
theorem dX11_card_73 : decode cX11_card 73 = .ok (.l2i, 1) := by decide +kernel
theorem dX11_card_74 : decode cX11_card 74 = .ok (.iastore, 1) := by decide +kernel
theorem dX11_card_75 : decode cX11_card 75 = .ok (.lload 4, 2) := by decide +kernel
theorem dX11_card_77 : decode cX11_card 77 = .ok (.ldc2_w 109, 3) := by decide +kernel
theorem dX11_card_80 : decode cX11_card 80 = .ok (.ldiv, 1) := by decide +kernel
theorem dX11_card_81 : decode cX11_card 81 = .ok (.lstore 4, 2) := by decide +kernel
theorem dX11_card_83 : decode cX11_card 83 = .ok (.iinc 6 (-1), 3) := by decide +kernel
theorem dX11_card_86 : decode cX11_card 86 = .ok (.goto (-40), 3) := by decide +kernel
theorem dX11_card_89 : decode cX11_card 89 = .ok (.aload_n 0, 1) := by decide +kernel
theorem dX11_card_90 : decode cX11_card 90 = .ok (.getfield 13, 3) := by decide +kernel
theorem dX11_card_93 : decode cX11_card 93 = .ok (.aload_n 0, 1) := by decide +kernel
theorem dX11_card_94 : decode cX11_card 94 = .ok (.getfield 7, 3) := by decide +kernel
theorem dX11_card_97 : decode cX11_card 97 = .ok (.iconst 0, 1) := by decide +kernel
theorem dX11_card_98 : decode cX11_card 98 = .ok (.iaload, 1) := by decide +kernel
theorem dX11_card_99 : decode cX11_card 99 = .ok (.iload_n 1, 1) := by decide +kernel
theorem dX11_card_100 : decode cX11_card 100 = .ok (.iastore, 1) := by decide +kernel
theorem dX11_card_101 : decode cX11_card 101 = .ok (.aload_n 0, 1) := by decide +kernel
theorem dX11_card_102 : decode cX11_card 102 = .ok (.getfield 7, 3) := by decide +kernel
theorem dX11_card_105 : decode cX11_card 105 = .ok (.iconst 0, 1) := by decide +kernel
theorem dX11_card_106 : decode cX11_card 106 = .ok (.dup2, 1) := by decide +kernel
theorem dX11_card_107 : decode cX11_card 107 = .ok (.iaload, 1) := by decide +kernel
theorem dX11_card_108 : decode cX11_card 108 = .ok (.iconst 1, 1) := by decide +kernel
theorem dX11_card_109 : decode cX11_card 109 = .ok (.iadd, 1) := by decide +kernel
theorem dX11_card_110 : decode cX11_card 110 = .ok (.iastore, 1) := by decide +kernel
theorem dX11_card_111 : decode cX11_card 111 = .ok (.aload_n 0, 1) := by decide +kernel
theorem dX11_card_112 : decode cX11_card 112 = .ok (.getfield 7, 3) := by decide +kernel
theorem dX11_card_115 : decode cX11_card 115 = .ok (.iconst 0, 1) := by decide +kernel
theorem dX11_card_116 : decode cX11_card 116 = .ok (.iaload, 1) := by decide +kernel
theorem dX11_card_117 : decode cX11_card 117 = .ok (.iconst 1, 1) := by decide +kernel
theorem dX11_card_118 : decode cX11_card 118 = .ok (.isub, 1) := by decide +kernel
theorem dX11_card_119 : decode cX11_card 119 = .ok (.ireturn, 1) := by decide +kernel
set_option maxRecDepth 20000 in
theorem ggX11_isCard_X11_in : GoodIn wsX11_isCard wsX11_in := goodIn_r _ [5] (by decide +kernel) (by decide +kernel)
set_option maxRecDepth 20000 in
theorem gX11_isCard_X11_in : GoodIn wsX11_isCard (va_wsS RX11 103 yX11_in wsX11_in) := goodIn_app (goodIn_of _ (by decide +kernel)) ggX11_isCard_X11_in
theorem dX11_isCard_0 : decode cX11_isCard 0 = .ok (.iload_n 1, 1) := by decide +kernel
theorem dX11_isCard_1 : decode cX11_isCard 1 = .ok (.i2l, 1) := by decide +kernel
theorem dX11_isCard_2 : decode cX11_isCard 2 = .ok (.lconst 0, 1) := by decide +kernel
theorem dX11_isCard_3 : decode cX11_isCard 3 = .ok (.aload_n 0, 1) := by decide +kernel
theorem dX11_isCard_4 : decode cX11_isCard 4 = .ok (.getfield 7, 3) := by decide +kernel
theorem dX11_isCard_7 : decode cX11_isCard 7 = .ok (.iconst 0, 1) := by decide +kernel
theorem dX11_isCard_8 : decode cX11_isCard 8 = .ok (.iaload, 1) := by decide +kernel
theorem dX11_isCard_9 : decode cX11_isCard 9 = .ok (.iconst 1, 1) := by decide +kernel
theorem dX11_isCard_10 : decode cX11_isCard 10 = .ok (.isub, 1) := by decide +kernel
theorem dX11_isCard_11 : decode cX11_isCard 11 = .ok (.i2l, 1) := by decide +kernel
theorem dX11_isCard_12 : decode cX11_isCard 12 = .ok (.invokestatic 103, 3) := by decide +kernel
theorem dX11_isCard_15 : decode cX11_isCard 15 = .ok (.ireturn, 1) := by decide +kernel
set_option maxRecDepth 20000 in
theorem ggX11_hole_X11_isCard : GoodIn wsX11_hole wsX11_isCard := goodIn_r _ [8, 9, 10, 11, 7, 12, 13, 14, 15, 16, 17, 18, 19, 20, 21, 22, 23, 24, 25, 26, 27, 28, 29, 30, 31, 32, 33, 34, 35, 36, 37, 38, 39, 40, 41, 42, 43, 44, 45, 46, 47] (by decide +kernel) (by decide +kernel)
set_option maxRecDepth 20000 in
theorem gX11_hole_X11_isCard : GoodIn wsX11_hole (wsV RX11 111 RX11 yX11_isCard wsX11_isCard) := goodIn_app (goodIn_of _ (by decide +kernel)) ggX11_hole_X11_isCard
set_option maxRecDepth 20000 in
theorem ggX11_hole_X11_in : GoodIn wsX11_hole wsX11_in := goodIn_r _ [12] (by decide +kernel) (by decide +kernel)
set_option maxRecDepth 20000 in
theorem gX11_hole_X11_in : GoodIn wsX11_hole (va_wsS RX11 103 yX11_in wsX11_in) := goodIn_app (goodIn_of _ (by decide +kernel)) ggX11_hole_X11_in
theorem dX11_hole_0 : decode cX11_hole 0 = .ok (.aload_n 0, 1) := by decide +kernel
theorem dX11_hole_1 : decode cX11_hole 1 = .ok (.iload_n 1, 1) := by decide +kernel
theorem dX11_hole_2 : decode cX11_hole 2 = .ok (.invokevirtual 111, 3) := by decide +kernel
theorem dX11_hole_5 : decode cX11_hole 5 = .ok (.ifCond .eq 45, 3) := by decide +kernel
theorem dX11_hole_8 : decode cX11_hole 8 = .ok (.iload_n 2, 1) := by decide +kernel
theorem dX11_hole_9 : decode cX11_hole 9 = .ok (.i2l, 1) := by decide +kernel
theorem dX11_hole_10 : decode cX11_hole 10 = .ok (.lconst 0, 1) := by decide +kernel
theorem dX11_hole_11 : decode cX11_hole 11 = .ok (.ldc2_w 115, 3) := by decide +kernel
theorem dX11_hole_14 : decode cX11_hole 14 = .ok (.invokestatic 103, 3) := by decide +kernel
theorem dX11_hole_17 : decode cX11_hole 17 = .ok (.ifCond .eq 33, 3) := by decide +kernel
theorem dX11_hole_20 : decode cX11_hole 20 = .ok (.iload_n 3, 1) := by decide +kernel
theorem dX11_hole_21 : decode cX11_hole 21 = .ok (.i2l, 1) := by decide +kernel
theorem dX11_hole_22 : decode cX11_hole 22 = .ok (.lconst 0, 1) := by decide +kernel
theorem dX11_hole_23 : decode cX11_hole 23 = .ok (.ldc2_w 117, 3) := by decide +kernel
theorem dX11_hole_26 : decode cX11_hole 26 = .ok (.invokestatic 103, 3) := by decide +kernel
theorem dX11_hole_29 : decode cX11_hole 29 = .ok (.ifCond .eq 21, 3) := by decide +kernel
theorem dX11_hole_32 : decode cX11_hole 32 = .ok (.aload_n 0, 1) := by decide +kernel
theorem dX11_hole_33 : decode cX11_hole 33 = .ok (.getfield 16, 3) := by decide +kernel
theorem dX11_hole_36 : decode cX11_hole 36 = .ok (.bipush 12, 2) := by decide +kernel
theorem dX11_hole_38 : decode cX11_hole 38 = .ok (.iload_n 1, 1) := by decide +kernel
theorem dX11_hole_39 : decode cX11_hole 39 = .ok (.imul, 1) := by decide +kernel
theorem dX11_hole_40 : decode cX11_hole 40 = .ok (.iconst 4, 1) := by decide +kernel
theorem dX11_hole_41 : decode cX11_hole 41 = .ok (.iload_n 2, 1) := by decide +kernel
theorem dX11_hole_42 : decode cX11_hole 42 = .ok (.imul, 1) := by decide +kernel
theorem dX11_hole_43 : decode cX11_hole 43 = .ok (.iadd, 1) := by decide +kernel
theorem dX11_hole_44 : decode cX11_hole 44 = .ok (.iload_n 3, 1) := by decide +kernel
theorem dX11_hole_45 : decode cX11_hole 45 = .ok (.iadd, 1) := by decide +kernel
theorem dX11_hole_46 : decode cX11_hole 46 = .ok (.iaload, 1) := by decide +kernel
theorem dX11_hole_47 : decode cX11_hole 47 = .ok (.goto 4, 3) := by decide +kernel
theorem dX11_hole_50 : decode cX11_hole 50 = .ok (.iconst (-1), 1) := by decide +kernel
theorem dX11_hole_51 : decode cX11_hole 51 = .ok (.ireturn, 1) := by decide +kernel
set_option maxRecDepth 20000 in
theorem ggX11_handles_X11_in : GoodIn wsX11_handles wsX11_in := goodIn_r _ [6] (by decide +kernel) (by decide +kernel)
set_option maxRecDepth 20000 in
theorem gX11_handles_X11_in : GoodIn wsX11_handles (va_wsS RX11 103 yX11_in wsX11_in) := goodIn_app (goodIn_of _ (by decide +kernel)) ggX11_handles_X11_in
theorem dX11_handles_0 : decode cX11_handles 0 = .ok (.iconst 0, 1) := by decide +kernel
theorem dX11_handles_1 : decode cX11_handles 1 = .ok (.istore_n 3, 1) := by decide +kernel
theorem dX11_handles_2 : decode cX11_handles 2 = .ok (.bipush 12, 2) := by decide +kernel
theorem dX11_handles_4 : decode cX11_handles 4 = .ok (.iload_n 1, 1) := by decide +kernel
theorem dX11_handles_5 : decode cX11_handles 5 = .ok (.imul, 1) := by decide +kernel
theorem dX11_handles_6 : decode cX11_handles 6 = .ok (.istore 4, 2) := by decide +kernel
theorem dX11_handles_8 : decode cX11_handles 8 = .ok (.iload 4, 2) := by decide +kernel
theorem dX11_handles_10 : decode cX11_handles 10 = .ok (.bipush 12, 2) := by decide +kernel
theorem dX11_handles_12 : decode cX11_handles 12 = .ok (.iload_n 1, 1) := by decide +kernel
theorem dX11_handles_13 : decode cX11_handles 13 = .ok (.imul, 1) := by decide +kernel
theorem dX11_handles_14 : decode cX11_handles 14 = .ok (.bipush 12, 2) := by decide +kernel
theorem dX11_handles_16 : decode cX11_handles 16 = .ok (.iadd, 1) := by decide +kernel
theorem dX11_handles_17 : decode cX11_handles 17 = .ok (.if_icmp .ge 44, 3) := by decide +kernel
theorem dX11_handles_20 : decode cX11_handles 20 = .ok (.aload_n 0, 1) := by decide +kernel
theorem dX11_handles_21 : decode cX11_handles 21 = .ok (.getfield 16, 3) := by decide +kernel
theorem dX11_handles_24 : decode cX11_handles 24 = .ok (.iload 4, 2) := by decide +kernel
theorem dX11_handles_26 : decode cX11_handles 26 = .ok (.iaload, 1) := by decide +kernel
theorem dX11_handles_27 : decode cX11_handles 27 = .ok (.i2l, 1) := by decide +kernel
theorem dX11_handles_28 : decode cX11_handles 28 = .ok (.iconst 5, 1) := by decide +kernel
theorem dX11_handles_29 : decode cX11_handles 29 = .ok (.iload_n 2, 1) := by decide +kernel
theorem dX11_handles_30 : decode cX11_handles 30 = .ok (.isub, 1) := by decide +kernel
theorem dX11_handles_31 : decode cX11_handles 31 = .ok (.i2l, 1) := by decide +kernel
theorem dX11_handles_32 : decode cX11_handles 32 = .ok (.ldc2_w 101, 3) := by decide +kernel
theorem dX11_handles_35 : decode cX11_handles 35 = .ok (.invokestatic 103, 3) := by decide +kernel
theorem dX11_handles_38 : decode cX11_handles 38 = .ok (.ifCond .eq 17, 3) := by decide +kernel
theorem dX11_handles_41 : decode cX11_handles 41 = .ok (.aload_n 0, 1) := by decide +kernel
theorem dX11_handles_42 : decode cX11_handles 42 = .ok (.getfield 16, 3) := by decide +kernel
theorem dX11_handles_45 : decode cX11_handles 45 = .ok (.iload 4, 2) := by decide +kernel
theorem dX11_handles_47 : decode cX11_handles 47 = .ok (.dup2, 1) := by decide +kernel
theorem dX11_handles_48 : decode cX11_handles 48 = .ok (.iaload, 1) := by decide +kernel
theorem dX11_handles_49 : decode cX11_handles 49 = .ok (.iconst 1, 1) := by decide +kernel
theorem dX11_handles_50 : decode cX11_handles 50 = .ok (.iadd, 1) := by decide +kernel
theorem dX11_handles_51 : decode cX11_handles 51 = .ok (.iastore, 1) := by decide +kernel
theorem dX11_handles_52 : decode cX11_handles 52 = .ok (.iinc 3 1, 3) := by decide +kernel
theorem dX11_handles_55 : decode cX11_handles 55 = .ok (.iinc 4 1, 3) := by decide +kernel
theorem dX11_handles_58 : decode cX11_handles 58 = .ok (.goto (-50), 3) := by decide +kernel
theorem dX11_handles_61 : decode cX11_handles 61 = .ok (.iload_n 3, 1) := by decide +kernel
theorem dX11_handles_62 : decode cX11_handles 62 = .ok (.ireturn, 1) := by decide +kernel
set_option maxRecDepth 20000 in
theorem ggX11_handle_X11_isCard : GoodIn wsX11_handle wsX11_isCard := goodIn_r _ [6, 7, 8, 9, 5, 10, 16, 17, 18, 19, 20, 21, 22, 23, 24, 25, 26, 27, 28, 29, 30, 31, 32, 33, 34, 35, 36, 37, 38, 39, 40, 41, 42, 43, 44, 45, 46, 47, 48, 49, 50] (by decide +kernel) (by decide +kernel)
set_option maxRecDepth 20000 in
theorem gX11_handle_X11_isCard : GoodIn wsX11_handle (wsV RX11 111 RX11 yX11_isCard wsX11_isCard) := goodIn_app (goodIn_of _ (by decide +kernel)) ggX11_handle_X11_isCard
set_option maxRecDepth 20000 in
theorem ggX11_handle_X11_in : GoodIn wsX11_handle wsX11_in := goodIn_r _ [10] (by decide +kernel) (by decide +kernel)
set_option maxRecDepth 20000 in
theorem gX11_handle_X11_in : GoodIn wsX11_handle (va_wsS RX11 103 yX11_in wsX11_in) := goodIn_app (goodIn_of _ (by decide +kernel)) ggX11_handle_X11_in
set_option maxRecDepth 20000 in
theorem ggX11_handle_X11_handles : GoodIn wsX11_handle wsX11_handles := goodIn_r _ [14, 15, 1, 8, 9, 5, 10, 16, 17, 18, 19, 20, 21, 22, 23, 24, 25, 26, 27, 28, 29, 30, 31, 32, 33, 34, 35, 36, 37, 38, 39, 40, 41, 42, 43, 44, 45, 46, 47, 48, 49, 50] (by decide +kernel) (by decide +kernel)
set_option maxRecDepth 20000 in
theorem gX11_handle_X11_handles : GoodIn wsX11_handle (wsV RX11 119 RX11 yX11_handles wsX11_handles) := goodIn_app (goodIn_of _ (by decide +kernel)) ggX11_handle_X11_handles
theorem dX11_handle_0 : decode cX11_handle 0 = .ok (.aload_n 0, 1) := by decide +kernel
theorem dX11_handle_1 : decode cX11_handle 1 = .ok (.iload_n 1, 1) := by decide +kernel
theorem dX11_handle_2 : decode cX11_handle 2 = .ok (.invokevirtual 111, 3) := by decide +kernel
theorem dX11_handle_5 : decode cX11_handle 5 = .ok (.ifCond .eq 24, 3) := by decide +kernel
theorem dX11_handle_8 : decode cX11_handle 8 = .ok (.iload_n 2, 1) := by decide +kernel
theorem dX11_handle_9 : decode cX11_handle 9 = .ok (.i2l, 1) := by decide +kernel
theorem dX11_handle_10 : decode cX11_handle 10 = .ok (.lconst 1, 1) := by decide +kernel
theorem dX11_handle_11 : decode cX11_handle 11 = .ok (.ldc2_w 101, 3) := by decide +kernel
theorem dX11_handle_14 : decode cX11_handle 14 = .ok (.invokestatic 103, 3) := by decide +kernel
theorem dX11_handle_17 : decode cX11_handle 17 = .ok (.ifCond .eq 12, 3) := by decide +kernel
theorem dX11_handle_20 : decode cX11_handle 20 = .ok (.aload_n 0, 1) := by decide +kernel
theorem dX11_handle_21 : decode cX11_handle 21 = .ok (.iload_n 1, 1) := by decide +kernel
theorem dX11_handle_22 : decode cX11_handle 22 = .ok (.iload_n 2, 1) := by decide +kernel
theorem dX11_handle_23 : decode cX11_handle 23 = .ok (.invokevirtual 119, 3) := by decide +kernel
theorem dX11_handle_26 : decode cX11_handle 26 = .ok (.goto 4, 3) := by decide +kernel
theorem dX11_handle_29 : decode cX11_handle 29 = .ok (.iconst (-1), 1) := by decide +kernel
theorem dX11_handle_30 : decode cX11_handle 30 = .ok (.ireturn, 1) := by decide +kernel
theorem dX11_votes_0 : decode cX11_votes 0 = .ok (.bipush (-4), 2) := by decide +kernel
theorem dX11_votes_2 : decode cX11_votes 2 = .ok (.istore 5, 2) := by decide +kernel
theorem dX11_votes_4 : decode cX11_votes 4 = .ok (.iconst 0, 1) := by decide +kernel
theorem dX11_votes_5 : decode cX11_votes 5 = .ok (.istore 6, 2) := by decide +kernel
theorem dX11_votes_7 : decode cX11_votes 7 = .ok (.iconst 0, 1) := by decide +kernel
theorem dX11_votes_8 : decode cX11_votes 8 = .ok (.istore 7, 2) := by decide +kernel
theorem dX11_votes_10 : decode cX11_votes 10 = .ok (.iload 7, 2) := by decide +kernel
theorem dX11_votes_12 : decode cX11_votes 12 = .ok (.iconst 4, 1) := by decide +kernel
theorem dX11_votes_13 : decode cX11_votes 13 = .ok (.if_icmp .ge 51, 3) := by decide +kernel
theorem dX11_votes_16 : decode cX11_votes 16 = .ok (.aload_n 0, 1) := by decide +kernel
theorem dX11_votes_17 : decode cX11_votes 17 = .ok (.getfield 16, 3) := by decide +kernel
theorem dX11_votes_20 : decode cX11_votes 20 = .ok (.bipush 12, 2) := by decide +kernel
theorem dX11_votes_22 : decode cX11_votes 22 = .ok (.iload_n 1, 1) := by decide +kernel
theorem dX11_votes_23 : decode cX11_votes 23 = .ok (.imul, 1) := by decide +kernel
theorem dX11_votes_24 : decode cX11_votes 24 = .ok (.iconst 4, 1) := by decide +kernel
theorem dX11_votes_25 : decode cX11_votes 25 = .ok (.iload_n 2, 1) := by decide +kernel
theorem dX11_votes_26 : decode cX11_votes 26 = .ok (.imul, 1) := by decide +kernel
theorem dX11_votes_27 : decode cX11_votes 27 = .ok (.iadd, 1) := by decide +kernel
theorem dX11_votes_28 : decode cX11_votes 28 = .ok (.iload 7, 2) := by decide +kernel
theorem dX11_votes_30 : decode cX11_votes 30 = .ok (.iadd, 1) := by decide +kernel
theorem dX11_votes_31 : decode cX11_votes 31 = .ok (.iaload, 1) := by decide +kernel
theorem dX11_votes_32 : decode cX11_votes 32 = .ok (.istore 8, 2) := by decide +kernel
theorem dX11_votes_34 : decode cX11_votes 34 = .ok (.iload 8, 2) := by decide +kernel
theorem dX11_votes_36 : decode cX11_votes 36 = .ok (.iload_n 3, 1) := by decide +kernel
theorem dX11_votes_37 : decode cX11_votes 37 = .ok (.if_icmp .ge 14, 3) := by decide +kernel
theorem dX11_votes_40 : decode cX11_votes 40 = .ok (.iload 8, 2) := by decide +kernel
theorem dX11_votes_42 : decode cX11_votes 42 = .ok (.iconst 1, 1) := by decide +kernel
theorem dX11_votes_43 : decode cX11_votes 43 = .ok (.if_icmp .ne 15, 3) := by decide +kernel
theorem dX11_votes_46 : decode cX11_votes 46 = .ok (.iload 4, 2) := by decide +kernel
theorem dX11_votes_48 : decode cX11_votes 48 = .ok (.ifCond .eq 10, 3) := by decide +kernel
theorem dX11_votes_51 : decode cX11_votes 51 = .ok (.iload 7, 2) := by decide +kernel
theorem dX11_votes_53 : decode cX11_votes 53 = .ok (.istore 5, 2) := by decide +kernel
theorem dX11_votes_55 : decode cX11_votes 55 = .ok (.iinc 6 1, 3) := by decide +kernel
theorem dX11_votes_58 : decode cX11_votes 58 = .ok (.iinc 7 1, 3) := by decide +kernel
theorem dX11_votes_61 : decode cX11_votes 61 = .ok (.goto (-51), 3) := by decide +kernel
theorem dX11_votes_64 : decode cX11_votes 64 = .ok (.iload 6, 2) := by decide +kernel
theorem dX11_votes_66 : decode cX11_votes 66 = .ok (.iconst 1, 1) := by decide +kernel
theorem dX11_votes_67 : decode cX11_votes 67 = .ok (.if_icmp .ne 8, 3) := by decide +kernel
theorem dX11_votes_70 : decode cX11_votes 70 = .ok (.iload 5, 2) := by decide +kernel
theorem dX11_votes_72 : decode cX11_votes 72 = .ok (.goto 5, 3) := by decide +kernel
theorem dX11_votes_75 : decode cX11_votes 75 = .ok (.bipush (-4), 2) := by decide +kernel
theorem dX11_votes_77 : decode cX11_votes 77 = .ok (.ireturn, 1) := by decide +kernel
set_option maxRecDepth 20000 in
theorem ggX11_voteOf_X11_ruleOf : GoodIn wsX11_voteOf wsX11_ruleOf := goodIn_r _ [7, 8, 9, 10, 11, 6, 12, 13, 14, 15, 16, 17, 22, 23, 24, 25, 26, 27, 28, 29, 30, 31, 32, 33, 34, 35, 36, 37, 38, 39, 40, 41, 42, 43, 44, 45, 46, 47, 48, 49, 50, 51, 52, 53, 54, 55, 56] (by decide +kernel) (by decide +kernel)
set_option maxRecDepth 20000 in
theorem gX11_voteOf_X11_ruleOf : GoodIn wsX11_voteOf (wsV RX11 123 RX11 yX11_ruleOf wsX11_ruleOf) := goodIn_app (goodIn_of _ (by decide +kernel)) ggX11_voteOf_X11_ruleOf
set_option maxRecDepth 20000 in
theorem ggX11_voteOf_X11_votes : GoodIn wsX11_voteOf wsX11_votes := goodIn_r _ [21, 1, 22, 23, 24, 25, 26, 27, 28, 29, 30, 31, 32, 33, 34, 35, 36, 37, 38, 39, 40, 41, 42, 43, 44, 45, 46, 47, 48, 49, 50, 51, 52, 53, 54, 55, 56] (by decide +kernel) (by decide +kernel)
set_option maxRecDepth 20000 in
theorem gX11_voteOf_X11_votes : GoodIn wsX11_voteOf (wsV RX11 127 RX11 yX11_votes wsX11_votes) := goodIn_app (goodIn_of _ (by decide +kernel)) ggX11_voteOf_X11_votes
theorem dX11_voteOf_0 : decode cX11_voteOf 0 = .ok (.iload 4, 2) := by decide +kernel
theorem dX11_voteOf_2 : decode cX11_voteOf 2 = .ok (.ifCond .eq 18, 3) := by decide +kernel
theorem dX11_voteOf_5 : decode cX11_voteOf 5 = .ok (.aload_n 0, 1) := by decide +kernel
theorem dX11_voteOf_6 : decode cX11_voteOf 6 = .ok (.iload_n 1, 1) := by decide +kernel
theorem dX11_voteOf_7 : decode cX11_voteOf 7 = .ok (.iload_n 2, 1) := by decide +kernel
theorem dX11_voteOf_8 : decode cX11_voteOf 8 = .ok (.aload_n 0, 1) := by decide +kernel
theorem dX11_voteOf_9 : decode cX11_voteOf 9 = .ok (.iconst 2, 1) := by decide +kernel
theorem dX11_voteOf_10 : decode cX11_voteOf 10 = .ok (.iconst 0, 1) := by decide +kernel
theorem dX11_voteOf_11 : decode cX11_voteOf 11 = .ok (.iload_n 3, 1) := by decide +kernel
theorem dX11_voteOf_12 : decode cX11_voteOf 12 = .ok (.invokevirtual 123, 3) := by decide +kernel
theorem dX11_voteOf_15 : decode cX11_voteOf 15 = .ok (.iconst 0, 1) := by decide +kernel
theorem dX11_voteOf_16 : decode cX11_voteOf 16 = .ok (.invokevirtual 127, 3) := by decide +kernel
theorem dX11_voteOf_19 : decode cX11_voteOf 19 = .ok (.ireturn, 1) := by decide +kernel
theorem dX11_voteOf_20 : decode cX11_voteOf 20 = .ok (.iconst 0, 1) := by decide +kernel
theorem dX11_voteOf_21 : decode cX11_voteOf 21 = .ok (.istore 5, 2) := by decide +kernel
theorem dX11_voteOf_23 : decode cX11_voteOf 23 = .ok (.bipush 12, 2) := by decide +kernel
theorem dX11_voteOf_25 : decode cX11_voteOf 25 = .ok (.iload_n 1, 1) := by decide +kernel
theorem dX11_voteOf_26 : decode cX11_voteOf 26 = .ok (.imul, 1) := by decide +kernel
theorem dX11_voteOf_27 : decode cX11_voteOf 27 = .ok (.istore 6, 2) := by decide +kernel
theorem dX11_voteOf_29 : decode cX11_voteOf 29 = .ok (.iload 6, 2) := by decide +kernel
theorem dX11_voteOf_31 : decode cX11_voteOf 31 = .ok (.bipush 12, 2) := by decide +kernel
theorem dX11_voteOf_33 : decode cX11_voteOf 33 = .ok (.iload_n 1, 1) := by decide +kernel
theorem dX11_voteOf_34 : decode cX11_voteOf 34 = .ok (.imul, 1) := by decide +kernel
theorem dX11_voteOf_35 : decode cX11_voteOf 35 = .ok (.bipush 12, 2) := by decide +kernel
theorem dX11_voteOf_37 : decode cX11_voteOf 37 = .ok (.iadd, 1) := by decide +kernel
theorem dX11_voteOf_38 : decode cX11_voteOf 38 = .ok (.if_icmp .ge 30, 3) := by decide +kernel
theorem dX11_voteOf_41 : decode cX11_voteOf 41 = .ok (.iload 5, 2) := by decide +kernel
theorem dX11_voteOf_43 : decode cX11_voteOf 43 = .ok (.aload_n 0, 1) := by decide +kernel
theorem dX11_voteOf_44 : decode cX11_voteOf 44 = .ok (.getfield 16, 3) := by decide +kernel
theorem dX11_voteOf_47 : decode cX11_voteOf 47 = .ok (.iload 6, 2) := by decide +kernel
theorem dX11_voteOf_49 : decode cX11_voteOf 49 = .ok (.iaload, 1) := by decide +kernel
theorem dX11_voteOf_50 : decode cX11_voteOf 50 = .ok (.iconst 1, 1) := by decide +kernel
theorem dX11_voteOf_51 : decode cX11_voteOf 51 = .ok (.if_icmp .ne 7, 3) := by decide +kernel
theorem dX11_voteOf_54 : decode cX11_voteOf 54 = .ok (.iconst 1, 1) := by decide +kernel
theorem dX11_voteOf_55 : decode cX11_voteOf 55 = .ok (.goto 4, 3) := by decide +kernel
theorem dX11_voteOf_58 : decode cX11_voteOf 58 = .ok (.iconst 0, 1) := by decide +kernel
theorem dX11_voteOf_59 : decode cX11_voteOf 59 = .ok (.iadd, 1) := by decide +kernel
theorem dX11_voteOf_60 : decode cX11_voteOf 60 = .ok (.istore 5, 2) := by decide +kernel
theorem dX11_voteOf_62 : decode cX11_voteOf 62 = .ok (.iinc 6 1, 3) := by decide +kernel
theorem dX11_voteOf_65 : decode cX11_voteOf 65 = .ok (.goto (-36), 3) := by decide +kernel
theorem dX11_voteOf_68 : decode cX11_voteOf 68 = .ok (.aload_n 0, 1) := by decide +kernel
theorem dX11_voteOf_69 : decode cX11_voteOf 69 = .ok (.iconst 1, 1) := by decide +kernel
theorem dX11_voteOf_70 : decode cX11_voteOf 70 = .ok (.aload_n 0, 1) := by decide +kernel
theorem dX11_voteOf_71 : decode cX11_voteOf 71 = .ok (.getfield 13, 3) := by decide +kernel
theorem dX11_voteOf_74 : decode cX11_voteOf 74 = .ok (.iload_n 1, 1) := by decide +kernel
theorem dX11_voteOf_75 : decode cX11_voteOf 75 = .ok (.iaload, 1) := by decide +kernel
theorem dX11_voteOf_76 : decode cX11_voteOf 76 = .ok (.iload_n 3, 1) := by decide +kernel
theorem dX11_voteOf_77 : decode cX11_voteOf 77 = .ok (.invokevirtual 123, 3) := by decide +kernel
theorem dX11_voteOf_80 : decode cX11_voteOf 80 = .ok (.istore 6, 2) := by decide +kernel
theorem dX11_voteOf_82 : decode cX11_voteOf 82 = .ok (.aload_n 0, 1) := by decide +kernel
theorem dX11_voteOf_83 : decode cX11_voteOf 83 = .ok (.iload_n 1, 1) := by decide +kernel
theorem dX11_voteOf_84 : decode cX11_voteOf 84 = .ok (.iload_n 2, 1) := by decide +kernel
theorem dX11_voteOf_85 : decode cX11_voteOf 85 = .ok (.aload_n 0, 1) := by decide +kernel
theorem dX11_voteOf_86 : decode cX11_voteOf 86 = .ok (.iconst 0, 1) := by decide +kernel
theorem dX11_voteOf_87 : decode cX11_voteOf 87 = .ok (.aload_n 0, 1) := by decide +kernel
theorem dX11_voteOf_88 : decode cX11_voteOf 88 = .ok (.getfield 13, 3) := by decide +kernel
theorem dX11_voteOf_91 : decode cX11_voteOf 91 = .ok (.iload_n 1, 1) := by decide +kernel
theorem dX11_voteOf_92 : decode cX11_voteOf 92 = .ok (.iaload, 1) := by decide +kernel
theorem dX11_voteOf_93 : decode cX11_voteOf 93 = .ok (.iload_n 3, 1) := by decide +kernel
theorem dX11_voteOf_94 : decode cX11_voteOf 94 = .ok (.invokevirtual 123, 3) := by decide +kernel
theorem dX11_voteOf_97 : decode cX11_voteOf 97 = .ok (.iload 6, 2) := by decide +kernel
theorem dX11_voteOf_99 : decode cX11_voteOf 99 = .ok (.ifCond .le 14, 3) := by decide +kernel
theorem dX11_voteOf_102 : decode cX11_voteOf 102 = .ok (.iload 5, 2) := by decide +kernel
theorem dX11_voteOf_104 : decode cX11_voteOf 104 = .ok (.iload 6, 2) := by decide +kernel
theorem dX11_voteOf_106 : decode cX11_voteOf 106 = .ok (.if_icmp .lt 7, 3) := by decide +kernel
theorem dX11_voteOf_109 : decode cX11_voteOf 109 = .ok (.iconst 1, 1) := by decide +kernel
theorem dX11_voteOf_110 : decode cX11_voteOf 110 = .ok (.goto 4, 3) := by decide +kernel
theorem dX11_voteOf_113 : decode cX11_voteOf 113 = .ok (.iconst 0, 1) := by decide +kernel
theorem dX11_voteOf_114 : decode cX11_voteOf 114 = .ok (.invokevirtual 127, 3) := by decide +kernel
theorem dX11_voteOf_117 : decode cX11_voteOf 117 = .ok (.ireturn, 1) := by decide +kernel
set_option maxRecDepth 20000 in
theorem ggX11_run_X11_in : GoodIn wsX11_run wsX11_in := goodIn_r _ [8] (by decide +kernel) (by decide +kernel)
set_option maxRecDepth 20000 in
theorem gX11_run_X11_in : GoodIn wsX11_run (va_wsS RX11 103 yX11_in wsX11_in) := goodIn_app (goodIn_of _ (by decide +kernel)) ggX11_run_X11_in
set_option maxRecDepth 20000 in
theorem ggX11_run_X11_isHour : GoodIn wsX11_run wsX11_isHour := goodIn_r _ [11, 12, 5, 6, 7, 8] (by decide +kernel) (by decide +kernel)
set_option maxRecDepth 20000 in
theorem gX11_run_X11_isHour : GoodIn wsX11_run (va_wsS RX11 131 yX11_isHour wsX11_isHour) := goodIn_app (goodIn_of _ (by decide +kernel)) ggX11_run_X11_isHour
set_option maxRecDepth 20000 in
theorem ggX11_run_X11_voteOf : GoodIn wsX11_run wsX11_voteOf := goodIn_r _ [16, 17, 4, 18, 19, 20, 7, 21, 22, 23, 24, 25, 26, 27, 28, 29, 30, 31, 32, 33, 34, 35, 40, 41, 42, 43, 44, 45, 46, 47, 48, 49, 50, 51, 52, 53, 54, 55, 56, 57, 58, 59, 60, 61, 62, 63, 64, 65, 66, 67, 68, 69, 70, 71, 72, 73, 74] (by decide +kernel) (by decide +kernel)
set_option maxRecDepth 20000 in
theorem gX11_run_X11_voteOf : GoodIn wsX11_run (wsV RX11 134 RX11 yX11_voteOf wsX11_voteOf) := goodIn_app (goodIn_of _ (by decide +kernel)) ggX11_run_X11_voteOf
set_option maxRecDepth 20000 in
theorem ggX11_run_X11_handles : GoodIn wsX11_run wsX11_handles := goodIn_r _ [39, 17, 1, 5, 6, 7, 8, 40, 41, 42, 43, 44, 45, 46, 47, 48, 49, 50, 51, 52, 53, 54, 55, 56, 57, 58, 59, 60, 61, 62, 63, 64, 65, 66, 67, 68, 69, 70, 71, 72, 73, 74] (by decide +kernel) (by decide +kernel)
set_option maxRecDepth 20000 in
theorem gX11_run_X11_handles : GoodIn wsX11_run (wsV RX11 119 RX11 yX11_handles wsX11_handles) := goodIn_app (goodIn_of _ (by decide +kernel)) ggX11_run_X11_handles
theorem dX11_run_0 : decode cX11_run 0 = .ok (.iload_n 1, 1) := by decide +kernel
theorem dX11_run_1 : decode cX11_run 1 = .ok (.i2l, 1) := by decide +kernel
theorem dX11_run_2 : decode cX11_run 2 = .ok (.lconst 0, 1) := by decide +kernel
theorem dX11_run_3 : decode cX11_run 3 = .ok (.ldc2_w 101, 3) := by decide +kernel
theorem dX11_run_6 : decode cX11_run 6 = .ok (.invokestatic 103, 3) := by decide +kernel
theorem dX11_run_9 : decode cX11_run 9 = .ok (.ifCond .eq 22, 3) := by decide +kernel
theorem dX11_run_12 : decode cX11_run 12 = .ok (.iload_n 2, 1) := by decide +kernel
theorem dX11_run_13 : decode cX11_run 13 = .ok (.i2l, 1) := by decide +kernel
theorem dX11_run_14 : decode cX11_run 14 = .ok (.lconst 0, 1) := by decide +kernel
theorem dX11_run_15 : decode cX11_run 15 = .ok (.ldc2_w 115, 3) := by decide +kernel
theorem dX11_run_18 : decode cX11_run 18 = .ok (.invokestatic 103, 3) := by decide +kernel
theorem dX11_run_21 : decode cX11_run 21 = .ok (.ifCond .eq 10, 3) := by decide +kernel
theorem dX11_run_24 : decode cX11_run 24 = .ok (.iload_n 3, 1) := by decide +kernel
theorem dX11_run_25 : decode cX11_run 25 = .ok (.invokestatic 131, 3) := by decide +kernel
theorem dX11_run_28 : decode cX11_run 28 = .ok (.ifCond .ne 5, 3) := by decide +kernel
theorem dX11_run_31 : decode cX11_run 31 = .ok (.iconst (-1), 1) := by decide +kernel
theorem dX11_run_32 : decode cX11_run 32 = .ok (.ireturn, 1) := by decide +kernel
theorem dX11_run_33 : decode cX11_run 33 = .ok (.iconst 0, 1) := by decide +kernel
theorem dX11_run_34 : decode cX11_run 34 = .ok (.istore 4, 2) := by decide +kernel
theorem dX11_run_36 : decode cX11_run 36 = .ok (.iconst 0, 1) := by decide +kernel
theorem dX11_run_37 : decode cX11_run 37 = .ok (.istore 5, 2) := by decide +kernel
theorem dX11_run_39 : decode cX11_run 39 = .ok (.iload 5, 2) := by decide +kernel
theorem dX11_run_41 : decode cX11_run 41 = .ok (.aload_n 0, 1) := by decide +kernel
theorem dX11_run_42 : decode cX11_run 42 = .ok (.getfield 7, 3) := by decide +kernel
theorem dX11_run_45 : decode cX11_run 45 = .ok (.iconst 0, 1) := by decide +kernel
theorem dX11_run_46 : decode cX11_run 46 = .ok (.iaload, 1) := by decide +kernel
theorem dX11_run_47 : decode cX11_run 47 = .ok (.if_icmp .ge 42, 3) := by decide +kernel
theorem dX11_run_50 : decode cX11_run 50 = .ok (.iload 4, 2) := by decide +kernel
theorem dX11_run_52 : decode cX11_run 52 = .ok (.aload_n 0, 1) := by decide +kernel
theorem dX11_run_53 : decode cX11_run 53 = .ok (.getfield 13, 3) := by decide +kernel
theorem dX11_run_56 : decode cX11_run 56 = .ok (.iload 5, 2) := by decide +kernel
theorem dX11_run_58 : decode cX11_run 58 = .ok (.iaload, 1) := by decide +kernel
theorem dX11_run_59 : decode cX11_run 59 = .ok (.iload_n 1, 1) := by decide +kernel
theorem dX11_run_60 : decode cX11_run 60 = .ok (.if_icmp .ne 19, 3) := by decide +kernel
theorem dX11_run_63 : decode cX11_run 63 = .ok (.aload_n 0, 1) := by decide +kernel
theorem dX11_run_64 : decode cX11_run 64 = .ok (.iload 5, 2) := by decide +kernel
theorem dX11_run_66 : decode cX11_run 66 = .ok (.iload_n 2, 1) := by decide +kernel
theorem dX11_run_67 : decode cX11_run 67 = .ok (.iload_n 3, 1) := by decide +kernel
theorem dX11_run_68 : decode cX11_run 68 = .ok (.iconst 1, 1) := by decide +kernel
theorem dX11_run_69 : decode cX11_run 69 = .ok (.invokevirtual 134, 3) := by decide +kernel
theorem dX11_run_72 : decode cX11_run 72 = .ok (.ifCond .lt 7, 3) := by decide +kernel
theorem dX11_run_75 : decode cX11_run 75 = .ok (.iconst 1, 1) := by decide +kernel
theorem dX11_run_76 : decode cX11_run 76 = .ok (.goto 4, 3) := by decide +kernel
theorem dX11_run_79 : decode cX11_run 79 = .ok (.iconst 0, 1) := by decide +kernel
theorem dX11_run_80 : decode cX11_run 80 = .ok (.iadd, 1) := by decide +kernel
theorem dX11_run_81 : decode cX11_run 81 = .ok (.istore 4, 2) := by decide +kernel
theorem dX11_run_83 : decode cX11_run 83 = .ok (.iinc 5 1, 3) := by decide +kernel
theorem dX11_run_86 : decode cX11_run 86 = .ok (.goto (-47), 3) := by decide +kernel
theorem dX11_run_89 : decode cX11_run 89 = .ok (.iconst 0, 1) := by decide +kernel
theorem dX11_run_90 : decode cX11_run 90 = .ok (.istore 5, 2) := by decide +kernel
theorem dX11_run_92 : decode cX11_run 92 = .ok (.iload 5, 2) := by decide +kernel
theorem dX11_run_94 : decode cX11_run 94 = .ok (.aload_n 0, 1) := by decide +kernel
theorem dX11_run_95 : decode cX11_run 95 = .ok (.getfield 7, 3) := by decide +kernel
theorem dX11_run_98 : decode cX11_run 98 = .ok (.iconst 0, 1) := by decide +kernel
theorem dX11_run_99 : decode cX11_run 99 = .ok (.iaload, 1) := by decide +kernel
theorem dX11_run_100 : decode cX11_run 100 = .ok (.if_icmp .ge 28, 3) := by decide +kernel
theorem dX11_run_103 : decode cX11_run 103 = .ok (.aload_n 0, 1) := by decide +kernel
theorem dX11_run_104 : decode cX11_run 104 = .ok (.getfield 13, 3) := by decide +kernel
theorem dX11_run_107 : decode cX11_run 107 = .ok (.iload 5, 2) := by decide +kernel
theorem dX11_run_109 : decode cX11_run 109 = .ok (.iaload, 1) := by decide +kernel
theorem dX11_run_110 : decode cX11_run 110 = .ok (.iload_n 1, 1) := by decide +kernel
theorem dX11_run_111 : decode cX11_run 111 = .ok (.if_icmp .ne 11, 3) := by decide +kernel
theorem dX11_run_114 : decode cX11_run 114 = .ok (.aload_n 0, 1) := by decide +kernel
theorem dX11_run_115 : decode cX11_run 115 = .ok (.iload 5, 2) := by decide +kernel
theorem dX11_run_117 : decode cX11_run 117 = .ok (.iconst 1, 1) := by decide +kernel
theorem dX11_run_118 : decode cX11_run 118 = .ok (.invokevirtual 119, 3) := by decide +kernel
theorem dX11_run_121 : decode cX11_run 121 = .ok (.pop, 1) := by decide +kernel
theorem dX11_run_122 : decode cX11_run 122 = .ok (.iinc 5 1, 3) := by decide +kernel
theorem dX11_run_125 : decode cX11_run 125 = .ok (.goto (-33), 3) := by decide +kernel
theorem dX11_run_128 : decode cX11_run 128 = .ok (.iload 4, 2) := by decide +kernel
theorem dX11_run_130 : decode cX11_run 130 = .ok (.ireturn, 1) := by decide +kernel
set_option maxRecDepth 20000 in
theorem ggX11_write_X11_in : GoodIn wsX11_write wsX11_in := goodIn_r _ [7] (by decide +kernel) (by decide +kernel)
set_option maxRecDepth 20000 in
theorem gX11_write_X11_in : GoodIn wsX11_write (va_wsS RX11 103 yX11_in wsX11_in) := goodIn_app (goodIn_of _ (by decide +kernel)) ggX11_write_X11_in
theorem dX11_write_0 : decode cX11_write 0 = .ok (.iload_n 1, 1) := by decide +kernel
theorem dX11_write_1 : decode cX11_write 1 = .ok (.i2l, 1) := by decide +kernel
theorem dX11_write_2 : decode cX11_write 2 = .ok (.lconst 1, 1) := by decide +kernel
theorem dX11_write_3 : decode cX11_write 3 = .ok (.ldc2_w 137, 3) := by decide +kernel
theorem dX11_write_6 : decode cX11_write 6 = .ok (.invokestatic 103, 3) := by decide +kernel
theorem dX11_write_9 : decode cX11_write 9 = .ok (.ifCond .ne 5, 3) := by decide +kernel
theorem dX11_write_12 : decode cX11_write 12 = .ok (.iconst (-1), 1) := by decide +kernel
theorem dX11_write_13 : decode cX11_write 13 = .ok (.ireturn, 1) := by decide +kernel
theorem dX11_write_14 : decode cX11_write 14 = .ok (.aload_n 0, 1) := by decide +kernel
theorem dX11_write_15 : decode cX11_write 15 = .ok (.getfield 139, 3) := by decide +kernel
theorem dX11_write_18 : decode cX11_write 18 = .ok (.iload_n 1, 1) := by decide +kernel
theorem dX11_write_19 : decode cX11_write 19 = .ok (.iadd, 1) := by decide +kernel
theorem dX11_write_20 : decode cX11_write 20 = .ok (.sipush 200, 3) := by decide +kernel
theorem dX11_write_23 : decode cX11_write 23 = .ok (.if_icmp .le 6, 3) := by decide +kernel
theorem dX11_write_26 : decode cX11_write 26 = .ok (.bipush (-3), 2) := by decide +kernel
theorem dX11_write_28 : decode cX11_write 28 = .ok (.ireturn, 1) := by decide +kernel
theorem dX11_write_29 : decode cX11_write 29 = .ok (.iload_n 1, 1) := by decide +kernel
theorem dX11_write_30 : decode cX11_write 30 = .ok (.iconst 1, 1) := by decide +kernel
theorem dX11_write_31 : decode cX11_write 31 = .ok (.isub, 1) := by decide +kernel
theorem dX11_write_32 : decode cX11_write 32 = .ok (.istore 4, 2) := by decide +kernel
theorem dX11_write_34 : decode cX11_write 34 = .ok (.iload 4, 2) := by decide +kernel
theorem dX11_write_36 : decode cX11_write 36 = .ok (.ifCond .lt 37, 3) := by decide +kernel
theorem dX11_write_39 : decode cX11_write 39 = .ok (.aload_n 0, 1) := by decide +kernel
theorem dX11_write_40 : decode cX11_write 40 = .ok (.getfield 19, 3) := by decide +kernel
theorem dX11_write_43 : decode cX11_write 43 = .ok (.aload_n 0, 1) := by decide +kernel
theorem dX11_write_44 : decode cX11_write 44 = .ok (.getfield 139, 3) := by decide +kernel
theorem dX11_write_47 : decode cX11_write 47 = .ok (.lload_n 2, 1) := by decide +kernel
theorem dX11_write_48 : decode cX11_write 48 = .ok (.bipush 8, 2) := by decide +kernel
theorem dX11_write_50 : decode cX11_write 50 = .ok (.iload 4, 2) := by decide +kernel
theorem dX11_write_52 : decode cX11_write 52 = .ok (.imul, 1) := by decide +kernel
theorem dX11_write_53 : decode cX11_write 53 = .ok (.lshr, 1) := by decide +kernel
theorem dX11_write_54 : decode cX11_write 54 = .ok (.l2i, 1) := by decide +kernel
theorem dX11_write_55 : decode cX11_write 55 = .ok (.i2b, 1) := by decide +kernel
theorem dX11_write_56 : decode cX11_write 56 = .ok (.bastore, 1) := by decide +kernel
theorem dX11_write_57 : decode cX11_write 57 = .ok (.aload_n 0, 1) := by decide +kernel
theorem dX11_write_58 : decode cX11_write 58 = .ok (.dup, 1) := by decide +kernel
theorem dX11_write_59 : decode cX11_write 59 = .ok (.getfield 139, 3) := by decide +kernel
theorem dX11_write_62 : decode cX11_write 62 = .ok (.iconst 1, 1) := by decide +kernel
theorem dX11_write_63 : decode cX11_write 63 = .ok (.iadd, 1) := by decide +kernel
theorem dX11_write_64 : decode cX11_write 64 = .ok (.putfield 139, 3) := by decide +kernel
theorem dX11_write_67 : decode cX11_write 67 = .ok (.iinc 4 (-1), 3) := by decide +kernel
theorem dX11_write_70 : decode cX11_write 70 = .ok (.goto (-36), 3) := by decide +kernel
theorem dX11_write_73 : decode cX11_write 73 = .ok (.aload_n 0, 1) := by decide +kernel
theorem dX11_write_74 : decode cX11_write 74 = .ok (.getfield 139, 3) := by decide +kernel
theorem dX11_write_77 : decode cX11_write 77 = .ok (.ireturn, 1) := by decide +kernel
theorem dX11_wipe_0 : decode cX11_wipe 0 = .ok (.aload_n 0, 1) := by decide +kernel
theorem dX11_wipe_1 : decode cX11_wipe 1 = .ok (.getfield 139, 3) := by decide +kernel
theorem dX11_wipe_4 : decode cX11_wipe 4 = .ok (.istore_n 1, 1) := by decide +kernel
theorem dX11_wipe_5 : decode cX11_wipe 5 = .ok (.aload_n 0, 1) := by decide +kernel
theorem dX11_wipe_6 : decode cX11_wipe 6 = .ok (.iconst 0, 1) := by decide +kernel
theorem dX11_wipe_7 : decode cX11_wipe 7 = .ok (.putfield 139, 3) := by decide +kernel
theorem dX11_wipe_10 : decode cX11_wipe 10 = .ok (.iload_n 1, 1) := by decide +kernel
theorem dX11_wipe_11 : decode cX11_wipe 11 = .ok (.ireturn, 1) := by decide +kernel
set_option maxRecDepth 20000 in
theorem ggX11_number_X11_in : GoodIn wsX11_number wsX11_in := goodIn_r _ [10] (by decide +kernel) (by decide +kernel)
set_option maxRecDepth 20000 in
theorem gX11_number_X11_in : GoodIn wsX11_number (va_wsS RX11 103 yX11_in wsX11_in) := goodIn_app (goodIn_of _ (by decide +kernel)) ggX11_number_X11_in
theorem dX11_number_0 : decode cX11_number 0 = .ok (.iconst 0, 1) := by decide +kernel
theorem dX11_number_1 : decode cX11_number 1 = .ok (.istore_n 1, 1) := by decide +kernel
theorem dX11_number_2 : decode cX11_number 2 = .ok (.iconst 0, 1) := by decide +kernel
theorem dX11_number_3 : decode cX11_number 3 = .ok (.istore_n 2, 1) := by decide +kernel
theorem dX11_number_4 : decode cX11_number 4 = .ok (.aload_n 0, 1) := by decide +kernel
theorem dX11_number_5 : decode cX11_number 5 = .ok (.getfield 142, 3) := by decide +kernel
theorem dX11_number_8 : decode cX11_number 8 = .ok (.aload_n 0, 1) := by decide +kernel
theorem dX11_number_9 : decode cX11_number 9 = .ok (.getfield 139, 3) := by decide +kernel
theorem dX11_number_12 : decode cX11_number 12 = .ok (.if_icmp .ge 68, 3) := by decide +kernel
theorem dX11_number_15 : decode cX11_number 15 = .ok (.aload_n 0, 1) := by decide +kernel
theorem dX11_number_16 : decode cX11_number 16 = .ok (.getfield 19, 3) := by decide +kernel
theorem dX11_number_19 : decode cX11_number 19 = .ok (.aload_n 0, 1) := by decide +kernel
theorem dX11_number_20 : decode cX11_number 20 = .ok (.getfield 142, 3) := by decide +kernel
theorem dX11_number_23 : decode cX11_number 23 = .ok (.baload, 1) := by decide +kernel
theorem dX11_number_24 : decode cX11_number 24 = .ok (.i2l, 1) := by decide +kernel
theorem dX11_number_25 : decode cX11_number 25 = .ok (.ldc2_w 145, 3) := by decide +kernel
theorem dX11_number_28 : decode cX11_number 28 = .ok (.ldc2_w 147, 3) := by decide +kernel
theorem dX11_number_31 : decode cX11_number 31 = .ok (.invokestatic 103, 3) := by decide +kernel
theorem dX11_number_34 : decode cX11_number 34 = .ok (.ifCond .eq 46, 3) := by decide +kernel
theorem dX11_number_37 : decode cX11_number 37 = .ok (.iload_n 2, 1) := by decide +kernel
theorem dX11_number_38 : decode cX11_number 38 = .ok (.iconst 3, 1) := by decide +kernel
theorem dX11_number_39 : decode cX11_number 39 = .ok (.if_icmp .ge 23, 3) := by decide +kernel
theorem dX11_number_42 : decode cX11_number 42 = .ok (.bipush 10, 2) := by decide +kernel
theorem dX11_number_44 : decode cX11_number 44 = .ok (.iload_n 1, 1) := by decide +kernel
theorem dX11_number_45 : decode cX11_number 45 = .ok (.imul, 1) := by decide +kernel
theorem dX11_number_46 : decode cX11_number 46 = .ok (.aload_n 0, 1) := by decide +kernel
theorem dX11_number_47 : decode cX11_number 47 = .ok (.getfield 19, 3) := by decide +kernel
theorem dX11_number_50 : decode cX11_number 50 = .ok (.aload_n 0, 1) := by decide +kernel
theorem dX11_number_51 : decode cX11_number 51 = .ok (.getfield 142, 3) := by decide +kernel
theorem dX11_number_54 : decode cX11_number 54 = .ok (.baload, 1) := by decide +kernel
theorem dX11_number_55 : decode cX11_number 55 = .ok (.iadd, 1) := by decide +kernel
theorem dX11_number_56 : decode cX11_number 56 = .ok (.bipush 48, 2) := by decide +kernel
theorem dX11_number_58 : decode cX11_number 58 = .ok (.isub, 1) := by decide +kernel
theorem dX11_number_59 : decode cX11_number 59 = .ok (.goto 4, 3) := by decide +kernel
theorem dX11_number_62 : decode cX11_number 62 = .ok (.iload_n 1, 1) := by decide +kernel
theorem dX11_number_63 : decode cX11_number 63 = .ok (.istore_n 1, 1) := by decide +kernel
theorem dX11_number_64 : decode cX11_number 64 = .ok (.iinc 2 1, 3) := by decide +kernel
theorem dX11_number_67 : decode cX11_number 67 = .ok (.aload_n 0, 1) := by decide +kernel
theorem dX11_number_68 : decode cX11_number 68 = .ok (.dup, 1) := by decide +kernel
theorem dX11_number_69 : decode cX11_number 69 = .ok (.getfield 142, 3) := by decide +kernel
theorem dX11_number_72 : decode cX11_number 72 = .ok (.iconst 1, 1) := by decide +kernel
theorem dX11_number_73 : decode cX11_number 73 = .ok (.iadd, 1) := by decide +kernel
theorem dX11_number_74 : decode cX11_number 74 = .ok (.putfield 142, 3) := by decide +kernel
theorem dX11_number_77 : decode cX11_number 77 = .ok (.goto (-73), 3) := by decide +kernel
theorem dX11_number_80 : decode cX11_number 80 = .ok (.iload_n 2, 1) := by decide +kernel
theorem dX11_number_81 : decode cX11_number 81 = .ok (.i2l, 1) := by decide +kernel
theorem dX11_number_82 : decode cX11_number 82 = .ok (.lconst 1, 1) := by decide +kernel
theorem dX11_number_83 : decode cX11_number 83 = .ok (.ldc2_w 117, 3) := by decide +kernel
theorem dX11_number_86 : decode cX11_number 86 = .ok (.invokestatic 103, 3) := by decide +kernel
theorem dX11_number_89 : decode cX11_number 89 = .ok (.ifCond .eq 7, 3) := by decide +kernel
theorem dX11_number_92 : decode cX11_number 92 = .ok (.iload_n 1, 1) := by decide +kernel
theorem dX11_number_93 : decode cX11_number 93 = .ok (.goto 4, 3) := by decide +kernel
theorem dX11_number_96 : decode cX11_number 96 = .ok (.iconst (-1), 1) := by decide +kernel
theorem dX11_number_97 : decode cX11_number 97 = .ok (.ireturn, 1) := by decide +kernel
set_option maxRecDepth 20000 in
theorem ggX11_more_X11_number : GoodIn wsX11_more wsX11_number := goodIn_r _ [8, 1, 2, 3, 9, 10, 11, 12, 13, 7, 14, 15, 16, 17, 18, 19, 20, 21, 22, 23, 24, 25, 26, 27, 28, 29, 30, 31, 32, 33, 34, 35, 36, 37, 38, 39, 40, 41, 42, 43, 44, 45, 46, 47, 48, 49] (by decide +kernel) (by decide +kernel)
set_option maxRecDepth 20000 in
theorem gX11_more_X11_number : GoodIn wsX11_more (wsV RX11 149 RX11 yX11_number wsX11_number) := goodIn_app (goodIn_of _ (by decide +kernel)) ggX11_more_X11_number
theorem dX11_more_0 : decode cX11_more 0 = .ok (.aload_n 0, 1) := by decide +kernel
theorem dX11_more_1 : decode cX11_more 1 = .ok (.getfield 142, 3) := by decide +kernel
theorem dX11_more_4 : decode cX11_more 4 = .ok (.aload_n 0, 1) := by decide +kernel
theorem dX11_more_5 : decode cX11_more 5 = .ok (.getfield 139, 3) := by decide +kernel
theorem dX11_more_8 : decode cX11_more 8 = .ok (.if_icmp .ge 16, 3) := by decide +kernel
theorem dX11_more_11 : decode cX11_more 11 = .ok (.aload_n 0, 1) := by decide +kernel
theorem dX11_more_12 : decode cX11_more 12 = .ok (.getfield 19, 3) := by decide +kernel
theorem dX11_more_15 : decode cX11_more 15 = .ok (.aload_n 0, 1) := by decide +kernel
theorem dX11_more_16 : decode cX11_more 16 = .ok (.getfield 142, 3) := by decide +kernel
theorem dX11_more_19 : decode cX11_more 19 = .ok (.baload, 1) := by decide +kernel
theorem dX11_more_20 : decode cX11_more 20 = .ok (.iload_n 1, 1) := by decide +kernel
theorem dX11_more_21 : decode cX11_more 21 = .ok (.if_icmp .eq 5, 3) := by decide +kernel
theorem dX11_more_24 : decode cX11_more 24 = .ok (.iconst (-1), 1) := by decide +kernel
theorem dX11_more_25 : decode cX11_more 25 = .ok (.ireturn, 1) := by decide +kernel
theorem dX11_more_26 : decode cX11_more 26 = .ok (.aload_n 0, 1) := by decide +kernel
theorem dX11_more_27 : decode cX11_more 27 = .ok (.dup, 1) := by decide +kernel
theorem dX11_more_28 : decode cX11_more 28 = .ok (.getfield 142, 3) := by decide +kernel
theorem dX11_more_31 : decode cX11_more 31 = .ok (.iconst 1, 1) := by decide +kernel
theorem dX11_more_32 : decode cX11_more 32 = .ok (.iadd, 1) := by decide +kernel
theorem dX11_more_33 : decode cX11_more 33 = .ok (.putfield 142, 3) := by decide +kernel
theorem dX11_more_36 : decode cX11_more 36 = .ok (.aload_n 0, 1) := by decide +kernel
theorem dX11_more_37 : decode cX11_more 37 = .ok (.invokevirtual 149, 3) := by decide +kernel
theorem dX11_more_40 : decode cX11_more 40 = .ok (.ireturn, 1) := by decide +kernel
set_option maxRecDepth 20000 in
theorem ggX11_reads_X11_more : GoodIn wsX11_reads wsX11_more := goodIn_r _ [18, 2, 5, 1, 19, 20, 21, 17, 22, 23, 24, 4, 25, 26, 27, 28, 29, 30, 31, 32, 33, 34, 35, 36, 37, 38, 39, 40, 41, 42, 43, 44, 45, 46, 47, 48, 49, 50, 51, 52, 53, 54, 55, 56, 57, 58, 59, 60, 61, 62] (by decide +kernel) (by decide +kernel)
set_option maxRecDepth 20000 in
theorem gX11_reads_X11_more : GoodIn wsX11_reads (wsV RX11 153 RX11 yX11_more wsX11_more) := goodIn_app (goodIn_of _ (by decide +kernel)) ggX11_reads_X11_more
set_option maxRecDepth 20000 in
theorem ggX11_reads_X11_in : GoodIn wsX11_reads wsX11_in := goodIn_r _ [27] (by decide +kernel) (by decide +kernel)
set_option maxRecDepth 20000 in
theorem gX11_reads_X11_in : GoodIn wsX11_reads (va_wsS RX11 103 yX11_in wsX11_in) := goodIn_app (goodIn_of _ (by decide +kernel)) ggX11_reads_X11_in
theorem dX11_reads_0 : decode cX11_reads 0 = .ok (.aload_n 0, 1) := by decide +kernel
theorem dX11_reads_1 : decode cX11_reads 1 = .ok (.getfield 19, 3) := by decide +kernel
theorem dX11_reads_4 : decode cX11_reads 4 = .ok (.aload_n 0, 1) := by decide +kernel
theorem dX11_reads_5 : decode cX11_reads 5 = .ok (.getfield 142, 3) := by decide +kernel
theorem dX11_reads_8 : decode cX11_reads 8 = .ok (.baload, 1) := by decide +kernel
theorem dX11_reads_9 : decode cX11_reads 9 = .ok (.bipush 118, 2) := by decide +kernel
theorem dX11_reads_11 : decode cX11_reads 11 = .ok (.if_icmp .ne 7, 3) := by decide +kernel
theorem dX11_reads_14 : decode cX11_reads 14 = .ok (.iconst 0, 1) := by decide +kernel
theorem dX11_reads_15 : decode cX11_reads 15 = .ok (.goto 58, 3) := by decide +kernel
theorem dX11_reads_18 : decode cX11_reads 18 = .ok (.aload_n 0, 1) := by decide +kernel
theorem dX11_reads_19 : decode cX11_reads 19 = .ok (.getfield 19, 3) := by decide +kernel
theorem dX11_reads_22 : decode cX11_reads 22 = .ok (.aload_n 0, 1) := by decide +kernel
theorem dX11_reads_23 : decode cX11_reads 23 = .ok (.getfield 142, 3) := by decide +kernel
theorem dX11_reads_26 : decode cX11_reads 26 = .ok (.baload, 1) := by decide +kernel
theorem dX11_reads_27 : decode cX11_reads 27 = .ok (.bipush 100, 2) := by decide +kernel
theorem dX11_reads_29 : decode cX11_reads 29 = .ok (.if_icmp .ne 7, 3) := by decide +kernel
theorem dX11_reads_32 : decode cX11_reads 32 = .ok (.iconst 1, 1) := by decide +kernel
theorem dX11_reads_33 : decode cX11_reads 33 = .ok (.goto 40, 3) := by decide +kernel
theorem dX11_reads_36 : decode cX11_reads 36 = .ok (.aload_n 0, 1) := by decide +kernel
theorem dX11_reads_37 : decode cX11_reads 37 = .ok (.getfield 19, 3) := by decide +kernel
theorem dX11_reads_40 : decode cX11_reads 40 = .ok (.aload_n 0, 1) := by decide +kernel
theorem dX11_reads_41 : decode cX11_reads 41 = .ok (.getfield 142, 3) := by decide +kernel
theorem dX11_reads_44 : decode cX11_reads 44 = .ok (.baload, 1) := by decide +kernel
theorem dX11_reads_45 : decode cX11_reads 45 = .ok (.bipush 109, 2) := by decide +kernel
theorem dX11_reads_47 : decode cX11_reads 47 = .ok (.if_icmp .ne 7, 3) := by decide +kernel
theorem dX11_reads_50 : decode cX11_reads 50 = .ok (.iconst 2, 1) := by decide +kernel
theorem dX11_reads_51 : decode cX11_reads 51 = .ok (.goto 22, 3) := by decide +kernel
theorem dX11_reads_54 : decode cX11_reads 54 = .ok (.aload_n 0, 1) := by decide +kernel
theorem dX11_reads_55 : decode cX11_reads 55 = .ok (.getfield 19, 3) := by decide +kernel
theorem dX11_reads_58 : decode cX11_reads 58 = .ok (.aload_n 0, 1) := by decide +kernel
theorem dX11_reads_59 : decode cX11_reads 59 = .ok (.getfield 142, 3) := by decide +kernel
theorem dX11_reads_62 : decode cX11_reads 62 = .ok (.baload, 1) := by decide +kernel
theorem dX11_reads_63 : decode cX11_reads 63 = .ok (.bipush 111, 2) := by decide +kernel
theorem dX11_reads_65 : decode cX11_reads 65 = .ok (.if_icmp .ne 7, 3) := by decide +kernel
theorem dX11_reads_68 : decode cX11_reads 68 = .ok (.iconst 3, 1) := by decide +kernel
theorem dX11_reads_69 : decode cX11_reads 69 = .ok (.goto 4, 3) := by decide +kernel
theorem dX11_reads_72 : decode cX11_reads 72 = .ok (.iconst (-1), 1) := by decide +kernel
theorem dX11_reads_73 : decode cX11_reads 73 = .ok (.istore_n 1, 1) := by decide +kernel
theorem dX11_reads_74 : decode cX11_reads 74 = .ok (.iload_n 1, 1) := by decide +kernel
theorem dX11_reads_75 : decode cX11_reads 75 = .ok (.ifCond .ge 5, 3) := by decide +kernel
theorem dX11_reads_78 : decode cX11_reads 78 = .ok (.iconst 0, 1) := by decide +kernel
theorem dX11_reads_79 : decode cX11_reads 79 = .ok (.ireturn, 1) := by decide +kernel
theorem dX11_reads_80 : decode cX11_reads 80 = .ok (.aload_n 0, 1) := by decide +kernel
theorem dX11_reads_81 : decode cX11_reads 81 = .ok (.getfield 19, 3) := by decide +kernel
theorem dX11_reads_84 : decode cX11_reads 84 = .ok (.aload_n 0, 1) := by decide +kernel
theorem dX11_reads_85 : decode cX11_reads 85 = .ok (.getfield 142, 3) := by decide +kernel
theorem dX11_reads_88 : decode cX11_reads 88 = .ok (.baload, 1) := by decide +kernel
theorem dX11_reads_89 : decode cX11_reads 89 = .ok (.istore_n 2, 1) := by decide +kernel
theorem dX11_reads_90 : decode cX11_reads 90 = .ok (.iload_n 1, 1) := by decide +kernel
theorem dX11_reads_91 : decode cX11_reads 91 = .ok (.iconst 2, 1) := by decide +kernel
theorem dX11_reads_92 : decode cX11_reads 92 = .ok (.if_icmp .ne 7, 3) := by decide +kernel
theorem dX11_reads_95 : decode cX11_reads 95 = .ok (.iconst 5, 1) := by decide +kernel
theorem dX11_reads_96 : decode cX11_reads 96 = .ok (.goto 8, 3) := by decide +kernel
theorem dX11_reads_99 : decode cX11_reads 99 = .ok (.aload_n 0, 1) := by decide +kernel
theorem dX11_reads_100 : decode cX11_reads 100 = .ok (.iload_n 2, 1) := by decide +kernel
theorem dX11_reads_101 : decode cX11_reads 101 = .ok (.invokevirtual 153, 3) := by decide +kernel
theorem dX11_reads_104 : decode cX11_reads 104 = .ok (.istore_n 3, 1) := by decide +kernel
theorem dX11_reads_105 : decode cX11_reads 105 = .ok (.iload_n 1, 1) := by decide +kernel
theorem dX11_reads_106 : decode cX11_reads 106 = .ok (.iconst 3, 1) := by decide +kernel
theorem dX11_reads_107 : decode cX11_reads 107 = .ok (.if_icmp .ne 12, 3) := by decide +kernel
theorem dX11_reads_110 : decode cX11_reads 110 = .ok (.aload_n 0, 1) := by decide +kernel
theorem dX11_reads_111 : decode cX11_reads 111 = .ok (.bipush 44, 2) := by decide +kernel
theorem dX11_reads_113 : decode cX11_reads 113 = .ok (.invokevirtual 153, 3) := by decide +kernel
theorem dX11_reads_116 : decode cX11_reads 116 = .ok (.goto 4, 3) := by decide +kernel
theorem dX11_reads_119 : decode cX11_reads 119 = .ok (.iconst 0, 1) := by decide +kernel
theorem dX11_reads_120 : decode cX11_reads 120 = .ok (.istore 4, 2) := by decide +kernel
theorem dX11_reads_122 : decode cX11_reads 122 = .ok (.aload_n 0, 1) := by decide +kernel
theorem dX11_reads_123 : decode cX11_reads 123 = .ok (.iload_n 1, 1) := by decide +kernel
theorem dX11_reads_124 : decode cX11_reads 124 = .ok (.iconst 2, 1) := by decide +kernel
theorem dX11_reads_125 : decode cX11_reads 125 = .ok (.if_icmp .ne 7, 3) := by decide +kernel
theorem dX11_reads_128 : decode cX11_reads 128 = .ok (.iload_n 2, 1) := by decide +kernel
theorem dX11_reads_129 : decode cX11_reads 129 = .ok (.goto 5, 3) := by decide +kernel
theorem dX11_reads_132 : decode cX11_reads 132 = .ok (.bipush 44, 2) := by decide +kernel
theorem dX11_reads_134 : decode cX11_reads 134 = .ok (.invokevirtual 153, 3) := by decide +kernel
theorem dX11_reads_137 : decode cX11_reads 137 = .ok (.istore 5, 2) := by decide +kernel
theorem dX11_reads_139 : decode cX11_reads 139 = .ok (.aload_n 0, 1) := by decide +kernel
theorem dX11_reads_140 : decode cX11_reads 140 = .ok (.bipush 44, 2) := by decide +kernel
theorem dX11_reads_142 : decode cX11_reads 142 = .ok (.invokevirtual 153, 3) := by decide +kernel
theorem dX11_reads_145 : decode cX11_reads 145 = .ok (.istore 6, 2) := by decide +kernel
theorem dX11_reads_147 : decode cX11_reads 147 = .ok (.iload_n 3, 1) := by decide +kernel
theorem dX11_reads_148 : decode cX11_reads 148 = .ok (.i2l, 1) := by decide +kernel
theorem dX11_reads_149 : decode cX11_reads 149 = .ok (.lconst 0, 1) := by decide +kernel
theorem dX11_reads_150 : decode cX11_reads 150 = .ok (.ldc2_w 157, 3) := by decide +kernel
theorem dX11_reads_153 : decode cX11_reads 153 = .ok (.invokestatic 103, 3) := by decide +kernel
theorem dX11_reads_156 : decode cX11_reads 156 = .ok (.ifCond .eq 50, 3) := by decide +kernel
theorem dX11_reads_159 : decode cX11_reads 159 = .ok (.iload 4, 2) := by decide +kernel
theorem dX11_reads_161 : decode cX11_reads 161 = .ok (.i2l, 1) := by decide +kernel
theorem dX11_reads_162 : decode cX11_reads 162 = .ok (.lconst 0, 1) := by decide +kernel
theorem dX11_reads_163 : decode cX11_reads 163 = .ok (.ldc2_w 117, 3) := by decide +kernel
theorem dX11_reads_166 : decode cX11_reads 166 = .ok (.invokestatic 103, 3) := by decide +kernel
theorem dX11_reads_169 : decode cX11_reads 169 = .ok (.ifCond .eq 37, 3) := by decide +kernel
theorem dX11_reads_172 : decode cX11_reads 172 = .ok (.iload 6, 2) := by decide +kernel
theorem dX11_reads_174 : decode cX11_reads 174 = .ok (.ifCond .lt 32, 3) := by decide +kernel
theorem dX11_reads_177 : decode cX11_reads 177 = .ok (.aload_n 0, 1) := by decide +kernel
theorem dX11_reads_178 : decode cX11_reads 178 = .ok (.getfield 142, 3) := by decide +kernel
theorem dX11_reads_181 : decode cX11_reads 181 = .ok (.aload_n 0, 1) := by decide +kernel
theorem dX11_reads_182 : decode cX11_reads 182 = .ok (.getfield 139, 3) := by decide +kernel
theorem dX11_reads_185 : decode cX11_reads 185 = .ok (.if_icmp .ge 21, 3) := by decide +kernel
theorem dX11_reads_188 : decode cX11_reads 188 = .ok (.aload_n 0, 1) := by decide +kernel
theorem dX11_reads_189 : decode cX11_reads 189 = .ok (.getfield 19, 3) := by decide +kernel
theorem dX11_reads_192 : decode cX11_reads 192 = .ok (.aload_n 0, 1) := by decide +kernel
theorem dX11_reads_193 : decode cX11_reads 193 = .ok (.getfield 142, 3) := by decide +kernel
theorem dX11_reads_196 : decode cX11_reads 196 = .ok (.baload, 1) := by decide +kernel
theorem dX11_reads_197 : decode cX11_reads 197 = .ok (.bipush 59, 2) := by decide +kernel
theorem dX11_reads_199 : decode cX11_reads 199 = .ok (.if_icmp .ne 7, 3) := by decide +kernel
theorem dX11_reads_202 : decode cX11_reads 202 = .ok (.iconst 1, 1) := by decide +kernel
theorem dX11_reads_203 : decode cX11_reads 203 = .ok (.goto 4, 3) := by decide +kernel
theorem dX11_reads_206 : decode cX11_reads 206 = .ok (.iconst 0, 1) := by decide +kernel
theorem dX11_reads_207 : decode cX11_reads 207 = .ok (.istore 7, 2) := by decide +kernel
theorem dX11_reads_209 : decode cX11_reads 209 = .ok (.iload 7, 2) := by decide +kernel
theorem dX11_reads_211 : decode cX11_reads 211 = .ok (.ifCond .eq 82, 3) := by decide +kernel
theorem dX11_reads_214 : decode cX11_reads 214 = .ok (.iload_n 1, 1) := by decide +kernel
theorem dX11_reads_215 : decode cX11_reads 215 = .ok (.ifCond .ne 19, 3) := by decide +kernel
theorem dX11_reads_218 : decode cX11_reads 218 = .ok (.iload 5, 2) := by decide +kernel
theorem dX11_reads_220 : decode cX11_reads 220 = .ok (.i2l, 1) := by decide +kernel
theorem dX11_reads_221 : decode cX11_reads 221 = .ok (.lconst 1, 1) := by decide +kernel
theorem dX11_reads_222 : decode cX11_reads 222 = .ok (.ldc2_w 157, 3) := by decide +kernel
theorem dX11_reads_225 : decode cX11_reads 225 = .ok (.invokestatic 103, 3) := by decide +kernel
theorem dX11_reads_228 : decode cX11_reads 228 = .ok (.ifCond .eq 65, 3) := by decide +kernel
theorem dX11_reads_231 : decode cX11_reads 231 = .ok (.goto 58, 3) := by decide +kernel
theorem dX11_reads_234 : decode cX11_reads 234 = .ok (.iload_n 1, 1) := by decide +kernel
theorem dX11_reads_235 : decode cX11_reads 235 = .ok (.iconst 1, 1) := by decide +kernel
theorem dX11_reads_236 : decode cX11_reads 236 = .ok (.if_icmp .ne 19, 3) := by decide +kernel
theorem dX11_reads_239 : decode cX11_reads 239 = .ok (.iload 5, 2) := by decide +kernel
theorem dX11_reads_241 : decode cX11_reads 241 = .ok (.i2l, 1) := by decide +kernel
theorem dX11_reads_242 : decode cX11_reads 242 = .ok (.lconst 0, 1) := by decide +kernel
theorem dX11_reads_243 : decode cX11_reads 243 = .ok (.ldc2_w 159, 3) := by decide +kernel
theorem dX11_reads_246 : decode cX11_reads 246 = .ok (.invokestatic 103, 3) := by decide +kernel
theorem dX11_reads_249 : decode cX11_reads 249 = .ok (.ifCond .eq 44, 3) := by decide +kernel
theorem dX11_reads_252 : decode cX11_reads 252 = .ok (.goto 37, 3) := by decide +kernel
theorem dX11_reads_255 : decode cX11_reads 255 = .ok (.iload_n 1, 1) := by decide +kernel
theorem dX11_reads_256 : decode cX11_reads 256 = .ok (.iconst 2, 1) := by decide +kernel
theorem dX11_reads_257 : decode cX11_reads 257 = .ok (.if_icmp .ne 21, 3) := by decide +kernel
theorem dX11_reads_260 : decode cX11_reads 260 = .ok (.iload 5, 2) := by decide +kernel
theorem dX11_reads_262 : decode cX11_reads 262 = .ok (.i2l, 1) := by decide +kernel
theorem dX11_reads_263 : decode cX11_reads 263 = .ok (.ldc2_w 115, 3) := by decide +kernel
theorem dX11_reads_266 : decode cX11_reads 266 = .ok (.ldc2_w 157, 3) := by decide +kernel
theorem dX11_reads_269 : decode cX11_reads 269 = .ok (.invokestatic 103, 3) := by decide +kernel
theorem dX11_reads_272 : decode cX11_reads 272 = .ok (.ifCond .eq 21, 3) := by decide +kernel
theorem dX11_reads_275 : decode cX11_reads 275 = .ok (.goto 14, 3) := by decide +kernel
theorem dX11_reads_278 : decode cX11_reads 278 = .ok (.iload 5, 2) := by decide +kernel
theorem dX11_reads_280 : decode cX11_reads 280 = .ok (.i2l, 1) := by decide +kernel
theorem dX11_reads_281 : decode cX11_reads 281 = .ok (.lconst 0, 1) := by decide +kernel
theorem dX11_reads_282 : decode cX11_reads 282 = .ok (.lconst 1, 1) := by decide +kernel
theorem dX11_reads_283 : decode cX11_reads 283 = .ok (.invokestatic 103, 3) := by decide +kernel
theorem dX11_reads_286 : decode cX11_reads 286 = .ok (.ifCond .eq 7, 3) := by decide +kernel
theorem dX11_reads_289 : decode cX11_reads 289 = .ok (.iconst 1, 1) := by decide +kernel
theorem dX11_reads_290 : decode cX11_reads 290 = .ok (.goto 4, 3) := by decide +kernel
theorem dX11_reads_293 : decode cX11_reads 293 = .ok (.iconst 0, 1) := by decide +kernel
theorem dX11_reads_294 : decode cX11_reads 294 = .ok (.istore 7, 2) := by decide +kernel
theorem dX11_reads_296 : decode cX11_reads 296 = .ok (.iload 7, 2) := by decide +kernel
theorem dX11_reads_298 : decode cX11_reads 298 = .ok (.ifCond .ne 5, 3) := by decide +kernel
theorem dX11_reads_301 : decode cX11_reads 301 = .ok (.iconst 0, 1) := by decide +kernel
theorem dX11_reads_302 : decode cX11_reads 302 = .ok (.ireturn, 1) := by decide +kernel
theorem dX11_reads_303 : decode cX11_reads 303 = .ok (.aload_n 0, 1) := by decide +kernel
theorem dX11_reads_304 : decode cX11_reads 304 = .ok (.dup, 1) := by decide +kernel
theorem dX11_reads_305 : decode cX11_reads 305 = .ok (.getfield 142, 3) := by decide +kernel
theorem dX11_reads_308 : decode cX11_reads 308 = .ok (.iconst 1, 1) := by decide +kernel
theorem dX11_reads_309 : decode cX11_reads 309 = .ok (.iadd, 1) := by decide +kernel
theorem dX11_reads_310 : decode cX11_reads 310 = .ok (.putfield 142, 3) := by decide +kernel
theorem dX11_reads_313 : decode cX11_reads 313 = .ok (.aload_n 0, 1) := by decide +kernel
theorem dX11_reads_314 : decode cX11_reads 314 = .ok (.getfield 38, 3) := by decide +kernel
theorem dX11_reads_317 : decode cX11_reads 317 = .ok (.aload_n 0, 1) := by decide +kernel
theorem dX11_reads_318 : decode cX11_reads 318 = .ok (.getfield 161, 3) := by decide +kernel
theorem dX11_reads_321 : decode cX11_reads 321 = .ok (.iload_n 1, 1) := by decide +kernel
theorem dX11_reads_322 : decode cX11_reads 322 = .ok (.iastore, 1) := by decide +kernel
theorem dX11_reads_323 : decode cX11_reads 323 = .ok (.aload_n 0, 1) := by decide +kernel
theorem dX11_reads_324 : decode cX11_reads 324 = .ok (.getfield 41, 3) := by decide +kernel
theorem dX11_reads_327 : decode cX11_reads 327 = .ok (.aload_n 0, 1) := by decide +kernel
theorem dX11_reads_328 : decode cX11_reads 328 = .ok (.getfield 161, 3) := by decide +kernel
theorem dX11_reads_331 : decode cX11_reads 331 = .ok (.iload_n 3, 1) := by decide +kernel
theorem dX11_reads_332 : decode cX11_reads 332 = .ok (.iastore, 1) := by decide +kernel
theorem dX11_reads_333 : decode cX11_reads 333 = .ok (.aload_n 0, 1) := by decide +kernel
theorem dX11_reads_334 : decode cX11_reads 334 = .ok (.getfield 44, 3) := by decide +kernel
theorem dX11_reads_337 : decode cX11_reads 337 = .ok (.aload_n 0, 1) := by decide +kernel
theorem dX11_reads_338 : decode cX11_reads 338 = .ok (.getfield 161, 3) := by decide +kernel
theorem dX11_reads_341 : decode cX11_reads 341 = .ok (.iload 4, 2) := by decide +kernel
theorem dX11_reads_343 : decode cX11_reads 343 = .ok (.iastore, 1) := by decide +kernel
theorem dX11_reads_344 : decode cX11_reads 344 = .ok (.aload_n 0, 1) := by decide +kernel
theorem dX11_reads_345 : decode cX11_reads 345 = .ok (.getfield 47, 3) := by decide +kernel
theorem dX11_reads_348 : decode cX11_reads 348 = .ok (.aload_n 0, 1) := by decide +kernel
theorem dX11_reads_349 : decode cX11_reads 349 = .ok (.getfield 161, 3) := by decide +kernel
theorem dX11_reads_352 : decode cX11_reads 352 = .ok (.iload 5, 2) := by decide +kernel
theorem dX11_reads_354 : decode cX11_reads 354 = .ok (.iastore, 1) := by decide +kernel
theorem dX11_reads_355 : decode cX11_reads 355 = .ok (.aload_n 0, 1) := by decide +kernel
theorem dX11_reads_356 : decode cX11_reads 356 = .ok (.getfield 50, 3) := by decide +kernel
theorem dX11_reads_359 : decode cX11_reads 359 = .ok (.aload_n 0, 1) := by decide +kernel
theorem dX11_reads_360 : decode cX11_reads 360 = .ok (.getfield 161, 3) := by decide +kernel
theorem dX11_reads_363 : decode cX11_reads 363 = .ok (.iload 6, 2) := by decide +kernel
theorem dX11_reads_365 : decode cX11_reads 365 = .ok (.iastore, 1) := by decide +kernel
theorem dX11_reads_366 : decode cX11_reads 366 = .ok (.aload_n 0, 1) := by decide +kernel
theorem dX11_reads_367 : decode cX11_reads 367 = .ok (.dup, 1) := by decide +kernel
theorem dX11_reads_368 : decode cX11_reads 368 = .ok (.getfield 161, 3) := by decide +kernel
theorem dX11_reads_371 : decode cX11_reads 371 = .ok (.iconst 1, 1) := by decide +kernel
theorem dX11_reads_372 : decode cX11_reads 372 = .ok (.iadd, 1) := by decide +kernel
theorem dX11_reads_373 : decode cX11_reads 373 = .ok (.putfield 161, 3) := by decide +kernel
theorem dX11_reads_376 : decode cX11_reads 376 = .ok (.iconst 1, 1) := by decide +kernel
theorem dX11_reads_377 : decode cX11_reads 377 = .ok (.ireturn, 1) := by decide +kernel
set_option maxRecDepth 20000 in
theorem ggX11_fault_X11_reads : GoodIn wsX11_fault wsX11_reads := goodIn_r _ [8, 9, 1, 10, 11, 3, 12, 13, 14, 2, 15, 16, 17, 18, 19, 20, 21, 7, 22, 23, 24, 25, 26, 27, 28, 29, 30, 31, 32, 33, 34, 35, 36, 37, 38, 39, 40, 41, 42, 43, 44, 45, 46, 47, 48, 49, 50, 51, 52, 53, 54, 55, 56, 57, 58, 59, 60, 61, 62, 63, 64, 65, 66] (by decide +kernel) (by decide +kernel)
set_option maxRecDepth 20000 in
theorem gX11_fault_X11_reads : GoodIn wsX11_fault (wsV RX11 164 RX11 yX11_reads wsX11_reads) := goodIn_app (goodIn_of _ (by decide +kernel)) ggX11_fault_X11_reads
theorem dX11_fault_0 : decode cX11_fault 0 = .ok (.aload_n 0, 1) := by decide +kernel
theorem dX11_fault_1 : decode cX11_fault 1 = .ok (.iconst 0, 1) := by decide +kernel
theorem dX11_fault_2 : decode cX11_fault 2 = .ok (.putfield 142, 3) := by decide +kernel
theorem dX11_fault_5 : decode cX11_fault 5 = .ok (.aload_n 0, 1) := by decide +kernel
theorem dX11_fault_6 : decode cX11_fault 6 = .ok (.iconst 0, 1) := by decide +kernel
theorem dX11_fault_7 : decode cX11_fault 7 = .ok (.putfield 161, 3) := by decide +kernel
theorem dX11_fault_10 : decode cX11_fault 10 = .ok (.aload_n 0, 1) := by decide +kernel
theorem dX11_fault_11 : decode cX11_fault 11 = .ok (.getfield 142, 3) := by decide +kernel
theorem dX11_fault_14 : decode cX11_fault 14 = .ok (.aload_n 0, 1) := by decide +kernel
theorem dX11_fault_15 : decode cX11_fault 15 = .ok (.getfield 139, 3) := by decide +kernel
theorem dX11_fault_18 : decode cX11_fault 18 = .ok (.if_icmp .ge 20, 3) := by decide +kernel
theorem dX11_fault_21 : decode cX11_fault 21 = .ok (.aload_n 0, 1) := by decide +kernel
theorem dX11_fault_22 : decode cX11_fault 22 = .ok (.getfield 142, 3) := by decide +kernel
theorem dX11_fault_25 : decode cX11_fault 25 = .ok (.istore_n 1, 1) := by decide +kernel
theorem dX11_fault_26 : decode cX11_fault 26 = .ok (.aload_n 0, 1) := by decide +kernel
theorem dX11_fault_27 : decode cX11_fault 27 = .ok (.invokevirtual 164, 3) := by decide +kernel
theorem dX11_fault_30 : decode cX11_fault 30 = .ok (.ifCond .ne 5, 3) := by decide +kernel
theorem dX11_fault_33 : decode cX11_fault 33 = .ok (.iload_n 1, 1) := by decide +kernel
theorem dX11_fault_34 : decode cX11_fault 34 = .ok (.ireturn, 1) := by decide +kernel
theorem dX11_fault_35 : decode cX11_fault 35 = .ok (.goto (-25), 3) := by decide +kernel
theorem dX11_fault_38 : decode cX11_fault 38 = .ok (.bipush (-4), 2) := by decide +kernel
theorem dX11_fault_40 : decode cX11_fault 40 = .ok (.ireturn, 1) := by decide +kernel
set_option maxRecDepth 20000 in
theorem ggX11_force_X11_fault : GoodIn wsX11_force wsX11_fault := goodIn_r _ [17, 18, 1, 19, 20, 21, 22, 16, 23, 24, 25, 26, 27, 28, 4, 6, 8, 10, 12, 29, 30, 31, 32, 33, 34, 35, 36, 37, 38, 39, 40, 41, 42, 43, 44, 45, 46, 47, 48, 49, 50, 51, 52, 53, 54, 55, 56, 57, 58, 59, 60, 61, 62, 63, 64, 65, 66, 67, 68, 69, 70, 71, 72, 73, 74, 75, 76] (by decide +kernel) (by decide +kernel)
set_option maxRecDepth 20000 in
theorem gX11_force_X11_fault : GoodIn wsX11_force (wsV RX11 168 RX11 yX11_fault wsX11_fault) := goodIn_app (goodIn_of _ (by decide +kernel)) ggX11_force_X11_fault
theorem dX11_force_0 : decode cX11_force 0 = .ok (.aload_n 0, 1) := by decide +kernel
theorem dX11_force_1 : decode cX11_force 1 = .ok (.invokevirtual 168, 3) := by decide +kernel
theorem dX11_force_4 : decode cX11_force 4 = .ok (.bipush (-4), 2) := by decide +kernel
theorem dX11_force_6 : decode cX11_force 6 = .ok (.if_icmp .eq 6, 3) := by decide +kernel
theorem dX11_force_9 : decode cX11_force 9 = .ok (.bipush (-2), 2) := by decide +kernel
theorem dX11_force_11 : decode cX11_force 11 = .ok (.ireturn, 1) := by decide +kernel
theorem dX11_force_12 : decode cX11_force 12 = .ok (.aload_n 0, 1) := by decide +kernel
theorem dX11_force_13 : decode cX11_force 13 = .ok (.aload_n 0, 1) := by decide +kernel
theorem dX11_force_14 : decode cX11_force 14 = .ok (.getfield 161, 3) := by decide +kernel
theorem dX11_force_17 : decode cX11_force 17 = .ok (.putfield 171, 3) := by decide +kernel
theorem dX11_force_20 : decode cX11_force 20 = .ok (.iconst 0, 1) := by decide +kernel
theorem dX11_force_21 : decode cX11_force 21 = .ok (.istore_n 1, 1) := by decide +kernel
theorem dX11_force_22 : decode cX11_force 22 = .ok (.iload_n 1, 1) := by decide +kernel
theorem dX11_force_23 : decode cX11_force 23 = .ok (.aload_n 0, 1) := by decide +kernel
theorem dX11_force_24 : decode cX11_force 24 = .ok (.getfield 171, 3) := by decide +kernel
theorem dX11_force_27 : decode cX11_force 27 = .ok (.if_icmp .ge 69, 3) := by decide +kernel
theorem dX11_force_30 : decode cX11_force 30 = .ok (.aload_n 0, 1) := by decide +kernel
theorem dX11_force_31 : decode cX11_force 31 = .ok (.getfield 23, 3) := by decide +kernel
theorem dX11_force_34 : decode cX11_force 34 = .ok (.iload_n 1, 1) := by decide +kernel
theorem dX11_force_35 : decode cX11_force 35 = .ok (.aload_n 0, 1) := by decide +kernel
theorem dX11_force_36 : decode cX11_force 36 = .ok (.getfield 38, 3) := by decide +kernel
theorem dX11_force_39 : decode cX11_force 39 = .ok (.iload_n 1, 1) := by decide +kernel
theorem dX11_force_40 : decode cX11_force 40 = .ok (.iaload, 1) := by decide +kernel
theorem dX11_force_41 : decode cX11_force 41 = .ok (.iastore, 1) := by decide +kernel
theorem dX11_force_42 : decode cX11_force 42 = .ok (.aload_n 0, 1) := by decide +kernel
theorem dX11_force_43 : decode cX11_force 43 = .ok (.getfield 26, 3) := by decide +kernel
theorem dX11_force_46 : decode cX11_force 46 = .ok (.iload_n 1, 1) := by decide +kernel
theorem dX11_force_47 : decode cX11_force 47 = .ok (.aload_n 0, 1) := by decide +kernel
theorem dX11_force_48 : decode cX11_force 48 = .ok (.getfield 41, 3) := by decide +kernel
theorem dX11_force_51 : decode cX11_force 51 = .ok (.iload_n 1, 1) := by decide +kernel
theorem dX11_force_52 : decode cX11_force 52 = .ok (.iaload, 1) := by decide +kernel
theorem dX11_force_53 : decode cX11_force 53 = .ok (.iastore, 1) := by decide +kernel
theorem dX11_force_54 : decode cX11_force 54 = .ok (.aload_n 0, 1) := by decide +kernel
theorem dX11_force_55 : decode cX11_force 55 = .ok (.getfield 29, 3) := by decide +kernel
theorem dX11_force_58 : decode cX11_force 58 = .ok (.iload_n 1, 1) := by decide +kernel
theorem dX11_force_59 : decode cX11_force 59 = .ok (.aload_n 0, 1) := by decide +kernel
theorem dX11_force_60 : decode cX11_force 60 = .ok (.getfield 44, 3) := by decide +kernel
theorem dX11_force_63 : decode cX11_force 63 = .ok (.iload_n 1, 1) := by decide +kernel
theorem dX11_force_64 : decode cX11_force 64 = .ok (.iaload, 1) := by decide +kernel
theorem dX11_force_65 : decode cX11_force 65 = .ok (.iastore, 1) := by decide +kernel
theorem dX11_force_66 : decode cX11_force 66 = .ok (.aload_n 0, 1) := by decide +kernel
theorem dX11_force_67 : decode cX11_force 67 = .ok (.getfield 32, 3) := by decide +kernel
theorem dX11_force_70 : decode cX11_force 70 = .ok (.iload_n 1, 1) := by decide +kernel
theorem dX11_force_71 : decode cX11_force 71 = .ok (.aload_n 0, 1) := by decide +kernel
theorem dX11_force_72 : decode cX11_force 72 = .ok (.getfield 47, 3) := by decide +kernel
theorem dX11_force_75 : decode cX11_force 75 = .ok (.iload_n 1, 1) := by decide +kernel
theorem dX11_force_76 : decode cX11_force 76 = .ok (.iaload, 1) := by decide +kernel
theorem dX11_force_77 : decode cX11_force 77 = .ok (.iastore, 1) := by decide +kernel
theorem dX11_force_78 : decode cX11_force 78 = .ok (.aload_n 0, 1) := by decide +kernel
theorem dX11_force_79 : decode cX11_force 79 = .ok (.getfield 35, 3) := by decide +kernel
theorem dX11_force_82 : decode cX11_force 82 = .ok (.iload_n 1, 1) := by decide +kernel
theorem dX11_force_83 : decode cX11_force 83 = .ok (.aload_n 0, 1) := by decide +kernel
theorem dX11_force_84 : decode cX11_force 84 = .ok (.getfield 50, 3) := by decide +kernel
theorem dX11_force_87 : decode cX11_force 87 = .ok (.iload_n 1, 1) := by decide +kernel
theorem dX11_force_88 : decode cX11_force 88 = .ok (.iaload, 1) := by decide +kernel
theorem dX11_force_89 : decode cX11_force 89 = .ok (.iastore, 1) := by decide +kernel
theorem dX11_force_90 : decode cX11_force 90 = .ok (.iinc 1 1, 3) := by decide +kernel
theorem dX11_force_93 : decode cX11_force 93 = .ok (.goto (-71), 3) := by decide +kernel
theorem dX11_force_96 : decode cX11_force 96 = .ok (.aload_n 0, 1) := by decide +kernel
theorem dX11_force_97 : decode cX11_force 97 = .ok (.getfield 171, 3) := by decide +kernel
theorem dX11_force_100 : decode cX11_force 100 = .ok (.ireturn, 1) := by decide +kernel
set_option maxRecDepth 20000 in
theorem ggX11_isHour_X11_in : GoodIn wsX11_isHour wsX11_in := goodIn_r _ [5] (by decide +kernel) (by decide +kernel)
set_option maxRecDepth 20000 in
theorem gX11_isHour_X11_in : GoodIn wsX11_isHour (va_wsS RX11 103 yX11_in wsX11_in) := goodIn_app (goodIn_of _ (by decide +kernel)) ggX11_isHour_X11_in
theorem dX11_isHour_0 : decode cX11_isHour 0 = .ok (.iload_n 0, 1) := by decide +kernel
theorem dX11_isHour_1 : decode cX11_isHour 1 = .ok (.i2l, 1) := by decide +kernel
theorem dX11_isHour_2 : decode cX11_isHour 2 = .ok (.lconst 0, 1) := by decide +kernel
theorem dX11_isHour_3 : decode cX11_isHour 3 = .ok (.ldc2_w 174, 3) := by decide +kernel
theorem dX11_isHour_6 : decode cX11_isHour 6 = .ok (.invokestatic 103, 3) := by decide +kernel
theorem dX11_isHour_9 : decode cX11_isHour 9 = .ok (.ireturn, 1) := by decide +kernel
theorem dX11_lineOf_0 : decode cX11_lineOf 0 = .ok (.bipush (-4), 2) := by decide +kernel
theorem dX11_lineOf_2 : decode cX11_lineOf 2 = .ok (.istore 4, 2) := by decide +kernel
theorem dX11_lineOf_4 : decode cX11_lineOf 4 = .ok (.iconst 0, 1) := by decide +kernel
theorem dX11_lineOf_5 : decode cX11_lineOf 5 = .ok (.istore 5, 2) := by decide +kernel
theorem dX11_lineOf_7 : decode cX11_lineOf 7 = .ok (.iload 5, 2) := by decide +kernel
theorem dX11_lineOf_9 : decode cX11_lineOf 9 = .ok (.aload_n 0, 1) := by decide +kernel
theorem dX11_lineOf_10 : decode cX11_lineOf 10 = .ok (.getfield 171, 3) := by decide +kernel
theorem dX11_lineOf_13 : decode cX11_lineOf 13 = .ok (.if_icmp .ge 143, 3) := by decide +kernel
theorem dX11_lineOf_16 : decode cX11_lineOf 16 = .ok (.aload_n 0, 1) := by decide +kernel
theorem dX11_lineOf_17 : decode cX11_lineOf 17 = .ok (.getfield 23, 3) := by decide +kernel
theorem dX11_lineOf_20 : decode cX11_lineOf 20 = .ok (.iload 5, 2) := by decide +kernel
theorem dX11_lineOf_22 : decode cX11_lineOf 22 = .ok (.iaload, 1) := by decide +kernel
theorem dX11_lineOf_23 : decode cX11_lineOf 23 = .ok (.iload_n 1, 1) := by decide +kernel
theorem dX11_lineOf_24 : decode cX11_lineOf 24 = .ok (.if_icmp .ne 126, 3) := by decide +kernel
theorem dX11_lineOf_27 : decode cX11_lineOf 27 = .ok (.aload_n 0, 1) := by decide +kernel
theorem dX11_lineOf_28 : decode cX11_lineOf 28 = .ok (.getfield 35, 3) := by decide +kernel
theorem dX11_lineOf_31 : decode cX11_lineOf 31 = .ok (.iload 5, 2) := by decide +kernel
theorem dX11_lineOf_33 : decode cX11_lineOf 33 = .ok (.iaload, 1) := by decide +kernel
theorem dX11_lineOf_34 : decode cX11_lineOf 34 = .ok (.iload_n 3, 1) := by decide +kernel
theorem dX11_lineOf_35 : decode cX11_lineOf 35 = .ok (.if_icmp .gt 115, 3) := by decide +kernel
theorem dX11_lineOf_38 : decode cX11_lineOf 38 = .ok (.iload_n 1, 1) := by decide +kernel
theorem dX11_lineOf_39 : decode cX11_lineOf 39 = .ok (.iconst 2, 1) := by decide +kernel
theorem dX11_lineOf_40 : decode cX11_lineOf 40 = .ok (.if_icmp .eq 28, 3) := by decide +kernel
theorem dX11_lineOf_43 : decode cX11_lineOf 43 = .ok (.aload_n 0, 1) := by decide +kernel
theorem dX11_lineOf_44 : decode cX11_lineOf 44 = .ok (.getfield 26, 3) := by decide +kernel
theorem dX11_lineOf_47 : decode cX11_lineOf 47 = .ok (.iload 5, 2) := by decide +kernel
theorem dX11_lineOf_49 : decode cX11_lineOf 49 = .ok (.iaload, 1) := by decide +kernel
theorem dX11_lineOf_50 : decode cX11_lineOf 50 = .ok (.iconst 5, 1) := by decide +kernel
theorem dX11_lineOf_51 : decode cX11_lineOf 51 = .ok (.if_icmp .eq 17, 3) := by decide +kernel
theorem dX11_lineOf_54 : decode cX11_lineOf 54 = .ok (.aload_n 0, 1) := by decide +kernel
theorem dX11_lineOf_55 : decode cX11_lineOf 55 = .ok (.getfield 26, 3) := by decide +kernel
theorem dX11_lineOf_58 : decode cX11_lineOf 58 = .ok (.iload 5, 2) := by decide +kernel
theorem dX11_lineOf_60 : decode cX11_lineOf 60 = .ok (.iaload, 1) := by decide +kernel
theorem dX11_lineOf_61 : decode cX11_lineOf 61 = .ok (.iload_n 2, 1) := by decide +kernel
theorem dX11_lineOf_62 : decode cX11_lineOf 62 = .ok (.if_icmp .eq 6, 3) := by decide +kernel
theorem dX11_lineOf_65 : decode cX11_lineOf 65 = .ok (.goto 85, 3) := by decide +kernel
theorem dX11_lineOf_68 : decode cX11_lineOf 68 = .ok (.iload_n 1, 1) := by decide +kernel
theorem dX11_lineOf_69 : decode cX11_lineOf 69 = .ok (.iconst 3, 1) := by decide +kernel
theorem dX11_lineOf_70 : decode cX11_lineOf 70 = .ok (.if_icmp .ne 63, 3) := by decide +kernel
theorem dX11_lineOf_73 : decode cX11_lineOf 73 = .ok (.iload 4, 2) := by decide +kernel
theorem dX11_lineOf_75 : decode cX11_lineOf 75 = .ok (.ifCond .lt 58, 3) := by decide +kernel
theorem dX11_lineOf_78 : decode cX11_lineOf 78 = .ok (.aload_n 0, 1) := by decide +kernel
theorem dX11_lineOf_79 : decode cX11_lineOf 79 = .ok (.getfield 29, 3) := by decide +kernel
theorem dX11_lineOf_82 : decode cX11_lineOf 82 = .ok (.iload 5, 2) := by decide +kernel
theorem dX11_lineOf_84 : decode cX11_lineOf 84 = .ok (.iaload, 1) := by decide +kernel
theorem dX11_lineOf_85 : decode cX11_lineOf 85 = .ok (.aload_n 0, 1) := by decide +kernel
theorem dX11_lineOf_86 : decode cX11_lineOf 86 = .ok (.getfield 29, 3) := by decide +kernel
theorem dX11_lineOf_89 : decode cX11_lineOf 89 = .ok (.iload 4, 2) := by decide +kernel
theorem dX11_lineOf_91 : decode cX11_lineOf 91 = .ok (.iaload, 1) := by decide +kernel
theorem dX11_lineOf_92 : decode cX11_lineOf 92 = .ok (.if_icmp .lt 37, 3) := by decide +kernel
theorem dX11_lineOf_95 : decode cX11_lineOf 95 = .ok (.aload_n 0, 1) := by decide +kernel
theorem dX11_lineOf_96 : decode cX11_lineOf 96 = .ok (.getfield 29, 3) := by decide +kernel
theorem dX11_lineOf_99 : decode cX11_lineOf 99 = .ok (.iload 5, 2) := by decide +kernel
theorem dX11_lineOf_101 : decode cX11_lineOf 101 = .ok (.iaload, 1) := by decide +kernel
theorem dX11_lineOf_102 : decode cX11_lineOf 102 = .ok (.aload_n 0, 1) := by decide +kernel
theorem dX11_lineOf_103 : decode cX11_lineOf 103 = .ok (.getfield 29, 3) := by decide +kernel
theorem dX11_lineOf_106 : decode cX11_lineOf 106 = .ok (.iload 4, 2) := by decide +kernel
theorem dX11_lineOf_108 : decode cX11_lineOf 108 = .ok (.iaload, 1) := by decide +kernel
theorem dX11_lineOf_109 : decode cX11_lineOf 109 = .ok (.if_icmp .ne 24, 3) := by decide +kernel
theorem dX11_lineOf_112 : decode cX11_lineOf 112 = .ok (.aload_n 0, 1) := by decide +kernel
theorem dX11_lineOf_113 : decode cX11_lineOf 113 = .ok (.getfield 35, 3) := by decide +kernel
theorem dX11_lineOf_116 : decode cX11_lineOf 116 = .ok (.iload 5, 2) := by decide +kernel
theorem dX11_lineOf_118 : decode cX11_lineOf 118 = .ok (.iaload, 1) := by decide +kernel
theorem dX11_lineOf_119 : decode cX11_lineOf 119 = .ok (.aload_n 0, 1) := by decide +kernel
theorem dX11_lineOf_120 : decode cX11_lineOf 120 = .ok (.getfield 35, 3) := by decide +kernel
theorem dX11_lineOf_123 : decode cX11_lineOf 123 = .ok (.iload 4, 2) := by decide +kernel
theorem dX11_lineOf_125 : decode cX11_lineOf 125 = .ok (.iaload, 1) := by decide +kernel
theorem dX11_lineOf_126 : decode cX11_lineOf 126 = .ok (.if_icmp .ge 7, 3) := by decide +kernel
theorem dX11_lineOf_129 : decode cX11_lineOf 129 = .ok (.iconst 1, 1) := by decide +kernel
theorem dX11_lineOf_130 : decode cX11_lineOf 130 = .ok (.goto 4, 3) := by decide +kernel
theorem dX11_lineOf_133 : decode cX11_lineOf 133 = .ok (.iconst 0, 1) := by decide +kernel
theorem dX11_lineOf_134 : decode cX11_lineOf 134 = .ok (.istore 6, 2) := by decide +kernel
theorem dX11_lineOf_136 : decode cX11_lineOf 136 = .ok (.iload 6, 2) := by decide +kernel
theorem dX11_lineOf_138 : decode cX11_lineOf 138 = .ok (.ifCond .eq 8, 3) := by decide +kernel
theorem dX11_lineOf_141 : decode cX11_lineOf 141 = .ok (.iload 4, 2) := by decide +kernel
theorem dX11_lineOf_143 : decode cX11_lineOf 143 = .ok (.goto 5, 3) := by decide +kernel
theorem dX11_lineOf_146 : decode cX11_lineOf 146 = .ok (.iload 5, 2) := by decide +kernel
theorem dX11_lineOf_148 : decode cX11_lineOf 148 = .ok (.istore 4, 2) := by decide +kernel
theorem dX11_lineOf_150 : decode cX11_lineOf 150 = .ok (.iinc 5 1, 3) := by decide +kernel
theorem dX11_lineOf_153 : decode cX11_lineOf 153 = .ok (.goto (-146), 3) := by decide +kernel
theorem dX11_lineOf_156 : decode cX11_lineOf 156 = .ok (.iload 4, 2) := by decide +kernel
theorem dX11_lineOf_158 : decode cX11_lineOf 158 = .ok (.ireturn, 1) := by decide +kernel
set_option maxRecDepth 20000 in
theorem ggX11_ruleOf_X11_lineOf : GoodIn wsX11_ruleOf wsX11_lineOf := goodIn_r _ [6, 7, 8, 9, 10, 11, 12, 13, 14, 15, 16, 17, 18, 19, 20, 21, 22, 23, 24, 25, 26, 27, 28, 29, 30, 31, 32, 33, 34, 35, 36, 37, 38, 39, 40, 41, 42, 43, 44, 45, 46] (by decide +kernel) (by decide +kernel)
set_option maxRecDepth 20000 in
theorem gX11_ruleOf_X11_lineOf : GoodIn wsX11_ruleOf (wsV RX11 176 RX11 yX11_lineOf wsX11_lineOf) := goodIn_app (goodIn_of _ (by decide +kernel)) ggX11_ruleOf_X11_lineOf
theorem dX11_ruleOf_0 : decode cX11_ruleOf 0 = .ok (.aload_n 0, 1) := by decide +kernel
theorem dX11_ruleOf_1 : decode cX11_ruleOf 1 = .ok (.iload_n 1, 1) := by decide +kernel
theorem dX11_ruleOf_2 : decode cX11_ruleOf 2 = .ok (.iload_n 2, 1) := by decide +kernel
theorem dX11_ruleOf_3 : decode cX11_ruleOf 3 = .ok (.iload_n 3, 1) := by decide +kernel
theorem dX11_ruleOf_4 : decode cX11_ruleOf 4 = .ok (.invokevirtual 176, 3) := by decide +kernel
theorem dX11_ruleOf_7 : decode cX11_ruleOf 7 = .ok (.istore 4, 2) := by decide +kernel
theorem dX11_ruleOf_9 : decode cX11_ruleOf 9 = .ok (.iload 4, 2) := by decide +kernel
theorem dX11_ruleOf_11 : decode cX11_ruleOf 11 = .ok (.ifCond .lt 13, 3) := by decide +kernel
theorem dX11_ruleOf_14 : decode cX11_ruleOf 14 = .ok (.aload_n 0, 1) := by decide +kernel
theorem dX11_ruleOf_15 : decode cX11_ruleOf 15 = .ok (.getfield 32, 3) := by decide +kernel
theorem dX11_ruleOf_18 : decode cX11_ruleOf 18 = .ok (.iload 4, 2) := by decide +kernel
theorem dX11_ruleOf_20 : decode cX11_ruleOf 20 = .ok (.iaload, 1) := by decide +kernel
theorem dX11_ruleOf_21 : decode cX11_ruleOf 21 = .ok (.goto 30, 3) := by decide +kernel
theorem dX11_ruleOf_24 : decode cX11_ruleOf 24 = .ok (.iload_n 1, 1) := by decide +kernel
theorem dX11_ruleOf_25 : decode cX11_ruleOf 25 = .ok (.ifCond .ne 7, 3) := by decide +kernel
theorem dX11_ruleOf_28 : decode cX11_ruleOf 28 = .ok (.iconst 5, 1) := by decide +kernel
theorem dX11_ruleOf_29 : decode cX11_ruleOf 29 = .ok (.goto 22, 3) := by decide +kernel
theorem dX11_ruleOf_32 : decode cX11_ruleOf 32 = .ok (.iload_n 1, 1) := by decide +kernel
theorem dX11_ruleOf_33 : decode cX11_ruleOf 33 = .ok (.iconst 1, 1) := by decide +kernel
theorem dX11_ruleOf_34 : decode cX11_ruleOf 34 = .ok (.if_icmp .ne 7, 3) := by decide +kernel
theorem dX11_ruleOf_37 : decode cX11_ruleOf 37 = .ok (.iconst 0, 1) := by decide +kernel
theorem dX11_ruleOf_38 : decode cX11_ruleOf 38 = .ok (.goto 13, 3) := by decide +kernel
theorem dX11_ruleOf_41 : decode cX11_ruleOf 41 = .ok (.iload_n 1, 1) := by decide +kernel
theorem dX11_ruleOf_42 : decode cX11_ruleOf 42 = .ok (.iconst 2, 1) := by decide +kernel
theorem dX11_ruleOf_43 : decode cX11_ruleOf 43 = .ok (.if_icmp .ne 7, 3) := by decide +kernel
theorem dX11_ruleOf_46 : decode cX11_ruleOf 46 = .ok (.iconst 4, 1) := by decide +kernel
theorem dX11_ruleOf_47 : decode cX11_ruleOf 47 = .ok (.goto 4, 3) := by decide +kernel
theorem dX11_ruleOf_50 : decode cX11_ruleOf 50 = .ok (.iconst 1, 1) := by decide +kernel
theorem dX11_ruleOf_51 : decode cX11_ruleOf 51 = .ok (.ireturn, 1) := by decide +kernel
set_option maxRecDepth 20000 in
theorem ggX11_rule_X11_in : GoodIn wsX11_rule wsX11_in := goodIn_r _ [6] (by decide +kernel) (by decide +kernel)
set_option maxRecDepth 20000 in
theorem gX11_rule_X11_in : GoodIn wsX11_rule (va_wsS RX11 103 yX11_in wsX11_in) := goodIn_app (goodIn_of _ (by decide +kernel)) ggX11_rule_X11_in
set_option maxRecDepth 20000 in
theorem ggX11_rule_X11_isHour : GoodIn wsX11_rule wsX11_isHour := goodIn_r _ [9, 10, 3, 4, 5, 6] (by decide +kernel) (by decide +kernel)
set_option maxRecDepth 20000 in
theorem gX11_rule_X11_isHour : GoodIn wsX11_rule (va_wsS RX11 131 yX11_isHour wsX11_isHour) := goodIn_app (goodIn_of _ (by decide +kernel)) ggX11_rule_X11_isHour
set_option maxRecDepth 20000 in
theorem ggX11_rule_X11_ruleOf : GoodIn wsX11_rule wsX11_ruleOf := goodIn_r _ [14, 15, 16, 17, 18, 5, 19, 20, 21, 22, 23, 24, 25, 26, 27, 28, 29, 30, 31, 32, 33, 34, 35, 36, 37, 38, 39, 40, 41, 42, 43, 44, 45, 46, 47, 48, 49, 50, 51, 52, 53, 54, 55, 56, 57, 58, 59] (by decide +kernel) (by decide +kernel)
set_option maxRecDepth 20000 in
theorem gX11_rule_X11_ruleOf : GoodIn wsX11_rule (wsV RX11 123 RX11 yX11_ruleOf wsX11_ruleOf) := goodIn_app (goodIn_of _ (by decide +kernel)) ggX11_rule_X11_ruleOf
theorem dX11_rule_0 : decode cX11_rule 0 = .ok (.iload_n 1, 1) := by decide +kernel
theorem dX11_rule_1 : decode cX11_rule 1 = .ok (.i2l, 1) := by decide +kernel
theorem dX11_rule_2 : decode cX11_rule 2 = .ok (.lconst 0, 1) := by decide +kernel
theorem dX11_rule_3 : decode cX11_rule 3 = .ok (.ldc2_w 117, 3) := by decide +kernel
theorem dX11_rule_6 : decode cX11_rule 6 = .ok (.invokestatic 103, 3) := by decide +kernel
theorem dX11_rule_9 : decode cX11_rule 9 = .ok (.ifCond .eq 32, 3) := by decide +kernel
theorem dX11_rule_12 : decode cX11_rule 12 = .ok (.iload_n 2, 1) := by decide +kernel
theorem dX11_rule_13 : decode cX11_rule 13 = .ok (.i2l, 1) := by decide +kernel
theorem dX11_rule_14 : decode cX11_rule 14 = .ok (.lconst 0, 1) := by decide +kernel
theorem dX11_rule_15 : decode cX11_rule 15 = .ok (.ldc2_w 101, 3) := by decide +kernel
theorem dX11_rule_18 : decode cX11_rule 18 = .ok (.invokestatic 103, 3) := by decide +kernel
theorem dX11_rule_21 : decode cX11_rule 21 = .ok (.ifCond .eq 20, 3) := by decide +kernel
theorem dX11_rule_24 : decode cX11_rule 24 = .ok (.iload_n 3, 1) := by decide +kernel
theorem dX11_rule_25 : decode cX11_rule 25 = .ok (.invokestatic 131, 3) := by decide +kernel
theorem dX11_rule_28 : decode cX11_rule 28 = .ok (.ifCond .eq 13, 3) := by decide +kernel
theorem dX11_rule_31 : decode cX11_rule 31 = .ok (.aload_n 0, 1) := by decide +kernel
theorem dX11_rule_32 : decode cX11_rule 32 = .ok (.iload_n 1, 1) := by decide +kernel
theorem dX11_rule_33 : decode cX11_rule 33 = .ok (.iload_n 2, 1) := by decide +kernel
theorem dX11_rule_34 : decode cX11_rule 34 = .ok (.iload_n 3, 1) := by decide +kernel
theorem dX11_rule_35 : decode cX11_rule 35 = .ok (.invokevirtual 123, 3) := by decide +kernel
theorem dX11_rule_38 : decode cX11_rule 38 = .ok (.goto 4, 3) := by decide +kernel
theorem dX11_rule_41 : decode cX11_rule 41 = .ok (.iconst (-1), 1) := by decide +kernel
theorem dX11_rule_42 : decode cX11_rule 42 = .ok (.ireturn, 1) := by decide +kernel
set_option maxRecDepth 20000 in
theorem ggX11_why_X11_in : GoodIn wsX11_why wsX11_in := goodIn_r _ [6] (by decide +kernel) (by decide +kernel)
set_option maxRecDepth 20000 in
theorem gX11_why_X11_in : GoodIn wsX11_why (va_wsS RX11 103 yX11_in wsX11_in) := goodIn_app (goodIn_of _ (by decide +kernel)) ggX11_why_X11_in
set_option maxRecDepth 20000 in
theorem ggX11_why_X11_isHour : GoodIn wsX11_why wsX11_isHour := goodIn_r _ [9, 10, 3, 4, 5, 6] (by decide +kernel) (by decide +kernel)
set_option maxRecDepth 20000 in
theorem gX11_why_X11_isHour : GoodIn wsX11_why (va_wsS RX11 131 yX11_isHour wsX11_isHour) := goodIn_app (goodIn_of _ (by decide +kernel)) ggX11_why_X11_isHour
set_option maxRecDepth 20000 in
theorem ggX11_why_X11_lineOf : GoodIn wsX11_why wsX11_lineOf := goodIn_r _ [14, 15, 16, 17, 18, 19, 20, 21, 22, 23, 24, 25, 26, 27, 28, 29, 30, 31, 32, 33, 34, 35, 36, 37, 38, 39, 40, 41, 42, 43, 44, 45, 46, 47, 48, 49, 50, 51, 52, 53, 54] (by decide +kernel) (by decide +kernel)
set_option maxRecDepth 20000 in
theorem gX11_why_X11_lineOf : GoodIn wsX11_why (wsV RX11 176 RX11 yX11_lineOf wsX11_lineOf) := goodIn_app (goodIn_of _ (by decide +kernel)) ggX11_why_X11_lineOf
theorem dX11_why_0 : decode cX11_why 0 = .ok (.iload_n 1, 1) := by decide +kernel
theorem dX11_why_1 : decode cX11_why 1 = .ok (.i2l, 1) := by decide +kernel
theorem dX11_why_2 : decode cX11_why 2 = .ok (.lconst 0, 1) := by decide +kernel
theorem dX11_why_3 : decode cX11_why 3 = .ok (.ldc2_w 117, 3) := by decide +kernel
theorem dX11_why_6 : decode cX11_why 6 = .ok (.invokestatic 103, 3) := by decide +kernel
theorem dX11_why_9 : decode cX11_why 9 = .ok (.ifCond .eq 32, 3) := by decide +kernel
theorem dX11_why_12 : decode cX11_why 12 = .ok (.iload_n 2, 1) := by decide +kernel
theorem dX11_why_13 : decode cX11_why 13 = .ok (.i2l, 1) := by decide +kernel
theorem dX11_why_14 : decode cX11_why 14 = .ok (.lconst 0, 1) := by decide +kernel
theorem dX11_why_15 : decode cX11_why 15 = .ok (.ldc2_w 101, 3) := by decide +kernel
theorem dX11_why_18 : decode cX11_why 18 = .ok (.invokestatic 103, 3) := by decide +kernel
theorem dX11_why_21 : decode cX11_why 21 = .ok (.ifCond .eq 20, 3) := by decide +kernel
theorem dX11_why_24 : decode cX11_why 24 = .ok (.iload_n 3, 1) := by decide +kernel
theorem dX11_why_25 : decode cX11_why 25 = .ok (.invokestatic 131, 3) := by decide +kernel
theorem dX11_why_28 : decode cX11_why 28 = .ok (.ifCond .eq 13, 3) := by decide +kernel
theorem dX11_why_31 : decode cX11_why 31 = .ok (.aload_n 0, 1) := by decide +kernel
theorem dX11_why_32 : decode cX11_why 32 = .ok (.iload_n 1, 1) := by decide +kernel
theorem dX11_why_33 : decode cX11_why 33 = .ok (.iload_n 2, 1) := by decide +kernel
theorem dX11_why_34 : decode cX11_why 34 = .ok (.iload_n 3, 1) := by decide +kernel
theorem dX11_why_35 : decode cX11_why 35 = .ok (.invokevirtual 176, 3) := by decide +kernel
theorem dX11_why_38 : decode cX11_why 38 = .ok (.goto 4, 3) := by decide +kernel
theorem dX11_why_41 : decode cX11_why 41 = .ok (.iconst (-1), 1) := by decide +kernel
theorem dX11_why_42 : decode cX11_why 42 = .ok (.ireturn, 1) := by decide +kernel
theorem dX11_clash_0 : decode cX11_clash 0 = .ok (.iconst 0, 1) := by decide +kernel
theorem dX11_clash_1 : decode cX11_clash 1 = .ok (.istore_n 1, 1) := by decide +kernel
theorem dX11_clash_2 : decode cX11_clash 2 = .ok (.iload_n 1, 1) := by decide +kernel
theorem dX11_clash_3 : decode cX11_clash 3 = .ok (.aload_n 0, 1) := by decide +kernel
theorem dX11_clash_4 : decode cX11_clash 4 = .ok (.getfield 171, 3) := by decide +kernel
theorem dX11_clash_7 : decode cX11_clash 7 = .ok (.if_icmp .ge 144, 3) := by decide +kernel
theorem dX11_clash_10 : decode cX11_clash 10 = .ok (.iload_n 1, 1) := by decide +kernel
theorem dX11_clash_11 : decode cX11_clash 11 = .ok (.iconst 1, 1) := by decide +kernel
theorem dX11_clash_12 : decode cX11_clash 12 = .ok (.iadd, 1) := by decide +kernel
theorem dX11_clash_13 : decode cX11_clash 13 = .ok (.istore_n 2, 1) := by decide +kernel
theorem dX11_clash_14 : decode cX11_clash 14 = .ok (.iload_n 2, 1) := by decide +kernel
theorem dX11_clash_15 : decode cX11_clash 15 = .ok (.aload_n 0, 1) := by decide +kernel
theorem dX11_clash_16 : decode cX11_clash 16 = .ok (.getfield 171, 3) := by decide +kernel
theorem dX11_clash_19 : decode cX11_clash 19 = .ok (.if_icmp .ge 126, 3) := by decide +kernel
theorem dX11_clash_22 : decode cX11_clash 22 = .ok (.aload_n 0, 1) := by decide +kernel
theorem dX11_clash_23 : decode cX11_clash 23 = .ok (.getfield 23, 3) := by decide +kernel
theorem dX11_clash_26 : decode cX11_clash 26 = .ok (.iload_n 1, 1) := by decide +kernel
theorem dX11_clash_27 : decode cX11_clash 27 = .ok (.iaload, 1) := by decide +kernel
theorem dX11_clash_28 : decode cX11_clash 28 = .ok (.iconst 3, 1) := by decide +kernel
theorem dX11_clash_29 : decode cX11_clash 29 = .ok (.if_icmp .ne 62, 3) := by decide +kernel
theorem dX11_clash_32 : decode cX11_clash 32 = .ok (.aload_n 0, 1) := by decide +kernel
theorem dX11_clash_33 : decode cX11_clash 33 = .ok (.getfield 23, 3) := by decide +kernel
theorem dX11_clash_36 : decode cX11_clash 36 = .ok (.iload_n 2, 1) := by decide +kernel
theorem dX11_clash_37 : decode cX11_clash 37 = .ok (.iaload, 1) := by decide +kernel
theorem dX11_clash_38 : decode cX11_clash 38 = .ok (.iconst 3, 1) := by decide +kernel
theorem dX11_clash_39 : decode cX11_clash 39 = .ok (.if_icmp .ne 52, 3) := by decide +kernel
theorem dX11_clash_42 : decode cX11_clash 42 = .ok (.aload_n 0, 1) := by decide +kernel
theorem dX11_clash_43 : decode cX11_clash 43 = .ok (.getfield 29, 3) := by decide +kernel
theorem dX11_clash_46 : decode cX11_clash 46 = .ok (.iload_n 1, 1) := by decide +kernel
theorem dX11_clash_47 : decode cX11_clash 47 = .ok (.iaload, 1) := by decide +kernel
theorem dX11_clash_48 : decode cX11_clash 48 = .ok (.aload_n 0, 1) := by decide +kernel
theorem dX11_clash_49 : decode cX11_clash 49 = .ok (.getfield 29, 3) := by decide +kernel
theorem dX11_clash_52 : decode cX11_clash 52 = .ok (.iload_n 2, 1) := by decide +kernel
theorem dX11_clash_53 : decode cX11_clash 53 = .ok (.iaload, 1) := by decide +kernel
theorem dX11_clash_54 : decode cX11_clash 54 = .ok (.if_icmp .ne 37, 3) := by decide +kernel
theorem dX11_clash_57 : decode cX11_clash 57 = .ok (.aload_n 0, 1) := by decide +kernel
theorem dX11_clash_58 : decode cX11_clash 58 = .ok (.getfield 35, 3) := by decide +kernel
theorem dX11_clash_61 : decode cX11_clash 61 = .ok (.iload_n 1, 1) := by decide +kernel
theorem dX11_clash_62 : decode cX11_clash 62 = .ok (.iaload, 1) := by decide +kernel
theorem dX11_clash_63 : decode cX11_clash 63 = .ok (.aload_n 0, 1) := by decide +kernel
theorem dX11_clash_64 : decode cX11_clash 64 = .ok (.getfield 35, 3) := by decide +kernel
theorem dX11_clash_67 : decode cX11_clash 67 = .ok (.iload_n 2, 1) := by decide +kernel
theorem dX11_clash_68 : decode cX11_clash 68 = .ok (.iaload, 1) := by decide +kernel
theorem dX11_clash_69 : decode cX11_clash 69 = .ok (.if_icmp .ne 22, 3) := by decide +kernel
theorem dX11_clash_72 : decode cX11_clash 72 = .ok (.aload_n 0, 1) := by decide +kernel
theorem dX11_clash_73 : decode cX11_clash 73 = .ok (.getfield 32, 3) := by decide +kernel
theorem dX11_clash_76 : decode cX11_clash 76 = .ok (.iload_n 1, 1) := by decide +kernel
theorem dX11_clash_77 : decode cX11_clash 77 = .ok (.iaload, 1) := by decide +kernel
theorem dX11_clash_78 : decode cX11_clash 78 = .ok (.aload_n 0, 1) := by decide +kernel
theorem dX11_clash_79 : decode cX11_clash 79 = .ok (.getfield 32, 3) := by decide +kernel
theorem dX11_clash_82 : decode cX11_clash 82 = .ok (.iload_n 2, 1) := by decide +kernel
theorem dX11_clash_83 : decode cX11_clash 83 = .ok (.iaload, 1) := by decide +kernel
theorem dX11_clash_84 : decode cX11_clash 84 = .ok (.if_icmp .eq 7, 3) := by decide +kernel
theorem dX11_clash_87 : decode cX11_clash 87 = .ok (.iconst 1, 1) := by decide +kernel
theorem dX11_clash_88 : decode cX11_clash 88 = .ok (.goto 4, 3) := by decide +kernel
theorem dX11_clash_91 : decode cX11_clash 91 = .ok (.iconst 0, 1) := by decide +kernel
theorem dX11_clash_92 : decode cX11_clash 92 = .ok (.istore_n 3, 1) := by decide +kernel
theorem dX11_clash_93 : decode cX11_clash 93 = .ok (.iload_n 3, 1) := by decide +kernel
theorem dX11_clash_94 : decode cX11_clash 94 = .ok (.ifCond .eq 45, 3) := by decide +kernel
theorem dX11_clash_97 : decode cX11_clash 97 = .ok (.aload_n 0, 1) := by decide +kernel
theorem dX11_clash_98 : decode cX11_clash 98 = .ok (.getfield 26, 3) := by decide +kernel
theorem dX11_clash_101 : decode cX11_clash 101 = .ok (.iload_n 1, 1) := by decide +kernel
theorem dX11_clash_102 : decode cX11_clash 102 = .ok (.iaload, 1) := by decide +kernel
theorem dX11_clash_103 : decode cX11_clash 103 = .ok (.aload_n 0, 1) := by decide +kernel
theorem dX11_clash_104 : decode cX11_clash 104 = .ok (.getfield 26, 3) := by decide +kernel
theorem dX11_clash_107 : decode cX11_clash 107 = .ok (.iload_n 2, 1) := by decide +kernel
theorem dX11_clash_108 : decode cX11_clash 108 = .ok (.iaload, 1) := by decide +kernel
theorem dX11_clash_109 : decode cX11_clash 109 = .ok (.if_icmp .eq 23, 3) := by decide +kernel
theorem dX11_clash_112 : decode cX11_clash 112 = .ok (.aload_n 0, 1) := by decide +kernel
theorem dX11_clash_113 : decode cX11_clash 113 = .ok (.getfield 26, 3) := by decide +kernel
theorem dX11_clash_116 : decode cX11_clash 116 = .ok (.iload_n 1, 1) := by decide +kernel
theorem dX11_clash_117 : decode cX11_clash 117 = .ok (.iaload, 1) := by decide +kernel
theorem dX11_clash_118 : decode cX11_clash 118 = .ok (.iconst 5, 1) := by decide +kernel
theorem dX11_clash_119 : decode cX11_clash 119 = .ok (.if_icmp .eq 13, 3) := by decide +kernel
theorem dX11_clash_122 : decode cX11_clash 122 = .ok (.aload_n 0, 1) := by decide +kernel
theorem dX11_clash_123 : decode cX11_clash 123 = .ok (.getfield 26, 3) := by decide +kernel
theorem dX11_clash_126 : decode cX11_clash 126 = .ok (.iload_n 2, 1) := by decide +kernel
theorem dX11_clash_127 : decode cX11_clash 127 = .ok (.iaload, 1) := by decide +kernel
theorem dX11_clash_128 : decode cX11_clash 128 = .ok (.iconst 5, 1) := by decide +kernel
theorem dX11_clash_129 : decode cX11_clash 129 = .ok (.if_icmp .ne 10, 3) := by decide +kernel
theorem dX11_clash_132 : decode cX11_clash 132 = .ok (.bipush 100, 2) := by decide +kernel
theorem dX11_clash_134 : decode cX11_clash 134 = .ok (.iload_n 1, 1) := by decide +kernel
theorem dX11_clash_135 : decode cX11_clash 135 = .ok (.imul, 1) := by decide +kernel
theorem dX11_clash_136 : decode cX11_clash 136 = .ok (.iload_n 2, 1) := by decide +kernel
theorem dX11_clash_137 : decode cX11_clash 137 = .ok (.iadd, 1) := by decide +kernel
theorem dX11_clash_138 : decode cX11_clash 138 = .ok (.ireturn, 1) := by decide +kernel
theorem dX11_clash_139 : decode cX11_clash 139 = .ok (.iinc 2 1, 3) := by decide +kernel
theorem dX11_clash_142 : decode cX11_clash 142 = .ok (.goto (-128), 3) := by decide +kernel
theorem dX11_clash_145 : decode cX11_clash 145 = .ok (.iinc 1 1, 3) := by decide +kernel
theorem dX11_clash_148 : decode cX11_clash 148 = .ok (.goto (-146), 3) := by decide +kernel
theorem dX11_clash_151 : decode cX11_clash 151 = .ok (.bipush (-4), 2) := by decide +kernel
theorem dX11_clash_153 : decode cX11_clash 153 = .ok (.ireturn, 1) := by decide +kernel
theorem dX11_isIn_0 : decode cX11_isIn 0 = .ok (.iload_n 2, 1) := by decide +kernel
theorem dX11_isIn_1 : decode cX11_isIn 1 = .ok (.iconst 5, 1) := by decide +kernel
theorem dX11_isIn_2 : decode cX11_isIn 2 = .ok (.if_icmp .eq 13, 3) := by decide +kernel
theorem dX11_isIn_5 : decode cX11_isIn 5 = .ok (.aload_n 0, 1) := by decide +kernel
theorem dX11_isIn_6 : decode cX11_isIn 6 = .ok (.getfield 13, 3) := by decide +kernel
theorem dX11_isIn_9 : decode cX11_isIn 9 = .ok (.iload_n 1, 1) := by decide +kernel
theorem dX11_isIn_10 : decode cX11_isIn 10 = .ok (.iaload, 1) := by decide +kernel
theorem dX11_isIn_11 : decode cX11_isIn 11 = .ok (.iload_n 2, 1) := by decide +kernel
theorem dX11_isIn_12 : decode cX11_isIn 12 = .ok (.if_icmp .ne 7, 3) := by decide +kernel
theorem dX11_isIn_15 : decode cX11_isIn 15 = .ok (.iconst 1, 1) := by decide +kernel
theorem dX11_isIn_16 : decode cX11_isIn 16 = .ok (.goto 4, 3) := by decide +kernel
theorem dX11_isIn_19 : decode cX11_isIn 19 = .ok (.iconst 0, 1) := by decide +kernel
theorem dX11_isIn_20 : decode cX11_isIn 20 = .ok (.ireturn, 1) := by decide +kernel
set_option maxRecDepth 20000 in
theorem ggX11_countedOf_X11_isIn : GoodIn wsX11_countedOf wsX11_isIn := goodIn_r _ [6, 7, 31, 32, 33, 34, 35, 36, 37, 38, 39, 40, 41, 42, 43, 44, 45, 46, 47, 48, 49, 50, 51, 52, 53, 54, 55, 56, 57, 58, 59, 60, 61, 62, 63, 64, 65] (by decide +kernel) (by decide +kernel)
set_option maxRecDepth 20000 in
theorem gX11_countedOf_X11_isIn : GoodIn wsX11_countedOf (wsV RX11 179 RX11 yX11_isIn wsX11_isIn) := goodIn_app (goodIn_of _ (by decide +kernel)) ggX11_countedOf_X11_isIn
set_option maxRecDepth 20000 in
theorem ggX11_countedOf_X11_voteOf : GoodIn wsX11_countedOf wsX11_voteOf := goodIn_r _ [11, 12, 7, 13, 14, 15, 5, 16, 17, 18, 19, 20, 21, 22, 23, 24, 25, 26, 27, 28, 29, 30, 31, 32, 33, 34, 35, 36, 37, 38, 39, 40, 41, 42, 43, 44, 45, 46, 47, 48, 49, 50, 51, 52, 53, 54, 55, 56, 57, 58, 59, 60, 61, 62, 63, 64, 65] (by decide +kernel) (by decide +kernel)
set_option maxRecDepth 20000 in
theorem gX11_countedOf_X11_voteOf : GoodIn wsX11_countedOf (wsV RX11 134 RX11 yX11_voteOf wsX11_voteOf) := goodIn_app (goodIn_of _ (by decide +kernel)) ggX11_countedOf_X11_voteOf
theorem dX11_countedOf_0 : decode cX11_countedOf 0 = .ok (.iconst 0, 1) := by decide +kernel
theorem dX11_countedOf_1 : decode cX11_countedOf 1 = .ok (.istore 6, 2) := by decide +kernel
theorem dX11_countedOf_3 : decode cX11_countedOf 3 = .ok (.iconst 0, 1) := by decide +kernel
theorem dX11_countedOf_4 : decode cX11_countedOf 4 = .ok (.istore 7, 2) := by decide +kernel
theorem dX11_countedOf_6 : decode cX11_countedOf 6 = .ok (.iload 7, 2) := by decide +kernel
theorem dX11_countedOf_8 : decode cX11_countedOf 8 = .ok (.aload_n 0, 1) := by decide +kernel
theorem dX11_countedOf_9 : decode cX11_countedOf 9 = .ok (.getfield 7, 3) := by decide +kernel
theorem dX11_countedOf_12 : decode cX11_countedOf 12 = .ok (.iconst 0, 1) := by decide +kernel
theorem dX11_countedOf_13 : decode cX11_countedOf 13 = .ok (.iaload, 1) := by decide +kernel
theorem dX11_countedOf_14 : decode cX11_countedOf 14 = .ok (.if_icmp .ge 44, 3) := by decide +kernel
theorem dX11_countedOf_17 : decode cX11_countedOf 17 = .ok (.iload 6, 2) := by decide +kernel
theorem dX11_countedOf_19 : decode cX11_countedOf 19 = .ok (.aload_n 0, 1) := by decide +kernel
theorem dX11_countedOf_20 : decode cX11_countedOf 20 = .ok (.iload 7, 2) := by decide +kernel
theorem dX11_countedOf_22 : decode cX11_countedOf 22 = .ok (.iload_n 1, 1) := by decide +kernel
theorem dX11_countedOf_23 : decode cX11_countedOf 23 = .ok (.invokevirtual 179, 3) := by decide +kernel
theorem dX11_countedOf_26 : decode cX11_countedOf 26 = .ok (.ifCond .eq 22, 3) := by decide +kernel
theorem dX11_countedOf_29 : decode cX11_countedOf 29 = .ok (.aload_n 0, 1) := by decide +kernel
theorem dX11_countedOf_30 : decode cX11_countedOf 30 = .ok (.iload 7, 2) := by decide +kernel
theorem dX11_countedOf_32 : decode cX11_countedOf 32 = .ok (.iload_n 2, 1) := by decide +kernel
theorem dX11_countedOf_33 : decode cX11_countedOf 33 = .ok (.iload 4, 2) := by decide +kernel
theorem dX11_countedOf_35 : decode cX11_countedOf 35 = .ok (.iload 5, 2) := by decide +kernel
theorem dX11_countedOf_37 : decode cX11_countedOf 37 = .ok (.invokevirtual 134, 3) := by decide +kernel
theorem dX11_countedOf_40 : decode cX11_countedOf 40 = .ok (.iload_n 3, 1) := by decide +kernel
theorem dX11_countedOf_41 : decode cX11_countedOf 41 = .ok (.if_icmp .ne 7, 3) := by decide +kernel
theorem dX11_countedOf_44 : decode cX11_countedOf 44 = .ok (.iconst 1, 1) := by decide +kernel
theorem dX11_countedOf_45 : decode cX11_countedOf 45 = .ok (.goto 4, 3) := by decide +kernel
theorem dX11_countedOf_48 : decode cX11_countedOf 48 = .ok (.iconst 0, 1) := by decide +kernel
theorem dX11_countedOf_49 : decode cX11_countedOf 49 = .ok (.iadd, 1) := by decide +kernel
theorem dX11_countedOf_50 : decode cX11_countedOf 50 = .ok (.istore 6, 2) := by decide +kernel
theorem dX11_countedOf_52 : decode cX11_countedOf 52 = .ok (.iinc 7 1, 3) := by decide +kernel
theorem dX11_countedOf_55 : decode cX11_countedOf 55 = .ok (.goto (-49), 3) := by decide +kernel
theorem dX11_countedOf_58 : decode cX11_countedOf 58 = .ok (.iload 6, 2) := by decide +kernel
theorem dX11_countedOf_60 : decode cX11_countedOf 60 = .ok (.ireturn, 1) := by decide +kernel
set_option maxRecDepth 20000 in
theorem ggX11_counted_X11_in : GoodIn wsX11_counted wsX11_in := goodIn_r _ [7] (by decide +kernel) (by decide +kernel)
set_option maxRecDepth 20000 in
theorem gX11_counted_X11_in : GoodIn wsX11_counted (va_wsS RX11 103 yX11_in wsX11_in) := goodIn_app (goodIn_of _ (by decide +kernel)) ggX11_counted_X11_in
set_option maxRecDepth 20000 in
theorem ggX11_counted_X11_isHour : GoodIn wsX11_counted wsX11_isHour := goodIn_r _ [10, 11, 4, 5, 6, 7] (by decide +kernel) (by decide +kernel)
set_option maxRecDepth 20000 in
theorem gX11_counted_X11_isHour : GoodIn wsX11_counted (va_wsS RX11 131 yX11_isHour wsX11_isHour) := goodIn_app (goodIn_of _ (by decide +kernel)) ggX11_counted_X11_isHour
set_option maxRecDepth 20000 in
theorem ggX11_counted_X11_countedOf : GoodIn wsX11_counted wsX11_countedOf := goodIn_r _ [15, 16, 17, 18, 19, 6, 20, 21, 22, 23, 24, 25, 26, 27, 28, 29, 30, 31, 32, 33, 34, 35, 36, 37, 38, 39, 40, 41, 42, 43, 44, 45, 46, 47, 48, 49, 50, 51, 52, 53, 54, 55, 56, 57, 58, 59, 60, 61, 62, 63, 64, 65, 66, 67, 68, 69, 70, 71, 72, 73, 74, 75, 76, 77, 78, 79] (by decide +kernel) (by decide +kernel)
set_option maxRecDepth 20000 in
theorem gX11_counted_X11_countedOf : GoodIn wsX11_counted (wsV RX11 182 RX11 yX11_countedOf wsX11_countedOf) := goodIn_app (goodIn_of _ (by decide +kernel)) ggX11_counted_X11_countedOf
theorem dX11_counted_0 : decode cX11_counted 0 = .ok (.iload_n 1, 1) := by decide +kernel
theorem dX11_counted_1 : decode cX11_counted 1 = .ok (.i2l, 1) := by decide +kernel
theorem dX11_counted_2 : decode cX11_counted 2 = .ok (.lconst 0, 1) := by decide +kernel
theorem dX11_counted_3 : decode cX11_counted 3 = .ok (.ldc2_w 157, 3) := by decide +kernel
theorem dX11_counted_6 : decode cX11_counted 6 = .ok (.invokestatic 103, 3) := by decide +kernel
theorem dX11_counted_9 : decode cX11_counted 9 = .ok (.ifCond .eq 49, 3) := by decide +kernel
theorem dX11_counted_12 : decode cX11_counted 12 = .ok (.iload_n 2, 1) := by decide +kernel
theorem dX11_counted_13 : decode cX11_counted 13 = .ok (.i2l, 1) := by decide +kernel
theorem dX11_counted_14 : decode cX11_counted 14 = .ok (.lconst 0, 1) := by decide +kernel
theorem dX11_counted_15 : decode cX11_counted 15 = .ok (.ldc2_w 115, 3) := by decide +kernel
theorem dX11_counted_18 : decode cX11_counted 18 = .ok (.invokestatic 103, 3) := by decide +kernel
theorem dX11_counted_21 : decode cX11_counted 21 = .ok (.ifCond .eq 37, 3) := by decide +kernel
theorem dX11_counted_24 : decode cX11_counted 24 = .ok (.iload_n 3, 1) := by decide +kernel
theorem dX11_counted_25 : decode cX11_counted 25 = .ok (.i2l, 1) := by decide +kernel
theorem dX11_counted_26 : decode cX11_counted 26 = .ok (.lconst 0, 1) := by decide +kernel
theorem dX11_counted_27 : decode cX11_counted 27 = .ok (.ldc2_w 117, 3) := by decide +kernel
theorem dX11_counted_30 : decode cX11_counted 30 = .ok (.invokestatic 103, 3) := by decide +kernel
theorem dX11_counted_33 : decode cX11_counted 33 = .ok (.ifCond .eq 25, 3) := by decide +kernel
theorem dX11_counted_36 : decode cX11_counted 36 = .ok (.iload 4, 2) := by decide +kernel
theorem dX11_counted_38 : decode cX11_counted 38 = .ok (.invokestatic 131, 3) := by decide +kernel
theorem dX11_counted_41 : decode cX11_counted 41 = .ok (.ifCond .eq 17, 3) := by decide +kernel
theorem dX11_counted_44 : decode cX11_counted 44 = .ok (.aload_n 0, 1) := by decide +kernel
theorem dX11_counted_45 : decode cX11_counted 45 = .ok (.iload_n 1, 1) := by decide +kernel
theorem dX11_counted_46 : decode cX11_counted 46 = .ok (.iload_n 2, 1) := by decide +kernel
theorem dX11_counted_47 : decode cX11_counted 47 = .ok (.iload_n 3, 1) := by decide +kernel
theorem dX11_counted_48 : decode cX11_counted 48 = .ok (.iload 4, 2) := by decide +kernel
theorem dX11_counted_50 : decode cX11_counted 50 = .ok (.iload 5, 2) := by decide +kernel
theorem dX11_counted_52 : decode cX11_counted 52 = .ok (.invokevirtual 182, 3) := by decide +kernel
theorem dX11_counted_55 : decode cX11_counted 55 = .ok (.goto 4, 3) := by decide +kernel
theorem dX11_counted_58 : decode cX11_counted 58 = .ok (.iconst (-1), 1) := by decide +kernel
theorem dX11_counted_59 : decode cX11_counted 59 = .ok (.ireturn, 1) := by decide +kernel
set_option maxRecDepth 20000 in
theorem ggX11_vote_X11_isCard : GoodIn wsX11_vote wsX11_isCard := goodIn_r _ [6, 7, 8, 9, 5, 10, 39, 40, 41, 42, 43, 44, 45, 46, 47, 48, 49, 50, 51, 52, 53, 54, 55, 56, 57, 58, 59, 60, 61, 62, 63, 64, 65, 66, 67, 68, 69, 70, 71, 72, 73] (by decide +kernel) (by decide +kernel)
set_option maxRecDepth 20000 in
theorem gX11_vote_X11_isCard : GoodIn wsX11_vote (wsV RX11 111 RX11 yX11_isCard wsX11_isCard) := goodIn_app (goodIn_of _ (by decide +kernel)) ggX11_vote_X11_isCard
set_option maxRecDepth 20000 in
theorem ggX11_vote_X11_in : GoodIn wsX11_vote wsX11_in := goodIn_r _ [10] (by decide +kernel) (by decide +kernel)
set_option maxRecDepth 20000 in
theorem gX11_vote_X11_in : GoodIn wsX11_vote (va_wsS RX11 103 yX11_in wsX11_in) := goodIn_app (goodIn_of _ (by decide +kernel)) ggX11_vote_X11_in
set_option maxRecDepth 20000 in
theorem ggX11_vote_X11_isHour : GoodIn wsX11_vote wsX11_isHour := goodIn_r _ [13, 14, 8, 9, 5, 10] (by decide +kernel) (by decide +kernel)
set_option maxRecDepth 20000 in
theorem gX11_vote_X11_isHour : GoodIn wsX11_vote (va_wsS RX11 131 yX11_isHour wsX11_isHour) := goodIn_app (goodIn_of _ (by decide +kernel)) ggX11_vote_X11_isHour
set_option maxRecDepth 20000 in
theorem ggX11_vote_X11_voteOf : GoodIn wsX11_vote wsX11_voteOf := goodIn_r _ [18, 19, 20, 21, 22, 23, 5, 24, 25, 26, 27, 28, 29, 30, 31, 32, 33, 34, 35, 36, 37, 38, 39, 40, 41, 42, 43, 44, 45, 46, 47, 48, 49, 50, 51, 52, 53, 54, 55, 56, 57, 58, 59, 60, 61, 62, 63, 64, 65, 66, 67, 68, 69, 70, 71, 72, 73] (by decide +kernel) (by decide +kernel)
set_option maxRecDepth 20000 in
theorem gX11_vote_X11_voteOf : GoodIn wsX11_vote (wsV RX11 134 RX11 yX11_voteOf wsX11_voteOf) := goodIn_app (goodIn_of _ (by decide +kernel)) ggX11_vote_X11_voteOf
theorem dX11_vote_0 : decode cX11_vote 0 = .ok (.aload_n 0, 1) := by decide +kernel
theorem dX11_vote_1 : decode cX11_vote 1 = .ok (.iload_n 1, 1) := by decide +kernel
theorem dX11_vote_2 : decode cX11_vote 2 = .ok (.invokevirtual 111, 3) := by decide +kernel
theorem dX11_vote_5 : decode cX11_vote 5 = .ok (.ifCond .eq 34, 3) := by decide +kernel
theorem dX11_vote_8 : decode cX11_vote 8 = .ok (.iload_n 2, 1) := by decide +kernel
theorem dX11_vote_9 : decode cX11_vote 9 = .ok (.i2l, 1) := by decide +kernel
theorem dX11_vote_10 : decode cX11_vote 10 = .ok (.lconst 0, 1) := by decide +kernel
theorem dX11_vote_11 : decode cX11_vote 11 = .ok (.ldc2_w 115, 3) := by decide +kernel
theorem dX11_vote_14 : decode cX11_vote 14 = .ok (.invokestatic 103, 3) := by decide +kernel
theorem dX11_vote_17 : decode cX11_vote 17 = .ok (.ifCond .eq 22, 3) := by decide +kernel
theorem dX11_vote_20 : decode cX11_vote 20 = .ok (.iload_n 3, 1) := by decide +kernel
theorem dX11_vote_21 : decode cX11_vote 21 = .ok (.invokestatic 131, 3) := by decide +kernel
theorem dX11_vote_24 : decode cX11_vote 24 = .ok (.ifCond .eq 15, 3) := by decide +kernel
theorem dX11_vote_27 : decode cX11_vote 27 = .ok (.aload_n 0, 1) := by decide +kernel
theorem dX11_vote_28 : decode cX11_vote 28 = .ok (.iload_n 1, 1) := by decide +kernel
theorem dX11_vote_29 : decode cX11_vote 29 = .ok (.iload_n 2, 1) := by decide +kernel
theorem dX11_vote_30 : decode cX11_vote 30 = .ok (.iload_n 3, 1) := by decide +kernel
theorem dX11_vote_31 : decode cX11_vote 31 = .ok (.iload 4, 2) := by decide +kernel
theorem dX11_vote_33 : decode cX11_vote 33 = .ok (.invokevirtual 134, 3) := by decide +kernel
theorem dX11_vote_36 : decode cX11_vote 36 = .ok (.goto 4, 3) := by decide +kernel
theorem dX11_vote_39 : decode cX11_vote 39 = .ok (.iconst (-1), 1) := by decide +kernel
theorem dX11_vote_40 : decode cX11_vote 40 = .ok (.ireturn, 1) := by decide +kernel
theorem dX11_most_0 : decode cX11_most 0 = .ok (.bipush (-4), 2) := by decide +kernel
theorem dX11_most_2 : decode cX11_most 2 = .ok (.istore_n 1, 1) := by decide +kernel
theorem dX11_most_3 : decode cX11_most 3 = .ok (.iconst 0, 1) := by decide +kernel
theorem dX11_most_4 : decode cX11_most 4 = .ok (.istore_n 2, 1) := by decide +kernel
theorem dX11_most_5 : decode cX11_most 5 = .ok (.iload_n 2, 1) := by decide +kernel
theorem dX11_most_6 : decode cX11_most 6 = .ok (.iconst 4, 1) := by decide +kernel
theorem dX11_most_7 : decode cX11_most 7 = .ok (.if_icmp .ge 81, 3) := by decide +kernel
theorem dX11_most_10 : decode cX11_most 10 = .ok (.aload_n 0, 1) := by decide +kernel
theorem dX11_most_11 : decode cX11_most 11 = .ok (.getfield 79, 3) := by decide +kernel
theorem dX11_most_14 : decode cX11_most 14 = .ok (.iload_n 2, 1) := by decide +kernel
theorem dX11_most_15 : decode cX11_most 15 = .ok (.iaload, 1) := by decide +kernel
theorem dX11_most_16 : decode cX11_most 16 = .ok (.ifCond .le 7, 3) := by decide +kernel
theorem dX11_most_19 : decode cX11_most 19 = .ok (.iconst 1, 1) := by decide +kernel
theorem dX11_most_20 : decode cX11_most 20 = .ok (.goto 4, 3) := by decide +kernel
theorem dX11_most_23 : decode cX11_most 23 = .ok (.iconst 0, 1) := by decide +kernel
theorem dX11_most_24 : decode cX11_most 24 = .ok (.istore_n 3, 1) := by decide +kernel
theorem dX11_most_25 : decode cX11_most 25 = .ok (.iconst 0, 1) := by decide +kernel
theorem dX11_most_26 : decode cX11_most 26 = .ok (.istore 4, 2) := by decide +kernel
theorem dX11_most_28 : decode cX11_most 28 = .ok (.iload 4, 2) := by decide +kernel
theorem dX11_most_30 : decode cX11_most 30 = .ok (.iconst 4, 1) := by decide +kernel
theorem dX11_most_31 : decode cX11_most 31 = .ok (.if_icmp .ge 41, 3) := by decide +kernel
theorem dX11_most_34 : decode cX11_most 34 = .ok (.iload_n 3, 1) := by decide +kernel
theorem dX11_most_35 : decode cX11_most 35 = .ok (.ifCond .eq 29, 3) := by decide +kernel
theorem dX11_most_38 : decode cX11_most 38 = .ok (.iload 4, 2) := by decide +kernel
theorem dX11_most_40 : decode cX11_most 40 = .ok (.iload_n 2, 1) := by decide +kernel
theorem dX11_most_41 : decode cX11_most 41 = .ok (.if_icmp .eq 19, 3) := by decide +kernel
theorem dX11_most_44 : decode cX11_most 44 = .ok (.aload_n 0, 1) := by decide +kernel
theorem dX11_most_45 : decode cX11_most 45 = .ok (.getfield 79, 3) := by decide +kernel
theorem dX11_most_48 : decode cX11_most 48 = .ok (.iload 4, 2) := by decide +kernel
theorem dX11_most_50 : decode cX11_most 50 = .ok (.iaload, 1) := by decide +kernel
theorem dX11_most_51 : decode cX11_most 51 = .ok (.aload_n 0, 1) := by decide +kernel
theorem dX11_most_52 : decode cX11_most 52 = .ok (.getfield 79, 3) := by decide +kernel
theorem dX11_most_55 : decode cX11_most 55 = .ok (.iload_n 2, 1) := by decide +kernel
theorem dX11_most_56 : decode cX11_most 56 = .ok (.iaload, 1) := by decide +kernel
theorem dX11_most_57 : decode cX11_most 57 = .ok (.if_icmp .ge 7, 3) := by decide +kernel
theorem dX11_most_60 : decode cX11_most 60 = .ok (.iconst 1, 1) := by decide +kernel
theorem dX11_most_61 : decode cX11_most 61 = .ok (.goto 4, 3) := by decide +kernel
theorem dX11_most_64 : decode cX11_most 64 = .ok (.iconst 0, 1) := by decide +kernel
theorem dX11_most_65 : decode cX11_most 65 = .ok (.istore_n 3, 1) := by decide +kernel
theorem dX11_most_66 : decode cX11_most 66 = .ok (.iinc 4 1, 3) := by decide +kernel
theorem dX11_most_69 : decode cX11_most 69 = .ok (.goto (-41), 3) := by decide +kernel
theorem dX11_most_72 : decode cX11_most 72 = .ok (.iload_n 3, 1) := by decide +kernel
theorem dX11_most_73 : decode cX11_most 73 = .ok (.ifCond .eq 7, 3) := by decide +kernel
theorem dX11_most_76 : decode cX11_most 76 = .ok (.iload_n 2, 1) := by decide +kernel
theorem dX11_most_77 : decode cX11_most 77 = .ok (.goto 4, 3) := by decide +kernel
theorem dX11_most_80 : decode cX11_most 80 = .ok (.iload_n 1, 1) := by decide +kernel
theorem dX11_most_81 : decode cX11_most 81 = .ok (.istore_n 1, 1) := by decide +kernel
theorem dX11_most_82 : decode cX11_most 82 = .ok (.iinc 2 1, 3) := by decide +kernel
theorem dX11_most_85 : decode cX11_most 85 = .ok (.goto (-80), 3) := by decide +kernel
theorem dX11_most_88 : decode cX11_most 88 = .ok (.iload_n 1, 1) := by decide +kernel
theorem dX11_most_89 : decode cX11_most 89 = .ok (.ireturn, 1) := by decide +kernel
set_option maxRecDepth 20000 in
theorem ggX11_winner_X11_in : GoodIn wsX11_winner wsX11_in := goodIn_r _ [6] (by decide +kernel) (by decide +kernel)
set_option maxRecDepth 20000 in
theorem gX11_winner_X11_in : GoodIn wsX11_winner (va_wsS RX11 103 yX11_in wsX11_in) := goodIn_app (goodIn_of _ (by decide +kernel)) ggX11_winner_X11_in
set_option maxRecDepth 20000 in
theorem ggX11_winner_X11_isHour : GoodIn wsX11_winner wsX11_isHour := goodIn_r _ [9, 10, 3, 4, 5, 6] (by decide +kernel) (by decide +kernel)
set_option maxRecDepth 20000 in
theorem gX11_winner_X11_isHour : GoodIn wsX11_winner (va_wsS RX11 131 yX11_isHour wsX11_isHour) := goodIn_app (goodIn_of _ (by decide +kernel)) ggX11_winner_X11_isHour
set_option maxRecDepth 20000 in
theorem ggX11_winner_X11_countedOf : GoodIn wsX11_winner wsX11_countedOf := goodIn_r _ [14, 15, 16, 17, 18, 5, 19, 20, 21, 22, 23, 24, 25, 26, 27, 28, 29, 30, 31, 32, 33, 34, 35, 36, 37, 38, 39, 40, 41, 42, 43, 48, 49, 50, 51, 52, 53, 54, 55, 56, 57, 58, 59, 60, 61, 62, 63, 64, 65, 66, 67, 68, 69, 70, 71, 72, 73, 74, 75, 76, 77, 78, 79, 80, 81, 82] (by decide +kernel) (by decide +kernel)
set_option maxRecDepth 20000 in
theorem gX11_winner_X11_countedOf : GoodIn wsX11_winner (wsV RX11 182 RX11 yX11_countedOf wsX11_countedOf) := goodIn_app (goodIn_of _ (by decide +kernel)) ggX11_winner_X11_countedOf
set_option maxRecDepth 20000 in
theorem ggX11_winner_X11_most : GoodIn wsX11_winner wsX11_most := goodIn_r _ [47, 2, 48, 49, 50, 51, 52, 53, 54, 55, 56, 57, 58, 59, 60, 61, 62, 63, 64, 65, 66, 67, 68, 69, 70, 71, 72, 73, 74, 75, 76, 77, 78, 79, 80, 81, 82] (by decide +kernel) (by decide +kernel)
set_option maxRecDepth 20000 in
theorem gX11_winner_X11_most : GoodIn wsX11_winner (wsV RX11 186 RX11 yX11_most wsX11_most) := goodIn_app (goodIn_of _ (by decide +kernel)) ggX11_winner_X11_most
theorem dX11_winner_0 : decode cX11_winner 0 = .ok (.iload_n 1, 1) := by decide +kernel
theorem dX11_winner_1 : decode cX11_winner 1 = .ok (.i2l, 1) := by decide +kernel
theorem dX11_winner_2 : decode cX11_winner 2 = .ok (.lconst 0, 1) := by decide +kernel
theorem dX11_winner_3 : decode cX11_winner 3 = .ok (.ldc2_w 115, 3) := by decide +kernel
theorem dX11_winner_6 : decode cX11_winner 6 = .ok (.invokestatic 103, 3) := by decide +kernel
theorem dX11_winner_9 : decode cX11_winner 9 = .ok (.ifCond .eq 10, 3) := by decide +kernel
theorem dX11_winner_12 : decode cX11_winner 12 = .ok (.iload_n 2, 1) := by decide +kernel
theorem dX11_winner_13 : decode cX11_winner 13 = .ok (.invokestatic 131, 3) := by decide +kernel
theorem dX11_winner_16 : decode cX11_winner 16 = .ok (.ifCond .ne 5, 3) := by decide +kernel
theorem dX11_winner_19 : decode cX11_winner 19 = .ok (.iconst (-1), 1) := by decide +kernel
theorem dX11_winner_20 : decode cX11_winner 20 = .ok (.ireturn, 1) := by decide +kernel
theorem dX11_winner_21 : decode cX11_winner 21 = .ok (.iconst 0, 1) := by decide +kernel
theorem dX11_winner_22 : decode cX11_winner 22 = .ok (.istore 4, 2) := by decide +kernel
theorem dX11_winner_24 : decode cX11_winner 24 = .ok (.iload 4, 2) := by decide +kernel
theorem dX11_winner_26 : decode cX11_winner 26 = .ok (.iconst 4, 1) := by decide +kernel
theorem dX11_winner_27 : decode cX11_winner 27 = .ok (.if_icmp .ge 26, 3) := by decide +kernel
theorem dX11_winner_30 : decode cX11_winner 30 = .ok (.aload_n 0, 1) := by decide +kernel
theorem dX11_winner_31 : decode cX11_winner 31 = .ok (.getfield 79, 3) := by decide +kernel
theorem dX11_winner_34 : decode cX11_winner 34 = .ok (.iload 4, 2) := by decide +kernel
theorem dX11_winner_36 : decode cX11_winner 36 = .ok (.aload_n 0, 1) := by decide +kernel
theorem dX11_winner_37 : decode cX11_winner 37 = .ok (.iconst 5, 1) := by decide +kernel
theorem dX11_winner_38 : decode cX11_winner 38 = .ok (.iload_n 1, 1) := by decide +kernel
theorem dX11_winner_39 : decode cX11_winner 39 = .ok (.iload 4, 2) := by decide +kernel
theorem dX11_winner_41 : decode cX11_winner 41 = .ok (.iload_n 2, 1) := by decide +kernel
theorem dX11_winner_42 : decode cX11_winner 42 = .ok (.iload_n 3, 1) := by decide +kernel
theorem dX11_winner_43 : decode cX11_winner 43 = .ok (.invokevirtual 182, 3) := by decide +kernel
theorem dX11_winner_46 : decode cX11_winner 46 = .ok (.iastore, 1) := by decide +kernel
theorem dX11_winner_47 : decode cX11_winner 47 = .ok (.iinc 4 1, 3) := by decide +kernel
theorem dX11_winner_50 : decode cX11_winner 50 = .ok (.goto (-26), 3) := by decide +kernel
theorem dX11_winner_53 : decode cX11_winner 53 = .ok (.aload_n 0, 1) := by decide +kernel
theorem dX11_winner_54 : decode cX11_winner 54 = .ok (.invokevirtual 186, 3) := by decide +kernel
theorem dX11_winner_57 : decode cX11_winner 57 = .ok (.ireturn, 1) := by decide +kernel
set_option maxRecDepth 20000 in
theorem ggX11_counts_X11_votes : GoodIn wsX11_counts wsX11_votes := goodIn_r _ [8, 9, 10, 11, 12, 13, 14, 15, 16, 17, 18, 19, 20, 21, 22, 23, 24, 25, 26, 27, 28, 29, 30, 31, 32, 33, 34, 35, 36, 37, 38, 39, 40, 41, 42, 43, 44] (by decide +kernel) (by decide +kernel)
set_option maxRecDepth 20000 in
theorem gX11_counts_X11_votes : GoodIn wsX11_counts (wsV RX11 127 RX11 yX11_votes wsX11_votes) := goodIn_app (goodIn_of _ (by decide +kernel)) ggX11_counts_X11_votes
theorem dX11_counts_0 : decode cX11_counts 0 = .ok (.iconst 0, 1) := by decide +kernel
theorem dX11_counts_1 : decode cX11_counts 1 = .ok (.istore_n 2, 1) := by decide +kernel
theorem dX11_counts_2 : decode cX11_counts 2 = .ok (.iload_n 2, 1) := by decide +kernel
theorem dX11_counts_3 : decode cX11_counts 3 = .ok (.bipush 120, 2) := by decide +kernel
theorem dX11_counts_5 : decode cX11_counts 5 = .ok (.if_icmp .ge 16, 3) := by decide +kernel
theorem dX11_counts_8 : decode cX11_counts 8 = .ok (.aload_n 0, 1) := by decide +kernel
theorem dX11_counts_9 : decode cX11_counts 9 = .ok (.getfield 82, 3) := by decide +kernel
theorem dX11_counts_12 : decode cX11_counts 12 = .ok (.iload_n 2, 1) := by decide +kernel
theorem dX11_counts_13 : decode cX11_counts 13 = .ok (.iconst 0, 1) := by decide +kernel
theorem dX11_counts_14 : decode cX11_counts 14 = .ok (.iastore, 1) := by decide +kernel
theorem dX11_counts_15 : decode cX11_counts 15 = .ok (.iinc 2 1, 3) := by decide +kernel
theorem dX11_counts_18 : decode cX11_counts 18 = .ok (.goto (-16), 3) := by decide +kernel
theorem dX11_counts_21 : decode cX11_counts 21 = .ok (.iconst 0, 1) := by decide +kernel
theorem dX11_counts_22 : decode cX11_counts 22 = .ok (.istore_n 2, 1) := by decide +kernel
theorem dX11_counts_23 : decode cX11_counts 23 = .ok (.iload_n 2, 1) := by decide +kernel
theorem dX11_counts_24 : decode cX11_counts 24 = .ok (.aload_n 0, 1) := by decide +kernel
theorem dX11_counts_25 : decode cX11_counts 25 = .ok (.getfield 7, 3) := by decide +kernel
theorem dX11_counts_28 : decode cX11_counts 28 = .ok (.iconst 0, 1) := by decide +kernel
theorem dX11_counts_29 : decode cX11_counts 29 = .ok (.iaload, 1) := by decide +kernel
theorem dX11_counts_30 : decode cX11_counts 30 = .ok (.if_icmp .ge 63, 3) := by decide +kernel
theorem dX11_counts_33 : decode cX11_counts 33 = .ok (.iconst 1, 1) := by decide +kernel
theorem dX11_counts_34 : decode cX11_counts 34 = .ok (.istore_n 3, 1) := by decide +kernel
theorem dX11_counts_35 : decode cX11_counts 35 = .ok (.iload_n 3, 1) := by decide +kernel
theorem dX11_counts_36 : decode cX11_counts 36 = .ok (.bipush 6, 2) := by decide +kernel
theorem dX11_counts_38 : decode cX11_counts 38 = .ok (.if_icmp .ge 49, 3) := by decide +kernel
theorem dX11_counts_41 : decode cX11_counts 41 = .ok (.aload_n 0, 1) := by decide +kernel
theorem dX11_counts_42 : decode cX11_counts 42 = .ok (.iload_n 2, 1) := by decide +kernel
theorem dX11_counts_43 : decode cX11_counts 43 = .ok (.iload_n 1, 1) := by decide +kernel
theorem dX11_counts_44 : decode cX11_counts 44 = .ok (.iload_n 3, 1) := by decide +kernel
theorem dX11_counts_45 : decode cX11_counts 45 = .ok (.iconst 0, 1) := by decide +kernel
theorem dX11_counts_46 : decode cX11_counts 46 = .ok (.invokevirtual 127, 3) := by decide +kernel
theorem dX11_counts_49 : decode cX11_counts 49 = .ok (.istore 4, 2) := by decide +kernel
theorem dX11_counts_51 : decode cX11_counts 51 = .ok (.iload 4, 2) := by decide +kernel
theorem dX11_counts_53 : decode cX11_counts 53 = .ok (.ifCond .lt 28, 3) := by decide +kernel
theorem dX11_counts_56 : decode cX11_counts 56 = .ok (.aload_n 0, 1) := by decide +kernel
theorem dX11_counts_57 : decode cX11_counts 57 = .ok (.getfield 82, 3) := by decide +kernel
theorem dX11_counts_60 : decode cX11_counts 60 = .ok (.bipush 24, 2) := by decide +kernel
theorem dX11_counts_62 : decode cX11_counts 62 = .ok (.aload_n 0, 1) := by decide +kernel
theorem dX11_counts_63 : decode cX11_counts 63 = .ok (.getfield 13, 3) := by decide +kernel
theorem dX11_counts_66 : decode cX11_counts 66 = .ok (.iload_n 2, 1) := by decide +kernel
theorem dX11_counts_67 : decode cX11_counts 67 = .ok (.iaload, 1) := by decide +kernel
theorem dX11_counts_68 : decode cX11_counts 68 = .ok (.imul, 1) := by decide +kernel
theorem dX11_counts_69 : decode cX11_counts 69 = .ok (.iconst 4, 1) := by decide +kernel
theorem dX11_counts_70 : decode cX11_counts 70 = .ok (.iload_n 3, 1) := by decide +kernel
theorem dX11_counts_71 : decode cX11_counts 71 = .ok (.imul, 1) := by decide +kernel
theorem dX11_counts_72 : decode cX11_counts 72 = .ok (.iadd, 1) := by decide +kernel
theorem dX11_counts_73 : decode cX11_counts 73 = .ok (.iload 4, 2) := by decide +kernel
theorem dX11_counts_75 : decode cX11_counts 75 = .ok (.iadd, 1) := by decide +kernel
theorem dX11_counts_76 : decode cX11_counts 76 = .ok (.dup2, 1) := by decide +kernel
theorem dX11_counts_77 : decode cX11_counts 77 = .ok (.iaload, 1) := by decide +kernel
theorem dX11_counts_78 : decode cX11_counts 78 = .ok (.iconst 1, 1) := by decide +kernel
theorem dX11_counts_79 : decode cX11_counts 79 = .ok (.iadd, 1) := by decide +kernel
theorem dX11_counts_80 : decode cX11_counts 80 = .ok (.iastore, 1) := by decide +kernel
theorem dX11_counts_81 : decode cX11_counts 81 = .ok (.iinc 3 1, 3) := by decide +kernel
theorem dX11_counts_84 : decode cX11_counts 84 = .ok (.goto (-49), 3) := by decide +kernel
theorem dX11_counts_87 : decode cX11_counts 87 = .ok (.iinc 2 1, 3) := by decide +kernel
theorem dX11_counts_90 : decode cX11_counts 90 = .ok (.goto (-67), 3) := by decide +kernel
theorem dX11_counts_93 : decode cX11_counts 93 = .ok (.return_, 1) := by decide +kernel
theorem dX11_mixes_0 : decode cX11_mixes 0 = .ok (.iconst 0, 1) := by decide +kernel
theorem dX11_mixes_1 : decode cX11_mixes 1 = .ok (.istore_n 2, 1) := by decide +kernel
theorem dX11_mixes_2 : decode cX11_mixes 2 = .ok (.iload_n 2, 1) := by decide +kernel
theorem dX11_mixes_3 : decode cX11_mixes 3 = .ok (.iconst 4, 1) := by decide +kernel
theorem dX11_mixes_4 : decode cX11_mixes 4 = .ok (.if_icmp .ge 60, 3) := by decide +kernel
theorem dX11_mixes_7 : decode cX11_mixes 7 = .ok (.aload_n 0, 1) := by decide +kernel
theorem dX11_mixes_8 : decode cX11_mixes 8 = .ok (.getfield 79, 3) := by decide +kernel
theorem dX11_mixes_11 : decode cX11_mixes 11 = .ok (.iload_n 2, 1) := by decide +kernel
theorem dX11_mixes_12 : decode cX11_mixes 12 = .ok (.iconst 0, 1) := by decide +kernel
theorem dX11_mixes_13 : decode cX11_mixes 13 = .ok (.iastore, 1) := by decide +kernel
theorem dX11_mixes_14 : decode cX11_mixes 14 = .ok (.iconst 0, 1) := by decide +kernel
theorem dX11_mixes_15 : decode cX11_mixes 15 = .ok (.istore_n 3, 1) := by decide +kernel
theorem dX11_mixes_16 : decode cX11_mixes 16 = .ok (.iload_n 3, 1) := by decide +kernel
theorem dX11_mixes_17 : decode cX11_mixes 17 = .ok (.iconst 5, 1) := by decide +kernel
theorem dX11_mixes_18 : decode cX11_mixes 18 = .ok (.if_icmp .ge 40, 3) := by decide +kernel
theorem dX11_mixes_21 : decode cX11_mixes 21 = .ok (.aload_n 0, 1) := by decide +kernel
theorem dX11_mixes_22 : decode cX11_mixes 22 = .ok (.getfield 79, 3) := by decide +kernel
theorem dX11_mixes_25 : decode cX11_mixes 25 = .ok (.iload_n 2, 1) := by decide +kernel
theorem dX11_mixes_26 : decode cX11_mixes 26 = .ok (.dup2, 1) := by decide +kernel
theorem dX11_mixes_27 : decode cX11_mixes 27 = .ok (.iaload, 1) := by decide +kernel
theorem dX11_mixes_28 : decode cX11_mixes 28 = .ok (.aload_n 0, 1) := by decide +kernel
theorem dX11_mixes_29 : decode cX11_mixes 29 = .ok (.getfield 82, 3) := by decide +kernel
theorem dX11_mixes_32 : decode cX11_mixes 32 = .ok (.bipush 24, 2) := by decide +kernel
theorem dX11_mixes_34 : decode cX11_mixes 34 = .ok (.iload_n 3, 1) := by decide +kernel
theorem dX11_mixes_35 : decode cX11_mixes 35 = .ok (.imul, 1) := by decide +kernel
theorem dX11_mixes_36 : decode cX11_mixes 36 = .ok (.iconst 4, 1) := by decide +kernel
theorem dX11_mixes_37 : decode cX11_mixes 37 = .ok (.iload_n 1, 1) := by decide +kernel
theorem dX11_mixes_38 : decode cX11_mixes 38 = .ok (.iconst 3, 1) := by decide +kernel
theorem dX11_mixes_39 : decode cX11_mixes 39 = .ok (.iload_n 3, 1) := by decide +kernel
theorem dX11_mixes_40 : decode cX11_mixes 40 = .ok (.imul, 1) := by decide +kernel
theorem dX11_mixes_41 : decode cX11_mixes 41 = .ok (.ishr, 1) := by decide +kernel
theorem dX11_mixes_42 : decode cX11_mixes 42 = .ok (.bipush 7, 2) := by decide +kernel
theorem dX11_mixes_44 : decode cX11_mixes 44 = .ok (.iand, 1) := by decide +kernel
theorem dX11_mixes_45 : decode cX11_mixes 45 = .ok (.imul, 1) := by decide +kernel
theorem dX11_mixes_46 : decode cX11_mixes 46 = .ok (.iadd, 1) := by decide +kernel
theorem dX11_mixes_47 : decode cX11_mixes 47 = .ok (.iload_n 2, 1) := by decide +kernel
theorem dX11_mixes_48 : decode cX11_mixes 48 = .ok (.iadd, 1) := by decide +kernel
theorem dX11_mixes_49 : decode cX11_mixes 49 = .ok (.iaload, 1) := by decide +kernel
theorem dX11_mixes_50 : decode cX11_mixes 50 = .ok (.iadd, 1) := by decide +kernel
theorem dX11_mixes_51 : decode cX11_mixes 51 = .ok (.iastore, 1) := by decide +kernel
theorem dX11_mixes_52 : decode cX11_mixes 52 = .ok (.iinc 3 1, 3) := by decide +kernel
theorem dX11_mixes_55 : decode cX11_mixes 55 = .ok (.goto (-39), 3) := by decide +kernel
theorem dX11_mixes_58 : decode cX11_mixes 58 = .ok (.iinc 2 1, 3) := by decide +kernel
theorem dX11_mixes_61 : decode cX11_mixes 61 = .ok (.goto (-59), 3) := by decide +kernel
theorem dX11_mixes_64 : decode cX11_mixes 64 = .ok (.return_, 1) := by decide +kernel
set_option maxRecDepth 20000 in
theorem ggX11_isOf_X11_has : GoodIn wsX11_isOf wsX11_has := goodIn_r _ [5] (by decide +kernel) (by decide +kernel)
set_option maxRecDepth 20000 in
theorem gX11_isOf_X11_has : GoodIn wsX11_isOf (va_wsS RX11 97 yX11_has wsX11_has) := goodIn_app (goodIn_of _ (by decide +kernel)) ggX11_isOf_X11_has
set_option maxRecDepth 20000 in
theorem ggX11_isOf_X11_in : GoodIn wsX11_isOf wsX11_in := goodIn_r _ [8] (by decide +kernel) (by decide +kernel)
set_option maxRecDepth 20000 in
theorem gX11_isOf_X11_in : GoodIn wsX11_isOf (va_wsS RX11 103 yX11_in wsX11_in) := goodIn_app (goodIn_of _ (by decide +kernel)) ggX11_isOf_X11_in
theorem dX11_isOf_0 : decode cX11_isOf 0 = .ok (.iconst 1, 1) := by decide +kernel
theorem dX11_isOf_1 : decode cX11_isOf 1 = .ok (.istore 4, 2) := by decide +kernel
theorem dX11_isOf_3 : decode cX11_isOf 3 = .ok (.iconst 0, 1) := by decide +kernel
theorem dX11_isOf_4 : decode cX11_isOf 4 = .ok (.istore 5, 2) := by decide +kernel
theorem dX11_isOf_6 : decode cX11_isOf 6 = .ok (.iload 5, 2) := by decide +kernel
theorem dX11_isOf_8 : decode cX11_isOf 8 = .ok (.iconst 5, 1) := by decide +kernel
theorem dX11_isOf_9 : decode cX11_isOf 9 = .ok (.if_icmp .ge 74, 3) := by decide +kernel
theorem dX11_isOf_12 : decode cX11_isOf 12 = .ok (.iload_n 0, 1) := by decide +kernel
theorem dX11_isOf_13 : decode cX11_isOf 13 = .ok (.iconst 3, 1) := by decide +kernel
theorem dX11_isOf_14 : decode cX11_isOf 14 = .ok (.iload 5, 2) := by decide +kernel
theorem dX11_isOf_16 : decode cX11_isOf 16 = .ok (.imul, 1) := by decide +kernel
theorem dX11_isOf_17 : decode cX11_isOf 17 = .ok (.ishr, 1) := by decide +kernel
theorem dX11_isOf_18 : decode cX11_isOf 18 = .ok (.bipush 7, 2) := by decide +kernel
theorem dX11_isOf_20 : decode cX11_isOf 20 = .ok (.iand, 1) := by decide +kernel
theorem dX11_isOf_21 : decode cX11_isOf 21 = .ok (.istore 6, 2) := by decide +kernel
theorem dX11_isOf_23 : decode cX11_isOf 23 = .ok (.iload 4, 2) := by decide +kernel
theorem dX11_isOf_25 : decode cX11_isOf 25 = .ok (.ifCond .eq 49, 3) := by decide +kernel
theorem dX11_isOf_28 : decode cX11_isOf 28 = .ok (.iload_n 2, 1) := by decide +kernel
theorem dX11_isOf_29 : decode cX11_isOf 29 = .ok (.iload 5, 2) := by decide +kernel
theorem dX11_isOf_31 : decode cX11_isOf 31 = .ok (.invokestatic 97, 3) := by decide +kernel
theorem dX11_isOf_34 : decode cX11_isOf 34 = .ok (.ifCond .eq 30, 3) := by decide +kernel
theorem dX11_isOf_37 : decode cX11_isOf 37 = .ok (.iload 6, 2) := by decide +kernel
theorem dX11_isOf_39 : decode cX11_isOf 39 = .ok (.i2l, 1) := by decide +kernel
theorem dX11_isOf_40 : decode cX11_isOf 40 = .ok (.lconst 1, 1) := by decide +kernel
theorem dX11_isOf_41 : decode cX11_isOf 41 = .ok (.ldc2_w 157, 3) := by decide +kernel
theorem dX11_isOf_44 : decode cX11_isOf 44 = .ok (.invokestatic 103, 3) := by decide +kernel
theorem dX11_isOf_47 : decode cX11_isOf 47 = .ok (.ifCond .eq 27, 3) := by decide +kernel
theorem dX11_isOf_50 : decode cX11_isOf 50 = .ok (.iload_n 1, 1) := by decide +kernel
theorem dX11_isOf_51 : decode cX11_isOf 51 = .ok (.iload 6, 2) := by decide +kernel
theorem dX11_isOf_53 : decode cX11_isOf 53 = .ok (.iconst 1, 1) := by decide +kernel
theorem dX11_isOf_54 : decode cX11_isOf 54 = .ok (.isub, 1) := by decide +kernel
theorem dX11_isOf_55 : decode cX11_isOf 55 = .ok (.invokestatic 97, 3) := by decide +kernel
theorem dX11_isOf_58 : decode cX11_isOf 58 = .ok (.ifCond .eq 16, 3) := by decide +kernel
theorem dX11_isOf_61 : decode cX11_isOf 61 = .ok (.goto 9, 3) := by decide +kernel
theorem dX11_isOf_64 : decode cX11_isOf 64 = .ok (.iload 6, 2) := by decide +kernel
theorem dX11_isOf_66 : decode cX11_isOf 66 = .ok (.iload_n 3, 1) := by decide +kernel
theorem dX11_isOf_67 : decode cX11_isOf 67 = .ok (.if_icmp .ne 7, 3) := by decide +kernel
theorem dX11_isOf_70 : decode cX11_isOf 70 = .ok (.iconst 1, 1) := by decide +kernel
theorem dX11_isOf_71 : decode cX11_isOf 71 = .ok (.goto 4, 3) := by decide +kernel
theorem dX11_isOf_74 : decode cX11_isOf 74 = .ok (.iconst 0, 1) := by decide +kernel
theorem dX11_isOf_75 : decode cX11_isOf 75 = .ok (.istore 4, 2) := by decide +kernel
theorem dX11_isOf_77 : decode cX11_isOf 77 = .ok (.iinc 5 1, 3) := by decide +kernel
theorem dX11_isOf_80 : decode cX11_isOf 80 = .ok (.goto (-74), 3) := by decide +kernel
theorem dX11_isOf_83 : decode cX11_isOf 83 = .ok (.iload 4, 2) := by decide +kernel
theorem dX11_isOf_85 : decode cX11_isOf 85 = .ok (.ireturn, 1) := by decide +kernel
set_option maxRecDepth 20000 in
theorem ggX11_byRule_X11_in : GoodIn wsX11_byRule wsX11_in := goodIn_r _ [6] (by decide +kernel) (by decide +kernel)
set_option maxRecDepth 20000 in
theorem gX11_byRule_X11_in : GoodIn wsX11_byRule (va_wsS RX11 103 yX11_in wsX11_in) := goodIn_app (goodIn_of _ (by decide +kernel)) ggX11_byRule_X11_in
set_option maxRecDepth 20000 in
theorem ggX11_byRule_X11_counts : GoodIn wsX11_byRule wsX11_counts := goodIn_r _ [10, 11, 12, 13, 14, 15, 16, 5, 17, 18, 28, 29, 30, 31, 32, 33, 34, 35, 36, 37, 38, 39, 40, 41, 42, 43, 44, 45, 46, 47, 48, 49, 50, 51, 52, 53, 54, 55, 56, 57, 58, 59, 60, 61, 62] (by decide +kernel) (by decide +kernel)
set_option maxRecDepth 20000 in
theorem gX11_byRule_X11_counts : GoodIn wsX11_byRule (wsV RX11 189 RX11 yX11_counts wsX11_counts) := goodIn_app (goodIn_of _ (by decide +kernel)) ggX11_byRule_X11_counts
set_option maxRecDepth 20000 in
theorem ggX11_byRule_X11_mixes : GoodIn wsX11_byRule wsX11_mixes := goodIn_r _ [22, 23, 11, 28, 29, 30, 31, 32, 33, 34, 35, 36, 37, 38, 39, 40, 41, 42, 43, 44, 45, 46, 47, 48, 49, 50, 51, 52, 53, 54, 55, 56, 57, 58, 59, 60, 61, 62] (by decide +kernel) (by decide +kernel)
set_option maxRecDepth 20000 in
theorem gX11_byRule_X11_mixes : GoodIn wsX11_byRule (wsV RX11 193 RX11 yX11_mixes wsX11_mixes) := goodIn_app (goodIn_of _ (by decide +kernel)) ggX11_byRule_X11_mixes
set_option maxRecDepth 20000 in
theorem ggX11_byRule_X11_most : GoodIn wsX11_byRule wsX11_most := goodIn_r _ [27, 23, 28, 29, 30, 31, 32, 33, 34, 35, 36, 37, 38, 39, 40, 41, 42, 43, 44, 45, 46, 47, 48, 49, 50, 51, 52, 53, 54, 55, 56, 57, 58, 59, 60, 61, 62] (by decide +kernel) (by decide +kernel)
set_option maxRecDepth 20000 in
theorem gX11_byRule_X11_most : GoodIn wsX11_byRule (wsV RX11 186 RX11 yX11_most wsX11_most) := goodIn_app (goodIn_of _ (by decide +kernel)) ggX11_byRule_X11_most
theorem dX11_byRule_0 : decode cX11_byRule 0 = .ok (.iload_n 1, 1) := by decide +kernel
theorem dX11_byRule_1 : decode cX11_byRule 1 = .ok (.i2l, 1) := by decide +kernel
theorem dX11_byRule_2 : decode cX11_byRule 2 = .ok (.lconst 0, 1) := by decide +kernel
theorem dX11_byRule_3 : decode cX11_byRule 3 = .ok (.ldc2_w 115, 3) := by decide +kernel
theorem dX11_byRule_6 : decode cX11_byRule 6 = .ok (.invokestatic 103, 3) := by decide +kernel
theorem dX11_byRule_9 : decode cX11_byRule 9 = .ok (.ifCond .eq 15, 3) := by decide +kernel
theorem dX11_byRule_12 : decode cX11_byRule 12 = .ok (.iload_n 2, 1) := by decide +kernel
theorem dX11_byRule_13 : decode cX11_byRule 13 = .ok (.i2l, 1) := by decide +kernel
theorem dX11_byRule_14 : decode cX11_byRule 14 = .ok (.lconst 1, 1) := by decide +kernel
theorem dX11_byRule_15 : decode cX11_byRule 15 = .ok (.ldc2_w 157, 3) := by decide +kernel
theorem dX11_byRule_18 : decode cX11_byRule 18 = .ok (.invokestatic 103, 3) := by decide +kernel
theorem dX11_byRule_21 : decode cX11_byRule 21 = .ok (.ifCond .ne 5, 3) := by decide +kernel
theorem dX11_byRule_24 : decode cX11_byRule 24 = .ok (.iconst (-1), 1) := by decide +kernel
theorem dX11_byRule_25 : decode cX11_byRule 25 = .ok (.ireturn, 1) := by decide +kernel
theorem dX11_byRule_26 : decode cX11_byRule 26 = .ok (.aload_n 0, 1) := by decide +kernel
theorem dX11_byRule_27 : decode cX11_byRule 27 = .ok (.iload_n 1, 1) := by decide +kernel
theorem dX11_byRule_28 : decode cX11_byRule 28 = .ok (.invokevirtual 189, 3) := by decide +kernel
theorem dX11_byRule_31 : decode cX11_byRule 31 = .ok (.aload_n 0, 1) := by decide +kernel
theorem dX11_byRule_32 : decode cX11_byRule 32 = .ok (.iload_n 2, 1) := by decide +kernel
theorem dX11_byRule_33 : decode cX11_byRule 33 = .ok (.sipush 4681, 3) := by decide +kernel
theorem dX11_byRule_36 : decode cX11_byRule 36 = .ok (.imul, 1) := by decide +kernel
theorem dX11_byRule_37 : decode cX11_byRule 37 = .ok (.invokevirtual 193, 3) := by decide +kernel
theorem dX11_byRule_40 : decode cX11_byRule 40 = .ok (.aload_n 0, 1) := by decide +kernel
theorem dX11_byRule_41 : decode cX11_byRule 41 = .ok (.invokevirtual 186, 3) := by decide +kernel
theorem dX11_byRule_44 : decode cX11_byRule 44 = .ok (.ireturn, 1) := by decide +kernel
set_option maxRecDepth 20000 in
theorem ggX11_mixed_X11_in : GoodIn wsX11_mixed wsX11_in := goodIn_r _ [10] (by decide +kernel) (by decide +kernel)
set_option maxRecDepth 20000 in
theorem gX11_mixed_X11_in : GoodIn wsX11_mixed (va_wsS RX11 103 yX11_in wsX11_in) := goodIn_app (goodIn_of _ (by decide +kernel)) ggX11_mixed_X11_in
set_option maxRecDepth 20000 in
theorem ggX11_mixed_X11_counts : GoodIn wsX11_mixed wsX11_counts := goodIn_r _ [14, 15, 16, 17, 18, 19, 20, 9, 21, 22, 38, 39, 40, 41, 42, 43, 44, 45, 46, 47, 48, 49, 50, 51, 52, 53, 54, 55, 56, 57, 58, 59, 60, 61, 62, 63, 64, 65, 66, 67, 68, 69, 70, 71, 72] (by decide +kernel) (by decide +kernel)
set_option maxRecDepth 20000 in
theorem gX11_mixed_X11_counts : GoodIn wsX11_mixed (wsV RX11 189 RX11 yX11_counts wsX11_counts) := goodIn_app (goodIn_of _ (by decide +kernel)) ggX11_mixed_X11_counts
set_option maxRecDepth 20000 in
theorem ggX11_mixed_X11_isOf : GoodIn wsX11_mixed wsX11_isOf := goodIn_r _ [25, 26, 27, 28, 9, 29, 7, 8, 10] (by decide +kernel) (by decide +kernel)
set_option maxRecDepth 20000 in
theorem gX11_mixed_X11_isOf : GoodIn wsX11_mixed (va_wsS RX11 201 yX11_isOf wsX11_isOf) := goodIn_app (goodIn_of _ (by decide +kernel)) ggX11_mixed_X11_isOf
set_option maxRecDepth 20000 in
theorem ggX11_mixed_X11_mixes : GoodIn wsX11_mixed wsX11_mixes := goodIn_r _ [33, 6, 15, 38, 39, 40, 41, 42, 43, 44, 45, 46, 47, 48, 49, 50, 51, 52, 53, 54, 55, 56, 57, 58, 59, 60, 61, 62, 63, 64, 65, 66, 67, 68, 69, 70, 71, 72] (by decide +kernel) (by decide +kernel)
set_option maxRecDepth 20000 in
theorem gX11_mixed_X11_mixes : GoodIn wsX11_mixed (wsV RX11 193 RX11 yX11_mixes wsX11_mixes) := goodIn_app (goodIn_of _ (by decide +kernel)) ggX11_mixed_X11_mixes
set_option maxRecDepth 20000 in
theorem ggX11_mixed_X11_most : GoodIn wsX11_mixed wsX11_most := goodIn_r _ [37, 6, 38, 39, 40, 41, 42, 43, 44, 45, 46, 47, 48, 49, 50, 51, 52, 53, 54, 55, 56, 57, 58, 59, 60, 61, 62, 63, 64, 65, 66, 67, 68, 69, 70, 71, 72] (by decide +kernel) (by decide +kernel)
set_option maxRecDepth 20000 in
theorem gX11_mixed_X11_most : GoodIn wsX11_mixed (wsV RX11 186 RX11 yX11_most wsX11_most) := goodIn_app (goodIn_of _ (by decide +kernel)) ggX11_mixed_X11_most
theorem dX11_mixed_0 : decode cX11_mixed 0 = .ok (.iload_n 1, 1) := by decide +kernel
theorem dX11_mixed_1 : decode cX11_mixed 1 = .ok (.i2l, 1) := by decide +kernel
theorem dX11_mixed_2 : decode cX11_mixed 2 = .ok (.lconst 0, 1) := by decide +kernel
theorem dX11_mixed_3 : decode cX11_mixed 3 = .ok (.ldc2_w 115, 3) := by decide +kernel
theorem dX11_mixed_6 : decode cX11_mixed 6 = .ok (.invokestatic 103, 3) := by decide +kernel
theorem dX11_mixed_9 : decode cX11_mixed 9 = .ok (.ifCond .eq 29, 3) := by decide +kernel
theorem dX11_mixed_12 : decode cX11_mixed 12 = .ok (.iload_n 2, 1) := by decide +kernel
theorem dX11_mixed_13 : decode cX11_mixed 13 = .ok (.i2l, 1) := by decide +kernel
theorem dX11_mixed_14 : decode cX11_mixed 14 = .ok (.lconst 1, 1) := by decide +kernel
theorem dX11_mixed_15 : decode cX11_mixed 15 = .ok (.ldc2_w 196, 3) := by decide +kernel
theorem dX11_mixed_18 : decode cX11_mixed 18 = .ok (.invokestatic 103, 3) := by decide +kernel
theorem dX11_mixed_21 : decode cX11_mixed 21 = .ok (.ifCond .eq 17, 3) := by decide +kernel
theorem dX11_mixed_24 : decode cX11_mixed 24 = .ok (.iload_n 3, 1) := by decide +kernel
theorem dX11_mixed_25 : decode cX11_mixed 25 = .ok (.i2l, 1) := by decide +kernel
theorem dX11_mixed_26 : decode cX11_mixed 26 = .ok (.ldc2_w 198, 3) := by decide +kernel
theorem dX11_mixed_29 : decode cX11_mixed 29 = .ok (.ldc2_w 117, 3) := by decide +kernel
theorem dX11_mixed_32 : decode cX11_mixed 32 = .ok (.invokestatic 103, 3) := by decide +kernel
theorem dX11_mixed_35 : decode cX11_mixed 35 = .ok (.ifCond .ne 7, 3) := by decide +kernel
theorem dX11_mixed_38 : decode cX11_mixed 38 = .ok (.sipush (-1000), 3) := by decide +kernel
theorem dX11_mixed_41 : decode cX11_mixed 41 = .ok (.ireturn, 1) := by decide +kernel
theorem dX11_mixed_42 : decode cX11_mixed 42 = .ok (.aload_n 0, 1) := by decide +kernel
theorem dX11_mixed_43 : decode cX11_mixed 43 = .ok (.iload_n 1, 1) := by decide +kernel
theorem dX11_mixed_44 : decode cX11_mixed 44 = .ok (.invokevirtual 189, 3) := by decide +kernel
theorem dX11_mixed_47 : decode cX11_mixed 47 = .ok (.iconst 0, 1) := by decide +kernel
theorem dX11_mixed_48 : decode cX11_mixed 48 = .ok (.istore 4, 2) := by decide +kernel
theorem dX11_mixed_50 : decode cX11_mixed 50 = .ok (.sipush (-1000), 3) := by decide +kernel
theorem dX11_mixed_53 : decode cX11_mixed 53 = .ok (.istore 5, 2) := by decide +kernel
theorem dX11_mixed_55 : decode cX11_mixed 55 = .ok (.iconst 0, 1) := by decide +kernel
theorem dX11_mixed_56 : decode cX11_mixed 56 = .ok (.istore 6, 2) := by decide +kernel
theorem dX11_mixed_58 : decode cX11_mixed 58 = .ok (.iload 6, 2) := by decide +kernel
theorem dX11_mixed_60 : decode cX11_mixed 60 = .ok (.ldc 200, 2) := by decide +kernel
theorem dX11_mixed_62 : decode cX11_mixed 62 = .ok (.if_icmp .ge 143, 3) := by decide +kernel
theorem dX11_mixed_65 : decode cX11_mixed 65 = .ok (.iload 6, 2) := by decide +kernel
theorem dX11_mixed_67 : decode cX11_mixed 67 = .ok (.iload_n 2, 1) := by decide +kernel
theorem dX11_mixed_68 : decode cX11_mixed 68 = .ok (.bipush 31, 2) := by decide +kernel
theorem dX11_mixed_70 : decode cX11_mixed 70 = .ok (.iconst 0, 1) := by decide +kernel
theorem dX11_mixed_71 : decode cX11_mixed 71 = .ok (.invokestatic 201, 3) := by decide +kernel
theorem dX11_mixed_74 : decode cX11_mixed 74 = .ok (.ifCond .ne 6, 3) := by decide +kernel
theorem dX11_mixed_77 : decode cX11_mixed 77 = .ok (.goto 122, 3) := by decide +kernel
theorem dX11_mixed_80 : decode cX11_mixed 80 = .ok (.aload_n 0, 1) := by decide +kernel
theorem dX11_mixed_81 : decode cX11_mixed 81 = .ok (.iload 6, 2) := by decide +kernel
theorem dX11_mixed_83 : decode cX11_mixed 83 = .ok (.invokevirtual 193, 3) := by decide +kernel
theorem dX11_mixed_86 : decode cX11_mixed 86 = .ok (.aload_n 0, 1) := by decide +kernel
theorem dX11_mixed_87 : decode cX11_mixed 87 = .ok (.invokevirtual 186, 3) := by decide +kernel
theorem dX11_mixed_90 : decode cX11_mixed 90 = .ok (.istore 7, 2) := by decide +kernel
theorem dX11_mixed_92 : decode cX11_mixed 92 = .ok (.iload 4, 2) := by decide +kernel
theorem dX11_mixed_94 : decode cX11_mixed 94 = .ok (.iload 7, 2) := by decide +kernel
theorem dX11_mixed_96 : decode cX11_mixed 96 = .ok (.ifCond .ge 7, 3) := by decide +kernel
theorem dX11_mixed_99 : decode cX11_mixed 99 = .ok (.iconst 0, 1) := by decide +kernel
theorem dX11_mixed_100 : decode cX11_mixed 100 = .ok (.goto 7, 3) := by decide +kernel
theorem dX11_mixed_103 : decode cX11_mixed 103 = .ok (.iconst 1, 1) := by decide +kernel
theorem dX11_mixed_104 : decode cX11_mixed 104 = .ok (.iload 7, 2) := by decide +kernel
theorem dX11_mixed_106 : decode cX11_mixed 106 = .ok (.ishl, 1) := by decide +kernel
theorem dX11_mixed_107 : decode cX11_mixed 107 = .ok (.ior, 1) := by decide +kernel
theorem dX11_mixed_108 : decode cX11_mixed 108 = .ok (.istore 4, 2) := by decide +kernel
theorem dX11_mixed_110 : decode cX11_mixed 110 = .ok (.iconst 0, 1) := by decide +kernel
theorem dX11_mixed_111 : decode cX11_mixed 111 = .ok (.istore 8, 2) := by decide +kernel
theorem dX11_mixed_113 : decode cX11_mixed 113 = .ok (.iconst 0, 1) := by decide +kernel
theorem dX11_mixed_114 : decode cX11_mixed 114 = .ok (.istore 9, 2) := by decide +kernel
theorem dX11_mixed_116 : decode cX11_mixed 116 = .ok (.iload 9, 2) := by decide +kernel
theorem dX11_mixed_118 : decode cX11_mixed 118 = .ok (.iconst 4, 1) := by decide +kernel
theorem dX11_mixed_119 : decode cX11_mixed 119 = .ok (.if_icmp .ge 45, 3) := by decide +kernel
theorem dX11_mixed_122 : decode cX11_mixed 122 = .ok (.iload_n 3, 1) := by decide +kernel
theorem dX11_mixed_123 : decode cX11_mixed 123 = .ok (.ifCond .lt 41, 3) := by decide +kernel
theorem dX11_mixed_126 : decode cX11_mixed 126 = .ok (.iload 9, 2) := by decide +kernel
theorem dX11_mixed_128 : decode cX11_mixed 128 = .ok (.iload_n 3, 1) := by decide +kernel
theorem dX11_mixed_129 : decode cX11_mixed 129 = .ok (.if_icmp .eq 25, 3) := by decide +kernel
theorem dX11_mixed_132 : decode cX11_mixed 132 = .ok (.aload_n 0, 1) := by decide +kernel
theorem dX11_mixed_133 : decode cX11_mixed 133 = .ok (.getfield 79, 3) := by decide +kernel
theorem dX11_mixed_136 : decode cX11_mixed 136 = .ok (.iload 9, 2) := by decide +kernel
theorem dX11_mixed_138 : decode cX11_mixed 138 = .ok (.iaload, 1) := by decide +kernel
theorem dX11_mixed_139 : decode cX11_mixed 139 = .ok (.iload 8, 2) := by decide +kernel
theorem dX11_mixed_141 : decode cX11_mixed 141 = .ok (.if_icmp .le 13, 3) := by decide +kernel
theorem dX11_mixed_144 : decode cX11_mixed 144 = .ok (.aload_n 0, 1) := by decide +kernel
theorem dX11_mixed_145 : decode cX11_mixed 145 = .ok (.getfield 79, 3) := by decide +kernel
theorem dX11_mixed_148 : decode cX11_mixed 148 = .ok (.iload 9, 2) := by decide +kernel
theorem dX11_mixed_150 : decode cX11_mixed 150 = .ok (.iaload, 1) := by decide +kernel
theorem dX11_mixed_151 : decode cX11_mixed 151 = .ok (.goto 5, 3) := by decide +kernel
theorem dX11_mixed_154 : decode cX11_mixed 154 = .ok (.iload 8, 2) := by decide +kernel
theorem dX11_mixed_156 : decode cX11_mixed 156 = .ok (.istore 8, 2) := by decide +kernel
theorem dX11_mixed_158 : decode cX11_mixed 158 = .ok (.iinc 9 1, 3) := by decide +kernel
theorem dX11_mixed_161 : decode cX11_mixed 161 = .ok (.goto (-45), 3) := by decide +kernel
theorem dX11_mixed_164 : decode cX11_mixed 164 = .ok (.iload_n 3, 1) := by decide +kernel
theorem dX11_mixed_165 : decode cX11_mixed 165 = .ok (.ifCond .ge 7, 3) := by decide +kernel
theorem dX11_mixed_168 : decode cX11_mixed 168 = .ok (.iconst 0, 1) := by decide +kernel
theorem dX11_mixed_169 : decode cX11_mixed 169 = .ok (.goto 12, 3) := by decide +kernel
theorem dX11_mixed_172 : decode cX11_mixed 172 = .ok (.aload_n 0, 1) := by decide +kernel
theorem dX11_mixed_173 : decode cX11_mixed 173 = .ok (.getfield 79, 3) := by decide +kernel
theorem dX11_mixed_176 : decode cX11_mixed 176 = .ok (.iload_n 3, 1) := by decide +kernel
theorem dX11_mixed_177 : decode cX11_mixed 177 = .ok (.iaload, 1) := by decide +kernel
theorem dX11_mixed_178 : decode cX11_mixed 178 = .ok (.iload 8, 2) := by decide +kernel
theorem dX11_mixed_180 : decode cX11_mixed 180 = .ok (.isub, 1) := by decide +kernel
theorem dX11_mixed_181 : decode cX11_mixed 181 = .ok (.istore 9, 2) := by decide +kernel
theorem dX11_mixed_183 : decode cX11_mixed 183 = .ok (.iload 9, 2) := by decide +kernel
theorem dX11_mixed_185 : decode cX11_mixed 185 = .ok (.iload 5, 2) := by decide +kernel
theorem dX11_mixed_187 : decode cX11_mixed 187 = .ok (.if_icmp .le 8, 3) := by decide +kernel
theorem dX11_mixed_190 : decode cX11_mixed 190 = .ok (.iload 9, 2) := by decide +kernel
theorem dX11_mixed_192 : decode cX11_mixed 192 = .ok (.goto 5, 3) := by decide +kernel
theorem dX11_mixed_195 : decode cX11_mixed 195 = .ok (.iload 5, 2) := by decide +kernel
theorem dX11_mixed_197 : decode cX11_mixed 197 = .ok (.istore 5, 2) := by decide +kernel
theorem dX11_mixed_199 : decode cX11_mixed 199 = .ok (.iinc 6 1, 3) := by decide +kernel
theorem dX11_mixed_202 : decode cX11_mixed 202 = .ok (.goto (-144), 3) := by decide +kernel
theorem dX11_mixed_205 : decode cX11_mixed 205 = .ok (.iload_n 3, 1) := by decide +kernel
theorem dX11_mixed_206 : decode cX11_mixed 206 = .ok (.ifCond .ge 8, 3) := by decide +kernel
theorem dX11_mixed_209 : decode cX11_mixed 209 = .ok (.iload 4, 2) := by decide +kernel
theorem dX11_mixed_211 : decode cX11_mixed 211 = .ok (.goto 5, 3) := by decide +kernel
theorem dX11_mixed_214 : decode cX11_mixed 214 = .ok (.iload 5, 2) := by decide +kernel
theorem dX11_mixed_216 : decode cX11_mixed 216 = .ok (.ireturn, 1) := by decide +kernel
set_option maxRecDepth 20000 in
theorem ggX11_turned_X11_in : GoodIn wsX11_turned wsX11_in := goodIn_r _ [8] (by decide +kernel) (by decide +kernel)
set_option maxRecDepth 20000 in
theorem gX11_turned_X11_in : GoodIn wsX11_turned (va_wsS RX11 103 yX11_in wsX11_in) := goodIn_app (goodIn_of _ (by decide +kernel)) ggX11_turned_X11_in
set_option maxRecDepth 20000 in
theorem ggX11_turned_X11_byRule : GoodIn wsX11_turned wsX11_byRule := goodIn_r _ [12, 1, 2, 5, 6, 7, 8, 13, 14, 15, 16, 17, 18, 19, 20, 21, 22, 23, 24, 25, 26, 27, 28, 29, 30, 31, 32, 33, 43, 44, 45, 46, 47, 48, 49, 50, 51, 52, 53, 54, 55, 56, 57, 58, 59, 60, 61, 62, 63, 64, 65, 66, 67, 68, 69, 70, 71, 72, 73, 74, 75, 76, 77] (by decide +kernel) (by decide +kernel)
set_option maxRecDepth 20000 in
theorem gX11_turned_X11_byRule : GoodIn wsX11_turned (wsV RX11 205 RX11 yX11_byRule wsX11_byRule) := goodIn_app (goodIn_of _ (by decide +kernel)) ggX11_turned_X11_byRule
set_option maxRecDepth 20000 in
theorem ggX11_turned_X11_size : GoodIn wsX11_turned wsX11_size := goodIn_r _ [36, 37, 38, 7, 39] (by decide +kernel) (by decide +kernel)
set_option maxRecDepth 20000 in
theorem gX11_turned_X11_size : GoodIn wsX11_turned (va_wsS RX11 208 yX11_size wsX11_size) := goodIn_app (goodIn_of _ (by decide +kernel)) ggX11_turned_X11_size
set_option maxRecDepth 20000 in
theorem ggX11_turned_X11_isOf : GoodIn wsX11_turned wsX11_isOf := goodIn_r _ [42, 2, 37, 38, 7, 39, 5, 6, 8] (by decide +kernel) (by decide +kernel)
set_option maxRecDepth 20000 in
theorem gX11_turned_X11_isOf : GoodIn wsX11_turned (va_wsS RX11 201 yX11_isOf wsX11_isOf) := goodIn_app (goodIn_of _ (by decide +kernel)) ggX11_turned_X11_isOf
set_option maxRecDepth 20000 in
theorem ggX11_turned_X11_mixes : GoodIn wsX11_turned wsX11_mixes := goodIn_r _ [28, 29, 17, 43, 44, 45, 46, 47, 48, 49, 50, 51, 52, 53, 54, 55, 56, 57, 58, 59, 60, 61, 62, 63, 64, 65, 66, 67, 68, 69, 70, 71, 72, 73, 74, 75, 76, 77] (by decide +kernel) (by decide +kernel)
set_option maxRecDepth 20000 in
theorem gX11_turned_X11_mixes : GoodIn wsX11_turned (wsV RX11 193 RX11 yX11_mixes wsX11_mixes) := goodIn_app (goodIn_of _ (by decide +kernel)) ggX11_turned_X11_mixes
set_option maxRecDepth 20000 in
theorem ggX11_turned_X11_most : GoodIn wsX11_turned wsX11_most := goodIn_r _ [33, 29, 43, 44, 45, 46, 47, 48, 49, 50, 51, 52, 53, 54, 55, 56, 57, 58, 59, 60, 61, 62, 63, 64, 65, 66, 67, 68, 69, 70, 71, 72, 73, 74, 75, 76, 77] (by decide +kernel) (by decide +kernel)
set_option maxRecDepth 20000 in
theorem gX11_turned_X11_most : GoodIn wsX11_turned (wsV RX11 186 RX11 yX11_most wsX11_most) := goodIn_app (goodIn_of _ (by decide +kernel)) ggX11_turned_X11_most
theorem dX11_turned_0 : decode cX11_turned 0 = .ok (.iload_n 1, 1) := by decide +kernel
theorem dX11_turned_1 : decode cX11_turned 1 = .ok (.i2l, 1) := by decide +kernel
theorem dX11_turned_2 : decode cX11_turned 2 = .ok (.lconst 0, 1) := by decide +kernel
theorem dX11_turned_3 : decode cX11_turned 3 = .ok (.ldc2_w 115, 3) := by decide +kernel
theorem dX11_turned_6 : decode cX11_turned 6 = .ok (.invokestatic 103, 3) := by decide +kernel
theorem dX11_turned_9 : decode cX11_turned 9 = .ok (.ifCond .eq 27, 3) := by decide +kernel
theorem dX11_turned_12 : decode cX11_turned 12 = .ok (.iload_n 2, 1) := by decide +kernel
theorem dX11_turned_13 : decode cX11_turned 13 = .ok (.i2l, 1) := by decide +kernel
theorem dX11_turned_14 : decode cX11_turned 14 = .ok (.lconst 1, 1) := by decide +kernel
theorem dX11_turned_15 : decode cX11_turned 15 = .ok (.ldc2_w 157, 3) := by decide +kernel
theorem dX11_turned_18 : decode cX11_turned 18 = .ok (.invokestatic 103, 3) := by decide +kernel
theorem dX11_turned_21 : decode cX11_turned 21 = .ok (.ifCond .eq 15, 3) := by decide +kernel
theorem dX11_turned_24 : decode cX11_turned 24 = .ok (.iload_n 3, 1) := by decide +kernel
theorem dX11_turned_25 : decode cX11_turned 25 = .ok (.i2l, 1) := by decide +kernel
theorem dX11_turned_26 : decode cX11_turned 26 = .ok (.lconst 1, 1) := by decide +kernel
theorem dX11_turned_27 : decode cX11_turned 27 = .ok (.ldc2_w 196, 3) := by decide +kernel
theorem dX11_turned_30 : decode cX11_turned 30 = .ok (.invokestatic 103, 3) := by decide +kernel
theorem dX11_turned_33 : decode cX11_turned 33 = .ok (.ifCond .ne 5, 3) := by decide +kernel
theorem dX11_turned_36 : decode cX11_turned 36 = .ok (.iconst (-1), 1) := by decide +kernel
theorem dX11_turned_37 : decode cX11_turned 37 = .ok (.ireturn, 1) := by decide +kernel
theorem dX11_turned_38 : decode cX11_turned 38 = .ok (.aload_n 0, 1) := by decide +kernel
theorem dX11_turned_39 : decode cX11_turned 39 = .ok (.iload_n 1, 1) := by decide +kernel
theorem dX11_turned_40 : decode cX11_turned 40 = .ok (.iload_n 2, 1) := by decide +kernel
theorem dX11_turned_41 : decode cX11_turned 41 = .ok (.invokevirtual 205, 3) := by decide +kernel
theorem dX11_turned_44 : decode cX11_turned 44 = .ok (.istore 4, 2) := by decide +kernel
theorem dX11_turned_46 : decode cX11_turned 46 = .ok (.iload 4, 2) := by decide +kernel
theorem dX11_turned_48 : decode cX11_turned 48 = .ok (.ifCond .ge 6, 3) := by decide +kernel
theorem dX11_turned_51 : decode cX11_turned 51 = .ok (.bipush (-2), 2) := by decide +kernel
theorem dX11_turned_53 : decode cX11_turned 53 = .ok (.ireturn, 1) := by decide +kernel
theorem dX11_turned_54 : decode cX11_turned 54 = .ok (.iload_n 3, 1) := by decide +kernel
theorem dX11_turned_55 : decode cX11_turned 55 = .ok (.iconst 1, 1) := by decide +kernel
theorem dX11_turned_56 : decode cX11_turned 56 = .ok (.iload_n 2, 1) := by decide +kernel
theorem dX11_turned_57 : decode cX11_turned 57 = .ok (.iconst 1, 1) := by decide +kernel
theorem dX11_turned_58 : decode cX11_turned 58 = .ok (.isub, 1) := by decide +kernel
theorem dX11_turned_59 : decode cX11_turned 59 = .ok (.ishl, 1) := by decide +kernel
theorem dX11_turned_60 : decode cX11_turned 60 = .ok (.iconst (-1), 1) := by decide +kernel
theorem dX11_turned_61 : decode cX11_turned 61 = .ok (.ixor, 1) := by decide +kernel
theorem dX11_turned_62 : decode cX11_turned 62 = .ok (.iand, 1) := by decide +kernel
theorem dX11_turned_63 : decode cX11_turned 63 = .ok (.istore 5, 2) := by decide +kernel
theorem dX11_turned_65 : decode cX11_turned 65 = .ok (.bipush (-4), 2) := by decide +kernel
theorem dX11_turned_67 : decode cX11_turned 67 = .ok (.istore 6, 2) := by decide +kernel
theorem dX11_turned_69 : decode cX11_turned 69 = .ok (.iconst 1, 1) := by decide +kernel
theorem dX11_turned_70 : decode cX11_turned 70 = .ok (.istore 7, 2) := by decide +kernel
theorem dX11_turned_72 : decode cX11_turned 72 = .ok (.iload 7, 2) := by decide +kernel
theorem dX11_turned_74 : decode cX11_turned 74 = .ok (.bipush 32, 2) := by decide +kernel
theorem dX11_turned_76 : decode cX11_turned 76 = .ok (.if_icmp .ge 112, 3) := by decide +kernel
theorem dX11_turned_79 : decode cX11_turned 79 = .ok (.iload 6, 2) := by decide +kernel
theorem dX11_turned_81 : decode cX11_turned 81 = .ok (.ifCond .lt 19, 3) := by decide +kernel
theorem dX11_turned_84 : decode cX11_turned 84 = .ok (.iload 7, 2) := by decide +kernel
theorem dX11_turned_86 : decode cX11_turned 86 = .ok (.invokestatic 208, 3) := by decide +kernel
theorem dX11_turned_89 : decode cX11_turned 89 = .ok (.iload 6, 2) := by decide +kernel
theorem dX11_turned_91 : decode cX11_turned 91 = .ok (.invokestatic 208, 3) := by decide +kernel
theorem dX11_turned_94 : decode cX11_turned 94 = .ok (.if_icmp .lt 6, 3) := by decide +kernel
theorem dX11_turned_97 : decode cX11_turned 97 = .ok (.goto 85, 3) := by decide +kernel
theorem dX11_turned_100 : decode cX11_turned 100 = .ok (.iconst 0, 1) := by decide +kernel
theorem dX11_turned_101 : decode cX11_turned 101 = .ok (.istore 8, 2) := by decide +kernel
theorem dX11_turned_103 : decode cX11_turned 103 = .ok (.iconst 0, 1) := by decide +kernel
theorem dX11_turned_104 : decode cX11_turned 104 = .ok (.istore 9, 2) := by decide +kernel
theorem dX11_turned_106 : decode cX11_turned 106 = .ok (.iload 9, 2) := by decide +kernel
theorem dX11_turned_108 : decode cX11_turned 108 = .ok (.ldc 200, 2) := by decide +kernel
theorem dX11_turned_110 : decode cX11_turned 110 = .ok (.if_icmp .ge 58, 3) := by decide +kernel
theorem dX11_turned_113 : decode cX11_turned 113 = .ok (.iload 8, 2) := by decide +kernel
theorem dX11_turned_115 : decode cX11_turned 115 = .ok (.ifCond .ne 53, 3) := by decide +kernel
theorem dX11_turned_118 : decode cX11_turned 118 = .ok (.iload 9, 2) := by decide +kernel
theorem dX11_turned_120 : decode cX11_turned 120 = .ok (.iload 5, 2) := by decide +kernel
theorem dX11_turned_122 : decode cX11_turned 122 = .ok (.iload 7, 2) := by decide +kernel
theorem dX11_turned_124 : decode cX11_turned 124 = .ok (.iload_n 2, 1) := by decide +kernel
theorem dX11_turned_125 : decode cX11_turned 125 = .ok (.invokestatic 201, 3) := by decide +kernel
theorem dX11_turned_128 : decode cX11_turned 128 = .ok (.ifCond .eq 34, 3) := by decide +kernel
theorem dX11_turned_131 : decode cX11_turned 131 = .ok (.aload_n 0, 1) := by decide +kernel
theorem dX11_turned_132 : decode cX11_turned 132 = .ok (.iload 9, 2) := by decide +kernel
theorem dX11_turned_134 : decode cX11_turned 134 = .ok (.invokevirtual 193, 3) := by decide +kernel
theorem dX11_turned_137 : decode cX11_turned 137 = .ok (.aload_n 0, 1) := by decide +kernel
theorem dX11_turned_138 : decode cX11_turned 138 = .ok (.invokevirtual 186, 3) := by decide +kernel
theorem dX11_turned_141 : decode cX11_turned 141 = .ok (.istore 10, 2) := by decide +kernel
theorem dX11_turned_143 : decode cX11_turned 143 = .ok (.iload 10, 2) := by decide +kernel
theorem dX11_turned_145 : decode cX11_turned 145 = .ok (.ifCond .lt 14, 3) := by decide +kernel
theorem dX11_turned_148 : decode cX11_turned 148 = .ok (.iload 10, 2) := by decide +kernel
theorem dX11_turned_150 : decode cX11_turned 150 = .ok (.iload 4, 2) := by decide +kernel
theorem dX11_turned_152 : decode cX11_turned 152 = .ok (.if_icmp .eq 7, 3) := by decide +kernel
theorem dX11_turned_155 : decode cX11_turned 155 = .ok (.iconst 1, 1) := by decide +kernel
theorem dX11_turned_156 : decode cX11_turned 156 = .ok (.goto 4, 3) := by decide +kernel
theorem dX11_turned_159 : decode cX11_turned 159 = .ok (.iconst 0, 1) := by decide +kernel
theorem dX11_turned_160 : decode cX11_turned 160 = .ok (.istore 8, 2) := by decide +kernel
theorem dX11_turned_162 : decode cX11_turned 162 = .ok (.iinc 9 1, 3) := by decide +kernel
theorem dX11_turned_165 : decode cX11_turned 165 = .ok (.goto (-59), 3) := by decide +kernel
theorem dX11_turned_168 : decode cX11_turned 168 = .ok (.iload 8, 2) := by decide +kernel
theorem dX11_turned_170 : decode cX11_turned 170 = .ok (.ifCond .eq 8, 3) := by decide +kernel
theorem dX11_turned_173 : decode cX11_turned 173 = .ok (.iload 7, 2) := by decide +kernel
theorem dX11_turned_175 : decode cX11_turned 175 = .ok (.goto 5, 3) := by decide +kernel
theorem dX11_turned_178 : decode cX11_turned 178 = .ok (.iload 6, 2) := by decide +kernel
theorem dX11_turned_180 : decode cX11_turned 180 = .ok (.istore 6, 2) := by decide +kernel
theorem dX11_turned_182 : decode cX11_turned 182 = .ok (.iinc 7 1, 3) := by decide +kernel
theorem dX11_turned_185 : decode cX11_turned 185 = .ok (.goto (-113), 3) := by decide +kernel
theorem dX11_turned_188 : decode cX11_turned 188 = .ok (.iload 6, 2) := by decide +kernel
theorem dX11_turned_190 : decode cX11_turned 190 = .ok (.ireturn, 1) := by decide +kernel
set_option maxRecDepth 20000 in
theorem ggX11_least_X11_in : GoodIn wsX11_least wsX11_in := goodIn_r _ [8] (by decide +kernel) (by decide +kernel)
set_option maxRecDepth 20000 in
theorem gX11_least_X11_in : GoodIn wsX11_least (va_wsS RX11 103 yX11_in wsX11_in) := goodIn_app (goodIn_of _ (by decide +kernel)) ggX11_least_X11_in
set_option maxRecDepth 20000 in
theorem ggX11_least_X11_isHour : GoodIn wsX11_least wsX11_isHour := goodIn_r _ [11, 12, 5, 6, 7, 8] (by decide +kernel) (by decide +kernel)
set_option maxRecDepth 20000 in
theorem gX11_least_X11_isHour : GoodIn wsX11_least (va_wsS RX11 131 yX11_isHour wsX11_isHour) := goodIn_app (goodIn_of _ (by decide +kernel)) ggX11_least_X11_isHour
set_option maxRecDepth 20000 in
theorem ggX11_least_X11_countedOf : GoodIn wsX11_least wsX11_countedOf := goodIn_r _ [16, 4, 17, 18, 19, 7, 20, 21, 22, 23, 24, 25, 26, 27, 28, 29, 30, 31, 32, 33, 34, 35, 36, 37, 38, 39, 40, 41, 42, 43, 44, 45, 46, 47, 48, 49, 50, 51, 52, 53, 54, 55, 56, 57, 58, 59, 60, 61, 62, 63, 64, 65, 66, 67, 68, 69, 70, 71, 72, 73, 74, 75, 76, 77, 78, 79] (by decide +kernel) (by decide +kernel)
set_option maxRecDepth 20000 in
theorem gX11_least_X11_countedOf : GoodIn wsX11_least (wsV RX11 182 RX11 yX11_countedOf wsX11_countedOf) := goodIn_app (goodIn_of _ (by decide +kernel)) ggX11_least_X11_countedOf
theorem dX11_least_0 : decode cX11_least 0 = .ok (.iload_n 1, 1) := by decide +kernel
theorem dX11_least_1 : decode cX11_least 1 = .ok (.i2l, 1) := by decide +kernel
theorem dX11_least_2 : decode cX11_least 2 = .ok (.lconst 0, 1) := by decide +kernel
theorem dX11_least_3 : decode cX11_least 3 = .ok (.ldc2_w 115, 3) := by decide +kernel
theorem dX11_least_6 : decode cX11_least 6 = .ok (.invokestatic 103, 3) := by decide +kernel
theorem dX11_least_9 : decode cX11_least 9 = .ok (.ifCond .eq 22, 3) := by decide +kernel
theorem dX11_least_12 : decode cX11_least 12 = .ok (.iload_n 2, 1) := by decide +kernel
theorem dX11_least_13 : decode cX11_least 13 = .ok (.i2l, 1) := by decide +kernel
theorem dX11_least_14 : decode cX11_least 14 = .ok (.lconst 0, 1) := by decide +kernel
theorem dX11_least_15 : decode cX11_least 15 = .ok (.ldc2_w 117, 3) := by decide +kernel
theorem dX11_least_18 : decode cX11_least 18 = .ok (.invokestatic 103, 3) := by decide +kernel
theorem dX11_least_21 : decode cX11_least 21 = .ok (.ifCond .eq 10, 3) := by decide +kernel
theorem dX11_least_24 : decode cX11_least 24 = .ok (.iload_n 3, 1) := by decide +kernel
theorem dX11_least_25 : decode cX11_least 25 = .ok (.invokestatic 131, 3) := by decide +kernel
theorem dX11_least_28 : decode cX11_least 28 = .ok (.ifCond .ne 5, 3) := by decide +kernel
theorem dX11_least_31 : decode cX11_least 31 = .ok (.iconst (-1), 1) := by decide +kernel
theorem dX11_least_32 : decode cX11_least 32 = .ok (.ireturn, 1) := by decide +kernel
theorem dX11_least_33 : decode cX11_least 33 = .ok (.iconst 0, 1) := by decide +kernel
theorem dX11_least_34 : decode cX11_least 34 = .ok (.istore 4, 2) := by decide +kernel
theorem dX11_least_36 : decode cX11_least 36 = .ok (.iload 4, 2) := by decide +kernel
theorem dX11_least_38 : decode cX11_least 38 = .ok (.iconst 4, 1) := by decide +kernel
theorem dX11_least_39 : decode cX11_least 39 = .ok (.if_icmp .ge 26, 3) := by decide +kernel
theorem dX11_least_42 : decode cX11_least 42 = .ok (.aload_n 0, 1) := by decide +kernel
theorem dX11_least_43 : decode cX11_least 43 = .ok (.getfield 79, 3) := by decide +kernel
theorem dX11_least_46 : decode cX11_least 46 = .ok (.iload 4, 2) := by decide +kernel
theorem dX11_least_48 : decode cX11_least 48 = .ok (.aload_n 0, 1) := by decide +kernel
theorem dX11_least_49 : decode cX11_least 49 = .ok (.iconst 5, 1) := by decide +kernel
theorem dX11_least_50 : decode cX11_least 50 = .ok (.iload_n 1, 1) := by decide +kernel
theorem dX11_least_51 : decode cX11_least 51 = .ok (.iload 4, 2) := by decide +kernel
theorem dX11_least_53 : decode cX11_least 53 = .ok (.iload_n 3, 1) := by decide +kernel
theorem dX11_least_54 : decode cX11_least 54 = .ok (.iconst 0, 1) := by decide +kernel
theorem dX11_least_55 : decode cX11_least 55 = .ok (.invokevirtual 182, 3) := by decide +kernel
theorem dX11_least_58 : decode cX11_least 58 = .ok (.iastore, 1) := by decide +kernel
theorem dX11_least_59 : decode cX11_least 59 = .ok (.iinc 4 1, 3) := by decide +kernel
theorem dX11_least_62 : decode cX11_least 62 = .ok (.goto (-26), 3) := by decide +kernel
theorem dX11_least_65 : decode cX11_least 65 = .ok (.iconst 0, 1) := by decide +kernel
theorem dX11_least_66 : decode cX11_least 66 = .ok (.istore 4, 2) := by decide +kernel
theorem dX11_least_68 : decode cX11_least 68 = .ok (.iload 4, 2) := by decide +kernel
theorem dX11_least_70 : decode cX11_least 70 = .ok (.aload_n 0, 1) := by decide +kernel
theorem dX11_least_71 : decode cX11_least 71 = .ok (.getfield 7, 3) := by decide +kernel
theorem dX11_least_74 : decode cX11_least 74 = .ok (.iconst 0, 1) := by decide +kernel
theorem dX11_least_75 : decode cX11_least 75 = .ok (.iaload, 1) := by decide +kernel
theorem dX11_least_76 : decode cX11_least 76 = .ok (.aload_n 0, 1) := by decide +kernel
theorem dX11_least_77 : decode cX11_least 77 = .ok (.getfield 79, 3) := by decide +kernel
theorem dX11_least_80 : decode cX11_least 80 = .ok (.iload_n 2, 1) := by decide +kernel
theorem dX11_least_81 : decode cX11_least 81 = .ok (.iaload, 1) := by decide +kernel
theorem dX11_least_82 : decode cX11_least 82 = .ok (.isub, 1) := by decide +kernel
theorem dX11_least_83 : decode cX11_least 83 = .ok (.if_icmp .gt 92, 3) := by decide +kernel
theorem dX11_least_86 : decode cX11_least 86 = .ok (.aload_n 0, 1) := by decide +kernel
theorem dX11_least_87 : decode cX11_least 87 = .ok (.getfield 79, 3) := by decide +kernel
theorem dX11_least_90 : decode cX11_least 90 = .ok (.iload_n 2, 1) := by decide +kernel
theorem dX11_least_91 : decode cX11_least 91 = .ok (.iaload, 1) := by decide +kernel
theorem dX11_least_92 : decode cX11_least 92 = .ok (.iload 4, 2) := by decide +kernel
theorem dX11_least_94 : decode cX11_least 94 = .ok (.iadd, 1) := by decide +kernel
theorem dX11_least_95 : decode cX11_least 95 = .ok (.istore 5, 2) := by decide +kernel
theorem dX11_least_97 : decode cX11_least 97 = .ok (.iconst 0, 1) := by decide +kernel
theorem dX11_least_98 : decode cX11_least 98 = .ok (.istore 6, 2) := by decide +kernel
theorem dX11_least_100 : decode cX11_least 100 = .ok (.iconst 0, 1) := by decide +kernel
theorem dX11_least_101 : decode cX11_least 101 = .ok (.istore 7, 2) := by decide +kernel
theorem dX11_least_103 : decode cX11_least 103 = .ok (.iload 7, 2) := by decide +kernel
theorem dX11_least_105 : decode cX11_least 105 = .ok (.iconst 4, 1) := by decide +kernel
theorem dX11_least_106 : decode cX11_least 106 = .ok (.if_icmp .ge 48, 3) := by decide +kernel
theorem dX11_least_109 : decode cX11_least 109 = .ok (.iload 6, 2) := by decide +kernel
theorem dX11_least_111 : decode cX11_least 111 = .ok (.iload 7, 2) := by decide +kernel
theorem dX11_least_113 : decode cX11_least 113 = .ok (.iload_n 2, 1) := by decide +kernel
theorem dX11_least_114 : decode cX11_least 114 = .ok (.if_icmp .eq 30, 3) := by decide +kernel
theorem dX11_least_117 : decode cX11_least 117 = .ok (.aload_n 0, 1) := by decide +kernel
theorem dX11_least_118 : decode cX11_least 118 = .ok (.getfield 79, 3) := by decide +kernel
theorem dX11_least_121 : decode cX11_least 121 = .ok (.iload 7, 2) := by decide +kernel
theorem dX11_least_123 : decode cX11_least 123 = .ok (.iaload, 1) := by decide +kernel
theorem dX11_least_124 : decode cX11_least 124 = .ok (.iload 5, 2) := by decide +kernel
theorem dX11_least_126 : decode cX11_least 126 = .ok (.if_icmp .lt 18, 3) := by decide +kernel
theorem dX11_least_129 : decode cX11_least 129 = .ok (.aload_n 0, 1) := by decide +kernel
theorem dX11_least_130 : decode cX11_least 130 = .ok (.getfield 79, 3) := by decide +kernel
theorem dX11_least_133 : decode cX11_least 133 = .ok (.iload 7, 2) := by decide +kernel
theorem dX11_least_135 : decode cX11_least 135 = .ok (.iaload, 1) := by decide +kernel
theorem dX11_least_136 : decode cX11_least 136 = .ok (.iload 5, 2) := by decide +kernel
theorem dX11_least_138 : decode cX11_least 138 = .ok (.isub, 1) := by decide +kernel
theorem dX11_least_139 : decode cX11_least 139 = .ok (.iconst 1, 1) := by decide +kernel
theorem dX11_least_140 : decode cX11_least 140 = .ok (.iadd, 1) := by decide +kernel
theorem dX11_least_141 : decode cX11_least 141 = .ok (.goto 4, 3) := by decide +kernel
theorem dX11_least_144 : decode cX11_least 144 = .ok (.iconst 0, 1) := by decide +kernel
theorem dX11_least_145 : decode cX11_least 145 = .ok (.iadd, 1) := by decide +kernel
theorem dX11_least_146 : decode cX11_least 146 = .ok (.istore 6, 2) := by decide +kernel
theorem dX11_least_148 : decode cX11_least 148 = .ok (.iinc 7 1, 3) := by decide +kernel
theorem dX11_least_151 : decode cX11_least 151 = .ok (.goto (-48), 3) := by decide +kernel
theorem dX11_least_154 : decode cX11_least 154 = .ok (.iload 5, 2) := by decide +kernel
theorem dX11_least_156 : decode cX11_least 156 = .ok (.ifCond .le 13, 3) := by decide +kernel
theorem dX11_least_159 : decode cX11_least 159 = .ok (.iload 6, 2) := by decide +kernel
theorem dX11_least_161 : decode cX11_least 161 = .ok (.iload 4, 2) := by decide +kernel
theorem dX11_least_163 : decode cX11_least 163 = .ok (.if_icmp .gt 6, 3) := by decide +kernel
theorem dX11_least_166 : decode cX11_least 166 = .ok (.iload 4, 2) := by decide +kernel
theorem dX11_least_168 : decode cX11_least 168 = .ok (.ireturn, 1) := by decide +kernel
theorem dX11_least_169 : decode cX11_least 169 = .ok (.iinc 4 1, 3) := by decide +kernel
theorem dX11_least_172 : decode cX11_least 172 = .ok (.goto (-104), 3) := by decide +kernel
theorem dX11_least_175 : decode cX11_least 175 = .ok (.bipush (-4), 2) := by decide +kernel
theorem dX11_least_177 : decode cX11_least 177 = .ok (.ireturn, 1) := by decide +kernel
theorem dX11_meantBy_0 : decode cX11_meantBy 0 = .ok (.iconst 0, 1) := by decide +kernel
theorem dX11_meantBy_1 : decode cX11_meantBy 1 = .ok (.istore_n 3, 1) := by decide +kernel
theorem dX11_meantBy_2 : decode cX11_meantBy 2 = .ok (.iconst 0, 1) := by decide +kernel
theorem dX11_meantBy_3 : decode cX11_meantBy 3 = .ok (.istore 4, 2) := by decide +kernel
theorem dX11_meantBy_5 : decode cX11_meantBy 5 = .ok (.iconst 0, 1) := by decide +kernel
theorem dX11_meantBy_6 : decode cX11_meantBy 6 = .ok (.istore 5, 2) := by decide +kernel
theorem dX11_meantBy_8 : decode cX11_meantBy 8 = .ok (.iload 5, 2) := by decide +kernel
theorem dX11_meantBy_10 : decode cX11_meantBy 10 = .ok (.iconst 4, 1) := by decide +kernel
theorem dX11_meantBy_11 : decode cX11_meantBy 11 = .ok (.if_icmp .ge 62, 3) := by decide +kernel
theorem dX11_meantBy_14 : decode cX11_meantBy 14 = .ok (.aload_n 0, 1) := by decide +kernel
theorem dX11_meantBy_15 : decode cX11_meantBy 15 = .ok (.getfield 16, 3) := by decide +kernel
theorem dX11_meantBy_18 : decode cX11_meantBy 18 = .ok (.bipush 12, 2) := by decide +kernel
theorem dX11_meantBy_20 : decode cX11_meantBy 20 = .ok (.iload_n 1, 1) := by decide +kernel
theorem dX11_meantBy_21 : decode cX11_meantBy 21 = .ok (.imul, 1) := by decide +kernel
theorem dX11_meantBy_22 : decode cX11_meantBy 22 = .ok (.iconst 4, 1) := by decide +kernel
theorem dX11_meantBy_23 : decode cX11_meantBy 23 = .ok (.iload_n 2, 1) := by decide +kernel
theorem dX11_meantBy_24 : decode cX11_meantBy 24 = .ok (.imul, 1) := by decide +kernel
theorem dX11_meantBy_25 : decode cX11_meantBy 25 = .ok (.iadd, 1) := by decide +kernel
theorem dX11_meantBy_26 : decode cX11_meantBy 26 = .ok (.iload 5, 2) := by decide +kernel
theorem dX11_meantBy_28 : decode cX11_meantBy 28 = .ok (.iadd, 1) := by decide +kernel
theorem dX11_meantBy_29 : decode cX11_meantBy 29 = .ok (.iaload, 1) := by decide +kernel
theorem dX11_meantBy_30 : decode cX11_meantBy 30 = .ok (.istore 6, 2) := by decide +kernel
theorem dX11_meantBy_32 : decode cX11_meantBy 32 = .ok (.iload_n 3, 1) := by decide +kernel
theorem dX11_meantBy_33 : decode cX11_meantBy 33 = .ok (.iload 6, 2) := by decide +kernel
theorem dX11_meantBy_35 : decode cX11_meantBy 35 = .ok (.iconst 5, 1) := by decide +kernel
theorem dX11_meantBy_36 : decode cX11_meantBy 36 = .ok (.if_icmp .ne 10, 3) := by decide +kernel
theorem dX11_meantBy_39 : decode cX11_meantBy 39 = .ok (.iconst 1, 1) := by decide +kernel
theorem dX11_meantBy_40 : decode cX11_meantBy 40 = .ok (.iload 5, 2) := by decide +kernel
theorem dX11_meantBy_42 : decode cX11_meantBy 42 = .ok (.ishl, 1) := by decide +kernel
theorem dX11_meantBy_43 : decode cX11_meantBy 43 = .ok (.goto 4, 3) := by decide +kernel
theorem dX11_meantBy_46 : decode cX11_meantBy 46 = .ok (.iconst 0, 1) := by decide +kernel
theorem dX11_meantBy_47 : decode cX11_meantBy 47 = .ok (.ior, 1) := by decide +kernel
theorem dX11_meantBy_48 : decode cX11_meantBy 48 = .ok (.istore_n 3, 1) := by decide +kernel
theorem dX11_meantBy_49 : decode cX11_meantBy 49 = .ok (.iload 4, 2) := by decide +kernel
theorem dX11_meantBy_51 : decode cX11_meantBy 51 = .ok (.iload 6, 2) := by decide +kernel
theorem dX11_meantBy_53 : decode cX11_meantBy 53 = .ok (.ifCond .le 10, 3) := by decide +kernel
theorem dX11_meantBy_56 : decode cX11_meantBy 56 = .ok (.iconst 1, 1) := by decide +kernel
theorem dX11_meantBy_57 : decode cX11_meantBy 57 = .ok (.iload 5, 2) := by decide +kernel
theorem dX11_meantBy_59 : decode cX11_meantBy 59 = .ok (.ishl, 1) := by decide +kernel
theorem dX11_meantBy_60 : decode cX11_meantBy 60 = .ok (.goto 4, 3) := by decide +kernel
theorem dX11_meantBy_63 : decode cX11_meantBy 63 = .ok (.iconst 0, 1) := by decide +kernel
theorem dX11_meantBy_64 : decode cX11_meantBy 64 = .ok (.ior, 1) := by decide +kernel
theorem dX11_meantBy_65 : decode cX11_meantBy 65 = .ok (.istore 4, 2) := by decide +kernel
theorem dX11_meantBy_67 : decode cX11_meantBy 67 = .ok (.iinc 5 1, 3) := by decide +kernel
theorem dX11_meantBy_70 : decode cX11_meantBy 70 = .ok (.goto (-62), 3) := by decide +kernel
theorem dX11_meantBy_73 : decode cX11_meantBy 73 = .ok (.iload 4, 2) := by decide +kernel
theorem dX11_meantBy_75 : decode cX11_meantBy 75 = .ok (.ifCond .eq 14, 3) := by decide +kernel
theorem dX11_meantBy_78 : decode cX11_meantBy 78 = .ok (.iload_n 3, 1) := by decide +kernel
theorem dX11_meantBy_79 : decode cX11_meantBy 79 = .ok (.ifCond .eq 7, 3) := by decide +kernel
theorem dX11_meantBy_82 : decode cX11_meantBy 82 = .ok (.iload_n 3, 1) := by decide +kernel
theorem dX11_meantBy_83 : decode cX11_meantBy 83 = .ok (.goto 5, 3) := by decide +kernel
theorem dX11_meantBy_86 : decode cX11_meantBy 86 = .ok (.iload 4, 2) := by decide +kernel
theorem dX11_meantBy_88 : decode cX11_meantBy 88 = .ok (.ireturn, 1) := by decide +kernel
theorem dX11_meantBy_89 : decode cX11_meantBy 89 = .ok (.iconst 0, 1) := by decide +kernel
theorem dX11_meantBy_90 : decode cX11_meantBy 90 = .ok (.istore 5, 2) := by decide +kernel
theorem dX11_meantBy_92 : decode cX11_meantBy 92 = .ok (.iconst 0, 1) := by decide +kernel
theorem dX11_meantBy_93 : decode cX11_meantBy 93 = .ok (.istore 6, 2) := by decide +kernel
theorem dX11_meantBy_95 : decode cX11_meantBy 95 = .ok (.iload 6, 2) := by decide +kernel
theorem dX11_meantBy_97 : decode cX11_meantBy 97 = .ok (.iconst 4, 1) := by decide +kernel
theorem dX11_meantBy_98 : decode cX11_meantBy 98 = .ok (.if_icmp .ge 95, 3) := by decide +kernel
theorem dX11_meantBy_101 : decode cX11_meantBy 101 = .ok (.iconst 1, 1) := by decide +kernel
theorem dX11_meantBy_102 : decode cX11_meantBy 102 = .ok (.istore 7, 2) := by decide +kernel
theorem dX11_meantBy_104 : decode cX11_meantBy 104 = .ok (.iconst 0, 1) := by decide +kernel
theorem dX11_meantBy_105 : decode cX11_meantBy 105 = .ok (.istore 8, 2) := by decide +kernel
theorem dX11_meantBy_107 : decode cX11_meantBy 107 = .ok (.iload 8, 2) := by decide +kernel
theorem dX11_meantBy_109 : decode cX11_meantBy 109 = .ok (.bipush 12, 2) := by decide +kernel
theorem dX11_meantBy_111 : decode cX11_meantBy 111 = .ok (.if_icmp .ge 58, 3) := by decide +kernel
theorem dX11_meantBy_114 : decode cX11_meantBy 114 = .ok (.iload 7, 2) := by decide +kernel
theorem dX11_meantBy_116 : decode cX11_meantBy 116 = .ok (.ifCond .eq 44, 3) := by decide +kernel
theorem dX11_meantBy_119 : decode cX11_meantBy 119 = .ok (.iload 8, 2) := by decide +kernel
theorem dX11_meantBy_121 : decode cX11_meantBy 121 = .ok (.iconst 4, 1) := by decide +kernel
theorem dX11_meantBy_122 : decode cX11_meantBy 122 = .ok (.idiv, 1) := by decide +kernel
theorem dX11_meantBy_123 : decode cX11_meantBy 123 = .ok (.iload_n 2, 1) := by decide +kernel
theorem dX11_meantBy_124 : decode cX11_meantBy 124 = .ok (.if_icmp .eq 32, 3) := by decide +kernel
theorem dX11_meantBy_127 : decode cX11_meantBy 127 = .ok (.aload_n 0, 1) := by decide +kernel
theorem dX11_meantBy_128 : decode cX11_meantBy 128 = .ok (.getfield 16, 3) := by decide +kernel
theorem dX11_meantBy_131 : decode cX11_meantBy 131 = .ok (.bipush 12, 2) := by decide +kernel
theorem dX11_meantBy_133 : decode cX11_meantBy 133 = .ok (.iload_n 1, 1) := by decide +kernel
theorem dX11_meantBy_134 : decode cX11_meantBy 134 = .ok (.imul, 1) := by decide +kernel
theorem dX11_meantBy_135 : decode cX11_meantBy 135 = .ok (.iload 8, 2) := by decide +kernel
theorem dX11_meantBy_137 : decode cX11_meantBy 137 = .ok (.iadd, 1) := by decide +kernel
theorem dX11_meantBy_138 : decode cX11_meantBy 138 = .ok (.iaload, 1) := by decide +kernel
theorem dX11_meantBy_139 : decode cX11_meantBy 139 = .ok (.iload 8, 2) := by decide +kernel
theorem dX11_meantBy_141 : decode cX11_meantBy 141 = .ok (.iconst 4, 1) := by decide +kernel
theorem dX11_meantBy_142 : decode cX11_meantBy 142 = .ok (.irem, 1) := by decide +kernel
theorem dX11_meantBy_143 : decode cX11_meantBy 143 = .ok (.iload 6, 2) := by decide +kernel
theorem dX11_meantBy_145 : decode cX11_meantBy 145 = .ok (.if_icmp .ne 7, 3) := by decide +kernel
theorem dX11_meantBy_148 : decode cX11_meantBy 148 = .ok (.iconst 5, 1) := by decide +kernel
theorem dX11_meantBy_149 : decode cX11_meantBy 149 = .ok (.goto 4, 3) := by decide +kernel
theorem dX11_meantBy_152 : decode cX11_meantBy 152 = .ok (.iconst 0, 1) := by decide +kernel
theorem dX11_meantBy_153 : decode cX11_meantBy 153 = .ok (.if_icmp .ne 7, 3) := by decide +kernel
theorem dX11_meantBy_156 : decode cX11_meantBy 156 = .ok (.iconst 1, 1) := by decide +kernel
theorem dX11_meantBy_157 : decode cX11_meantBy 157 = .ok (.goto 4, 3) := by decide +kernel
theorem dX11_meantBy_160 : decode cX11_meantBy 160 = .ok (.iconst 0, 1) := by decide +kernel
theorem dX11_meantBy_161 : decode cX11_meantBy 161 = .ok (.istore 7, 2) := by decide +kernel
theorem dX11_meantBy_163 : decode cX11_meantBy 163 = .ok (.iinc 8 1, 3) := by decide +kernel
theorem dX11_meantBy_166 : decode cX11_meantBy 166 = .ok (.goto (-59), 3) := by decide +kernel
theorem dX11_meantBy_169 : decode cX11_meantBy 169 = .ok (.iload 5, 2) := by decide +kernel
theorem dX11_meantBy_171 : decode cX11_meantBy 171 = .ok (.iload 7, 2) := by decide +kernel
theorem dX11_meantBy_173 : decode cX11_meantBy 173 = .ok (.ifCond .eq 10, 3) := by decide +kernel
theorem dX11_meantBy_176 : decode cX11_meantBy 176 = .ok (.iconst 1, 1) := by decide +kernel
theorem dX11_meantBy_177 : decode cX11_meantBy 177 = .ok (.iload 6, 2) := by decide +kernel
theorem dX11_meantBy_179 : decode cX11_meantBy 179 = .ok (.ishl, 1) := by decide +kernel
theorem dX11_meantBy_180 : decode cX11_meantBy 180 = .ok (.goto 4, 3) := by decide +kernel
theorem dX11_meantBy_183 : decode cX11_meantBy 183 = .ok (.iconst 0, 1) := by decide +kernel
theorem dX11_meantBy_184 : decode cX11_meantBy 184 = .ok (.ior, 1) := by decide +kernel
theorem dX11_meantBy_185 : decode cX11_meantBy 185 = .ok (.istore 5, 2) := by decide +kernel
theorem dX11_meantBy_187 : decode cX11_meantBy 187 = .ok (.iinc 6 1, 3) := by decide +kernel
theorem dX11_meantBy_190 : decode cX11_meantBy 190 = .ok (.goto (-95), 3) := by decide +kernel
theorem dX11_meantBy_193 : decode cX11_meantBy 193 = .ok (.iload 5, 2) := by decide +kernel
theorem dX11_meantBy_195 : decode cX11_meantBy 195 = .ok (.ireturn, 1) := by decide +kernel
set_option maxRecDepth 20000 in
theorem ggX11_meant_X11_isCard : GoodIn wsX11_meant wsX11_isCard := goodIn_r _ [6, 7, 8, 9, 5, 10, 16, 17, 18, 19, 20, 21, 22, 23, 24, 25, 26, 27, 28, 29, 30, 31, 32, 33, 34, 35, 36, 37, 38, 39, 40, 41, 42, 43, 44, 45, 46, 47, 48, 49, 50] (by decide +kernel) (by decide +kernel)
set_option maxRecDepth 20000 in
theorem gX11_meant_X11_isCard : GoodIn wsX11_meant (wsV RX11 111 RX11 yX11_isCard wsX11_isCard) := goodIn_app (goodIn_of _ (by decide +kernel)) ggX11_meant_X11_isCard
set_option maxRecDepth 20000 in
theorem ggX11_meant_X11_in : GoodIn wsX11_meant wsX11_in := goodIn_r _ [10] (by decide +kernel) (by decide +kernel)
set_option maxRecDepth 20000 in
theorem gX11_meant_X11_in : GoodIn wsX11_meant (va_wsS RX11 103 yX11_in wsX11_in) := goodIn_app (goodIn_of _ (by decide +kernel)) ggX11_meant_X11_in
set_option maxRecDepth 20000 in
theorem ggX11_meant_X11_meantBy : GoodIn wsX11_meant wsX11_meantBy := goodIn_r _ [14, 15, 16, 17, 18, 19, 20, 21, 22, 23, 24, 25, 26, 27, 28, 29, 30, 31, 32, 33, 34, 35, 36, 37, 38, 39, 40, 41, 42, 43, 44, 45, 46, 47, 48, 49, 50] (by decide +kernel) (by decide +kernel)
set_option maxRecDepth 20000 in
theorem gX11_meant_X11_meantBy : GoodIn wsX11_meant (wsV RX11 211 RX11 yX11_meantBy wsX11_meantBy) := goodIn_app (goodIn_of _ (by decide +kernel)) ggX11_meant_X11_meantBy
theorem dX11_meant_0 : decode cX11_meant 0 = .ok (.aload_n 0, 1) := by decide +kernel
theorem dX11_meant_1 : decode cX11_meant 1 = .ok (.iload_n 1, 1) := by decide +kernel
theorem dX11_meant_2 : decode cX11_meant 2 = .ok (.invokevirtual 111, 3) := by decide +kernel
theorem dX11_meant_5 : decode cX11_meant 5 = .ok (.ifCond .eq 25, 3) := by decide +kernel
theorem dX11_meant_8 : decode cX11_meant 8 = .ok (.iload_n 2, 1) := by decide +kernel
theorem dX11_meant_9 : decode cX11_meant 9 = .ok (.i2l, 1) := by decide +kernel
theorem dX11_meant_10 : decode cX11_meant 10 = .ok (.lconst 0, 1) := by decide +kernel
theorem dX11_meant_11 : decode cX11_meant 11 = .ok (.ldc2_w 115, 3) := by decide +kernel
theorem dX11_meant_14 : decode cX11_meant 14 = .ok (.invokestatic 103, 3) := by decide +kernel
theorem dX11_meant_17 : decode cX11_meant 17 = .ok (.ifCond .eq 13, 3) := by decide +kernel
theorem dX11_meant_20 : decode cX11_meant 20 = .ok (.iload_n 3, 1) := by decide +kernel
theorem dX11_meant_21 : decode cX11_meant 21 = .ok (.i2l, 1) := by decide +kernel
theorem dX11_meant_22 : decode cX11_meant 22 = .ok (.lconst 0, 1) := by decide +kernel
theorem dX11_meant_23 : decode cX11_meant 23 = .ok (.lconst 1, 1) := by decide +kernel
theorem dX11_meant_24 : decode cX11_meant 24 = .ok (.invokestatic 103, 3) := by decide +kernel
theorem dX11_meant_27 : decode cX11_meant 27 = .ok (.ifCond .ne 5, 3) := by decide +kernel
theorem dX11_meant_30 : decode cX11_meant 30 = .ok (.iconst (-1), 1) := by decide +kernel
theorem dX11_meant_31 : decode cX11_meant 31 = .ok (.ireturn, 1) := by decide +kernel
theorem dX11_meant_32 : decode cX11_meant 32 = .ok (.aload_n 0, 1) := by decide +kernel
theorem dX11_meant_33 : decode cX11_meant 33 = .ok (.iload_n 1, 1) := by decide +kernel
theorem dX11_meant_34 : decode cX11_meant 34 = .ok (.iload_n 2, 1) := by decide +kernel
theorem dX11_meant_35 : decode cX11_meant 35 = .ok (.invokevirtual 211, 3) := by decide +kernel
theorem dX11_meant_38 : decode cX11_meant 38 = .ok (.istore 4, 2) := by decide +kernel
theorem dX11_meant_40 : decode cX11_meant 40 = .ok (.iload_n 3, 1) := by decide +kernel
theorem dX11_meant_41 : decode cX11_meant 41 = .ok (.ifCond .ne 6, 3) := by decide +kernel
theorem dX11_meant_44 : decode cX11_meant 44 = .ok (.iload 4, 2) := by decide +kernel
theorem dX11_meant_46 : decode cX11_meant 46 = .ok (.ireturn, 1) := by decide +kernel
theorem dX11_meant_47 : decode cX11_meant 47 = .ok (.iconst 0, 1) := by decide +kernel
theorem dX11_meant_48 : decode cX11_meant 48 = .ok (.istore 5, 2) := by decide +kernel
theorem dX11_meant_50 : decode cX11_meant 50 = .ok (.iload 5, 2) := by decide +kernel
theorem dX11_meant_52 : decode cX11_meant 52 = .ok (.iconst 4, 1) := by decide +kernel
theorem dX11_meant_53 : decode cX11_meant 53 = .ok (.if_icmp .ge 21, 3) := by decide +kernel
theorem dX11_meant_56 : decode cX11_meant 56 = .ok (.iload 4, 2) := by decide +kernel
theorem dX11_meant_58 : decode cX11_meant 58 = .ok (.iconst 1, 1) := by decide +kernel
theorem dX11_meant_59 : decode cX11_meant 59 = .ok (.iload 5, 2) := by decide +kernel
theorem dX11_meant_61 : decode cX11_meant 61 = .ok (.ishl, 1) := by decide +kernel
theorem dX11_meant_62 : decode cX11_meant 62 = .ok (.if_icmp .ne 6, 3) := by decide +kernel
theorem dX11_meant_65 : decode cX11_meant 65 = .ok (.iload 5, 2) := by decide +kernel
theorem dX11_meant_67 : decode cX11_meant 67 = .ok (.ireturn, 1) := by decide +kernel
theorem dX11_meant_68 : decode cX11_meant 68 = .ok (.iinc 5 1, 3) := by decide +kernel
theorem dX11_meant_71 : decode cX11_meant 71 = .ok (.goto (-21), 3) := by decide +kernel
theorem dX11_meant_74 : decode cX11_meant 74 = .ok (.bipush (-4), 2) := by decide +kernel
theorem dX11_meant_76 : decode cX11_meant 76 = .ok (.ireturn, 1) := by decide +kernel
set_option maxRecDepth 20000 in
theorem ggX11_otherwise_X11_in : GoodIn wsX11_otherwise wsX11_in := goodIn_r _ [7] (by decide +kernel) (by decide +kernel)
set_option maxRecDepth 20000 in
theorem gX11_otherwise_X11_in : GoodIn wsX11_otherwise (va_wsS RX11 103 yX11_in wsX11_in) := goodIn_app (goodIn_of _ (by decide +kernel)) ggX11_otherwise_X11_in
set_option maxRecDepth 20000 in
theorem ggX11_otherwise_X11_isHour : GoodIn wsX11_otherwise wsX11_isHour := goodIn_r _ [10, 11, 4, 5, 6, 7] (by decide +kernel) (by decide +kernel)
set_option maxRecDepth 20000 in
theorem gX11_otherwise_X11_isHour : GoodIn wsX11_otherwise (va_wsS RX11 131 yX11_isHour wsX11_isHour) := goodIn_app (goodIn_of _ (by decide +kernel)) ggX11_otherwise_X11_isHour
set_option maxRecDepth 20000 in
theorem ggX11_otherwise_X11_isIn : GoodIn wsX11_otherwise wsX11_isIn := goodIn_r _ [15, 16, 40, 41, 42, 43, 44, 45, 46, 47, 48, 49, 50, 51, 52, 53, 54, 55, 56, 57, 58, 59, 60, 61, 62, 63, 64, 65, 66, 67, 68, 69, 70, 71, 72, 73, 74] (by decide +kernel) (by decide +kernel)
set_option maxRecDepth 20000 in
theorem gX11_otherwise_X11_isIn : GoodIn wsX11_otherwise (wsV RX11 179 RX11 yX11_isIn wsX11_isIn) := goodIn_app (goodIn_of _ (by decide +kernel)) ggX11_otherwise_X11_isIn
set_option maxRecDepth 20000 in
theorem ggX11_otherwise_X11_voteOf : GoodIn wsX11_otherwise wsX11_voteOf := goodIn_r _ [20, 21, 16, 22, 23, 24, 6, 25, 26, 27, 28, 29, 30, 31, 32, 33, 34, 35, 36, 37, 38, 39, 40, 41, 42, 43, 44, 45, 46, 47, 48, 49, 50, 51, 52, 53, 54, 55, 56, 57, 58, 59, 60, 61, 62, 63, 64, 65, 66, 67, 68, 69, 70, 71, 72, 73, 74] (by decide +kernel) (by decide +kernel)
set_option maxRecDepth 20000 in
theorem gX11_otherwise_X11_voteOf : GoodIn wsX11_otherwise (wsV RX11 134 RX11 yX11_voteOf wsX11_voteOf) := goodIn_app (goodIn_of _ (by decide +kernel)) ggX11_otherwise_X11_voteOf
theorem dX11_otherwise_0 : decode cX11_otherwise 0 = .ok (.iload_n 1, 1) := by decide +kernel
theorem dX11_otherwise_1 : decode cX11_otherwise 1 = .ok (.i2l, 1) := by decide +kernel
theorem dX11_otherwise_2 : decode cX11_otherwise 2 = .ok (.lconst 0, 1) := by decide +kernel
theorem dX11_otherwise_3 : decode cX11_otherwise 3 = .ok (.ldc2_w 157, 3) := by decide +kernel
theorem dX11_otherwise_6 : decode cX11_otherwise 6 = .ok (.invokestatic 103, 3) := by decide +kernel
theorem dX11_otherwise_9 : decode cX11_otherwise 9 = .ok (.ifCond .eq 30, 3) := by decide +kernel
theorem dX11_otherwise_12 : decode cX11_otherwise 12 = .ok (.iload_n 2, 1) := by decide +kernel
theorem dX11_otherwise_13 : decode cX11_otherwise 13 = .ok (.i2l, 1) := by decide +kernel
theorem dX11_otherwise_14 : decode cX11_otherwise 14 = .ok (.lconst 0, 1) := by decide +kernel
theorem dX11_otherwise_15 : decode cX11_otherwise 15 = .ok (.ldc2_w 115, 3) := by decide +kernel
theorem dX11_otherwise_18 : decode cX11_otherwise 18 = .ok (.invokestatic 103, 3) := by decide +kernel
theorem dX11_otherwise_21 : decode cX11_otherwise 21 = .ok (.ifCond .eq 18, 3) := by decide +kernel
theorem dX11_otherwise_24 : decode cX11_otherwise 24 = .ok (.iload_n 3, 1) := by decide +kernel
theorem dX11_otherwise_25 : decode cX11_otherwise 25 = .ok (.invokestatic 131, 3) := by decide +kernel
theorem dX11_otherwise_28 : decode cX11_otherwise 28 = .ok (.ifCond .eq 11, 3) := by decide +kernel
theorem dX11_otherwise_31 : decode cX11_otherwise 31 = .ok (.iload 4, 2) := by decide +kernel
theorem dX11_otherwise_33 : decode cX11_otherwise 33 = .ok (.invokestatic 131, 3) := by decide +kernel
theorem dX11_otherwise_36 : decode cX11_otherwise 36 = .ok (.ifCond .ne 5, 3) := by decide +kernel
theorem dX11_otherwise_39 : decode cX11_otherwise 39 = .ok (.iconst (-1), 1) := by decide +kernel
theorem dX11_otherwise_40 : decode cX11_otherwise 40 = .ok (.ireturn, 1) := by decide +kernel
theorem dX11_otherwise_41 : decode cX11_otherwise 41 = .ok (.iconst 0, 1) := by decide +kernel
theorem dX11_otherwise_42 : decode cX11_otherwise 42 = .ok (.istore 5, 2) := by decide +kernel
theorem dX11_otherwise_44 : decode cX11_otherwise 44 = .ok (.iconst 0, 1) := by decide +kernel
theorem dX11_otherwise_45 : decode cX11_otherwise 45 = .ok (.istore 6, 2) := by decide +kernel
theorem dX11_otherwise_47 : decode cX11_otherwise 47 = .ok (.iload 6, 2) := by decide +kernel
theorem dX11_otherwise_49 : decode cX11_otherwise 49 = .ok (.aload_n 0, 1) := by decide +kernel
theorem dX11_otherwise_50 : decode cX11_otherwise 50 = .ok (.getfield 7, 3) := by decide +kernel
theorem dX11_otherwise_53 : decode cX11_otherwise 53 = .ok (.iconst 0, 1) := by decide +kernel
theorem dX11_otherwise_54 : decode cX11_otherwise 54 = .ok (.iaload, 1) := by decide +kernel
theorem dX11_otherwise_55 : decode cX11_otherwise 55 = .ok (.if_icmp .ge 51, 3) := by decide +kernel
theorem dX11_otherwise_58 : decode cX11_otherwise 58 = .ok (.iload 5, 2) := by decide +kernel
theorem dX11_otherwise_60 : decode cX11_otherwise 60 = .ok (.aload_n 0, 1) := by decide +kernel
theorem dX11_otherwise_61 : decode cX11_otherwise 61 = .ok (.iload 6, 2) := by decide +kernel
theorem dX11_otherwise_63 : decode cX11_otherwise 63 = .ok (.iload_n 1, 1) := by decide +kernel
theorem dX11_otherwise_64 : decode cX11_otherwise 64 = .ok (.invokevirtual 179, 3) := by decide +kernel
theorem dX11_otherwise_67 : decode cX11_otherwise 67 = .ok (.ifCond .eq 29, 3) := by decide +kernel
theorem dX11_otherwise_70 : decode cX11_otherwise 70 = .ok (.aload_n 0, 1) := by decide +kernel
theorem dX11_otherwise_71 : decode cX11_otherwise 71 = .ok (.iload 6, 2) := by decide +kernel
theorem dX11_otherwise_73 : decode cX11_otherwise 73 = .ok (.iload_n 2, 1) := by decide +kernel
theorem dX11_otherwise_74 : decode cX11_otherwise 74 = .ok (.iload_n 3, 1) := by decide +kernel
theorem dX11_otherwise_75 : decode cX11_otherwise 75 = .ok (.iconst 0, 1) := by decide +kernel
theorem dX11_otherwise_76 : decode cX11_otherwise 76 = .ok (.invokevirtual 134, 3) := by decide +kernel
theorem dX11_otherwise_79 : decode cX11_otherwise 79 = .ok (.aload_n 0, 1) := by decide +kernel
theorem dX11_otherwise_80 : decode cX11_otherwise 80 = .ok (.iload 6, 2) := by decide +kernel
theorem dX11_otherwise_82 : decode cX11_otherwise 82 = .ok (.iload_n 2, 1) := by decide +kernel
theorem dX11_otherwise_83 : decode cX11_otherwise 83 = .ok (.iload 4, 2) := by decide +kernel
theorem dX11_otherwise_85 : decode cX11_otherwise 85 = .ok (.iconst 0, 1) := by decide +kernel
theorem dX11_otherwise_86 : decode cX11_otherwise 86 = .ok (.invokevirtual 134, 3) := by decide +kernel
theorem dX11_otherwise_89 : decode cX11_otherwise 89 = .ok (.if_icmp .eq 7, 3) := by decide +kernel
theorem dX11_otherwise_92 : decode cX11_otherwise 92 = .ok (.iconst 1, 1) := by decide +kernel
theorem dX11_otherwise_93 : decode cX11_otherwise 93 = .ok (.goto 4, 3) := by decide +kernel
theorem dX11_otherwise_96 : decode cX11_otherwise 96 = .ok (.iconst 0, 1) := by decide +kernel
theorem dX11_otherwise_97 : decode cX11_otherwise 97 = .ok (.iadd, 1) := by decide +kernel
theorem dX11_otherwise_98 : decode cX11_otherwise 98 = .ok (.istore 5, 2) := by decide +kernel
theorem dX11_otherwise_100 : decode cX11_otherwise 100 = .ok (.iinc 6 1, 3) := by decide +kernel
theorem dX11_otherwise_103 : decode cX11_otherwise 103 = .ok (.goto (-56), 3) := by decide +kernel
theorem dX11_otherwise_106 : decode cX11_otherwise 106 = .ok (.iload 5, 2) := by decide +kernel
theorem dX11_otherwise_108 : decode cX11_otherwise 108 = .ok (.ireturn, 1) := by decide +kernel
theorem dX11_sign_0 : decode cX11_sign 0 = .ok (.lload_n 0, 1) := by decide +kernel
theorem dX11_sign_1 : decode cX11_sign 1 = .ok (.bipush 8, 2) := by decide +kernel
theorem dX11_sign_3 : decode cX11_sign 3 = .ok (.bipush 7, 2) := by decide +kernel
theorem dX11_sign_5 : decode cX11_sign 5 = .ok (.iload_n 2, 1) := by decide +kernel
theorem dX11_sign_6 : decode cX11_sign 6 = .ok (.isub, 1) := by decide +kernel
theorem dX11_sign_7 : decode cX11_sign 7 = .ok (.imul, 1) := by decide +kernel
theorem dX11_sign_8 : decode cX11_sign 8 = .ok (.lshr, 1) := by decide +kernel
theorem dX11_sign_9 : decode cX11_sign 9 = .ok (.ldc2_w 214, 3) := by decide +kernel
theorem dX11_sign_12 : decode cX11_sign 12 = .ok (.land, 1) := by decide +kernel
theorem dX11_sign_13 : decode cX11_sign 13 = .ok (.l2i, 1) := by decide +kernel
theorem dX11_sign_14 : decode cX11_sign 14 = .ok (.ireturn, 1) := by decide +kernel
set_option maxRecDepth 20000 in
theorem ggX11_isName_X11_sign : GoodIn wsX11_isName wsX11_sign := goodIn_r _ [6, 7] (by decide +kernel) (by decide +kernel)
set_option maxRecDepth 20000 in
theorem gX11_isName_X11_sign : GoodIn wsX11_isName (va_wsS RX11 216 yX11_sign wsX11_sign) := goodIn_app (goodIn_of _ (by decide +kernel)) ggX11_isName_X11_sign
set_option maxRecDepth 20000 in
theorem ggX11_isName_X11_in : GoodIn wsX11_isName wsX11_in := goodIn_r _ [10] (by decide +kernel) (by decide +kernel)
set_option maxRecDepth 20000 in
theorem gX11_isName_X11_in : GoodIn wsX11_isName (va_wsS RX11 103 yX11_in wsX11_in) := goodIn_app (goodIn_of _ (by decide +kernel)) ggX11_isName_X11_in
theorem dX11_isName_0 : decode cX11_isName 0 = .ok (.iconst 0, 1) := by decide +kernel
theorem dX11_isName_1 : decode cX11_isName 1 = .ok (.istore_n 2, 1) := by decide +kernel
theorem dX11_isName_2 : decode cX11_isName 2 = .ok (.iconst 0, 1) := by decide +kernel
theorem dX11_isName_3 : decode cX11_isName 3 = .ok (.istore_n 3, 1) := by decide +kernel
theorem dX11_isName_4 : decode cX11_isName 4 = .ok (.iload_n 3, 1) := by decide +kernel
theorem dX11_isName_5 : decode cX11_isName 5 = .ok (.bipush 8, 2) := by decide +kernel
theorem dX11_isName_7 : decode cX11_isName 7 = .ok (.if_icmp .ge 60, 3) := by decide +kernel
theorem dX11_isName_10 : decode cX11_isName 10 = .ok (.lload_n 0, 1) := by decide +kernel
theorem dX11_isName_11 : decode cX11_isName 11 = .ok (.iload_n 3, 1) := by decide +kernel
theorem dX11_isName_12 : decode cX11_isName 12 = .ok (.invokestatic 216, 3) := by decide +kernel
theorem dX11_isName_15 : decode cX11_isName 15 = .ok (.istore 4, 2) := by decide +kernel
theorem dX11_isName_17 : decode cX11_isName 17 = .ok (.iload_n 2, 1) := by decide +kernel
theorem dX11_isName_18 : decode cX11_isName 18 = .ok (.ifCond .ne 8, 3) := by decide +kernel
theorem dX11_isName_21 : decode cX11_isName 21 = .ok (.iload 4, 2) := by decide +kernel
theorem dX11_isName_23 : decode cX11_isName 23 = .ok (.ifCond .ne 7, 3) := by decide +kernel
theorem dX11_isName_26 : decode cX11_isName 26 = .ok (.iconst 1, 1) := by decide +kernel
theorem dX11_isName_27 : decode cX11_isName 27 = .ok (.goto 4, 3) := by decide +kernel
theorem dX11_isName_30 : decode cX11_isName 30 = .ok (.iconst 0, 1) := by decide +kernel
theorem dX11_isName_31 : decode cX11_isName 31 = .ok (.istore_n 2, 1) := by decide +kernel
theorem dX11_isName_32 : decode cX11_isName 32 = .ok (.iload_n 2, 1) := by decide +kernel
theorem dX11_isName_33 : decode cX11_isName 33 = .ok (.ifCond .eq 11, 3) := by decide +kernel
theorem dX11_isName_36 : decode cX11_isName 36 = .ok (.iload 4, 2) := by decide +kernel
theorem dX11_isName_38 : decode cX11_isName 38 = .ok (.ifCond .eq 23, 3) := by decide +kernel
theorem dX11_isName_41 : decode cX11_isName 41 = .ok (.goto 18, 3) := by decide +kernel
theorem dX11_isName_44 : decode cX11_isName 44 = .ok (.iload 4, 2) := by decide +kernel
theorem dX11_isName_46 : decode cX11_isName 46 = .ok (.i2l, 1) := by decide +kernel
theorem dX11_isName_47 : decode cX11_isName 47 = .ok (.ldc2_w 220, 3) := by decide +kernel
theorem dX11_isName_50 : decode cX11_isName 50 = .ok (.ldc2_w 222, 3) := by decide +kernel
theorem dX11_isName_53 : decode cX11_isName 53 = .ok (.invokestatic 103, 3) := by decide +kernel
theorem dX11_isName_56 : decode cX11_isName 56 = .ok (.ifCond .ne 5, 3) := by decide +kernel
theorem dX11_isName_59 : decode cX11_isName 59 = .ok (.iconst 0, 1) := by decide +kernel
theorem dX11_isName_60 : decode cX11_isName 60 = .ok (.ireturn, 1) := by decide +kernel
theorem dX11_isName_61 : decode cX11_isName 61 = .ok (.iinc 3 1, 3) := by decide +kernel
theorem dX11_isName_64 : decode cX11_isName 64 = .ok (.goto (-60), 3) := by decide +kernel
theorem dX11_isName_67 : decode cX11_isName 67 = .ok (.iconst 1, 1) := by decide +kernel
theorem dX11_isName_68 : decode cX11_isName 68 = .ok (.ireturn, 1) := by decide +kernel
set_option maxRecDepth 20000 in
theorem ggX11_long1_X11_sign : GoodIn wsX11_long1 wsX11_sign := goodIn_r _ [4, 5] (by decide +kernel) (by decide +kernel)
set_option maxRecDepth 20000 in
theorem gX11_long1_X11_sign : GoodIn wsX11_long1 (va_wsS RX11 216 yX11_sign wsX11_sign) := goodIn_app (goodIn_of _ (by decide +kernel)) ggX11_long1_X11_sign
theorem dX11_long1_0 : decode cX11_long1 0 = .ok (.iconst 0, 1) := by decide +kernel
theorem dX11_long1_1 : decode cX11_long1 1 = .ok (.istore_n 2, 1) := by decide +kernel
theorem dX11_long1_2 : decode cX11_long1 2 = .ok (.iload_n 2, 1) := by decide +kernel
theorem dX11_long1_3 : decode cX11_long1 3 = .ok (.bipush 8, 2) := by decide +kernel
theorem dX11_long1_5 : decode cX11_long1 5 = .ok (.if_icmp .ge 17, 3) := by decide +kernel
theorem dX11_long1_8 : decode cX11_long1 8 = .ok (.lload_n 0, 1) := by decide +kernel
theorem dX11_long1_9 : decode cX11_long1 9 = .ok (.iload_n 2, 1) := by decide +kernel
theorem dX11_long1_10 : decode cX11_long1 10 = .ok (.invokestatic 216, 3) := by decide +kernel
theorem dX11_long1_13 : decode cX11_long1 13 = .ok (.ifCond .eq 9, 3) := by decide +kernel
theorem dX11_long1_16 : decode cX11_long1 16 = .ok (.iinc 2 1, 3) := by decide +kernel
theorem dX11_long1_19 : decode cX11_long1 19 = .ok (.goto (-17), 3) := by decide +kernel
theorem dX11_long1_22 : decode cX11_long1 22 = .ok (.iload_n 2, 1) := by decide +kernel
theorem dX11_long1_23 : decode cX11_long1 23 = .ok (.ireturn, 1) := by decide +kernel
set_option maxRecDepth 20000 in
theorem ggX11_listed_X11_isName : GoodIn wsX11_listed wsX11_isName := goodIn_r _ [9, 10, 11, 12, 13, 8, 14, 15, 16, 17, 18] (by decide +kernel) (by decide +kernel)
set_option maxRecDepth 20000 in
theorem gX11_listed_X11_isName : GoodIn wsX11_listed (va_wsS RX11 224 yX11_isName wsX11_isName) := goodIn_app (goodIn_of _ (by decide +kernel)) ggX11_listed_X11_isName
set_option maxRecDepth 20000 in
theorem ggX11_listed_X11_in : GoodIn wsX11_listed wsX11_in := goodIn_r _ [18] (by decide +kernel) (by decide +kernel)
set_option maxRecDepth 20000 in
theorem gX11_listed_X11_in : GoodIn wsX11_listed (va_wsS RX11 103 yX11_in wsX11_in) := goodIn_app (goodIn_of _ (by decide +kernel)) ggX11_listed_X11_in
theorem dX11_listed_0 : decode cX11_listed 0 = .ok (.lload_n 1, 1) := by decide +kernel
theorem dX11_listed_1 : decode cX11_listed 1 = .ok (.invokestatic 224, 3) := by decide +kernel
theorem dX11_listed_4 : decode cX11_listed 4 = .ok (.ifCond .eq 17, 3) := by decide +kernel
theorem dX11_listed_7 : decode cX11_listed 7 = .ok (.iload_n 3, 1) := by decide +kernel
theorem dX11_listed_8 : decode cX11_listed 8 = .ok (.i2l, 1) := by decide +kernel
theorem dX11_listed_9 : decode cX11_listed 9 = .ok (.ldc2_w 198, 3) := by decide +kernel
theorem dX11_listed_12 : decode cX11_listed 12 = .ok (.ldc2_w 228, 3) := by decide +kernel
theorem dX11_listed_15 : decode cX11_listed 15 = .ok (.invokestatic 103, 3) := by decide +kernel
theorem dX11_listed_18 : decode cX11_listed 18 = .ok (.ifCond .ne 5, 3) := by decide +kernel
theorem dX11_listed_21 : decode cX11_listed 21 = .ok (.iconst (-1), 1) := by decide +kernel
theorem dX11_listed_22 : decode cX11_listed 22 = .ok (.ireturn, 1) := by decide +kernel
theorem dX11_listed_23 : decode cX11_listed 23 = .ok (.aload_n 0, 1) := by decide +kernel
theorem dX11_listed_24 : decode cX11_listed 24 = .ok (.getfield 230, 3) := by decide +kernel
theorem dX11_listed_27 : decode cX11_listed 27 = .ok (.bipush 8, 2) := by decide +kernel
theorem dX11_listed_29 : decode cX11_listed 29 = .ok (.if_icmp .ne 6, 3) := by decide +kernel
theorem dX11_listed_32 : decode cX11_listed 32 = .ok (.bipush (-3), 2) := by decide +kernel
theorem dX11_listed_34 : decode cX11_listed 34 = .ok (.ireturn, 1) := by decide +kernel
theorem dX11_listed_35 : decode cX11_listed 35 = .ok (.aload_n 0, 1) := by decide +kernel
theorem dX11_listed_36 : decode cX11_listed 36 = .ok (.getfield 53, 3) := by decide +kernel
theorem dX11_listed_39 : decode cX11_listed 39 = .ok (.aload_n 0, 1) := by decide +kernel
theorem dX11_listed_40 : decode cX11_listed 40 = .ok (.getfield 230, 3) := by decide +kernel
theorem dX11_listed_43 : decode cX11_listed 43 = .ok (.lload_n 1, 1) := by decide +kernel
theorem dX11_listed_44 : decode cX11_listed 44 = .ok (.lastore, 1) := by decide +kernel
theorem dX11_listed_45 : decode cX11_listed 45 = .ok (.aload_n 0, 1) := by decide +kernel
theorem dX11_listed_46 : decode cX11_listed 46 = .ok (.getfield 57, 3) := by decide +kernel
theorem dX11_listed_49 : decode cX11_listed 49 = .ok (.aload_n 0, 1) := by decide +kernel
theorem dX11_listed_50 : decode cX11_listed 50 = .ok (.getfield 230, 3) := by decide +kernel
theorem dX11_listed_53 : decode cX11_listed 53 = .ok (.iload_n 3, 1) := by decide +kernel
theorem dX11_listed_54 : decode cX11_listed 54 = .ok (.iastore, 1) := by decide +kernel
theorem dX11_listed_55 : decode cX11_listed 55 = .ok (.aload_n 0, 1) := by decide +kernel
theorem dX11_listed_56 : decode cX11_listed 56 = .ok (.dup, 1) := by decide +kernel
theorem dX11_listed_57 : decode cX11_listed 57 = .ok (.getfield 230, 3) := by decide +kernel
theorem dX11_listed_60 : decode cX11_listed 60 = .ok (.iconst 1, 1) := by decide +kernel
theorem dX11_listed_61 : decode cX11_listed 61 = .ok (.iadd, 1) := by decide +kernel
theorem dX11_listed_62 : decode cX11_listed 62 = .ok (.putfield 230, 3) := by decide +kernel
theorem dX11_listed_65 : decode cX11_listed 65 = .ok (.aload_n 0, 1) := by decide +kernel
theorem dX11_listed_66 : decode cX11_listed 66 = .ok (.getfield 230, 3) := by decide +kernel
theorem dX11_listed_69 : decode cX11_listed 69 = .ok (.iconst 1, 1) := by decide +kernel
theorem dX11_listed_70 : decode cX11_listed 70 = .ok (.isub, 1) := by decide +kernel
theorem dX11_listed_71 : decode cX11_listed 71 = .ok (.ireturn, 1) := by decide +kernel
set_option maxRecDepth 20000 in
theorem ggX11_voter_X11_isName : GoodIn wsX11_voter wsX11_isName := goodIn_r _ [11, 12, 13, 14, 15, 10, 16, 17, 18, 19, 20] (by decide +kernel) (by decide +kernel)
set_option maxRecDepth 20000 in
theorem gX11_voter_X11_isName : GoodIn wsX11_voter (va_wsS RX11 224 yX11_isName wsX11_isName) := goodIn_app (goodIn_of _ (by decide +kernel)) ggX11_voter_X11_isName
set_option maxRecDepth 20000 in
theorem ggX11_voter_X11_in : GoodIn wsX11_voter wsX11_in := goodIn_r _ [20] (by decide +kernel) (by decide +kernel)
set_option maxRecDepth 20000 in
theorem gX11_voter_X11_in : GoodIn wsX11_voter (va_wsS RX11 103 yX11_in wsX11_in) := goodIn_app (goodIn_of _ (by decide +kernel)) ggX11_voter_X11_in
theorem dX11_voter_0 : decode cX11_voter 0 = .ok (.lload_n 1, 1) := by decide +kernel
theorem dX11_voter_1 : decode cX11_voter 1 = .ok (.invokestatic 224, 3) := by decide +kernel
theorem dX11_voter_4 : decode cX11_voter 4 = .ok (.ifCond .eq 30, 3) := by decide +kernel
theorem dX11_voter_7 : decode cX11_voter 7 = .ok (.iload_n 3, 1) := by decide +kernel
theorem dX11_voter_8 : decode cX11_voter 8 = .ok (.i2l, 1) := by decide +kernel
theorem dX11_voter_9 : decode cX11_voter 9 = .ok (.ldc2_w 198, 3) := by decide +kernel
theorem dX11_voter_12 : decode cX11_voter 12 = .ok (.ldc2_w 228, 3) := by decide +kernel
theorem dX11_voter_15 : decode cX11_voter 15 = .ok (.invokestatic 103, 3) := by decide +kernel
theorem dX11_voter_18 : decode cX11_voter 18 = .ok (.ifCond .eq 16, 3) := by decide +kernel
theorem dX11_voter_21 : decode cX11_voter 21 = .ok (.iload 4, 2) := by decide +kernel
theorem dX11_voter_23 : decode cX11_voter 23 = .ok (.i2l, 1) := by decide +kernel
theorem dX11_voter_24 : decode cX11_voter 24 = .ok (.lconst 0, 1) := by decide +kernel
theorem dX11_voter_25 : decode cX11_voter 25 = .ok (.ldc2_w 101, 3) := by decide +kernel
theorem dX11_voter_28 : decode cX11_voter 28 = .ok (.invokestatic 103, 3) := by decide +kernel
theorem dX11_voter_31 : decode cX11_voter 31 = .ok (.ifCond .ne 5, 3) := by decide +kernel
theorem dX11_voter_34 : decode cX11_voter 34 = .ok (.iconst (-1), 1) := by decide +kernel
theorem dX11_voter_35 : decode cX11_voter 35 = .ok (.ireturn, 1) := by decide +kernel
theorem dX11_voter_36 : decode cX11_voter 36 = .ok (.aload_n 0, 1) := by decide +kernel
theorem dX11_voter_37 : decode cX11_voter 37 = .ok (.getfield 233, 3) := by decide +kernel
theorem dX11_voter_40 : decode cX11_voter 40 = .ok (.bipush 12, 2) := by decide +kernel
theorem dX11_voter_42 : decode cX11_voter 42 = .ok (.if_icmp .ne 6, 3) := by decide +kernel
theorem dX11_voter_45 : decode cX11_voter 45 = .ok (.bipush (-3), 2) := by decide +kernel
theorem dX11_voter_47 : decode cX11_voter 47 = .ok (.ireturn, 1) := by decide +kernel
theorem dX11_voter_48 : decode cX11_voter 48 = .ok (.aload_n 0, 1) := by decide +kernel
theorem dX11_voter_49 : decode cX11_voter 49 = .ok (.getfield 60, 3) := by decide +kernel
theorem dX11_voter_52 : decode cX11_voter 52 = .ok (.aload_n 0, 1) := by decide +kernel
theorem dX11_voter_53 : decode cX11_voter 53 = .ok (.getfield 233, 3) := by decide +kernel
theorem dX11_voter_56 : decode cX11_voter 56 = .ok (.lload_n 1, 1) := by decide +kernel
theorem dX11_voter_57 : decode cX11_voter 57 = .ok (.lastore, 1) := by decide +kernel
theorem dX11_voter_58 : decode cX11_voter 58 = .ok (.aload_n 0, 1) := by decide +kernel
theorem dX11_voter_59 : decode cX11_voter 59 = .ok (.getfield 63, 3) := by decide +kernel
theorem dX11_voter_62 : decode cX11_voter 62 = .ok (.aload_n 0, 1) := by decide +kernel
theorem dX11_voter_63 : decode cX11_voter 63 = .ok (.getfield 233, 3) := by decide +kernel
theorem dX11_voter_66 : decode cX11_voter 66 = .ok (.iload_n 3, 1) := by decide +kernel
theorem dX11_voter_67 : decode cX11_voter 67 = .ok (.iastore, 1) := by decide +kernel
theorem dX11_voter_68 : decode cX11_voter 68 = .ok (.aload_n 0, 1) := by decide +kernel
theorem dX11_voter_69 : decode cX11_voter 69 = .ok (.getfield 66, 3) := by decide +kernel
theorem dX11_voter_72 : decode cX11_voter 72 = .ok (.aload_n 0, 1) := by decide +kernel
theorem dX11_voter_73 : decode cX11_voter 73 = .ok (.getfield 233, 3) := by decide +kernel
theorem dX11_voter_76 : decode cX11_voter 76 = .ok (.iload 4, 2) := by decide +kernel
theorem dX11_voter_78 : decode cX11_voter 78 = .ok (.iastore, 1) := by decide +kernel
theorem dX11_voter_79 : decode cX11_voter 79 = .ok (.aload_n 0, 1) := by decide +kernel
theorem dX11_voter_80 : decode cX11_voter 80 = .ok (.dup, 1) := by decide +kernel
theorem dX11_voter_81 : decode cX11_voter 81 = .ok (.getfield 233, 3) := by decide +kernel
theorem dX11_voter_84 : decode cX11_voter 84 = .ok (.iconst 1, 1) := by decide +kernel
theorem dX11_voter_85 : decode cX11_voter 85 = .ok (.iadd, 1) := by decide +kernel
theorem dX11_voter_86 : decode cX11_voter 86 = .ok (.putfield 233, 3) := by decide +kernel
theorem dX11_voter_89 : decode cX11_voter 89 = .ok (.aload_n 0, 1) := by decide +kernel
theorem dX11_voter_90 : decode cX11_voter 90 = .ok (.getfield 233, 3) := by decide +kernel
theorem dX11_voter_93 : decode cX11_voter 93 = .ok (.iconst 1, 1) := by decide +kernel
theorem dX11_voter_94 : decode cX11_voter 94 = .ok (.isub, 1) := by decide +kernel
theorem dX11_voter_95 : decode cX11_voter 95 = .ok (.ireturn, 1) := by decide +kernel
set_option maxRecDepth 20000 in
theorem ggX11_likeness_X11_in : GoodIn wsX11_likeness wsX11_in := goodIn_r _ [6] (by decide +kernel) (by decide +kernel)
set_option maxRecDepth 20000 in
theorem gX11_likeness_X11_in : GoodIn wsX11_likeness (va_wsS RX11 103 yX11_in wsX11_in) := goodIn_app (goodIn_of _ (by decide +kernel)) ggX11_likeness_X11_in
theorem dX11_likeness_0 : decode cX11_likeness 0 = .ok (.iload_n 1, 1) := by decide +kernel
theorem dX11_likeness_1 : decode cX11_likeness 1 = .ok (.i2l, 1) := by decide +kernel
theorem dX11_likeness_2 : decode cX11_likeness 2 = .ok (.lconst 1, 1) := by decide +kernel
theorem dX11_likeness_3 : decode cX11_likeness 3 = .ok (.ldc2_w 236, 3) := by decide +kernel
theorem dX11_likeness_6 : decode cX11_likeness 6 = .ok (.invokestatic 103, 3) := by decide +kernel
theorem dX11_likeness_9 : decode cX11_likeness 9 = .ok (.ifCond .ne 5, 3) := by decide +kernel
theorem dX11_likeness_12 : decode cX11_likeness 12 = .ok (.iconst (-1), 1) := by decide +kernel
theorem dX11_likeness_13 : decode cX11_likeness 13 = .ok (.ireturn, 1) := by decide +kernel
theorem dX11_likeness_14 : decode cX11_likeness 14 = .ok (.aload_n 0, 1) := by decide +kernel
theorem dX11_likeness_15 : decode cX11_likeness 15 = .ok (.getfield 69, 3) := by decide +kernel
theorem dX11_likeness_18 : decode cX11_likeness 18 = .ok (.istore_n 2, 1) := by decide +kernel
theorem dX11_likeness_19 : decode cX11_likeness 19 = .ok (.aload_n 0, 1) := by decide +kernel
theorem dX11_likeness_20 : decode cX11_likeness 20 = .ok (.iload_n 1, 1) := by decide +kernel
theorem dX11_likeness_21 : decode cX11_likeness 21 = .ok (.putfield 69, 3) := by decide +kernel
theorem dX11_likeness_24 : decode cX11_likeness 24 = .ok (.iload_n 2, 1) := by decide +kernel
theorem dX11_likeness_25 : decode cX11_likeness 25 = .ok (.ireturn, 1) := by decide +kernel
set_option maxRecDepth 20000 in
theorem ggX11_likeOf_X11_long1 : GoodIn wsX11_likeOf wsX11_long1 := goodIn_r _ [6, 7, 8, 5, 9, 10] (by decide +kernel) (by decide +kernel)
set_option maxRecDepth 20000 in
theorem gX11_likeOf_X11_long1 : GoodIn wsX11_likeOf (va_wsS RX11 238 yX11_long1 wsX11_long1) := goodIn_app (goodIn_of _ (by decide +kernel)) ggX11_likeOf_X11_long1
set_option maxRecDepth 20000 in
theorem ggX11_likeOf_X11_sign : GoodIn wsX11_likeOf wsX11_sign := goodIn_r _ [9, 10] (by decide +kernel) (by decide +kernel)
set_option maxRecDepth 20000 in
theorem gX11_likeOf_X11_sign : GoodIn wsX11_likeOf (va_wsS RX11 216 yX11_sign wsX11_sign) := goodIn_app (goodIn_of _ (by decide +kernel)) ggX11_likeOf_X11_sign
theorem dX11_likeOf_0 : decode cX11_likeOf 0 = .ok (.aload_n 0, 1) := by decide +kernel
theorem dX11_likeOf_1 : decode cX11_likeOf 1 = .ok (.getfield 60, 3) := by decide +kernel
theorem dX11_likeOf_4 : decode cX11_likeOf 4 = .ok (.iload_n 1, 1) := by decide +kernel
theorem dX11_likeOf_5 : decode cX11_likeOf 5 = .ok (.laload, 1) := by decide +kernel
theorem dX11_likeOf_6 : decode cX11_likeOf 6 = .ok (.invokestatic 238, 3) := by decide +kernel
theorem dX11_likeOf_9 : decode cX11_likeOf 9 = .ok (.istore_n 3, 1) := by decide +kernel
theorem dX11_likeOf_10 : decode cX11_likeOf 10 = .ok (.aload_n 0, 1) := by decide +kernel
theorem dX11_likeOf_11 : decode cX11_likeOf 11 = .ok (.getfield 53, 3) := by decide +kernel
theorem dX11_likeOf_14 : decode cX11_likeOf 14 = .ok (.iload_n 2, 1) := by decide +kernel
theorem dX11_likeOf_15 : decode cX11_likeOf 15 = .ok (.laload, 1) := by decide +kernel
theorem dX11_likeOf_16 : decode cX11_likeOf 16 = .ok (.invokestatic 238, 3) := by decide +kernel
theorem dX11_likeOf_19 : decode cX11_likeOf 19 = .ok (.istore 4, 2) := by decide +kernel
theorem dX11_likeOf_21 : decode cX11_likeOf 21 = .ok (.iload_n 3, 1) := by decide +kernel
theorem dX11_likeOf_22 : decode cX11_likeOf 22 = .ok (.ifCond .eq 8, 3) := by decide +kernel
theorem dX11_likeOf_25 : decode cX11_likeOf 25 = .ok (.iload 4, 2) := by decide +kernel
theorem dX11_likeOf_27 : decode cX11_likeOf 27 = .ok (.ifCond .ne 5, 3) := by decide +kernel
theorem dX11_likeOf_30 : decode cX11_likeOf 30 = .ok (.iconst 0, 1) := by decide +kernel
theorem dX11_likeOf_31 : decode cX11_likeOf 31 = .ok (.ireturn, 1) := by decide +kernel
theorem dX11_likeOf_32 : decode cX11_likeOf 32 = .ok (.iconst 0, 1) := by decide +kernel
theorem dX11_likeOf_33 : decode cX11_likeOf 33 = .ok (.istore 5, 2) := by decide +kernel
theorem dX11_likeOf_35 : decode cX11_likeOf 35 = .ok (.iconst 0, 1) := by decide +kernel
theorem dX11_likeOf_36 : decode cX11_likeOf 36 = .ok (.istore 6, 2) := by decide +kernel
theorem dX11_likeOf_38 : decode cX11_likeOf 38 = .ok (.iload 6, 2) := by decide +kernel
theorem dX11_likeOf_40 : decode cX11_likeOf 40 = .ok (.iload_n 3, 1) := by decide +kernel
theorem dX11_likeOf_41 : decode cX11_likeOf 41 = .ok (.if_icmp .ge 51, 3) := by decide +kernel
theorem dX11_likeOf_44 : decode cX11_likeOf 44 = .ok (.iload 6, 2) := by decide +kernel
theorem dX11_likeOf_46 : decode cX11_likeOf 46 = .ok (.iload 4, 2) := by decide +kernel
theorem dX11_likeOf_48 : decode cX11_likeOf 48 = .ok (.if_icmp .ge 44, 3) := by decide +kernel
theorem dX11_likeOf_51 : decode cX11_likeOf 51 = .ok (.iload 5, 2) := by decide +kernel
theorem dX11_likeOf_53 : decode cX11_likeOf 53 = .ok (.aload_n 0, 1) := by decide +kernel
theorem dX11_likeOf_54 : decode cX11_likeOf 54 = .ok (.getfield 60, 3) := by decide +kernel
theorem dX11_likeOf_57 : decode cX11_likeOf 57 = .ok (.iload_n 1, 1) := by decide +kernel
theorem dX11_likeOf_58 : decode cX11_likeOf 58 = .ok (.laload, 1) := by decide +kernel
theorem dX11_likeOf_59 : decode cX11_likeOf 59 = .ok (.iload 6, 2) := by decide +kernel
theorem dX11_likeOf_61 : decode cX11_likeOf 61 = .ok (.invokestatic 216, 3) := by decide +kernel
theorem dX11_likeOf_64 : decode cX11_likeOf 64 = .ok (.aload_n 0, 1) := by decide +kernel
theorem dX11_likeOf_65 : decode cX11_likeOf 65 = .ok (.getfield 53, 3) := by decide +kernel
theorem dX11_likeOf_68 : decode cX11_likeOf 68 = .ok (.iload_n 2, 1) := by decide +kernel
theorem dX11_likeOf_69 : decode cX11_likeOf 69 = .ok (.laload, 1) := by decide +kernel
theorem dX11_likeOf_70 : decode cX11_likeOf 70 = .ok (.iload 6, 2) := by decide +kernel
theorem dX11_likeOf_72 : decode cX11_likeOf 72 = .ok (.invokestatic 216, 3) := by decide +kernel
theorem dX11_likeOf_75 : decode cX11_likeOf 75 = .ok (.if_icmp .ne 7, 3) := by decide +kernel
theorem dX11_likeOf_78 : decode cX11_likeOf 78 = .ok (.iconst 1, 1) := by decide +kernel
theorem dX11_likeOf_79 : decode cX11_likeOf 79 = .ok (.goto 4, 3) := by decide +kernel
theorem dX11_likeOf_82 : decode cX11_likeOf 82 = .ok (.iconst 0, 1) := by decide +kernel
theorem dX11_likeOf_83 : decode cX11_likeOf 83 = .ok (.iadd, 1) := by decide +kernel
theorem dX11_likeOf_84 : decode cX11_likeOf 84 = .ok (.istore 5, 2) := by decide +kernel
theorem dX11_likeOf_86 : decode cX11_likeOf 86 = .ok (.iinc 6 1, 3) := by decide +kernel
theorem dX11_likeOf_89 : decode cX11_likeOf 89 = .ok (.goto (-51), 3) := by decide +kernel
theorem dX11_likeOf_92 : decode cX11_likeOf 92 = .ok (.bipush 100, 2) := by decide +kernel
theorem dX11_likeOf_94 : decode cX11_likeOf 94 = .ok (.iload 5, 2) := by decide +kernel
theorem dX11_likeOf_96 : decode cX11_likeOf 96 = .ok (.imul, 1) := by decide +kernel
theorem dX11_likeOf_97 : decode cX11_likeOf 97 = .ok (.iload_n 3, 1) := by decide +kernel
theorem dX11_likeOf_98 : decode cX11_likeOf 98 = .ok (.iload 4, 2) := by decide +kernel
theorem dX11_likeOf_100 : decode cX11_likeOf 100 = .ok (.if_icmp .le 7, 3) := by decide +kernel
theorem dX11_likeOf_103 : decode cX11_likeOf 103 = .ok (.iload_n 3, 1) := by decide +kernel
theorem dX11_likeOf_104 : decode cX11_likeOf 104 = .ok (.goto 5, 3) := by decide +kernel
theorem dX11_likeOf_107 : decode cX11_likeOf 107 = .ok (.iload 4, 2) := by decide +kernel
theorem dX11_likeOf_109 : decode cX11_likeOf 109 = .ok (.idiv, 1) := by decide +kernel
theorem dX11_likeOf_110 : decode cX11_likeOf 110 = .ok (.ireturn, 1) := by decide +kernel
set_option maxRecDepth 20000 in
theorem ggX11_isVoter_X11_in : GoodIn wsX11_isVoter wsX11_in := goodIn_r _ [5] (by decide +kernel) (by decide +kernel)
set_option maxRecDepth 20000 in
theorem gX11_isVoter_X11_in : GoodIn wsX11_isVoter (va_wsS RX11 103 yX11_in wsX11_in) := goodIn_app (goodIn_of _ (by decide +kernel)) ggX11_isVoter_X11_in
theorem dX11_isVoter_0 : decode cX11_isVoter 0 = .ok (.iload_n 1, 1) := by decide +kernel
theorem dX11_isVoter_1 : decode cX11_isVoter 1 = .ok (.i2l, 1) := by decide +kernel
theorem dX11_isVoter_2 : decode cX11_isVoter 2 = .ok (.lconst 0, 1) := by decide +kernel
theorem dX11_isVoter_3 : decode cX11_isVoter 3 = .ok (.aload_n 0, 1) := by decide +kernel
theorem dX11_isVoter_4 : decode cX11_isVoter 4 = .ok (.getfield 233, 3) := by decide +kernel
theorem dX11_isVoter_7 : decode cX11_isVoter 7 = .ok (.iconst 1, 1) := by decide +kernel
theorem dX11_isVoter_8 : decode cX11_isVoter 8 = .ok (.isub, 1) := by decide +kernel
theorem dX11_isVoter_9 : decode cX11_isVoter 9 = .ok (.i2l, 1) := by decide +kernel
theorem dX11_isVoter_10 : decode cX11_isVoter 10 = .ok (.invokestatic 103, 3) := by decide +kernel
theorem dX11_isVoter_13 : decode cX11_isVoter 13 = .ok (.ireturn, 1) := by decide +kernel
set_option maxRecDepth 20000 in
theorem ggX11_like_X11_isVoter : GoodIn wsX11_like wsX11_isVoter := goodIn_r _ [6, 7, 8, 9, 5, 10, 24, 25, 26, 27, 28, 29, 30, 31, 32, 33, 34, 35, 36, 37, 38, 39, 40, 41, 42, 43, 44, 45, 46, 47, 48, 49, 50, 51, 52, 53, 54, 55, 56, 57, 58] (by decide +kernel) (by decide +kernel)
set_option maxRecDepth 20000 in
theorem gX11_like_X11_isVoter : GoodIn wsX11_like (wsV RX11 242 RX11 yX11_isVoter wsX11_isVoter) := goodIn_app (goodIn_of _ (by decide +kernel)) ggX11_like_X11_isVoter
set_option maxRecDepth 20000 in
theorem ggX11_like_X11_in : GoodIn wsX11_like wsX11_in := goodIn_r _ [10] (by decide +kernel) (by decide +kernel)
set_option maxRecDepth 20000 in
theorem gX11_like_X11_in : GoodIn wsX11_like (va_wsS RX11 103 yX11_in wsX11_in) := goodIn_app (goodIn_of _ (by decide +kernel)) ggX11_like_X11_in
set_option maxRecDepth 20000 in
theorem ggX11_like_X11_likeOf : GoodIn wsX11_like wsX11_likeOf := goodIn_r _ [14, 15, 16, 17, 18, 5, 19, 20, 21, 22, 23, 24, 25, 26, 27, 28, 29, 30, 31, 32, 33, 34, 35, 36, 37, 38, 39, 40, 41, 42, 43, 44, 45, 46, 47, 48, 49, 50, 51, 52, 53, 54, 55, 56, 57, 58] (by decide +kernel) (by decide +kernel)
set_option maxRecDepth 20000 in
theorem gX11_like_X11_likeOf : GoodIn wsX11_like (wsV RX11 245 RX11 yX11_likeOf wsX11_likeOf) := goodIn_app (goodIn_of _ (by decide +kernel)) ggX11_like_X11_likeOf
theorem dX11_like_0 : decode cX11_like 0 = .ok (.aload_n 0, 1) := by decide +kernel
theorem dX11_like_1 : decode cX11_like 1 = .ok (.iload_n 1, 1) := by decide +kernel
theorem dX11_like_2 : decode cX11_like 2 = .ok (.invokevirtual 242, 3) := by decide +kernel
theorem dX11_like_5 : decode cX11_like 5 = .ok (.ifCond .eq 28, 3) := by decide +kernel
theorem dX11_like_8 : decode cX11_like 8 = .ok (.iload_n 2, 1) := by decide +kernel
theorem dX11_like_9 : decode cX11_like 9 = .ok (.i2l, 1) := by decide +kernel
theorem dX11_like_10 : decode cX11_like 10 = .ok (.lconst 0, 1) := by decide +kernel
theorem dX11_like_11 : decode cX11_like 11 = .ok (.aload_n 0, 1) := by decide +kernel
theorem dX11_like_12 : decode cX11_like 12 = .ok (.getfield 230, 3) := by decide +kernel
theorem dX11_like_15 : decode cX11_like 15 = .ok (.iconst 1, 1) := by decide +kernel
theorem dX11_like_16 : decode cX11_like 16 = .ok (.isub, 1) := by decide +kernel
theorem dX11_like_17 : decode cX11_like 17 = .ok (.i2l, 1) := by decide +kernel
theorem dX11_like_18 : decode cX11_like 18 = .ok (.invokestatic 103, 3) := by decide +kernel
theorem dX11_like_21 : decode cX11_like 21 = .ok (.ifCond .eq 12, 3) := by decide +kernel
theorem dX11_like_24 : decode cX11_like 24 = .ok (.aload_n 0, 1) := by decide +kernel
theorem dX11_like_25 : decode cX11_like 25 = .ok (.iload_n 1, 1) := by decide +kernel
theorem dX11_like_26 : decode cX11_like 26 = .ok (.iload_n 2, 1) := by decide +kernel
theorem dX11_like_27 : decode cX11_like 27 = .ok (.invokevirtual 245, 3) := by decide +kernel
theorem dX11_like_30 : decode cX11_like 30 = .ok (.goto 4, 3) := by decide +kernel
theorem dX11_like_33 : decode cX11_like 33 = .ok (.iconst (-1), 1) := by decide +kernel
theorem dX11_like_34 : decode cX11_like 34 = .ok (.ireturn, 1) := by decide +kernel
set_option maxRecDepth 20000 in
theorem ggX11_strikes1_X11_likeOf : GoodIn wsX11_strikes1 wsX11_likeOf := goodIn_r _ [8, 9, 10, 11, 12, 7, 13, 14, 15, 16, 17, 18, 19, 20, 21, 22, 23, 24, 25, 26, 27, 28, 29, 30, 31, 32, 33, 34, 35, 36, 37, 38, 39, 40, 41, 42, 43, 44, 45, 46, 47, 48, 49, 50, 51, 52] (by decide +kernel) (by decide +kernel)
set_option maxRecDepth 20000 in
theorem gX11_strikes1_X11_likeOf : GoodIn wsX11_strikes1 (wsV RX11 245 RX11 yX11_likeOf wsX11_likeOf) := goodIn_app (goodIn_of _ (by decide +kernel)) ggX11_strikes1_X11_likeOf
theorem dX11_strikes1_0 : decode cX11_strikes1 0 = .ok (.aload_n 0, 1) := by decide +kernel
theorem dX11_strikes1_1 : decode cX11_strikes1 1 = .ok (.getfield 63, 3) := by decide +kernel
theorem dX11_strikes1_4 : decode cX11_strikes1 4 = .ok (.iload_n 1, 1) := by decide +kernel
theorem dX11_strikes1_5 : decode cX11_strikes1 5 = .ok (.iaload, 1) := by decide +kernel
theorem dX11_strikes1_6 : decode cX11_strikes1 6 = .ok (.ifCond .lt 31, 3) := by decide +kernel
theorem dX11_strikes1_9 : decode cX11_strikes1 9 = .ok (.aload_n 0, 1) := by decide +kernel
theorem dX11_strikes1_10 : decode cX11_strikes1 10 = .ok (.getfield 57, 3) := by decide +kernel
theorem dX11_strikes1_13 : decode cX11_strikes1 13 = .ok (.iload_n 2, 1) := by decide +kernel
theorem dX11_strikes1_14 : decode cX11_strikes1 14 = .ok (.iaload, 1) := by decide +kernel
theorem dX11_strikes1_15 : decode cX11_strikes1 15 = .ok (.ifCond .lt 22, 3) := by decide +kernel
theorem dX11_strikes1_18 : decode cX11_strikes1 18 = .ok (.aload_n 0, 1) := by decide +kernel
theorem dX11_strikes1_19 : decode cX11_strikes1 19 = .ok (.getfield 63, 3) := by decide +kernel
theorem dX11_strikes1_22 : decode cX11_strikes1 22 = .ok (.iload_n 1, 1) := by decide +kernel
theorem dX11_strikes1_23 : decode cX11_strikes1 23 = .ok (.iaload, 1) := by decide +kernel
theorem dX11_strikes1_24 : decode cX11_strikes1 24 = .ok (.aload_n 0, 1) := by decide +kernel
theorem dX11_strikes1_25 : decode cX11_strikes1 25 = .ok (.getfield 57, 3) := by decide +kernel
theorem dX11_strikes1_28 : decode cX11_strikes1 28 = .ok (.iload_n 2, 1) := by decide +kernel
theorem dX11_strikes1_29 : decode cX11_strikes1 29 = .ok (.iaload, 1) := by decide +kernel
theorem dX11_strikes1_30 : decode cX11_strikes1 30 = .ok (.if_icmp .eq 7, 3) := by decide +kernel
theorem dX11_strikes1_33 : decode cX11_strikes1 33 = .ok (.iconst 1, 1) := by decide +kernel
theorem dX11_strikes1_34 : decode cX11_strikes1 34 = .ok (.goto 4, 3) := by decide +kernel
theorem dX11_strikes1_37 : decode cX11_strikes1 37 = .ok (.iconst 0, 1) := by decide +kernel
theorem dX11_strikes1_38 : decode cX11_strikes1 38 = .ok (.istore_n 3, 1) := by decide +kernel
theorem dX11_strikes1_39 : decode cX11_strikes1 39 = .ok (.aload_n 0, 1) := by decide +kernel
theorem dX11_strikes1_40 : decode cX11_strikes1 40 = .ok (.iload_n 1, 1) := by decide +kernel
theorem dX11_strikes1_41 : decode cX11_strikes1 41 = .ok (.iload_n 2, 1) := by decide +kernel
theorem dX11_strikes1_42 : decode cX11_strikes1 42 = .ok (.invokevirtual 245, 3) := by decide +kernel
theorem dX11_strikes1_45 : decode cX11_strikes1 45 = .ok (.aload_n 0, 1) := by decide +kernel
theorem dX11_strikes1_46 : decode cX11_strikes1 46 = .ok (.getfield 69, 3) := by decide +kernel
theorem dX11_strikes1_49 : decode cX11_strikes1 49 = .ok (.if_icmp .lt 11, 3) := by decide +kernel
theorem dX11_strikes1_52 : decode cX11_strikes1 52 = .ok (.iload_n 3, 1) := by decide +kernel
theorem dX11_strikes1_53 : decode cX11_strikes1 53 = .ok (.ifCond .ne 7, 3) := by decide +kernel
theorem dX11_strikes1_56 : decode cX11_strikes1 56 = .ok (.iconst 1, 1) := by decide +kernel
theorem dX11_strikes1_57 : decode cX11_strikes1 57 = .ok (.goto 4, 3) := by decide +kernel
theorem dX11_strikes1_60 : decode cX11_strikes1 60 = .ok (.iconst 0, 1) := by decide +kernel
theorem dX11_strikes1_61 : decode cX11_strikes1 61 = .ok (.ireturn, 1) := by decide +kernel
set_option maxRecDepth 20000 in
theorem ggX11_struckAs_X11_strikes1 : GoodIn wsX11_struckAs wsX11_strikes1 := goodIn_r _ [6, 7, 8, 9, 10, 11, 12, 5, 13, 14, 15, 16, 17, 18, 19, 20, 21, 22, 23, 24, 25, 26, 27, 28, 29, 30, 31, 32, 33, 34, 35, 36, 37, 38, 39, 40, 41, 42, 43, 44, 45, 46, 47, 48, 49, 50, 51, 52, 53, 54, 55, 56, 57] (by decide +kernel) (by decide +kernel)
set_option maxRecDepth 20000 in
theorem gX11_struckAs_X11_strikes1 : GoodIn wsX11_struckAs (wsV RX11 248 RX11 yX11_strikes1 wsX11_strikes1) := goodIn_app (goodIn_of _ (by decide +kernel)) ggX11_struckAs_X11_strikes1
set_option maxRecDepth 20000 in
theorem ggX11_struckAs_X11_likeOf : GoodIn wsX11_struckAs wsX11_likeOf := goodIn_r _ [13, 14, 15, 16, 17, 5, 18, 19, 20, 21, 22, 23, 24, 25, 26, 27, 28, 29, 30, 31, 32, 33, 34, 35, 36, 37, 38, 39, 40, 41, 42, 43, 44, 45, 46, 47, 48, 49, 50, 51, 52, 53, 54, 55, 56, 57] (by decide +kernel) (by decide +kernel)
set_option maxRecDepth 20000 in
theorem gX11_struckAs_X11_likeOf : GoodIn wsX11_struckAs (wsV RX11 245 RX11 yX11_likeOf wsX11_likeOf) := goodIn_app (goodIn_of _ (by decide +kernel)) ggX11_struckAs_X11_likeOf
theorem dX11_struckAs_0 : decode cX11_struckAs 0 = .ok (.bipush (-4), 2) := by decide +kernel
theorem dX11_struckAs_2 : decode cX11_struckAs 2 = .ok (.istore_n 2, 1) := by decide +kernel
theorem dX11_struckAs_3 : decode cX11_struckAs 3 = .ok (.iconst 0, 1) := by decide +kernel
theorem dX11_struckAs_4 : decode cX11_struckAs 4 = .ok (.istore_n 3, 1) := by decide +kernel
theorem dX11_struckAs_5 : decode cX11_struckAs 5 = .ok (.iload_n 3, 1) := by decide +kernel
theorem dX11_struckAs_6 : decode cX11_struckAs 6 = .ok (.aload_n 0, 1) := by decide +kernel
theorem dX11_struckAs_7 : decode cX11_struckAs 7 = .ok (.getfield 230, 3) := by decide +kernel
theorem dX11_struckAs_10 : decode cX11_struckAs 10 = .ok (.if_icmp .ge 43, 3) := by decide +kernel
theorem dX11_struckAs_13 : decode cX11_struckAs 13 = .ok (.aload_n 0, 1) := by decide +kernel
theorem dX11_struckAs_14 : decode cX11_struckAs 14 = .ok (.iload_n 1, 1) := by decide +kernel
theorem dX11_struckAs_15 : decode cX11_struckAs 15 = .ok (.iload_n 3, 1) := by decide +kernel
theorem dX11_struckAs_16 : decode cX11_struckAs 16 = .ok (.invokevirtual 248, 3) := by decide +kernel
theorem dX11_struckAs_19 : decode cX11_struckAs 19 = .ok (.ifCond .eq 26, 3) := by decide +kernel
theorem dX11_struckAs_22 : decode cX11_struckAs 22 = .ok (.iload_n 2, 1) := by decide +kernel
theorem dX11_struckAs_23 : decode cX11_struckAs 23 = .ok (.ifCond .lt 18, 3) := by decide +kernel
theorem dX11_struckAs_26 : decode cX11_struckAs 26 = .ok (.aload_n 0, 1) := by decide +kernel
theorem dX11_struckAs_27 : decode cX11_struckAs 27 = .ok (.iload_n 1, 1) := by decide +kernel
theorem dX11_struckAs_28 : decode cX11_struckAs 28 = .ok (.iload_n 3, 1) := by decide +kernel
theorem dX11_struckAs_29 : decode cX11_struckAs 29 = .ok (.invokevirtual 245, 3) := by decide +kernel
theorem dX11_struckAs_32 : decode cX11_struckAs 32 = .ok (.aload_n 0, 1) := by decide +kernel
theorem dX11_struckAs_33 : decode cX11_struckAs 33 = .ok (.iload_n 1, 1) := by decide +kernel
theorem dX11_struckAs_34 : decode cX11_struckAs 34 = .ok (.iload_n 2, 1) := by decide +kernel
theorem dX11_struckAs_35 : decode cX11_struckAs 35 = .ok (.invokevirtual 245, 3) := by decide +kernel
theorem dX11_struckAs_38 : decode cX11_struckAs 38 = .ok (.if_icmp .le 7, 3) := by decide +kernel
theorem dX11_struckAs_41 : decode cX11_struckAs 41 = .ok (.iload_n 3, 1) := by decide +kernel
theorem dX11_struckAs_42 : decode cX11_struckAs 42 = .ok (.goto 4, 3) := by decide +kernel
theorem dX11_struckAs_45 : decode cX11_struckAs 45 = .ok (.iload_n 2, 1) := by decide +kernel
theorem dX11_struckAs_46 : decode cX11_struckAs 46 = .ok (.istore_n 2, 1) := by decide +kernel
theorem dX11_struckAs_47 : decode cX11_struckAs 47 = .ok (.iinc 3 1, 3) := by decide +kernel
theorem dX11_struckAs_50 : decode cX11_struckAs 50 = .ok (.goto (-45), 3) := by decide +kernel
theorem dX11_struckAs_53 : decode cX11_struckAs 53 = .ok (.iload_n 2, 1) := by decide +kernel
theorem dX11_struckAs_54 : decode cX11_struckAs 54 = .ok (.ireturn, 1) := by decide +kernel
set_option maxRecDepth 20000 in
theorem ggX11_rightly_X11_struckAs : GoodIn wsX11_rightly wsX11_struckAs := goodIn_r _ [9, 10, 11, 12, 13, 8, 14, 1, 2, 15, 16, 17, 18, 19, 3, 4, 20, 21, 22, 23, 24, 25, 26, 27, 28, 29, 30, 31, 32, 33, 34, 35, 36, 37, 38, 39, 40, 41, 42, 43, 44, 45, 46, 47, 48, 49, 50, 51, 52, 53, 54, 55, 56, 57, 58, 59, 60, 61] (by decide +kernel) (by decide +kernel)
set_option maxRecDepth 20000 in
theorem gX11_rightly_X11_struckAs : GoodIn wsX11_rightly (wsV RX11 251 RX11 yX11_struckAs wsX11_struckAs) := goodIn_app (goodIn_of _ (by decide +kernel)) ggX11_rightly_X11_struckAs
theorem dX11_rightly_0 : decode cX11_rightly 0 = .ok (.aload_n 0, 1) := by decide +kernel
theorem dX11_rightly_1 : decode cX11_rightly 1 = .ok (.iload_n 1, 1) := by decide +kernel
theorem dX11_rightly_2 : decode cX11_rightly 2 = .ok (.invokevirtual 251, 3) := by decide +kernel
theorem dX11_rightly_5 : decode cX11_rightly 5 = .ok (.istore_n 2, 1) := by decide +kernel
theorem dX11_rightly_6 : decode cX11_rightly 6 = .ok (.iload_n 2, 1) := by decide +kernel
theorem dX11_rightly_7 : decode cX11_rightly 7 = .ok (.ifCond .ge 6, 3) := by decide +kernel
theorem dX11_rightly_10 : decode cX11_rightly 10 = .ok (.bipush (-4), 2) := by decide +kernel
theorem dX11_rightly_12 : decode cX11_rightly 12 = .ok (.ireturn, 1) := by decide +kernel
theorem dX11_rightly_13 : decode cX11_rightly 13 = .ok (.aload_n 0, 1) := by decide +kernel
theorem dX11_rightly_14 : decode cX11_rightly 14 = .ok (.getfield 63, 3) := by decide +kernel
theorem dX11_rightly_17 : decode cX11_rightly 17 = .ok (.iload_n 1, 1) := by decide +kernel
theorem dX11_rightly_18 : decode cX11_rightly 18 = .ok (.iaload, 1) := by decide +kernel
theorem dX11_rightly_19 : decode cX11_rightly 19 = .ok (.ifCond .lt 16, 3) := by decide +kernel
theorem dX11_rightly_22 : decode cX11_rightly 22 = .ok (.aload_n 0, 1) := by decide +kernel
theorem dX11_rightly_23 : decode cX11_rightly 23 = .ok (.getfield 57, 3) := by decide +kernel
theorem dX11_rightly_26 : decode cX11_rightly 26 = .ok (.iload_n 2, 1) := by decide +kernel
theorem dX11_rightly_27 : decode cX11_rightly 27 = .ok (.iaload, 1) := by decide +kernel
theorem dX11_rightly_28 : decode cX11_rightly 28 = .ok (.ifCond .lt 7, 3) := by decide +kernel
theorem dX11_rightly_31 : decode cX11_rightly 31 = .ok (.iconst 1, 1) := by decide +kernel
theorem dX11_rightly_32 : decode cX11_rightly 32 = .ok (.goto 4, 3) := by decide +kernel
theorem dX11_rightly_35 : decode cX11_rightly 35 = .ok (.iconst 0, 1) := by decide +kernel
theorem dX11_rightly_36 : decode cX11_rightly 36 = .ok (.istore_n 3, 1) := by decide +kernel
theorem dX11_rightly_37 : decode cX11_rightly 37 = .ok (.iload_n 3, 1) := by decide +kernel
theorem dX11_rightly_38 : decode cX11_rightly 38 = .ok (.ifCond .ne 7, 3) := by decide +kernel
theorem dX11_rightly_41 : decode cX11_rightly 41 = .ok (.iconst 1, 1) := by decide +kernel
theorem dX11_rightly_42 : decode cX11_rightly 42 = .ok (.goto 24, 3) := by decide +kernel
theorem dX11_rightly_45 : decode cX11_rightly 45 = .ok (.aload_n 0, 1) := by decide +kernel
theorem dX11_rightly_46 : decode cX11_rightly 46 = .ok (.getfield 60, 3) := by decide +kernel
theorem dX11_rightly_49 : decode cX11_rightly 49 = .ok (.iload_n 1, 1) := by decide +kernel
theorem dX11_rightly_50 : decode cX11_rightly 50 = .ok (.laload, 1) := by decide +kernel
theorem dX11_rightly_51 : decode cX11_rightly 51 = .ok (.aload_n 0, 1) := by decide +kernel
theorem dX11_rightly_52 : decode cX11_rightly 52 = .ok (.getfield 53, 3) := by decide +kernel
theorem dX11_rightly_55 : decode cX11_rightly 55 = .ok (.iload_n 2, 1) := by decide +kernel
theorem dX11_rightly_56 : decode cX11_rightly 56 = .ok (.laload, 1) := by decide +kernel
theorem dX11_rightly_57 : decode cX11_rightly 57 = .ok (.lcmp, 1) := by decide +kernel
theorem dX11_rightly_58 : decode cX11_rightly 58 = .ok (.ifCond .ne 7, 3) := by decide +kernel
theorem dX11_rightly_61 : decode cX11_rightly 61 = .ok (.iconst 2, 1) := by decide +kernel
theorem dX11_rightly_62 : decode cX11_rightly 62 = .ok (.goto 4, 3) := by decide +kernel
theorem dX11_rightly_65 : decode cX11_rightly 65 = .ok (.iconst 0, 1) := by decide +kernel
theorem dX11_rightly_66 : decode cX11_rightly 66 = .ok (.ireturn, 1) := by decide +kernel
set_option maxRecDepth 20000 in
theorem ggX11_struck_X11_isVoter : GoodIn wsX11_struck wsX11_isVoter := goodIn_r _ [5, 6, 7, 8, 4, 9, 39, 40, 41, 42, 43, 44, 45, 46, 47, 48, 49, 50, 51, 52, 53, 54, 55, 56, 57, 58, 59, 60, 61, 62, 63, 64, 65, 66, 67, 68, 69, 70, 71, 72, 73] (by decide +kernel) (by decide +kernel)
set_option maxRecDepth 20000 in
theorem gX11_struck_X11_isVoter : GoodIn wsX11_struck (wsV RX11 242 RX11 yX11_isVoter wsX11_isVoter) := goodIn_app (goodIn_of _ (by decide +kernel)) ggX11_struck_X11_isVoter
set_option maxRecDepth 20000 in
theorem ggX11_struck_X11_in : GoodIn wsX11_struck wsX11_in := goodIn_r _ [9] (by decide +kernel) (by decide +kernel)
set_option maxRecDepth 20000 in
theorem gX11_struck_X11_in : GoodIn wsX11_struck (va_wsS RX11 103 yX11_in wsX11_in) := goodIn_app (goodIn_of _ (by decide +kernel)) ggX11_struck_X11_in
set_option maxRecDepth 20000 in
theorem ggX11_struck_X11_struckAs : GoodIn wsX11_struck wsX11_struckAs := goodIn_r _ [13, 14, 15, 16, 17, 4, 18, 19, 20, 21, 22, 23, 24, 25, 26, 27, 28, 29, 30, 31, 32, 33, 34, 39, 40, 41, 42, 43, 44, 45, 46, 47, 48, 49, 50, 51, 52, 53, 54, 55, 56, 57, 58, 59, 60, 61, 62, 63, 64, 65, 66, 67, 68, 69, 70, 71, 72, 73] (by decide +kernel) (by decide +kernel)
set_option maxRecDepth 20000 in
theorem gX11_struck_X11_struckAs : GoodIn wsX11_struck (wsV RX11 251 RX11 yX11_struckAs wsX11_struckAs) := goodIn_app (goodIn_of _ (by decide +kernel)) ggX11_struck_X11_struckAs
set_option maxRecDepth 20000 in
theorem ggX11_struck_X11_rightly : GoodIn wsX11_struck wsX11_rightly := goodIn_r _ [38, 19, 20, 26, 27, 10, 11, 12, 4, 13, 14, 15, 16, 17, 18, 21, 22, 23, 24, 25, 28, 29, 30, 31, 32, 33, 34, 39, 40, 41, 42, 43, 44, 45, 46, 47, 48, 49, 50, 51, 52, 53, 54, 55, 56, 57, 58, 59, 60, 61, 62, 63, 64, 65, 66, 67, 68, 69, 70, 71, 72, 73] (by decide +kernel) (by decide +kernel)
set_option maxRecDepth 20000 in
theorem gX11_struck_X11_rightly : GoodIn wsX11_struck (wsV RX11 254 RX11 yX11_rightly wsX11_rightly) := goodIn_app (goodIn_of _ (by decide +kernel)) ggX11_struck_X11_rightly
theorem dX11_struck_0 : decode cX11_struck 0 = .ok (.aload_n 0, 1) := by decide +kernel
theorem dX11_struck_1 : decode cX11_struck 1 = .ok (.iload_n 1, 1) := by decide +kernel
theorem dX11_struck_2 : decode cX11_struck 2 = .ok (.invokevirtual 242, 3) := by decide +kernel
theorem dX11_struck_5 : decode cX11_struck 5 = .ok (.ifCond .eq 13, 3) := by decide +kernel
theorem dX11_struck_8 : decode cX11_struck 8 = .ok (.iload_n 2, 1) := by decide +kernel
theorem dX11_struck_9 : decode cX11_struck 9 = .ok (.i2l, 1) := by decide +kernel
theorem dX11_struck_10 : decode cX11_struck 10 = .ok (.lconst 0, 1) := by decide +kernel
theorem dX11_struck_11 : decode cX11_struck 11 = .ok (.lconst 1, 1) := by decide +kernel
theorem dX11_struck_12 : decode cX11_struck 12 = .ok (.invokestatic 103, 3) := by decide +kernel
theorem dX11_struck_15 : decode cX11_struck 15 = .ok (.ifCond .ne 5, 3) := by decide +kernel
theorem dX11_struck_18 : decode cX11_struck 18 = .ok (.iconst (-1), 1) := by decide +kernel
theorem dX11_struck_19 : decode cX11_struck 19 = .ok (.ireturn, 1) := by decide +kernel
theorem dX11_struck_20 : decode cX11_struck 20 = .ok (.iload_n 2, 1) := by decide +kernel
theorem dX11_struck_21 : decode cX11_struck 21 = .ok (.ifCond .ne 11, 3) := by decide +kernel
theorem dX11_struck_24 : decode cX11_struck 24 = .ok (.aload_n 0, 1) := by decide +kernel
theorem dX11_struck_25 : decode cX11_struck 25 = .ok (.iload_n 1, 1) := by decide +kernel
theorem dX11_struck_26 : decode cX11_struck 26 = .ok (.invokevirtual 251, 3) := by decide +kernel
theorem dX11_struck_29 : decode cX11_struck 29 = .ok (.goto 8, 3) := by decide +kernel
theorem dX11_struck_32 : decode cX11_struck 32 = .ok (.aload_n 0, 1) := by decide +kernel
theorem dX11_struck_33 : decode cX11_struck 33 = .ok (.iload_n 1, 1) := by decide +kernel
theorem dX11_struck_34 : decode cX11_struck 34 = .ok (.invokevirtual 254, 3) := by decide +kernel
theorem dX11_struck_37 : decode cX11_struck 37 = .ok (.ireturn, 1) := by decide +kernel
set_option maxRecDepth 20000 in
theorem ggX11_strikes_X11_in : GoodIn wsX11_strikes wsX11_in := goodIn_r _ [8] (by decide +kernel) (by decide +kernel)
set_option maxRecDepth 20000 in
theorem gX11_strikes_X11_in : GoodIn wsX11_strikes (va_wsS RX11 103 yX11_in wsX11_in) := goodIn_app (goodIn_of _ (by decide +kernel)) ggX11_strikes_X11_in
set_option maxRecDepth 20000 in
theorem ggX11_strikes_X11_paired : GoodIn wsX11_strikes wsX11_paired := goodIn_r _ [12, 13, 3, 14, 15, 7, 16, 17, 18, 19, 20, 21, 22, 23, 24, 25, 26, 27, 28, 29, 30, 31, 32, 33, 34, 35, 36, 37, 38, 39, 48, 49, 50, 51, 52, 53, 54, 55, 56, 57, 58, 59, 60, 61, 62, 63, 64, 65, 66, 67, 68, 69, 70, 71, 72, 73, 74, 75, 76, 77, 78, 79, 80, 81, 82] (by decide +kernel) (by decide +kernel)
set_option maxRecDepth 20000 in
theorem gX11_strikes_X11_paired : GoodIn wsX11_strikes (wsV RX11 257 RX11 yX11_paired wsX11_paired) := goodIn_app (goodIn_of _ (by decide +kernel)) ggX11_strikes_X11_paired
set_option maxRecDepth 20000 in
theorem ggX11_strikes_X11_rightly : GoodIn wsX11_strikes wsX11_rightly := goodIn_r _ [43, 24, 25, 31, 32, 44, 45, 46, 7, 47, 13, 20, 21, 22, 23, 26, 27, 28, 29, 30, 33, 34, 35, 36, 37, 38, 39, 48, 49, 50, 51, 52, 53, 54, 55, 56, 57, 58, 59, 60, 61, 62, 63, 64, 65, 66, 67, 68, 69, 70, 71, 72, 73, 74, 75, 76, 77, 78, 79, 80, 81, 82] (by decide +kernel) (by decide +kernel)
set_option maxRecDepth 20000 in
theorem gX11_strikes_X11_rightly : GoodIn wsX11_strikes (wsV RX11 254 RX11 yX11_rightly wsX11_rightly) := goodIn_app (goodIn_of _ (by decide +kernel)) ggX11_strikes_X11_rightly
theorem dX11_strikes_0 : decode cX11_strikes 0 = .ok (.iload_n 2, 1) := by decide +kernel
theorem dX11_strikes_1 : decode cX11_strikes 1 = .ok (.i2l, 1) := by decide +kernel
theorem dX11_strikes_2 : decode cX11_strikes 2 = .ok (.lconst 0, 1) := by decide +kernel
theorem dX11_strikes_3 : decode cX11_strikes 3 = .ok (.ldc2_w 115, 3) := by decide +kernel
theorem dX11_strikes_6 : decode cX11_strikes 6 = .ok (.invokestatic 103, 3) := by decide +kernel
theorem dX11_strikes_9 : decode cX11_strikes 9 = .ok (.ifCond .eq 20, 3) := by decide +kernel
theorem dX11_strikes_12 : decode cX11_strikes 12 = .ok (.iload_n 2, 1) := by decide +kernel
theorem dX11_strikes_13 : decode cX11_strikes 13 = .ok (.iconst 2, 1) := by decide +kernel
theorem dX11_strikes_14 : decode cX11_strikes 14 = .ok (.if_icmp .ge 17, 3) := by decide +kernel
theorem dX11_strikes_17 : decode cX11_strikes 17 = .ok (.iload_n 1, 1) := by decide +kernel
theorem dX11_strikes_18 : decode cX11_strikes 18 = .ok (.i2l, 1) := by decide +kernel
theorem dX11_strikes_19 : decode cX11_strikes 19 = .ok (.lconst 0, 1) := by decide +kernel
theorem dX11_strikes_20 : decode cX11_strikes 20 = .ok (.ldc2_w 157, 3) := by decide +kernel
theorem dX11_strikes_23 : decode cX11_strikes 23 = .ok (.invokestatic 103, 3) := by decide +kernel
theorem dX11_strikes_26 : decode cX11_strikes 26 = .ok (.ifCond .ne 5, 3) := by decide +kernel
theorem dX11_strikes_29 : decode cX11_strikes 29 = .ok (.iconst (-1), 1) := by decide +kernel
theorem dX11_strikes_30 : decode cX11_strikes 30 = .ok (.ireturn, 1) := by decide +kernel
theorem dX11_strikes_31 : decode cX11_strikes 31 = .ok (.iload_n 2, 1) := by decide +kernel
theorem dX11_strikes_32 : decode cX11_strikes 32 = .ok (.iconst 2, 1) := by decide +kernel
theorem dX11_strikes_33 : decode cX11_strikes 33 = .ok (.if_icmp .ne 8, 3) := by decide +kernel
theorem dX11_strikes_36 : decode cX11_strikes 36 = .ok (.aload_n 0, 1) := by decide +kernel
theorem dX11_strikes_37 : decode cX11_strikes 37 = .ok (.invokevirtual 257, 3) := by decide +kernel
theorem dX11_strikes_40 : decode cX11_strikes 40 = .ok (.ireturn, 1) := by decide +kernel
theorem dX11_strikes_41 : decode cX11_strikes 41 = .ok (.iconst 0, 1) := by decide +kernel
theorem dX11_strikes_42 : decode cX11_strikes 42 = .ok (.istore_n 3, 1) := by decide +kernel
theorem dX11_strikes_43 : decode cX11_strikes 43 = .ok (.iconst 0, 1) := by decide +kernel
theorem dX11_strikes_44 : decode cX11_strikes 44 = .ok (.istore 4, 2) := by decide +kernel
theorem dX11_strikes_46 : decode cX11_strikes 46 = .ok (.iload 4, 2) := by decide +kernel
theorem dX11_strikes_48 : decode cX11_strikes 48 = .ok (.aload_n 0, 1) := by decide +kernel
theorem dX11_strikes_49 : decode cX11_strikes 49 = .ok (.getfield 233, 3) := by decide +kernel
theorem dX11_strikes_52 : decode cX11_strikes 52 = .ok (.if_icmp .ge 70, 3) := by decide +kernel
theorem dX11_strikes_55 : decode cX11_strikes 55 = .ok (.iload_n 1, 1) := by decide +kernel
theorem dX11_strikes_56 : decode cX11_strikes 56 = .ok (.iconst 5, 1) := by decide +kernel
theorem dX11_strikes_57 : decode cX11_strikes 57 = .ok (.if_icmp .eq 14, 3) := by decide +kernel
theorem dX11_strikes_60 : decode cX11_strikes 60 = .ok (.aload_n 0, 1) := by decide +kernel
theorem dX11_strikes_61 : decode cX11_strikes 61 = .ok (.getfield 66, 3) := by decide +kernel
theorem dX11_strikes_64 : decode cX11_strikes 64 = .ok (.iload 4, 2) := by decide +kernel
theorem dX11_strikes_66 : decode cX11_strikes 66 = .ok (.iaload, 1) := by decide +kernel
theorem dX11_strikes_67 : decode cX11_strikes 67 = .ok (.iload_n 1, 1) := by decide +kernel
theorem dX11_strikes_68 : decode cX11_strikes 68 = .ok (.if_icmp .ne 7, 3) := by decide +kernel
theorem dX11_strikes_71 : decode cX11_strikes 71 = .ok (.iconst 1, 1) := by decide +kernel
theorem dX11_strikes_72 : decode cX11_strikes 72 = .ok (.goto 4, 3) := by decide +kernel
theorem dX11_strikes_75 : decode cX11_strikes 75 = .ok (.iconst 0, 1) := by decide +kernel
theorem dX11_strikes_76 : decode cX11_strikes 76 = .ok (.istore 5, 2) := by decide +kernel
theorem dX11_strikes_78 : decode cX11_strikes 78 = .ok (.iload_n 3, 1) := by decide +kernel
theorem dX11_strikes_79 : decode cX11_strikes 79 = .ok (.iload 5, 2) := by decide +kernel
theorem dX11_strikes_81 : decode cX11_strikes 81 = .ok (.ifCond .eq 32, 3) := by decide +kernel
theorem dX11_strikes_84 : decode cX11_strikes 84 = .ok (.iload_n 2, 1) := by decide +kernel
theorem dX11_strikes_85 : decode cX11_strikes 85 = .ok (.ifCond .ne 15, 3) := by decide +kernel
theorem dX11_strikes_88 : decode cX11_strikes 88 = .ok (.aload_n 0, 1) := by decide +kernel
theorem dX11_strikes_89 : decode cX11_strikes 89 = .ok (.iload 4, 2) := by decide +kernel
theorem dX11_strikes_91 : decode cX11_strikes 91 = .ok (.invokevirtual 254, 3) := by decide +kernel
theorem dX11_strikes_94 : decode cX11_strikes 94 = .ok (.ifCond .lt 19, 3) := by decide +kernel
theorem dX11_strikes_97 : decode cX11_strikes 97 = .ok (.goto 12, 3) := by decide +kernel
theorem dX11_strikes_100 : decode cX11_strikes 100 = .ok (.aload_n 0, 1) := by decide +kernel
theorem dX11_strikes_101 : decode cX11_strikes 101 = .ok (.iload 4, 2) := by decide +kernel
theorem dX11_strikes_103 : decode cX11_strikes 103 = .ok (.invokevirtual 254, 3) := by decide +kernel
theorem dX11_strikes_106 : decode cX11_strikes 106 = .ok (.ifCond .ne 7, 3) := by decide +kernel
theorem dX11_strikes_109 : decode cX11_strikes 109 = .ok (.iconst 1, 1) := by decide +kernel
theorem dX11_strikes_110 : decode cX11_strikes 110 = .ok (.goto 4, 3) := by decide +kernel
theorem dX11_strikes_113 : decode cX11_strikes 113 = .ok (.iconst 0, 1) := by decide +kernel
theorem dX11_strikes_114 : decode cX11_strikes 114 = .ok (.iadd, 1) := by decide +kernel
theorem dX11_strikes_115 : decode cX11_strikes 115 = .ok (.istore_n 3, 1) := by decide +kernel
theorem dX11_strikes_116 : decode cX11_strikes 116 = .ok (.iinc 4 1, 3) := by decide +kernel
theorem dX11_strikes_119 : decode cX11_strikes 119 = .ok (.goto (-73), 3) := by decide +kernel
theorem dX11_strikes_122 : decode cX11_strikes 122 = .ok (.iload_n 3, 1) := by decide +kernel
theorem dX11_strikes_123 : decode cX11_strikes 123 = .ok (.ireturn, 1) := by decide +kernel
set_option maxRecDepth 20000 in
theorem ggX11_paired_X11_size : GoodIn wsX11_paired wsX11_size := goodIn_r _ [6, 7, 8, 5, 9] (by decide +kernel) (by decide +kernel)
set_option maxRecDepth 20000 in
theorem gX11_paired_X11_size : GoodIn wsX11_paired (va_wsS RX11 208 yX11_size wsX11_size) := goodIn_app (goodIn_of _ (by decide +kernel)) ggX11_paired_X11_size
set_option maxRecDepth 20000 in
theorem ggX11_paired_X11_has : GoodIn wsX11_paired wsX11_has := goodIn_r _ [9] (by decide +kernel) (by decide +kernel)
set_option maxRecDepth 20000 in
theorem gX11_paired_X11_has : GoodIn wsX11_paired (va_wsS RX11 97 yX11_has wsX11_has) := goodIn_app (goodIn_of _ (by decide +kernel)) ggX11_paired_X11_has
set_option maxRecDepth 20000 in
theorem ggX11_paired_X11_strikes1 : GoodIn wsX11_paired wsX11_strikes1 := goodIn_r _ [13, 14, 15, 16, 17, 18, 19, 5, 20, 21, 22, 23, 24, 25, 26, 27, 28, 29, 30, 31, 32, 33, 34, 35, 36, 37, 38, 39, 40, 41, 42, 43, 44, 45, 46, 47, 48, 49, 50, 51, 52, 53, 54, 55, 56, 57, 58, 59, 60, 61, 62, 63, 64] (by decide +kernel) (by decide +kernel)
set_option maxRecDepth 20000 in
theorem gX11_paired_X11_strikes1 : GoodIn wsX11_paired (wsV RX11 248 RX11 yX11_strikes1 wsX11_strikes1) := goodIn_app (goodIn_of _ (by decide +kernel)) ggX11_paired_X11_strikes1
theorem dX11_paired_0 : decode cX11_paired 0 = .ok (.sipush 1000, 3) := by decide +kernel
theorem dX11_paired_3 : decode cX11_paired 3 = .ok (.istore_n 1, 1) := by decide +kernel
theorem dX11_paired_4 : decode cX11_paired 4 = .ok (.iconst 0, 1) := by decide +kernel
theorem dX11_paired_5 : decode cX11_paired 5 = .ok (.istore_n 2, 1) := by decide +kernel
theorem dX11_paired_6 : decode cX11_paired 6 = .ok (.iload_n 2, 1) := by decide +kernel
theorem dX11_paired_7 : decode cX11_paired 7 = .ok (.iconst 1, 1) := by decide +kernel
theorem dX11_paired_8 : decode cX11_paired 8 = .ok (.aload_n 0, 1) := by decide +kernel
theorem dX11_paired_9 : decode cX11_paired 9 = .ok (.getfield 230, 3) := by decide +kernel
theorem dX11_paired_12 : decode cX11_paired 12 = .ok (.ishl, 1) := by decide +kernel
theorem dX11_paired_13 : decode cX11_paired 13 = .ok (.if_icmp .ge 109, 3) := by decide +kernel
theorem dX11_paired_16 : decode cX11_paired 16 = .ok (.iload_n 2, 1) := by decide +kernel
theorem dX11_paired_17 : decode cX11_paired 17 = .ok (.invokestatic 208, 3) := by decide +kernel
theorem dX11_paired_20 : decode cX11_paired 20 = .ok (.istore_n 3, 1) := by decide +kernel
theorem dX11_paired_21 : decode cX11_paired 21 = .ok (.iconst 0, 1) := by decide +kernel
theorem dX11_paired_22 : decode cX11_paired 22 = .ok (.istore 4, 2) := by decide +kernel
theorem dX11_paired_24 : decode cX11_paired 24 = .ok (.iload 4, 2) := by decide +kernel
theorem dX11_paired_26 : decode cX11_paired 26 = .ok (.aload_n 0, 1) := by decide +kernel
theorem dX11_paired_27 : decode cX11_paired 27 = .ok (.getfield 233, 3) := by decide +kernel
theorem dX11_paired_30 : decode cX11_paired 30 = .ok (.if_icmp .ge 75, 3) := by decide +kernel
theorem dX11_paired_33 : decode cX11_paired 33 = .ok (.iconst 0, 1) := by decide +kernel
theorem dX11_paired_34 : decode cX11_paired 34 = .ok (.istore 5, 2) := by decide +kernel
theorem dX11_paired_36 : decode cX11_paired 36 = .ok (.iconst 0, 1) := by decide +kernel
theorem dX11_paired_37 : decode cX11_paired 37 = .ok (.istore 6, 2) := by decide +kernel
theorem dX11_paired_39 : decode cX11_paired 39 = .ok (.iload 6, 2) := by decide +kernel
theorem dX11_paired_41 : decode cX11_paired 41 = .ok (.aload_n 0, 1) := by decide +kernel
theorem dX11_paired_42 : decode cX11_paired 42 = .ok (.getfield 230, 3) := by decide +kernel
theorem dX11_paired_45 : decode cX11_paired 45 = .ok (.if_icmp .ge 41, 3) := by decide +kernel
theorem dX11_paired_48 : decode cX11_paired 48 = .ok (.iload 5, 2) := by decide +kernel
theorem dX11_paired_50 : decode cX11_paired 50 = .ok (.ifCond .ne 23, 3) := by decide +kernel
theorem dX11_paired_53 : decode cX11_paired 53 = .ok (.iload_n 2, 1) := by decide +kernel
theorem dX11_paired_54 : decode cX11_paired 54 = .ok (.iload 6, 2) := by decide +kernel
theorem dX11_paired_56 : decode cX11_paired 56 = .ok (.invokestatic 97, 3) := by decide +kernel
theorem dX11_paired_59 : decode cX11_paired 59 = .ok (.ifCond .ne 18, 3) := by decide +kernel
theorem dX11_paired_62 : decode cX11_paired 62 = .ok (.aload_n 0, 1) := by decide +kernel
theorem dX11_paired_63 : decode cX11_paired 63 = .ok (.iload 4, 2) := by decide +kernel
theorem dX11_paired_65 : decode cX11_paired 65 = .ok (.iload 6, 2) := by decide +kernel
theorem dX11_paired_67 : decode cX11_paired 67 = .ok (.invokevirtual 248, 3) := by decide +kernel
theorem dX11_paired_70 : decode cX11_paired 70 = .ok (.ifCond .eq 7, 3) := by decide +kernel
theorem dX11_paired_73 : decode cX11_paired 73 = .ok (.iconst 1, 1) := by decide +kernel
theorem dX11_paired_74 : decode cX11_paired 74 = .ok (.goto 4, 3) := by decide +kernel
theorem dX11_paired_77 : decode cX11_paired 77 = .ok (.iconst 0, 1) := by decide +kernel
theorem dX11_paired_78 : decode cX11_paired 78 = .ok (.istore 5, 2) := by decide +kernel
theorem dX11_paired_80 : decode cX11_paired 80 = .ok (.iinc 6 1, 3) := by decide +kernel
theorem dX11_paired_83 : decode cX11_paired 83 = .ok (.goto (-44), 3) := by decide +kernel
theorem dX11_paired_86 : decode cX11_paired 86 = .ok (.iload_n 3, 1) := by decide +kernel
theorem dX11_paired_87 : decode cX11_paired 87 = .ok (.iload 5, 2) := by decide +kernel
theorem dX11_paired_89 : decode cX11_paired 89 = .ok (.ifCond .eq 7, 3) := by decide +kernel
theorem dX11_paired_92 : decode cX11_paired 92 = .ok (.iconst 1, 1) := by decide +kernel
theorem dX11_paired_93 : decode cX11_paired 93 = .ok (.goto 4, 3) := by decide +kernel
theorem dX11_paired_96 : decode cX11_paired 96 = .ok (.iconst 0, 1) := by decide +kernel
theorem dX11_paired_97 : decode cX11_paired 97 = .ok (.iadd, 1) := by decide +kernel
theorem dX11_paired_98 : decode cX11_paired 98 = .ok (.istore_n 3, 1) := by decide +kernel
theorem dX11_paired_99 : decode cX11_paired 99 = .ok (.iinc 4 1, 3) := by decide +kernel
theorem dX11_paired_102 : decode cX11_paired 102 = .ok (.goto (-78), 3) := by decide +kernel
theorem dX11_paired_105 : decode cX11_paired 105 = .ok (.iload_n 3, 1) := by decide +kernel
theorem dX11_paired_106 : decode cX11_paired 106 = .ok (.iload_n 1, 1) := by decide +kernel
theorem dX11_paired_107 : decode cX11_paired 107 = .ok (.if_icmp .ge 7, 3) := by decide +kernel
theorem dX11_paired_110 : decode cX11_paired 110 = .ok (.iload_n 3, 1) := by decide +kernel
theorem dX11_paired_111 : decode cX11_paired 111 = .ok (.goto 4, 3) := by decide +kernel
theorem dX11_paired_114 : decode cX11_paired 114 = .ok (.iload_n 1, 1) := by decide +kernel
theorem dX11_paired_115 : decode cX11_paired 115 = .ok (.istore_n 1, 1) := by decide +kernel
theorem dX11_paired_116 : decode cX11_paired 116 = .ok (.iinc 2 1, 3) := by decide +kernel
theorem dX11_paired_119 : decode cX11_paired 119 = .ok (.goto (-113), 3) := by decide +kernel
theorem dX11_paired_122 : decode cX11_paired 122 = .ok (.iload_n 1, 1) := by decide +kernel
theorem dX11_paired_123 : decode cX11_paired 123 = .ok (.ireturn, 1) := by decide +kernel
set_option maxRecDepth 20000 in
theorem ggX11_boxes_X11_in : GoodIn wsX11_boxes wsX11_in := goodIn_r _ [9] (by decide +kernel) (by decide +kernel)
set_option maxRecDepth 20000 in
theorem gX11_boxes_X11_in : GoodIn wsX11_boxes (va_wsS RX11 103 yX11_in wsX11_in) := goodIn_app (goodIn_of _ (by decide +kernel)) ggX11_boxes_X11_in
theorem dX11_boxes_0 : decode cX11_boxes 0 = .ok (.iload_n 1, 1) := by decide +kernel
theorem dX11_boxes_1 : decode cX11_boxes 1 = .ok (.i2l, 1) := by decide +kernel
theorem dX11_boxes_2 : decode cX11_boxes 2 = .ok (.lconst 0, 1) := by decide +kernel
theorem dX11_boxes_3 : decode cX11_boxes 3 = .ok (.ldc2_w 101, 3) := by decide +kernel
theorem dX11_boxes_6 : decode cX11_boxes 6 = .ok (.invokestatic 103, 3) := by decide +kernel
theorem dX11_boxes_9 : decode cX11_boxes 9 = .ok (.ifCond .eq 36, 3) := by decide +kernel
theorem dX11_boxes_12 : decode cX11_boxes 12 = .ok (.iload_n 2, 1) := by decide +kernel
theorem dX11_boxes_13 : decode cX11_boxes 13 = .ok (.i2l, 1) := by decide +kernel
theorem dX11_boxes_14 : decode cX11_boxes 14 = .ok (.lconst 0, 1) := by decide +kernel
theorem dX11_boxes_15 : decode cX11_boxes 15 = .ok (.lconst 1, 1) := by decide +kernel
theorem dX11_boxes_16 : decode cX11_boxes 16 = .ok (.invokestatic 103, 3) := by decide +kernel
theorem dX11_boxes_19 : decode cX11_boxes 19 = .ok (.ifCond .eq 26, 3) := by decide +kernel
theorem dX11_boxes_22 : decode cX11_boxes 22 = .ok (.iload_n 3, 1) := by decide +kernel
theorem dX11_boxes_23 : decode cX11_boxes 23 = .ok (.i2l, 1) := by decide +kernel
theorem dX11_boxes_24 : decode cX11_boxes 24 = .ok (.iload_n 2, 1) := by decide +kernel
theorem dX11_boxes_25 : decode cX11_boxes 25 = .ok (.i2l, 1) := by decide +kernel
theorem dX11_boxes_26 : decode cX11_boxes 26 = .ok (.iload_n 2, 1) := by decide +kernel
theorem dX11_boxes_27 : decode cX11_boxes 27 = .ok (.ifCond .ne 9, 3) := by decide +kernel
theorem dX11_boxes_30 : decode cX11_boxes 30 = .ok (.ldc2_w 260, 3) := by decide +kernel
theorem dX11_boxes_33 : decode cX11_boxes 33 = .ok (.goto 6, 3) := by decide +kernel
theorem dX11_boxes_36 : decode cX11_boxes 36 = .ok (.ldc2_w 262, 3) := by decide +kernel
theorem dX11_boxes_39 : decode cX11_boxes 39 = .ok (.invokestatic 103, 3) := by decide +kernel
theorem dX11_boxes_42 : decode cX11_boxes 42 = .ok (.ifCond .ne 5, 3) := by decide +kernel
theorem dX11_boxes_45 : decode cX11_boxes 45 = .ok (.iconst (-1), 1) := by decide +kernel
theorem dX11_boxes_46 : decode cX11_boxes 46 = .ok (.ireturn, 1) := by decide +kernel
theorem dX11_boxes_47 : decode cX11_boxes 47 = .ok (.iload_n 2, 1) := by decide +kernel
theorem dX11_boxes_48 : decode cX11_boxes 48 = .ok (.ifCond .ne 12, 3) := by decide +kernel
theorem dX11_boxes_51 : decode cX11_boxes 51 = .ok (.aload_n 0, 1) := by decide +kernel
theorem dX11_boxes_52 : decode cX11_boxes 52 = .ok (.getfield 73, 3) := by decide +kernel
theorem dX11_boxes_55 : decode cX11_boxes 55 = .ok (.iload_n 1, 1) := by decide +kernel
theorem dX11_boxes_56 : decode cX11_boxes 56 = .ok (.iaload, 1) := by decide +kernel
theorem dX11_boxes_57 : decode cX11_boxes 57 = .ok (.goto 9, 3) := by decide +kernel
theorem dX11_boxes_60 : decode cX11_boxes 60 = .ok (.aload_n 0, 1) := by decide +kernel
theorem dX11_boxes_61 : decode cX11_boxes 61 = .ok (.getfield 76, 3) := by decide +kernel
theorem dX11_boxes_64 : decode cX11_boxes 64 = .ok (.iload_n 1, 1) := by decide +kernel
theorem dX11_boxes_65 : decode cX11_boxes 65 = .ok (.iaload, 1) := by decide +kernel
theorem dX11_boxes_66 : decode cX11_boxes 66 = .ok (.istore 4, 2) := by decide +kernel
theorem dX11_boxes_68 : decode cX11_boxes 68 = .ok (.iload_n 2, 1) := by decide +kernel
theorem dX11_boxes_69 : decode cX11_boxes 69 = .ok (.ifCond .ne 13, 3) := by decide +kernel
theorem dX11_boxes_72 : decode cX11_boxes 72 = .ok (.aload_n 0, 1) := by decide +kernel
theorem dX11_boxes_73 : decode cX11_boxes 73 = .ok (.getfield 73, 3) := by decide +kernel
theorem dX11_boxes_76 : decode cX11_boxes 76 = .ok (.iload_n 1, 1) := by decide +kernel
theorem dX11_boxes_77 : decode cX11_boxes 77 = .ok (.iload_n 3, 1) := by decide +kernel
theorem dX11_boxes_78 : decode cX11_boxes 78 = .ok (.iastore, 1) := by decide +kernel
theorem dX11_boxes_79 : decode cX11_boxes 79 = .ok (.goto 10, 3) := by decide +kernel
theorem dX11_boxes_82 : decode cX11_boxes 82 = .ok (.aload_n 0, 1) := by decide +kernel
theorem dX11_boxes_83 : decode cX11_boxes 83 = .ok (.getfield 76, 3) := by decide +kernel
theorem dX11_boxes_86 : decode cX11_boxes 86 = .ok (.iload_n 1, 1) := by decide +kernel
theorem dX11_boxes_87 : decode cX11_boxes 87 = .ok (.iload_n 3, 1) := by decide +kernel
theorem dX11_boxes_88 : decode cX11_boxes 88 = .ok (.iastore, 1) := by decide +kernel
theorem dX11_boxes_89 : decode cX11_boxes 89 = .ok (.iload 4, 2) := by decide +kernel
theorem dX11_boxes_91 : decode cX11_boxes 91 = .ok (.ireturn, 1) := by decide +kernel
theorem dX11_work_0 : decode cX11_work 0 = .ok (.aload_n 0, 1) := by decide +kernel
theorem dX11_work_1 : decode cX11_work 1 = .ok (.getfield 73, 3) := by decide +kernel
theorem dX11_work_4 : decode cX11_work 4 = .ok (.iload_n 1, 1) := by decide +kernel
theorem dX11_work_5 : decode cX11_work 5 = .ok (.iaload, 1) := by decide +kernel
theorem dX11_work_6 : decode cX11_work 6 = .ok (.aload_n 0, 1) := by decide +kernel
theorem dX11_work_7 : decode cX11_work 7 = .ok (.getfield 76, 3) := by decide +kernel
theorem dX11_work_10 : decode cX11_work 10 = .ok (.iload_n 1, 1) := by decide +kernel
theorem dX11_work_11 : decode cX11_work 11 = .ok (.iaload, 1) := by decide +kernel
theorem dX11_work_12 : decode cX11_work 12 = .ok (.iadd, 1) := by decide +kernel
theorem dX11_work_13 : decode cX11_work 13 = .ok (.iconst 1, 1) := by decide +kernel
theorem dX11_work_14 : decode cX11_work 14 = .ok (.isub, 1) := by decide +kernel
theorem dX11_work_15 : decode cX11_work 15 = .ok (.aload_n 0, 1) := by decide +kernel
theorem dX11_work_16 : decode cX11_work 16 = .ok (.getfield 76, 3) := by decide +kernel
theorem dX11_work_19 : decode cX11_work 19 = .ok (.iload_n 1, 1) := by decide +kernel
theorem dX11_work_20 : decode cX11_work 20 = .ok (.iaload, 1) := by decide +kernel
theorem dX11_work_21 : decode cX11_work 21 = .ok (.idiv, 1) := by decide +kernel
theorem dX11_work_22 : decode cX11_work 22 = .ok (.ireturn, 1) := by decide +kernel
set_option maxRecDepth 20000 in
theorem ggX11_open_X11_ruleOf : GoodIn wsX11_open wsX11_ruleOf := goodIn_r _ [5, 6, 7, 8, 9, 4, 10, 11, 12, 13, 14, 15, 16, 17, 18, 19, 20, 21, 22, 23, 24, 25, 26, 27, 28, 29, 30, 31, 32, 33, 34, 35, 36, 37, 38, 39, 40, 41, 42, 43, 44, 45, 46, 47, 48, 49, 50] (by decide +kernel) (by decide +kernel)
set_option maxRecDepth 20000 in
theorem gX11_open_X11_ruleOf : GoodIn wsX11_open (wsV RX11 123 RX11 yX11_ruleOf wsX11_ruleOf) := goodIn_app (goodIn_of _ (by decide +kernel)) ggX11_open_X11_ruleOf
theorem dX11_open_0 : decode cX11_open 0 = .ok (.iconst 0, 1) := by decide +kernel
theorem dX11_open_1 : decode cX11_open 1 = .ok (.istore_n 2, 1) := by decide +kernel
theorem dX11_open_2 : decode cX11_open 2 = .ok (.iconst 0, 1) := by decide +kernel
theorem dX11_open_3 : decode cX11_open 3 = .ok (.istore_n 3, 1) := by decide +kernel
theorem dX11_open_4 : decode cX11_open 4 = .ok (.iload_n 3, 1) := by decide +kernel
theorem dX11_open_5 : decode cX11_open 5 = .ok (.iconst 5, 1) := by decide +kernel
theorem dX11_open_6 : decode cX11_open 6 = .ok (.if_icmp .ge 30, 3) := by decide +kernel
theorem dX11_open_9 : decode cX11_open 9 = .ok (.iload_n 2, 1) := by decide +kernel
theorem dX11_open_10 : decode cX11_open 10 = .ok (.aload_n 0, 1) := by decide +kernel
theorem dX11_open_11 : decode cX11_open 11 = .ok (.iconst 3, 1) := by decide +kernel
theorem dX11_open_12 : decode cX11_open 12 = .ok (.iload_n 3, 1) := by decide +kernel
theorem dX11_open_13 : decode cX11_open 13 = .ok (.iload_n 1, 1) := by decide +kernel
theorem dX11_open_14 : decode cX11_open 14 = .ok (.invokevirtual 123, 3) := by decide +kernel
theorem dX11_open_17 : decode cX11_open 17 = .ok (.iconst 1, 1) := by decide +kernel
theorem dX11_open_18 : decode cX11_open 18 = .ok (.if_icmp .ne 9, 3) := by decide +kernel
theorem dX11_open_21 : decode cX11_open 21 = .ok (.iconst 1, 1) := by decide +kernel
theorem dX11_open_22 : decode cX11_open 22 = .ok (.iload_n 3, 1) := by decide +kernel
theorem dX11_open_23 : decode cX11_open 23 = .ok (.ishl, 1) := by decide +kernel
theorem dX11_open_24 : decode cX11_open 24 = .ok (.goto 4, 3) := by decide +kernel
theorem dX11_open_27 : decode cX11_open 27 = .ok (.iconst 0, 1) := by decide +kernel
theorem dX11_open_28 : decode cX11_open 28 = .ok (.ior, 1) := by decide +kernel
theorem dX11_open_29 : decode cX11_open 29 = .ok (.istore_n 2, 1) := by decide +kernel
theorem dX11_open_30 : decode cX11_open 30 = .ok (.iinc 3 1, 3) := by decide +kernel
theorem dX11_open_33 : decode cX11_open 33 = .ok (.goto (-29), 3) := by decide +kernel
theorem dX11_open_36 : decode cX11_open 36 = .ok (.iload_n 2, 1) := by decide +kernel
theorem dX11_open_37 : decode cX11_open 37 = .ok (.ireturn, 1) := by decide +kernel
set_option maxRecDepth 20000 in
theorem ggX11_adds_X11_open : GoodIn wsX11_adds wsX11_open := goodIn_r _ [6, 7, 8, 9, 5, 10, 11, 12, 13, 14, 15, 16, 17, 18, 19, 20, 21, 22, 23, 24, 25, 26, 27, 28, 29, 30, 31, 32, 33, 34, 35, 36, 37, 38, 39, 40, 41, 42, 43, 44, 45, 46, 47, 48, 49, 50, 51, 52, 53, 54, 55] (by decide +kernel) (by decide +kernel)
set_option maxRecDepth 20000 in
theorem gX11_adds_X11_open : GoodIn wsX11_adds (wsV RX11 264 RX11 yX11_open wsX11_open) := goodIn_app (goodIn_of _ (by decide +kernel)) ggX11_adds_X11_open
theorem dX11_adds_0 : decode cX11_adds 0 = .ok (.aload_n 0, 1) := by decide +kernel
theorem dX11_adds_1 : decode cX11_adds 1 = .ok (.iload_n 1, 1) := by decide +kernel
theorem dX11_adds_2 : decode cX11_adds 2 = .ok (.invokevirtual 264, 3) := by decide +kernel
theorem dX11_adds_5 : decode cX11_adds 5 = .ok (.istore_n 2, 1) := by decide +kernel
theorem dX11_adds_6 : decode cX11_adds 6 = .ok (.iconst 0, 1) := by decide +kernel
theorem dX11_adds_7 : decode cX11_adds 7 = .ok (.istore_n 3, 1) := by decide +kernel
theorem dX11_adds_8 : decode cX11_adds 8 = .ok (.iload_n 3, 1) := by decide +kernel
theorem dX11_adds_9 : decode cX11_adds 9 = .ok (.bipush 32, 2) := by decide +kernel
theorem dX11_adds_11 : decode cX11_adds 11 = .ok (.if_icmp .ge 29, 3) := by decide +kernel
theorem dX11_adds_14 : decode cX11_adds 14 = .ok (.aload_n 0, 1) := by decide +kernel
theorem dX11_adds_15 : decode cX11_adds 15 = .ok (.getfield 85, 3) := by decide +kernel
theorem dX11_adds_18 : decode cX11_adds 18 = .ok (.iload_n 3, 1) := by decide +kernel
theorem dX11_adds_19 : decode cX11_adds 19 = .ok (.dup2, 1) := by decide +kernel
theorem dX11_adds_20 : decode cX11_adds 20 = .ok (.iaload, 1) := by decide +kernel
theorem dX11_adds_21 : decode cX11_adds 21 = .ok (.iload_n 3, 1) := by decide +kernel
theorem dX11_adds_22 : decode cX11_adds 22 = .ok (.iload_n 2, 1) := by decide +kernel
theorem dX11_adds_23 : decode cX11_adds 23 = .ok (.iand, 1) := by decide +kernel
theorem dX11_adds_24 : decode cX11_adds 24 = .ok (.ifCond .eq 7, 3) := by decide +kernel
theorem dX11_adds_27 : decode cX11_adds 27 = .ok (.iconst 1, 1) := by decide +kernel
theorem dX11_adds_28 : decode cX11_adds 28 = .ok (.goto 4, 3) := by decide +kernel
theorem dX11_adds_31 : decode cX11_adds 31 = .ok (.iconst 0, 1) := by decide +kernel
theorem dX11_adds_32 : decode cX11_adds 32 = .ok (.iadd, 1) := by decide +kernel
theorem dX11_adds_33 : decode cX11_adds 33 = .ok (.iastore, 1) := by decide +kernel
theorem dX11_adds_34 : decode cX11_adds 34 = .ok (.iinc 3 1, 3) := by decide +kernel
theorem dX11_adds_37 : decode cX11_adds 37 = .ok (.goto (-29), 3) := by decide +kernel
theorem dX11_adds_40 : decode cX11_adds 40 = .ok (.return_, 1) := by decide +kernel
set_option maxRecDepth 20000 in
theorem ggX11_opens_X11_adds : GoodIn wsX11_opens wsX11_adds := goodIn_r _ [6, 1, 7, 8, 9, 5, 10, 11, 12, 13, 14, 15, 16, 17, 18, 19, 20, 21, 22, 23, 24, 25, 26, 27, 28, 29, 30, 31, 32, 33, 34, 35, 36, 37, 38, 39, 40, 41, 42, 43, 44, 45, 46, 47, 48, 49, 50, 51, 52, 53, 54, 55, 56, 57, 58, 59] (by decide +kernel) (by decide +kernel)
set_option maxRecDepth 20000 in
theorem gX11_opens_X11_adds : GoodIn wsX11_opens (wsV RX11 267 RX11 yX11_adds wsX11_adds) := goodIn_app (goodIn_of _ (by decide +kernel)) ggX11_opens_X11_adds
theorem dX11_opens_0 : decode cX11_opens 0 = .ok (.iconst 0, 1) := by decide +kernel
theorem dX11_opens_1 : decode cX11_opens 1 = .ok (.istore_n 3, 1) := by decide +kernel
theorem dX11_opens_2 : decode cX11_opens 2 = .ok (.iload_n 3, 1) := by decide +kernel
theorem dX11_opens_3 : decode cX11_opens 3 = .ok (.bipush 32, 2) := by decide +kernel
theorem dX11_opens_5 : decode cX11_opens 5 = .ok (.if_icmp .ge 16, 3) := by decide +kernel
theorem dX11_opens_8 : decode cX11_opens 8 = .ok (.aload_n 0, 1) := by decide +kernel
theorem dX11_opens_9 : decode cX11_opens 9 = .ok (.getfield 85, 3) := by decide +kernel
theorem dX11_opens_12 : decode cX11_opens 12 = .ok (.iload_n 3, 1) := by decide +kernel
theorem dX11_opens_13 : decode cX11_opens 13 = .ok (.iconst 0, 1) := by decide +kernel
theorem dX11_opens_14 : decode cX11_opens 14 = .ok (.iastore, 1) := by decide +kernel
theorem dX11_opens_15 : decode cX11_opens 15 = .ok (.iinc 3 1, 3) := by decide +kernel
theorem dX11_opens_18 : decode cX11_opens 18 = .ok (.goto (-16), 3) := by decide +kernel
theorem dX11_opens_21 : decode cX11_opens 21 = .ok (.iload_n 1, 1) := by decide +kernel
theorem dX11_opens_22 : decode cX11_opens 22 = .ok (.istore_n 3, 1) := by decide +kernel
theorem dX11_opens_23 : decode cX11_opens 23 = .ok (.iload_n 3, 1) := by decide +kernel
theorem dX11_opens_24 : decode cX11_opens 24 = .ok (.iload_n 2, 1) := by decide +kernel
theorem dX11_opens_25 : decode cX11_opens 25 = .ok (.if_icmp .ge 14, 3) := by decide +kernel
theorem dX11_opens_28 : decode cX11_opens 28 = .ok (.aload_n 0, 1) := by decide +kernel
theorem dX11_opens_29 : decode cX11_opens 29 = .ok (.iload_n 3, 1) := by decide +kernel
theorem dX11_opens_30 : decode cX11_opens 30 = .ok (.invokevirtual 267, 3) := by decide +kernel
theorem dX11_opens_33 : decode cX11_opens 33 = .ok (.iinc 3 1, 3) := by decide +kernel
theorem dX11_opens_36 : decode cX11_opens 36 = .ok (.goto (-13), 3) := by decide +kernel
theorem dX11_opens_39 : decode cX11_opens 39 = .ok (.return_, 1) := by decide +kernel
set_option maxRecDepth 20000 in
theorem ggX11_does_X11_has : GoodIn wsX11_does wsX11_has := goodIn_r _ [5] (by decide +kernel) (by decide +kernel)
set_option maxRecDepth 20000 in
theorem gX11_does_X11_has : GoodIn wsX11_does (va_wsS RX11 97 yX11_has wsX11_has) := goodIn_app (goodIn_of _ (by decide +kernel)) ggX11_does_X11_has
set_option maxRecDepth 20000 in
theorem ggX11_does_X11_work : GoodIn wsX11_does wsX11_work := goodIn_r _ [9, 10, 11, 12, 13, 14, 15, 16, 17, 18, 19, 20, 21, 22, 23, 24, 25, 26, 27, 28, 29, 30, 31, 32, 33, 34, 35, 36, 37, 38, 39, 40, 41, 42, 43, 44, 45, 46] (by decide +kernel) (by decide +kernel)
set_option maxRecDepth 20000 in
theorem gX11_does_X11_work : GoodIn wsX11_does (wsV RX11 270 RX11 yX11_work wsX11_work) := goodIn_app (goodIn_of _ (by decide +kernel)) ggX11_does_X11_work
theorem dX11_does_0 : decode cX11_does 0 = .ok (.iconst 1, 1) := by decide +kernel
theorem dX11_does_1 : decode cX11_does 1 = .ok (.istore_n 2, 1) := by decide +kernel
theorem dX11_does_2 : decode cX11_does 2 = .ok (.iconst 0, 1) := by decide +kernel
theorem dX11_does_3 : decode cX11_does 3 = .ok (.istore_n 3, 1) := by decide +kernel
theorem dX11_does_4 : decode cX11_does 4 = .ok (.iload_n 3, 1) := by decide +kernel
theorem dX11_does_5 : decode cX11_does 5 = .ok (.bipush 32, 2) := by decide +kernel
theorem dX11_does_7 : decode cX11_does 7 = .ok (.if_icmp .ge 74, 3) := by decide +kernel
theorem dX11_does_10 : decode cX11_does 10 = .ok (.iconst 0, 1) := by decide +kernel
theorem dX11_does_11 : decode cX11_does 11 = .ok (.istore 4, 2) := by decide +kernel
theorem dX11_does_13 : decode cX11_does 13 = .ok (.iconst 0, 1) := by decide +kernel
theorem dX11_does_14 : decode cX11_does 14 = .ok (.istore 5, 2) := by decide +kernel
theorem dX11_does_16 : decode cX11_does 16 = .ok (.iload 5, 2) := by decide +kernel
theorem dX11_does_18 : decode cX11_does 18 = .ok (.iconst 5, 1) := by decide +kernel
theorem dX11_does_19 : decode cX11_does 19 = .ok (.if_icmp .ge 33, 3) := by decide +kernel
theorem dX11_does_22 : decode cX11_does 22 = .ok (.iload 4, 2) := by decide +kernel
theorem dX11_does_24 : decode cX11_does 24 = .ok (.iload_n 3, 1) := by decide +kernel
theorem dX11_does_25 : decode cX11_does 25 = .ok (.iload 5, 2) := by decide +kernel
theorem dX11_does_27 : decode cX11_does 27 = .ok (.invokestatic 97, 3) := by decide +kernel
theorem dX11_does_30 : decode cX11_does 30 = .ok (.ifCond .eq 12, 3) := by decide +kernel
theorem dX11_does_33 : decode cX11_does 33 = .ok (.aload_n 0, 1) := by decide +kernel
theorem dX11_does_34 : decode cX11_does 34 = .ok (.iload 5, 2) := by decide +kernel
theorem dX11_does_36 : decode cX11_does 36 = .ok (.invokevirtual 270, 3) := by decide +kernel
theorem dX11_does_39 : decode cX11_does 39 = .ok (.goto 4, 3) := by decide +kernel
theorem dX11_does_42 : decode cX11_does 42 = .ok (.iconst 0, 1) := by decide +kernel
theorem dX11_does_43 : decode cX11_does 43 = .ok (.iadd, 1) := by decide +kernel
theorem dX11_does_44 : decode cX11_does 44 = .ok (.istore 4, 2) := by decide +kernel
theorem dX11_does_46 : decode cX11_does 46 = .ok (.iinc 5 1, 3) := by decide +kernel
theorem dX11_does_49 : decode cX11_does 49 = .ok (.goto (-33), 3) := by decide +kernel
theorem dX11_does_52 : decode cX11_does 52 = .ok (.iload_n 2, 1) := by decide +kernel
theorem dX11_does_53 : decode cX11_does 53 = .ok (.ifCond .eq 20, 3) := by decide +kernel
theorem dX11_does_56 : decode cX11_does 56 = .ok (.iload 4, 2) := by decide +kernel
theorem dX11_does_58 : decode cX11_does 58 = .ok (.iload_n 1, 1) := by decide +kernel
theorem dX11_does_59 : decode cX11_does 59 = .ok (.aload_n 0, 1) := by decide +kernel
theorem dX11_does_60 : decode cX11_does 60 = .ok (.getfield 85, 3) := by decide +kernel
theorem dX11_does_63 : decode cX11_does 63 = .ok (.iload_n 3, 1) := by decide +kernel
theorem dX11_does_64 : decode cX11_does 64 = .ok (.iaload, 1) := by decide +kernel
theorem dX11_does_65 : decode cX11_does 65 = .ok (.imul, 1) := by decide +kernel
theorem dX11_does_66 : decode cX11_does 66 = .ok (.if_icmp .gt 7, 3) := by decide +kernel
theorem dX11_does_69 : decode cX11_does 69 = .ok (.iconst 1, 1) := by decide +kernel
theorem dX11_does_70 : decode cX11_does 70 = .ok (.goto 4, 3) := by decide +kernel
theorem dX11_does_73 : decode cX11_does 73 = .ok (.iconst 0, 1) := by decide +kernel
theorem dX11_does_74 : decode cX11_does 74 = .ok (.istore_n 2, 1) := by decide +kernel
theorem dX11_does_75 : decode cX11_does 75 = .ok (.iinc 3 1, 3) := by decide +kernel
theorem dX11_does_78 : decode cX11_does 78 = .ok (.goto (-74), 3) := by decide +kernel
theorem dX11_does_81 : decode cX11_does 81 = .ok (.iload_n 2, 1) := by decide +kernel
theorem dX11_does_82 : decode cX11_does 82 = .ok (.ireturn, 1) := by decide +kernel
set_option maxRecDepth 20000 in
theorem ggX11_isSpan_X11_isHour : GoodIn wsX11_isSpan wsX11_isHour := goodIn_r _ [5, 6, 7, 8, 4, 9] (by decide +kernel) (by decide +kernel)
set_option maxRecDepth 20000 in
theorem gX11_isSpan_X11_isHour : GoodIn wsX11_isSpan (va_wsS RX11 131 yX11_isHour wsX11_isHour) := goodIn_app (goodIn_of _ (by decide +kernel)) ggX11_isSpan_X11_isHour
set_option maxRecDepth 20000 in
theorem ggX11_isSpan_X11_in : GoodIn wsX11_isSpan wsX11_in := goodIn_r _ [9] (by decide +kernel) (by decide +kernel)
set_option maxRecDepth 20000 in
theorem gX11_isSpan_X11_in : GoodIn wsX11_isSpan (va_wsS RX11 103 yX11_in wsX11_in) := goodIn_app (goodIn_of _ (by decide +kernel)) ggX11_isSpan_X11_in
theorem dX11_isSpan_0 : decode cX11_isSpan 0 = .ok (.iload_n 0, 1) := by decide +kernel
theorem dX11_isSpan_1 : decode cX11_isSpan 1 = .ok (.invokestatic 131, 3) := by decide +kernel
theorem dX11_isSpan_4 : decode cX11_isSpan 4 = .ok (.ifCond .eq 20, 3) := by decide +kernel
theorem dX11_isSpan_7 : decode cX11_isSpan 7 = .ok (.iload_n 1, 1) := by decide +kernel
theorem dX11_isSpan_8 : decode cX11_isSpan 8 = .ok (.i2l, 1) := by decide +kernel
theorem dX11_isSpan_9 : decode cX11_isSpan 9 = .ok (.iload_n 0, 1) := by decide +kernel
theorem dX11_isSpan_10 : decode cX11_isSpan 10 = .ok (.i2l, 1) := by decide +kernel
theorem dX11_isSpan_11 : decode cX11_isSpan 11 = .ok (.ldc2_w 273, 3) := by decide +kernel
theorem dX11_isSpan_14 : decode cX11_isSpan 14 = .ok (.invokestatic 103, 3) := by decide +kernel
theorem dX11_isSpan_17 : decode cX11_isSpan 17 = .ok (.ifCond .eq 7, 3) := by decide +kernel
theorem dX11_isSpan_20 : decode cX11_isSpan 20 = .ok (.iconst 1, 1) := by decide +kernel
theorem dX11_isSpan_21 : decode cX11_isSpan 21 = .ok (.goto 4, 3) := by decide +kernel
theorem dX11_isSpan_24 : decode cX11_isSpan 24 = .ok (.iconst 0, 1) := by decide +kernel
theorem dX11_isSpan_25 : decode cX11_isSpan 25 = .ok (.ireturn, 1) := by decide +kernel
set_option maxRecDepth 20000 in
theorem ggX11_could_X11_isSpan : GoodIn wsX11_could wsX11_isSpan := goodIn_r _ [5, 6, 7, 8, 4, 9, 10, 11, 12, 13] (by decide +kernel) (by decide +kernel)
set_option maxRecDepth 20000 in
theorem gX11_could_X11_isSpan : GoodIn wsX11_could (va_wsS RX11 275 yX11_isSpan wsX11_isSpan) := goodIn_app (goodIn_of _ (by decide +kernel)) ggX11_could_X11_isSpan
set_option maxRecDepth 20000 in
theorem ggX11_could_X11_in : GoodIn wsX11_could wsX11_in := goodIn_r _ [13] (by decide +kernel) (by decide +kernel)
set_option maxRecDepth 20000 in
theorem gX11_could_X11_in : GoodIn wsX11_could (va_wsS RX11 103 yX11_in wsX11_in) := goodIn_app (goodIn_of _ (by decide +kernel)) ggX11_could_X11_in
set_option maxRecDepth 20000 in
theorem ggX11_could_X11_opens : GoodIn wsX11_could wsX11_opens := goodIn_r _ [17, 18, 19, 20, 21, 4, 22, 23, 24, 25, 26, 27, 28, 29, 30, 31, 32, 33, 34, 35, 36, 37, 38, 39, 40, 54, 55, 56, 57, 58, 59, 60, 61, 62, 63, 64, 65, 66, 67, 68, 69, 70, 71, 72, 73, 74, 75, 76, 77, 78, 79, 80, 81, 82, 83, 84, 85, 86, 87, 88] (by decide +kernel) (by decide +kernel)
set_option maxRecDepth 20000 in
theorem gX11_could_X11_opens : GoodIn wsX11_could (wsV RX11 280 RX11 yX11_opens wsX11_opens) := goodIn_app (goodIn_of _ (by decide +kernel)) ggX11_could_X11_opens
set_option maxRecDepth 20000 in
theorem ggX11_could_X11_does : GoodIn wsX11_could wsX11_does := goodIn_r _ [44, 18, 45, 46, 4, 47, 48, 49, 50, 51, 52, 53, 54, 55, 56, 57, 58, 59, 60, 61, 62, 63, 64, 65, 66, 67, 68, 69, 70, 71, 72, 73, 74, 75, 76, 77, 78, 79, 80, 81, 82, 83, 84, 85, 86, 87, 88] (by decide +kernel) (by decide +kernel)
set_option maxRecDepth 20000 in
theorem gX11_could_X11_does : GoodIn wsX11_could (wsV RX11 284 RX11 yX11_does wsX11_does) := goodIn_app (goodIn_of _ (by decide +kernel)) ggX11_could_X11_does
theorem dX11_could_0 : decode cX11_could 0 = .ok (.iload_n 1, 1) := by decide +kernel
theorem dX11_could_1 : decode cX11_could 1 = .ok (.iload_n 2, 1) := by decide +kernel
theorem dX11_could_2 : decode cX11_could 2 = .ok (.invokestatic 275, 3) := by decide +kernel
theorem dX11_could_5 : decode cX11_could 5 = .ok (.ifCond .eq 15, 3) := by decide +kernel
theorem dX11_could_8 : decode cX11_could 8 = .ok (.iload_n 3, 1) := by decide +kernel
theorem dX11_could_9 : decode cX11_could 9 = .ok (.i2l, 1) := by decide +kernel
theorem dX11_could_10 : decode cX11_could 10 = .ok (.lconst 1, 1) := by decide +kernel
theorem dX11_could_11 : decode cX11_could 11 = .ok (.ldc2_w 278, 3) := by decide +kernel
theorem dX11_could_14 : decode cX11_could 14 = .ok (.invokestatic 103, 3) := by decide +kernel
theorem dX11_could_17 : decode cX11_could 17 = .ok (.ifCond .ne 5, 3) := by decide +kernel
theorem dX11_could_20 : decode cX11_could 20 = .ok (.iconst (-1), 1) := by decide +kernel
theorem dX11_could_21 : decode cX11_could 21 = .ok (.ireturn, 1) := by decide +kernel
theorem dX11_could_22 : decode cX11_could 22 = .ok (.aload_n 0, 1) := by decide +kernel
theorem dX11_could_23 : decode cX11_could 23 = .ok (.iload_n 1, 1) := by decide +kernel
theorem dX11_could_24 : decode cX11_could 24 = .ok (.iload_n 2, 1) := by decide +kernel
theorem dX11_could_25 : decode cX11_could 25 = .ok (.invokevirtual 280, 3) := by decide +kernel
theorem dX11_could_28 : decode cX11_could 28 = .ok (.aload_n 0, 1) := by decide +kernel
theorem dX11_could_29 : decode cX11_could 29 = .ok (.iload_n 3, 1) := by decide +kernel
theorem dX11_could_30 : decode cX11_could 30 = .ok (.invokevirtual 284, 3) := by decide +kernel
theorem dX11_could_33 : decode cX11_could 33 = .ok (.ifCond .eq 7, 3) := by decide +kernel
theorem dX11_could_36 : decode cX11_could 36 = .ok (.iconst 1, 1) := by decide +kernel
theorem dX11_could_37 : decode cX11_could 37 = .ok (.goto 4, 3) := by decide +kernel
theorem dX11_could_40 : decode cX11_could 40 = .ok (.iconst 0, 1) := by decide +kernel
theorem dX11_could_41 : decode cX11_could 41 = .ok (.ireturn, 1) := by decide +kernel
set_option maxRecDepth 20000 in
theorem ggX11_hands_X11_isSpan : GoodIn wsX11_hands wsX11_isSpan := goodIn_r _ [4, 5, 6, 7, 3, 8, 9, 10, 11, 12] (by decide +kernel) (by decide +kernel)
set_option maxRecDepth 20000 in
theorem gX11_hands_X11_isSpan : GoodIn wsX11_hands (va_wsS RX11 275 yX11_isSpan wsX11_isSpan) := goodIn_app (goodIn_of _ (by decide +kernel)) ggX11_hands_X11_isSpan
set_option maxRecDepth 20000 in
theorem ggX11_hands_X11_opens : GoodIn wsX11_hands wsX11_opens := goodIn_r _ [16, 17, 18, 19, 20, 3, 21, 22, 23, 24, 25, 26, 27, 28, 29, 30, 31, 32, 33, 34, 35, 36, 37, 38, 39, 53, 54, 55, 56, 57, 58, 59, 60, 61, 62, 63, 64, 65, 66, 67, 68, 69, 70, 71, 72, 73, 74, 75, 76, 77, 78, 79, 80, 81, 82, 83, 84, 85, 86, 87] (by decide +kernel) (by decide +kernel)
set_option maxRecDepth 20000 in
theorem gX11_hands_X11_opens : GoodIn wsX11_hands (wsV RX11 280 RX11 yX11_opens wsX11_opens) := goodIn_app (goodIn_of _ (by decide +kernel)) ggX11_hands_X11_opens
set_option maxRecDepth 20000 in
theorem ggX11_hands_X11_does : GoodIn wsX11_hands wsX11_does := goodIn_r _ [43, 17, 44, 45, 3, 46, 47, 48, 49, 50, 51, 52, 53, 54, 55, 56, 57, 58, 59, 60, 61, 62, 63, 64, 65, 66, 67, 68, 69, 70, 71, 72, 73, 74, 75, 76, 77, 78, 79, 80, 81, 82, 83, 84, 85, 86, 87] (by decide +kernel) (by decide +kernel)
set_option maxRecDepth 20000 in
theorem gX11_hands_X11_does : GoodIn wsX11_hands (wsV RX11 284 RX11 yX11_does wsX11_does) := goodIn_app (goodIn_of _ (by decide +kernel)) ggX11_hands_X11_does
theorem dX11_hands_0 : decode cX11_hands 0 = .ok (.iload_n 1, 1) := by decide +kernel
theorem dX11_hands_1 : decode cX11_hands 1 = .ok (.iload_n 2, 1) := by decide +kernel
theorem dX11_hands_2 : decode cX11_hands 2 = .ok (.invokestatic 275, 3) := by decide +kernel
theorem dX11_hands_5 : decode cX11_hands 5 = .ok (.ifCond .ne 5, 3) := by decide +kernel
theorem dX11_hands_8 : decode cX11_hands 8 = .ok (.iconst (-1), 1) := by decide +kernel
theorem dX11_hands_9 : decode cX11_hands 9 = .ok (.ireturn, 1) := by decide +kernel
theorem dX11_hands_10 : decode cX11_hands 10 = .ok (.aload_n 0, 1) := by decide +kernel
theorem dX11_hands_11 : decode cX11_hands 11 = .ok (.iload_n 1, 1) := by decide +kernel
theorem dX11_hands_12 : decode cX11_hands 12 = .ok (.iload_n 2, 1) := by decide +kernel
theorem dX11_hands_13 : decode cX11_hands 13 = .ok (.invokevirtual 280, 3) := by decide +kernel
theorem dX11_hands_16 : decode cX11_hands 16 = .ok (.iconst 1, 1) := by decide +kernel
theorem dX11_hands_17 : decode cX11_hands 17 = .ok (.istore_n 3, 1) := by decide +kernel
theorem dX11_hands_18 : decode cX11_hands 18 = .ok (.iload_n 3, 1) := by decide +kernel
theorem dX11_hands_19 : decode cX11_hands 19 = .ok (.bipush 20, 2) := by decide +kernel
theorem dX11_hands_21 : decode cX11_hands 21 = .ok (.if_icmp .gt 19, 3) := by decide +kernel
theorem dX11_hands_24 : decode cX11_hands 24 = .ok (.aload_n 0, 1) := by decide +kernel
theorem dX11_hands_25 : decode cX11_hands 25 = .ok (.iload_n 3, 1) := by decide +kernel
theorem dX11_hands_26 : decode cX11_hands 26 = .ok (.invokevirtual 284, 3) := by decide +kernel
theorem dX11_hands_29 : decode cX11_hands 29 = .ok (.ifCond .eq 5, 3) := by decide +kernel
theorem dX11_hands_32 : decode cX11_hands 32 = .ok (.iload_n 3, 1) := by decide +kernel
theorem dX11_hands_33 : decode cX11_hands 33 = .ok (.ireturn, 1) := by decide +kernel
theorem dX11_hands_34 : decode cX11_hands 34 = .ok (.iinc 3 1, 3) := by decide +kernel
theorem dX11_hands_37 : decode cX11_hands 37 = .ok (.goto (-19), 3) := by decide +kernel
theorem dX11_hands_40 : decode cX11_hands 40 = .ok (.bipush (-4), 2) := by decide +kernel
theorem dX11_hands_42 : decode cX11_hands 42 = .ok (.ireturn, 1) := by decide +kernel
set_option maxRecDepth 20000 in
theorem ggX11_soonest_X11_isHour : GoodIn wsX11_soonest wsX11_isHour := goodIn_r _ [5, 6, 7, 8, 4, 9] (by decide +kernel) (by decide +kernel)
set_option maxRecDepth 20000 in
theorem gX11_soonest_X11_isHour : GoodIn wsX11_soonest (va_wsS RX11 131 yX11_isHour wsX11_isHour) := goodIn_app (goodIn_of _ (by decide +kernel)) ggX11_soonest_X11_isHour
set_option maxRecDepth 20000 in
theorem ggX11_soonest_X11_in : GoodIn wsX11_soonest wsX11_in := goodIn_r _ [9] (by decide +kernel) (by decide +kernel)
set_option maxRecDepth 20000 in
theorem gX11_soonest_X11_in : GoodIn wsX11_soonest (va_wsS RX11 103 yX11_in wsX11_in) := goodIn_app (goodIn_of _ (by decide +kernel)) ggX11_soonest_X11_in
set_option maxRecDepth 20000 in
theorem ggX11_soonest_X11_opens : GoodIn wsX11_soonest wsX11_opens := goodIn_r _ [13, 14, 15, 16, 17, 4, 18, 19, 20, 21, 22, 23, 24, 25, 26, 27, 28, 29, 30, 31, 32, 33, 34, 35, 36, 50, 51, 52, 53, 54, 55, 56, 57, 58, 59, 60, 61, 62, 63, 64, 65, 66, 67, 68, 69, 70, 71, 72, 73, 74, 75, 76, 77, 78, 79, 80, 81, 82, 83, 84] (by decide +kernel) (by decide +kernel)
set_option maxRecDepth 20000 in
theorem gX11_soonest_X11_opens : GoodIn wsX11_soonest (wsV RX11 280 RX11 yX11_opens wsX11_opens) := goodIn_app (goodIn_of _ (by decide +kernel)) ggX11_soonest_X11_opens
set_option maxRecDepth 20000 in
theorem ggX11_soonest_X11_does : GoodIn wsX11_soonest wsX11_does := goodIn_r _ [40, 14, 41, 42, 4, 43, 44, 45, 46, 47, 48, 49, 50, 51, 52, 53, 54, 55, 56, 57, 58, 59, 60, 61, 62, 63, 64, 65, 66, 67, 68, 69, 70, 71, 72, 73, 74, 75, 76, 77, 78, 79, 80, 81, 82, 83, 84] (by decide +kernel) (by decide +kernel)
set_option maxRecDepth 20000 in
theorem gX11_soonest_X11_does : GoodIn wsX11_soonest (wsV RX11 284 RX11 yX11_does wsX11_does) := goodIn_app (goodIn_of _ (by decide +kernel)) ggX11_soonest_X11_does
set_option maxRecDepth 20000 in
theorem ggX11_soonest_X11_adds : GoodIn wsX11_soonest wsX11_adds := goodIn_r _ [18, 14, 19, 20, 21, 4, 22, 23, 24, 25, 26, 27, 28, 29, 30, 31, 32, 33, 34, 35, 36, 50, 51, 52, 53, 54, 55, 56, 57, 58, 59, 60, 61, 62, 63, 64, 65, 66, 67, 68, 69, 70, 71, 72, 73, 74, 75, 76, 77, 78, 79, 80, 81, 82, 83, 84] (by decide +kernel) (by decide +kernel)
set_option maxRecDepth 20000 in
theorem gX11_soonest_X11_adds : GoodIn wsX11_soonest (wsV RX11 267 RX11 yX11_adds wsX11_adds) := goodIn_app (goodIn_of _ (by decide +kernel)) ggX11_soonest_X11_adds
theorem dX11_soonest_0 : decode cX11_soonest 0 = .ok (.iload_n 1, 1) := by decide +kernel
theorem dX11_soonest_1 : decode cX11_soonest 1 = .ok (.invokestatic 131, 3) := by decide +kernel
theorem dX11_soonest_4 : decode cX11_soonest 4 = .ok (.ifCond .eq 15, 3) := by decide +kernel
theorem dX11_soonest_7 : decode cX11_soonest 7 = .ok (.iload_n 2, 1) := by decide +kernel
theorem dX11_soonest_8 : decode cX11_soonest 8 = .ok (.i2l, 1) := by decide +kernel
theorem dX11_soonest_9 : decode cX11_soonest 9 = .ok (.lconst 1, 1) := by decide +kernel
theorem dX11_soonest_10 : decode cX11_soonest 10 = .ok (.ldc2_w 278, 3) := by decide +kernel
theorem dX11_soonest_13 : decode cX11_soonest 13 = .ok (.invokestatic 103, 3) := by decide +kernel
theorem dX11_soonest_16 : decode cX11_soonest 16 = .ok (.ifCond .ne 5, 3) := by decide +kernel
theorem dX11_soonest_19 : decode cX11_soonest 19 = .ok (.iconst (-1), 1) := by decide +kernel
theorem dX11_soonest_20 : decode cX11_soonest 20 = .ok (.ireturn, 1) := by decide +kernel
theorem dX11_soonest_21 : decode cX11_soonest 21 = .ok (.aload_n 0, 1) := by decide +kernel
theorem dX11_soonest_22 : decode cX11_soonest 22 = .ok (.iload_n 1, 1) := by decide +kernel
theorem dX11_soonest_23 : decode cX11_soonest 23 = .ok (.iload_n 1, 1) := by decide +kernel
theorem dX11_soonest_24 : decode cX11_soonest 24 = .ok (.invokevirtual 280, 3) := by decide +kernel
theorem dX11_soonest_27 : decode cX11_soonest 27 = .ok (.iload_n 1, 1) := by decide +kernel
theorem dX11_soonest_28 : decode cX11_soonest 28 = .ok (.istore_n 3, 1) := by decide +kernel
theorem dX11_soonest_29 : decode cX11_soonest 29 = .ok (.iload_n 3, 1) := by decide +kernel
theorem dX11_soonest_30 : decode cX11_soonest 30 = .ok (.sipush 1000, 3) := by decide +kernel
theorem dX11_soonest_33 : decode cX11_soonest 33 = .ok (.if_icmp .gt 31, 3) := by decide +kernel
theorem dX11_soonest_36 : decode cX11_soonest 36 = .ok (.aload_n 0, 1) := by decide +kernel
theorem dX11_soonest_37 : decode cX11_soonest 37 = .ok (.iload_n 2, 1) := by decide +kernel
theorem dX11_soonest_38 : decode cX11_soonest 38 = .ok (.invokevirtual 284, 3) := by decide +kernel
theorem dX11_soonest_41 : decode cX11_soonest 41 = .ok (.ifCond .eq 5, 3) := by decide +kernel
theorem dX11_soonest_44 : decode cX11_soonest 44 = .ok (.iload_n 3, 1) := by decide +kernel
theorem dX11_soonest_45 : decode cX11_soonest 45 = .ok (.ireturn, 1) := by decide +kernel
theorem dX11_soonest_46 : decode cX11_soonest 46 = .ok (.iload_n 3, 1) := by decide +kernel
theorem dX11_soonest_47 : decode cX11_soonest 47 = .ok (.sipush 1000, 3) := by decide +kernel
theorem dX11_soonest_50 : decode cX11_soonest 50 = .ok (.if_icmp .ge 8, 3) := by decide +kernel
theorem dX11_soonest_53 : decode cX11_soonest 53 = .ok (.aload_n 0, 1) := by decide +kernel
theorem dX11_soonest_54 : decode cX11_soonest 54 = .ok (.iload_n 3, 1) := by decide +kernel
theorem dX11_soonest_55 : decode cX11_soonest 55 = .ok (.invokevirtual 267, 3) := by decide +kernel
theorem dX11_soonest_58 : decode cX11_soonest 58 = .ok (.iinc 3 1, 3) := by decide +kernel
theorem dX11_soonest_61 : decode cX11_soonest 61 = .ok (.goto (-32), 3) := by decide +kernel
theorem dX11_soonest_64 : decode cX11_soonest 64 = .ok (.bipush (-4), 2) := by decide +kernel
theorem dX11_soonest_66 : decode cX11_soonest 66 = .ok (.ireturn, 1) := by decide +kernel
set_option maxRecDepth 20000 in
theorem ggX11_tables_X11_work : GoodIn wsX11_tables wsX11_work := goodIn_r _ [8, 9, 10, 32, 33, 34, 35, 36, 37, 38, 39, 40, 41, 42, 43, 44, 45, 46, 47, 48, 49, 50, 51, 52, 53, 54, 55, 56, 57, 58, 59, 60, 61, 62, 63, 64, 65, 66] (by decide +kernel) (by decide +kernel)
set_option maxRecDepth 20000 in
theorem gX11_tables_X11_work : GoodIn wsX11_tables (wsV RX11 270 RX11 yX11_work wsX11_work) := goodIn_app (goodIn_of _ (by decide +kernel)) ggX11_tables_X11_work
set_option maxRecDepth 20000 in
theorem ggX11_tables_X11_open : GoodIn wsX11_tables wsX11_open := goodIn_r _ [14, 15, 16, 17, 7, 18, 19, 20, 21, 22, 23, 24, 25, 26, 27, 28, 32, 33, 34, 35, 36, 37, 38, 39, 40, 41, 42, 43, 44, 45, 46, 47, 48, 49, 50, 51, 52, 53, 54, 55, 56, 57, 58, 59, 60, 61, 62, 63, 64, 65, 66] (by decide +kernel) (by decide +kernel)
set_option maxRecDepth 20000 in
theorem gX11_tables_X11_open : GoodIn wsX11_tables (wsV RX11 264 RX11 yX11_open wsX11_open) := goodIn_app (goodIn_of _ (by decide +kernel)) ggX11_tables_X11_open
set_option maxRecDepth 20000 in
theorem ggX11_tables_X11_has : GoodIn wsX11_tables wsX11_has := goodIn_r _ [31] (by decide +kernel) (by decide +kernel)
set_option maxRecDepth 20000 in
theorem gX11_tables_X11_has : GoodIn wsX11_tables (va_wsS RX11 97 yX11_has wsX11_has) := goodIn_app (goodIn_of _ (by decide +kernel)) ggX11_tables_X11_has
theorem dX11_tables_0 : decode cX11_tables 0 = .ok (.iconst 0, 1) := by decide +kernel
theorem dX11_tables_1 : decode cX11_tables 1 = .ok (.istore 5, 2) := by decide +kernel
theorem dX11_tables_3 : decode cX11_tables 3 = .ok (.iload 5, 2) := by decide +kernel
theorem dX11_tables_5 : decode cX11_tables 5 = .ok (.iconst 5, 1) := by decide +kernel
theorem dX11_tables_6 : decode cX11_tables 6 = .ok (.if_icmp .ge 38, 3) := by decide +kernel
theorem dX11_tables_9 : decode cX11_tables 9 = .ok (.aload_n 0, 1) := by decide +kernel
theorem dX11_tables_10 : decode cX11_tables 10 = .ok (.getfield 88, 3) := by decide +kernel
theorem dX11_tables_13 : decode cX11_tables 13 = .ok (.iload 5, 2) := by decide +kernel
theorem dX11_tables_15 : decode cX11_tables 15 = .ok (.aload_n 0, 1) := by decide +kernel
theorem dX11_tables_16 : decode cX11_tables 16 = .ok (.iload 5, 2) := by decide +kernel
theorem dX11_tables_18 : decode cX11_tables 18 = .ok (.invokevirtual 270, 3) := by decide +kernel
theorem dX11_tables_21 : decode cX11_tables 21 = .ok (.iastore, 1) := by decide +kernel
theorem dX11_tables_22 : decode cX11_tables 22 = .ok (.aload_n 0, 1) := by decide +kernel
theorem dX11_tables_23 : decode cX11_tables 23 = .ok (.getfield 91, 3) := by decide +kernel
theorem dX11_tables_26 : decode cX11_tables 26 = .ok (.iload 5, 2) := by decide +kernel
theorem dX11_tables_28 : decode cX11_tables 28 = .ok (.iconst 0, 1) := by decide +kernel
theorem dX11_tables_29 : decode cX11_tables 29 = .ok (.iastore, 1) := by decide +kernel
theorem dX11_tables_30 : decode cX11_tables 30 = .ok (.aload_n 0, 1) := by decide +kernel
theorem dX11_tables_31 : decode cX11_tables 31 = .ok (.getfield 94, 3) := by decide +kernel
theorem dX11_tables_34 : decode cX11_tables 34 = .ok (.iload 5, 2) := by decide +kernel
theorem dX11_tables_36 : decode cX11_tables 36 = .ok (.iconst 0, 1) := by decide +kernel
theorem dX11_tables_37 : decode cX11_tables 37 = .ok (.iastore, 1) := by decide +kernel
theorem dX11_tables_38 : decode cX11_tables 38 = .ok (.iinc 5 1, 3) := by decide +kernel
theorem dX11_tables_41 : decode cX11_tables 41 = .ok (.goto (-38), 3) := by decide +kernel
theorem dX11_tables_44 : decode cX11_tables 44 = .ok (.iload_n 1, 1) := by decide +kernel
theorem dX11_tables_45 : decode cX11_tables 45 = .ok (.istore 5, 2) := by decide +kernel
theorem dX11_tables_47 : decode cX11_tables 47 = .ok (.iload 5, 2) := by decide +kernel
theorem dX11_tables_49 : decode cX11_tables 49 = .ok (.iload_n 2, 1) := by decide +kernel
theorem dX11_tables_50 : decode cX11_tables 50 = .ok (.if_icmp .ge 57, 3) := by decide +kernel
theorem dX11_tables_53 : decode cX11_tables 53 = .ok (.aload_n 0, 1) := by decide +kernel
theorem dX11_tables_54 : decode cX11_tables 54 = .ok (.iload 5, 2) := by decide +kernel
theorem dX11_tables_56 : decode cX11_tables 56 = .ok (.invokevirtual 264, 3) := by decide +kernel
theorem dX11_tables_59 : decode cX11_tables 59 = .ok (.istore 6, 2) := by decide +kernel
theorem dX11_tables_61 : decode cX11_tables 61 = .ok (.iconst 0, 1) := by decide +kernel
theorem dX11_tables_62 : decode cX11_tables 62 = .ok (.istore 7, 2) := by decide +kernel
theorem dX11_tables_64 : decode cX11_tables 64 = .ok (.iload 7, 2) := by decide +kernel
theorem dX11_tables_66 : decode cX11_tables 66 = .ok (.iconst 5, 1) := by decide +kernel
theorem dX11_tables_67 : decode cX11_tables 67 = .ok (.if_icmp .ge 34, 3) := by decide +kernel
theorem dX11_tables_70 : decode cX11_tables 70 = .ok (.aload_n 0, 1) := by decide +kernel
theorem dX11_tables_71 : decode cX11_tables 71 = .ok (.getfield 91, 3) := by decide +kernel
theorem dX11_tables_74 : decode cX11_tables 74 = .ok (.iload 7, 2) := by decide +kernel
theorem dX11_tables_76 : decode cX11_tables 76 = .ok (.dup2, 1) := by decide +kernel
theorem dX11_tables_77 : decode cX11_tables 77 = .ok (.iaload, 1) := by decide +kernel
theorem dX11_tables_78 : decode cX11_tables 78 = .ok (.iload 6, 2) := by decide +kernel
theorem dX11_tables_80 : decode cX11_tables 80 = .ok (.iload 7, 2) := by decide +kernel
theorem dX11_tables_82 : decode cX11_tables 82 = .ok (.invokestatic 97, 3) := by decide +kernel
theorem dX11_tables_85 : decode cX11_tables 85 = .ok (.ifCond .eq 7, 3) := by decide +kernel
theorem dX11_tables_88 : decode cX11_tables 88 = .ok (.iconst 1, 1) := by decide +kernel
theorem dX11_tables_89 : decode cX11_tables 89 = .ok (.goto 4, 3) := by decide +kernel
theorem dX11_tables_92 : decode cX11_tables 92 = .ok (.iconst 0, 1) := by decide +kernel
theorem dX11_tables_93 : decode cX11_tables 93 = .ok (.iadd, 1) := by decide +kernel
theorem dX11_tables_94 : decode cX11_tables 94 = .ok (.iastore, 1) := by decide +kernel
theorem dX11_tables_95 : decode cX11_tables 95 = .ok (.iinc 7 1, 3) := by decide +kernel
theorem dX11_tables_98 : decode cX11_tables 98 = .ok (.goto (-34), 3) := by decide +kernel
theorem dX11_tables_101 : decode cX11_tables 101 = .ok (.iinc 5 1, 3) := by decide +kernel
theorem dX11_tables_104 : decode cX11_tables 104 = .ok (.goto (-57), 3) := by decide +kernel
theorem dX11_tables_107 : decode cX11_tables 107 = .ok (.iload_n 1, 1) := by decide +kernel
theorem dX11_tables_108 : decode cX11_tables 108 = .ok (.istore 5, 2) := by decide +kernel
theorem dX11_tables_110 : decode cX11_tables 110 = .ok (.iload 5, 2) := by decide +kernel
theorem dX11_tables_112 : decode cX11_tables 112 = .ok (.iload 4, 2) := by decide +kernel
theorem dX11_tables_114 : decode cX11_tables 114 = .ok (.if_icmp .gt 226, 3) := by decide +kernel
theorem dX11_tables_117 : decode cX11_tables 117 = .ok (.aload_n 0, 1) := by decide +kernel
theorem dX11_tables_118 : decode cX11_tables 118 = .ok (.iload 5, 2) := by decide +kernel
theorem dX11_tables_120 : decode cX11_tables 120 = .ok (.invokevirtual 264, 3) := by decide +kernel
theorem dX11_tables_123 : decode cX11_tables 123 = .ok (.istore 6, 2) := by decide +kernel
theorem dX11_tables_125 : decode cX11_tables 125 = .ok (.iload_n 3, 1) := by decide +kernel
theorem dX11_tables_126 : decode cX11_tables 126 = .ok (.istore 7, 2) := by decide +kernel
theorem dX11_tables_128 : decode cX11_tables 128 = .ok (.iconst 0, 1) := by decide +kernel
theorem dX11_tables_129 : decode cX11_tables 129 = .ok (.istore 8, 2) := by decide +kernel
theorem dX11_tables_131 : decode cX11_tables 131 = .ok (.iload 8, 2) := by decide +kernel
theorem dX11_tables_133 : decode cX11_tables 133 = .ok (.iconst 5, 1) := by decide +kernel
theorem dX11_tables_134 : decode cX11_tables 134 = .ok (.if_icmp .ge 17, 3) := by decide +kernel
theorem dX11_tables_137 : decode cX11_tables 137 = .ok (.aload_n 0, 1) := by decide +kernel
theorem dX11_tables_138 : decode cX11_tables 138 = .ok (.getfield 94, 3) := by decide +kernel
theorem dX11_tables_141 : decode cX11_tables 141 = .ok (.iload 8, 2) := by decide +kernel
theorem dX11_tables_143 : decode cX11_tables 143 = .ok (.iconst 0, 1) := by decide +kernel
theorem dX11_tables_144 : decode cX11_tables 144 = .ok (.iastore, 1) := by decide +kernel
theorem dX11_tables_145 : decode cX11_tables 145 = .ok (.iinc 8 1, 3) := by decide +kernel
theorem dX11_tables_148 : decode cX11_tables 148 = .ok (.goto (-17), 3) := by decide +kernel
theorem dX11_tables_151 : decode cX11_tables 151 = .ok (.iload 6, 2) := by decide +kernel
theorem dX11_tables_153 : decode cX11_tables 153 = .ok (.istore 8, 2) := by decide +kernel
theorem dX11_tables_155 : decode cX11_tables 155 = .ok (.iload 8, 2) := by decide +kernel
theorem dX11_tables_157 : decode cX11_tables 157 = .ok (.ifCond .eq 120, 3) := by decide +kernel
theorem dX11_tables_160 : decode cX11_tables 160 = .ok (.bipush (-4), 2) := by decide +kernel
theorem dX11_tables_162 : decode cX11_tables 162 = .ok (.istore 9, 2) := by decide +kernel
theorem dX11_tables_164 : decode cX11_tables 164 = .ok (.iconst 0, 1) := by decide +kernel
theorem dX11_tables_165 : decode cX11_tables 165 = .ok (.istore 10, 2) := by decide +kernel
theorem dX11_tables_167 : decode cX11_tables 167 = .ok (.iload 10, 2) := by decide +kernel
theorem dX11_tables_169 : decode cX11_tables 169 = .ok (.iconst 5, 1) := by decide +kernel
theorem dX11_tables_170 : decode cX11_tables 170 = .ok (.if_icmp .ge 50, 3) := by decide +kernel
theorem dX11_tables_173 : decode cX11_tables 173 = .ok (.iload 8, 2) := by decide +kernel
theorem dX11_tables_175 : decode cX11_tables 175 = .ok (.iload 10, 2) := by decide +kernel
theorem dX11_tables_177 : decode cX11_tables 177 = .ok (.invokestatic 97, 3) := by decide +kernel
theorem dX11_tables_180 : decode cX11_tables 180 = .ok (.ifCond .eq 30, 3) := by decide +kernel
theorem dX11_tables_183 : decode cX11_tables 183 = .ok (.iload 9, 2) := by decide +kernel
theorem dX11_tables_185 : decode cX11_tables 185 = .ok (.ifCond .lt 20, 3) := by decide +kernel
theorem dX11_tables_188 : decode cX11_tables 188 = .ok (.aload_n 0, 1) := by decide +kernel
theorem dX11_tables_189 : decode cX11_tables 189 = .ok (.getfield 91, 3) := by decide +kernel
theorem dX11_tables_192 : decode cX11_tables 192 = .ok (.iload 10, 2) := by decide +kernel
theorem dX11_tables_194 : decode cX11_tables 194 = .ok (.iaload, 1) := by decide +kernel
theorem dX11_tables_195 : decode cX11_tables 195 = .ok (.aload_n 0, 1) := by decide +kernel
theorem dX11_tables_196 : decode cX11_tables 196 = .ok (.getfield 91, 3) := by decide +kernel
theorem dX11_tables_199 : decode cX11_tables 199 = .ok (.iload 9, 2) := by decide +kernel
theorem dX11_tables_201 : decode cX11_tables 201 = .ok (.iaload, 1) := by decide +kernel
theorem dX11_tables_202 : decode cX11_tables 202 = .ok (.if_icmp .ge 8, 3) := by decide +kernel
theorem dX11_tables_205 : decode cX11_tables 205 = .ok (.iload 10, 2) := by decide +kernel
theorem dX11_tables_207 : decode cX11_tables 207 = .ok (.goto 5, 3) := by decide +kernel
theorem dX11_tables_210 : decode cX11_tables 210 = .ok (.iload 9, 2) := by decide +kernel
theorem dX11_tables_212 : decode cX11_tables 212 = .ok (.istore 9, 2) := by decide +kernel
theorem dX11_tables_214 : decode cX11_tables 214 = .ok (.iinc 10 1, 3) := by decide +kernel
theorem dX11_tables_217 : decode cX11_tables 217 = .ok (.goto (-50), 3) := by decide +kernel
theorem dX11_tables_220 : decode cX11_tables 220 = .ok (.iload 8, 2) := by decide +kernel
theorem dX11_tables_222 : decode cX11_tables 222 = .ok (.iconst 1, 1) := by decide +kernel
theorem dX11_tables_223 : decode cX11_tables 223 = .ok (.iload 9, 2) := by decide +kernel
theorem dX11_tables_225 : decode cX11_tables 225 = .ok (.ishl, 1) := by decide +kernel
theorem dX11_tables_226 : decode cX11_tables 226 = .ok (.iconst (-1), 1) := by decide +kernel
theorem dX11_tables_227 : decode cX11_tables 227 = .ok (.ixor, 1) := by decide +kernel
theorem dX11_tables_228 : decode cX11_tables 228 = .ok (.iand, 1) := by decide +kernel
theorem dX11_tables_229 : decode cX11_tables 229 = .ok (.istore 8, 2) := by decide +kernel
theorem dX11_tables_231 : decode cX11_tables 231 = .ok (.aload_n 0, 1) := by decide +kernel
theorem dX11_tables_232 : decode cX11_tables 232 = .ok (.getfield 94, 3) := by decide +kernel
theorem dX11_tables_235 : decode cX11_tables 235 = .ok (.iload 9, 2) := by decide +kernel
theorem dX11_tables_237 : decode cX11_tables 237 = .ok (.iload 7, 2) := by decide +kernel
theorem dX11_tables_239 : decode cX11_tables 239 = .ok (.aload_n 0, 1) := by decide +kernel
theorem dX11_tables_240 : decode cX11_tables 240 = .ok (.getfield 88, 3) := by decide +kernel
theorem dX11_tables_243 : decode cX11_tables 243 = .ok (.iload 9, 2) := by decide +kernel
theorem dX11_tables_245 : decode cX11_tables 245 = .ok (.iaload, 1) := by decide +kernel
theorem dX11_tables_246 : decode cX11_tables 246 = .ok (.if_icmp .ge 8, 3) := by decide +kernel
theorem dX11_tables_249 : decode cX11_tables 249 = .ok (.iload 7, 2) := by decide +kernel
theorem dX11_tables_251 : decode cX11_tables 251 = .ok (.goto 10, 3) := by decide +kernel
theorem dX11_tables_254 : decode cX11_tables 254 = .ok (.aload_n 0, 1) := by decide +kernel
theorem dX11_tables_255 : decode cX11_tables 255 = .ok (.getfield 88, 3) := by decide +kernel
theorem dX11_tables_258 : decode cX11_tables 258 = .ok (.iload 9, 2) := by decide +kernel
theorem dX11_tables_260 : decode cX11_tables 260 = .ok (.iaload, 1) := by decide +kernel
theorem dX11_tables_261 : decode cX11_tables 261 = .ok (.iastore, 1) := by decide +kernel
theorem dX11_tables_262 : decode cX11_tables 262 = .ok (.iload 7, 2) := by decide +kernel
theorem dX11_tables_264 : decode cX11_tables 264 = .ok (.aload_n 0, 1) := by decide +kernel
theorem dX11_tables_265 : decode cX11_tables 265 = .ok (.getfield 94, 3) := by decide +kernel
theorem dX11_tables_268 : decode cX11_tables 268 = .ok (.iload 9, 2) := by decide +kernel
theorem dX11_tables_270 : decode cX11_tables 270 = .ok (.iaload, 1) := by decide +kernel
theorem dX11_tables_271 : decode cX11_tables 271 = .ok (.isub, 1) := by decide +kernel
theorem dX11_tables_272 : decode cX11_tables 272 = .ok (.istore 7, 2) := by decide +kernel
theorem dX11_tables_274 : decode cX11_tables 274 = .ok (.goto (-119), 3) := by decide +kernel
theorem dX11_tables_277 : decode cX11_tables 277 = .ok (.iconst 0, 1) := by decide +kernel
theorem dX11_tables_278 : decode cX11_tables 278 = .ok (.istore 9, 2) := by decide +kernel
theorem dX11_tables_280 : decode cX11_tables 280 = .ok (.iload 9, 2) := by decide +kernel
theorem dX11_tables_282 : decode cX11_tables 282 = .ok (.iconst 5, 1) := by decide +kernel
theorem dX11_tables_283 : decode cX11_tables 283 = .ok (.if_icmp .ge 51, 3) := by decide +kernel
theorem dX11_tables_286 : decode cX11_tables 286 = .ok (.aload_n 0, 1) := by decide +kernel
theorem dX11_tables_287 : decode cX11_tables 287 = .ok (.getfield 88, 3) := by decide +kernel
theorem dX11_tables_290 : decode cX11_tables 290 = .ok (.iload 9, 2) := by decide +kernel
theorem dX11_tables_292 : decode cX11_tables 292 = .ok (.dup2, 1) := by decide +kernel
theorem dX11_tables_293 : decode cX11_tables 293 = .ok (.iaload, 1) := by decide +kernel
theorem dX11_tables_294 : decode cX11_tables 294 = .ok (.aload_n 0, 1) := by decide +kernel
theorem dX11_tables_295 : decode cX11_tables 295 = .ok (.getfield 94, 3) := by decide +kernel
theorem dX11_tables_298 : decode cX11_tables 298 = .ok (.iload 9, 2) := by decide +kernel
theorem dX11_tables_300 : decode cX11_tables 300 = .ok (.iaload, 1) := by decide +kernel
theorem dX11_tables_301 : decode cX11_tables 301 = .ok (.isub, 1) := by decide +kernel
theorem dX11_tables_302 : decode cX11_tables 302 = .ok (.iastore, 1) := by decide +kernel
theorem dX11_tables_303 : decode cX11_tables 303 = .ok (.aload_n 0, 1) := by decide +kernel
theorem dX11_tables_304 : decode cX11_tables 304 = .ok (.getfield 91, 3) := by decide +kernel
theorem dX11_tables_307 : decode cX11_tables 307 = .ok (.iload 9, 2) := by decide +kernel
theorem dX11_tables_309 : decode cX11_tables 309 = .ok (.dup2, 1) := by decide +kernel
theorem dX11_tables_310 : decode cX11_tables 310 = .ok (.iaload, 1) := by decide +kernel
theorem dX11_tables_311 : decode cX11_tables 311 = .ok (.iload 6, 2) := by decide +kernel
theorem dX11_tables_313 : decode cX11_tables 313 = .ok (.iload 9, 2) := by decide +kernel
theorem dX11_tables_315 : decode cX11_tables 315 = .ok (.invokestatic 97, 3) := by decide +kernel
theorem dX11_tables_318 : decode cX11_tables 318 = .ok (.ifCond .eq 7, 3) := by decide +kernel
theorem dX11_tables_321 : decode cX11_tables 321 = .ok (.iconst 1, 1) := by decide +kernel
theorem dX11_tables_322 : decode cX11_tables 322 = .ok (.goto 4, 3) := by decide +kernel
theorem dX11_tables_325 : decode cX11_tables 325 = .ok (.iconst 0, 1) := by decide +kernel
theorem dX11_tables_326 : decode cX11_tables 326 = .ok (.isub, 1) := by decide +kernel
theorem dX11_tables_327 : decode cX11_tables 327 = .ok (.iastore, 1) := by decide +kernel
theorem dX11_tables_328 : decode cX11_tables 328 = .ok (.iinc 9 1, 3) := by decide +kernel
theorem dX11_tables_331 : decode cX11_tables 331 = .ok (.goto (-51), 3) := by decide +kernel
theorem dX11_tables_334 : decode cX11_tables 334 = .ok (.iinc 5 1, 3) := by decide +kernel
theorem dX11_tables_337 : decode cX11_tables 337 = .ok (.goto (-227), 3) := by decide +kernel
theorem dX11_tables_340 : decode cX11_tables 340 = .ok (.return_, 1) := by decide +kernel
set_option maxRecDepth 20000 in
theorem ggX11_table_X11_isSpan : GoodIn wsX11_table wsX11_isSpan := goodIn_r _ [7, 8, 9, 10, 6, 11, 12, 13, 14, 15] (by decide +kernel) (by decide +kernel)
set_option maxRecDepth 20000 in
theorem gX11_table_X11_isSpan : GoodIn wsX11_table (va_wsS RX11 275 yX11_isSpan wsX11_isSpan) := goodIn_app (goodIn_of _ (by decide +kernel)) ggX11_table_X11_isSpan
set_option maxRecDepth 20000 in
theorem ggX11_table_X11_in : GoodIn wsX11_table wsX11_in := goodIn_r _ [15] (by decide +kernel) (by decide +kernel)
set_option maxRecDepth 20000 in
theorem gX11_table_X11_in : GoodIn wsX11_table (va_wsS RX11 103 yX11_in wsX11_in) := goodIn_app (goodIn_of _ (by decide +kernel)) ggX11_table_X11_in
set_option maxRecDepth 20000 in
theorem ggX11_table_X11_tables : GoodIn wsX11_table wsX11_tables := goodIn_r _ [19, 20, 21, 3, 22, 23, 24, 6, 25, 26, 27, 28, 29, 30, 31, 32, 33, 34, 35, 36, 37, 38, 39, 40, 41, 42, 43, 44, 45, 46, 47, 48, 49, 50, 51, 52, 53, 54, 55, 56, 57, 58, 59, 60, 61, 62, 63, 64, 65, 66, 67, 68, 69, 70, 71, 72, 73, 74, 75, 76, 77, 78, 79, 80, 81, 82, 83] (by decide +kernel) (by decide +kernel)
set_option maxRecDepth 20000 in
theorem gX11_table_X11_tables : GoodIn wsX11_table (wsV RX11 287 RX11 yX11_tables wsX11_tables) := goodIn_app (goodIn_of _ (by decide +kernel)) ggX11_table_X11_tables
theorem dX11_table_0 : decode cX11_table 0 = .ok (.iload_n 1, 1) := by decide +kernel
theorem dX11_table_1 : decode cX11_table 1 = .ok (.iload_n 2, 1) := by decide +kernel
theorem dX11_table_2 : decode cX11_table 2 = .ok (.invokestatic 275, 3) := by decide +kernel
theorem dX11_table_5 : decode cX11_table 5 = .ok (.ifCond .eq 43, 3) := by decide +kernel
theorem dX11_table_8 : decode cX11_table 8 = .ok (.iload_n 3, 1) := by decide +kernel
theorem dX11_table_9 : decode cX11_table 9 = .ok (.i2l, 1) := by decide +kernel
theorem dX11_table_10 : decode cX11_table 10 = .ok (.lconst 1, 1) := by decide +kernel
theorem dX11_table_11 : decode cX11_table 11 = .ok (.ldc2_w 278, 3) := by decide +kernel
theorem dX11_table_14 : decode cX11_table 14 = .ok (.invokestatic 103, 3) := by decide +kernel
theorem dX11_table_17 : decode cX11_table 17 = .ok (.ifCond .eq 31, 3) := by decide +kernel
theorem dX11_table_20 : decode cX11_table 20 = .ok (.iload 4, 2) := by decide +kernel
theorem dX11_table_22 : decode cX11_table 22 = .ok (.i2l, 1) := by decide +kernel
theorem dX11_table_23 : decode cX11_table 23 = .ok (.iload_n 1, 1) := by decide +kernel
theorem dX11_table_24 : decode cX11_table 24 = .ok (.i2l, 1) := by decide +kernel
theorem dX11_table_25 : decode cX11_table 25 = .ok (.iload_n 2, 1) := by decide +kernel
theorem dX11_table_26 : decode cX11_table 26 = .ok (.iconst 1, 1) := by decide +kernel
theorem dX11_table_27 : decode cX11_table 27 = .ok (.isub, 1) := by decide +kernel
theorem dX11_table_28 : decode cX11_table 28 = .ok (.i2l, 1) := by decide +kernel
theorem dX11_table_29 : decode cX11_table 29 = .ok (.invokestatic 103, 3) := by decide +kernel
theorem dX11_table_32 : decode cX11_table 32 = .ok (.ifCond .eq 16, 3) := by decide +kernel
theorem dX11_table_35 : decode cX11_table 35 = .ok (.iload 5, 2) := by decide +kernel
theorem dX11_table_37 : decode cX11_table 37 = .ok (.i2l, 1) := by decide +kernel
theorem dX11_table_38 : decode cX11_table 38 = .ok (.lconst 0, 1) := by decide +kernel
theorem dX11_table_39 : decode cX11_table 39 = .ok (.ldc2_w 101, 3) := by decide +kernel
theorem dX11_table_42 : decode cX11_table 42 = .ok (.invokestatic 103, 3) := by decide +kernel
theorem dX11_table_45 : decode cX11_table 45 = .ok (.ifCond .ne 5, 3) := by decide +kernel
theorem dX11_table_48 : decode cX11_table 48 = .ok (.iconst (-1), 1) := by decide +kernel
theorem dX11_table_49 : decode cX11_table 49 = .ok (.ireturn, 1) := by decide +kernel
theorem dX11_table_50 : decode cX11_table 50 = .ok (.aload_n 0, 1) := by decide +kernel
theorem dX11_table_51 : decode cX11_table 51 = .ok (.iload_n 1, 1) := by decide +kernel
theorem dX11_table_52 : decode cX11_table 52 = .ok (.iload_n 2, 1) := by decide +kernel
theorem dX11_table_53 : decode cX11_table 53 = .ok (.iload_n 3, 1) := by decide +kernel
theorem dX11_table_54 : decode cX11_table 54 = .ok (.iload 4, 2) := by decide +kernel
theorem dX11_table_56 : decode cX11_table 56 = .ok (.invokevirtual 287, 3) := by decide +kernel
theorem dX11_table_59 : decode cX11_table 59 = .ok (.aload_n 0, 1) := by decide +kernel
theorem dX11_table_60 : decode cX11_table 60 = .ok (.getfield 94, 3) := by decide +kernel
theorem dX11_table_63 : decode cX11_table 63 = .ok (.iload 5, 2) := by decide +kernel
theorem dX11_table_65 : decode cX11_table 65 = .ok (.iaload, 1) := by decide +kernel
theorem dX11_table_66 : decode cX11_table 66 = .ok (.ireturn, 1) := by decide +kernel
set_option maxRecDepth 20000 in
theorem ggX11_left_X11_isSpan : GoodIn wsX11_left wsX11_isSpan := goodIn_r _ [6, 7, 8, 9, 5, 10, 11, 12, 13, 14] (by decide +kernel) (by decide +kernel)
set_option maxRecDepth 20000 in
theorem gX11_left_X11_isSpan : GoodIn wsX11_left (va_wsS RX11 275 yX11_isSpan wsX11_isSpan) := goodIn_app (goodIn_of _ (by decide +kernel)) ggX11_left_X11_isSpan
set_option maxRecDepth 20000 in
theorem ggX11_left_X11_in : GoodIn wsX11_left wsX11_in := goodIn_r _ [14] (by decide +kernel) (by decide +kernel)
set_option maxRecDepth 20000 in
theorem gX11_left_X11_in : GoodIn wsX11_left (va_wsS RX11 103 yX11_in wsX11_in) := goodIn_app (goodIn_of _ (by decide +kernel)) ggX11_left_X11_in
set_option maxRecDepth 20000 in
theorem ggX11_left_X11_tables : GoodIn wsX11_left wsX11_tables := goodIn_r _ [18, 2, 19, 20, 21, 22, 23, 5, 24, 25, 26, 27, 28, 29, 30, 31, 32, 33, 34, 35, 36, 37, 38, 39, 40, 41, 42, 43, 44, 45, 46, 47, 48, 49, 50, 51, 52, 53, 54, 55, 56, 57, 58, 59, 60, 61, 62, 63, 64, 65, 66, 67, 68, 69, 70, 71, 72, 73, 74, 75, 76, 77, 78, 79, 80, 81, 82] (by decide +kernel) (by decide +kernel)
set_option maxRecDepth 20000 in
theorem gX11_left_X11_tables : GoodIn wsX11_left (wsV RX11 287 RX11 yX11_tables wsX11_tables) := goodIn_app (goodIn_of _ (by decide +kernel)) ggX11_left_X11_tables
theorem dX11_left_0 : decode cX11_left 0 = .ok (.iload_n 1, 1) := by decide +kernel
theorem dX11_left_1 : decode cX11_left 1 = .ok (.iload_n 2, 1) := by decide +kernel
theorem dX11_left_2 : decode cX11_left 2 = .ok (.invokestatic 275, 3) := by decide +kernel
theorem dX11_left_5 : decode cX11_left 5 = .ok (.ifCond .eq 15, 3) := by decide +kernel
theorem dX11_left_8 : decode cX11_left 8 = .ok (.iload_n 3, 1) := by decide +kernel
theorem dX11_left_9 : decode cX11_left 9 = .ok (.i2l, 1) := by decide +kernel
theorem dX11_left_10 : decode cX11_left 10 = .ok (.lconst 1, 1) := by decide +kernel
theorem dX11_left_11 : decode cX11_left 11 = .ok (.ldc2_w 278, 3) := by decide +kernel
theorem dX11_left_14 : decode cX11_left 14 = .ok (.invokestatic 103, 3) := by decide +kernel
theorem dX11_left_17 : decode cX11_left 17 = .ok (.ifCond .ne 5, 3) := by decide +kernel
theorem dX11_left_20 : decode cX11_left 20 = .ok (.iconst (-1), 1) := by decide +kernel
theorem dX11_left_21 : decode cX11_left 21 = .ok (.ireturn, 1) := by decide +kernel
theorem dX11_left_22 : decode cX11_left 22 = .ok (.aload_n 0, 1) := by decide +kernel
theorem dX11_left_23 : decode cX11_left 23 = .ok (.iload_n 1, 1) := by decide +kernel
theorem dX11_left_24 : decode cX11_left 24 = .ok (.iload_n 2, 1) := by decide +kernel
theorem dX11_left_25 : decode cX11_left 25 = .ok (.iload_n 3, 1) := by decide +kernel
theorem dX11_left_26 : decode cX11_left 26 = .ok (.iload_n 2, 1) := by decide +kernel
theorem dX11_left_27 : decode cX11_left 27 = .ok (.iconst 1, 1) := by decide +kernel
theorem dX11_left_28 : decode cX11_left 28 = .ok (.isub, 1) := by decide +kernel
theorem dX11_left_29 : decode cX11_left 29 = .ok (.invokevirtual 287, 3) := by decide +kernel
theorem dX11_left_32 : decode cX11_left 32 = .ok (.iconst 0, 1) := by decide +kernel
theorem dX11_left_33 : decode cX11_left 33 = .ok (.istore 4, 2) := by decide +kernel
theorem dX11_left_35 : decode cX11_left 35 = .ok (.iconst 0, 1) := by decide +kernel
theorem dX11_left_36 : decode cX11_left 36 = .ok (.istore 5, 2) := by decide +kernel
theorem dX11_left_38 : decode cX11_left 38 = .ok (.iload 5, 2) := by decide +kernel
theorem dX11_left_40 : decode cX11_left 40 = .ok (.iconst 5, 1) := by decide +kernel
theorem dX11_left_41 : decode cX11_left 41 = .ok (.if_icmp .ge 21, 3) := by decide +kernel
theorem dX11_left_44 : decode cX11_left 44 = .ok (.iload 4, 2) := by decide +kernel
theorem dX11_left_46 : decode cX11_left 46 = .ok (.aload_n 0, 1) := by decide +kernel
theorem dX11_left_47 : decode cX11_left 47 = .ok (.getfield 88, 3) := by decide +kernel
theorem dX11_left_50 : decode cX11_left 50 = .ok (.iload 5, 2) := by decide +kernel
theorem dX11_left_52 : decode cX11_left 52 = .ok (.iaload, 1) := by decide +kernel
theorem dX11_left_53 : decode cX11_left 53 = .ok (.iadd, 1) := by decide +kernel
theorem dX11_left_54 : decode cX11_left 54 = .ok (.istore 4, 2) := by decide +kernel
theorem dX11_left_56 : decode cX11_left 56 = .ok (.iinc 5 1, 3) := by decide +kernel
theorem dX11_left_59 : decode cX11_left 59 = .ok (.goto (-21), 3) := by decide +kernel
theorem dX11_left_62 : decode cX11_left 62 = .ok (.iload 4, 2) := by decide +kernel
theorem dX11_left_64 : decode cX11_left 64 = .ok (.ireturn, 1) := by decide +kernel
theorem dX11_copies_0 : decode cX11_copies 0 = .ok (.aload_n 0, 1) := by decide +kernel
theorem dX11_copies_1 : decode cX11_copies 1 = .ok (.getfield 7, 3) := by decide +kernel
theorem dX11_copies_4 : decode cX11_copies 4 = .ok (.iload_n 2, 1) := by decide +kernel
theorem dX11_copies_5 : decode cX11_copies 5 = .ok (.aload_n 0, 1) := by decide +kernel
theorem dX11_copies_6 : decode cX11_copies 6 = .ok (.getfield 7, 3) := by decide +kernel
theorem dX11_copies_9 : decode cX11_copies 9 = .ok (.iload_n 1, 1) := by decide +kernel
theorem dX11_copies_10 : decode cX11_copies 10 = .ok (.iaload, 1) := by decide +kernel
theorem dX11_copies_11 : decode cX11_copies 11 = .ok (.iastore, 1) := by decide +kernel
theorem dX11_copies_12 : decode cX11_copies 12 = .ok (.iconst 0, 1) := by decide +kernel
theorem dX11_copies_13 : decode cX11_copies 13 = .ok (.istore_n 3, 1) := by decide +kernel
theorem dX11_copies_14 : decode cX11_copies 14 = .ok (.iload_n 3, 1) := by decide +kernel
theorem dX11_copies_15 : decode cX11_copies 15 = .ok (.bipush 40, 2) := by decide +kernel
theorem dX11_copies_17 : decode cX11_copies 17 = .ok (.if_icmp .ge 31, 3) := by decide +kernel
theorem dX11_copies_20 : decode cX11_copies 20 = .ok (.aload_n 0, 1) := by decide +kernel
theorem dX11_copies_21 : decode cX11_copies 21 = .ok (.getfield 13, 3) := by decide +kernel
theorem dX11_copies_24 : decode cX11_copies 24 = .ok (.bipush 40, 2) := by decide +kernel
theorem dX11_copies_26 : decode cX11_copies 26 = .ok (.iload_n 2, 1) := by decide +kernel
theorem dX11_copies_27 : decode cX11_copies 27 = .ok (.imul, 1) := by decide +kernel
theorem dX11_copies_28 : decode cX11_copies 28 = .ok (.iload_n 3, 1) := by decide +kernel
theorem dX11_copies_29 : decode cX11_copies 29 = .ok (.iadd, 1) := by decide +kernel
theorem dX11_copies_30 : decode cX11_copies 30 = .ok (.aload_n 0, 1) := by decide +kernel
theorem dX11_copies_31 : decode cX11_copies 31 = .ok (.getfield 13, 3) := by decide +kernel
theorem dX11_copies_34 : decode cX11_copies 34 = .ok (.bipush 40, 2) := by decide +kernel
theorem dX11_copies_36 : decode cX11_copies 36 = .ok (.iload_n 1, 1) := by decide +kernel
theorem dX11_copies_37 : decode cX11_copies 37 = .ok (.imul, 1) := by decide +kernel
theorem dX11_copies_38 : decode cX11_copies 38 = .ok (.iload_n 3, 1) := by decide +kernel
theorem dX11_copies_39 : decode cX11_copies 39 = .ok (.iadd, 1) := by decide +kernel
theorem dX11_copies_40 : decode cX11_copies 40 = .ok (.iaload, 1) := by decide +kernel
theorem dX11_copies_41 : decode cX11_copies 41 = .ok (.iastore, 1) := by decide +kernel
theorem dX11_copies_42 : decode cX11_copies 42 = .ok (.iinc 3 1, 3) := by decide +kernel
theorem dX11_copies_45 : decode cX11_copies 45 = .ok (.goto (-31), 3) := by decide +kernel
theorem dX11_copies_48 : decode cX11_copies 48 = .ok (.iconst 0, 1) := by decide +kernel
theorem dX11_copies_49 : decode cX11_copies 49 = .ok (.istore_n 3, 1) := by decide +kernel
theorem dX11_copies_50 : decode cX11_copies 50 = .ok (.iload_n 3, 1) := by decide +kernel
theorem dX11_copies_51 : decode cX11_copies 51 = .ok (.sipush 480, 3) := by decide +kernel
theorem dX11_copies_54 : decode cX11_copies 54 = .ok (.if_icmp .ge 33, 3) := by decide +kernel
theorem dX11_copies_57 : decode cX11_copies 57 = .ok (.aload_n 0, 1) := by decide +kernel
theorem dX11_copies_58 : decode cX11_copies 58 = .ok (.getfield 16, 3) := by decide +kernel
theorem dX11_copies_61 : decode cX11_copies 61 = .ok (.sipush 480, 3) := by decide +kernel
theorem dX11_copies_64 : decode cX11_copies 64 = .ok (.iload_n 2, 1) := by decide +kernel
theorem dX11_copies_65 : decode cX11_copies 65 = .ok (.imul, 1) := by decide +kernel
theorem dX11_copies_66 : decode cX11_copies 66 = .ok (.iload_n 3, 1) := by decide +kernel
theorem dX11_copies_67 : decode cX11_copies 67 = .ok (.iadd, 1) := by decide +kernel
theorem dX11_copies_68 : decode cX11_copies 68 = .ok (.aload_n 0, 1) := by decide +kernel
theorem dX11_copies_69 : decode cX11_copies 69 = .ok (.getfield 16, 3) := by decide +kernel
theorem dX11_copies_72 : decode cX11_copies 72 = .ok (.sipush 480, 3) := by decide +kernel
theorem dX11_copies_75 : decode cX11_copies 75 = .ok (.iload_n 1, 1) := by decide +kernel
theorem dX11_copies_76 : decode cX11_copies 76 = .ok (.imul, 1) := by decide +kernel
theorem dX11_copies_77 : decode cX11_copies 77 = .ok (.iload_n 3, 1) := by decide +kernel
theorem dX11_copies_78 : decode cX11_copies 78 = .ok (.iadd, 1) := by decide +kernel
theorem dX11_copies_79 : decode cX11_copies 79 = .ok (.iaload, 1) := by decide +kernel
theorem dX11_copies_80 : decode cX11_copies 80 = .ok (.iastore, 1) := by decide +kernel
theorem dX11_copies_81 : decode cX11_copies 81 = .ok (.iinc 3 1, 3) := by decide +kernel
theorem dX11_copies_84 : decode cX11_copies 84 = .ok (.goto (-34), 3) := by decide +kernel
theorem dX11_copies_87 : decode cX11_copies 87 = .ok (.return_, 1) := by decide +kernel
set_option maxRecDepth 20000 in
theorem ggX11_keep_X11_copies : GoodIn wsX11_keep wsX11_copies := goodIn_r _ [6, 7, 8, 9, 10, 11, 12, 13, 14, 15, 16, 17, 18, 19, 20, 21, 22, 23, 24, 25, 26, 27, 28, 29, 30, 31, 32, 33, 34, 35, 36, 37, 38, 39, 40, 41, 42, 43, 44] (by decide +kernel) (by decide +kernel)
set_option maxRecDepth 20000 in
theorem gX11_keep_X11_copies : GoodIn wsX11_keep (wsV RX11 294 RX11 yX11_copies wsX11_copies) := goodIn_app (goodIn_of _ (by decide +kernel)) ggX11_keep_X11_copies
theorem dX11_keep_0 : decode cX11_keep 0 = .ok (.aload_n 0, 1) := by decide +kernel
theorem dX11_keep_1 : decode cX11_keep 1 = .ok (.getfield 291, 3) := by decide +kernel
theorem dX11_keep_4 : decode cX11_keep 4 = .ok (.iconst 2, 1) := by decide +kernel
theorem dX11_keep_5 : decode cX11_keep 5 = .ok (.if_icmp .ne 6, 3) := by decide +kernel
theorem dX11_keep_8 : decode cX11_keep 8 = .ok (.bipush (-3), 2) := by decide +kernel
theorem dX11_keep_10 : decode cX11_keep 10 = .ok (.ireturn, 1) := by decide +kernel
theorem dX11_keep_11 : decode cX11_keep 11 = .ok (.aload_n 0, 1) := by decide +kernel
theorem dX11_keep_12 : decode cX11_keep 12 = .ok (.iconst 0, 1) := by decide +kernel
theorem dX11_keep_13 : decode cX11_keep 13 = .ok (.iconst 1, 1) := by decide +kernel
theorem dX11_keep_14 : decode cX11_keep 14 = .ok (.aload_n 0, 1) := by decide +kernel
theorem dX11_keep_15 : decode cX11_keep 15 = .ok (.getfield 291, 3) := by decide +kernel
theorem dX11_keep_18 : decode cX11_keep 18 = .ok (.iadd, 1) := by decide +kernel
theorem dX11_keep_19 : decode cX11_keep 19 = .ok (.invokevirtual 294, 3) := by decide +kernel
theorem dX11_keep_22 : decode cX11_keep 22 = .ok (.aload_n 0, 1) := by decide +kernel
theorem dX11_keep_23 : decode cX11_keep 23 = .ok (.dup, 1) := by decide +kernel
theorem dX11_keep_24 : decode cX11_keep 24 = .ok (.getfield 291, 3) := by decide +kernel
theorem dX11_keep_27 : decode cX11_keep 27 = .ok (.iconst 1, 1) := by decide +kernel
theorem dX11_keep_28 : decode cX11_keep 28 = .ok (.iadd, 1) := by decide +kernel
theorem dX11_keep_29 : decode cX11_keep 29 = .ok (.putfield 291, 3) := by decide +kernel
theorem dX11_keep_32 : decode cX11_keep 32 = .ok (.aload_n 0, 1) := by decide +kernel
theorem dX11_keep_33 : decode cX11_keep 33 = .ok (.getfield 291, 3) := by decide +kernel
theorem dX11_keep_36 : decode cX11_keep 36 = .ok (.ireturn, 1) := by decide +kernel
set_option maxRecDepth 20000 in
theorem ggX11_back_X11_copies : GoodIn wsX11_back wsX11_copies := goodIn_r _ [6, 7, 8, 9, 10, 11, 12, 13, 14, 15, 16, 17, 18, 19, 20, 21, 22, 23, 24, 25, 26, 27, 28, 29, 30, 31, 32, 33, 34, 35, 36, 37, 38, 39, 40, 41, 42, 43, 44] (by decide +kernel) (by decide +kernel)
set_option maxRecDepth 20000 in
theorem gX11_back_X11_copies : GoodIn wsX11_back (wsV RX11 294 RX11 yX11_copies wsX11_copies) := goodIn_app (goodIn_of _ (by decide +kernel)) ggX11_back_X11_copies
theorem dX11_back_0 : decode cX11_back 0 = .ok (.aload_n 0, 1) := by decide +kernel
theorem dX11_back_1 : decode cX11_back 1 = .ok (.getfield 291, 3) := by decide +kernel
theorem dX11_back_4 : decode cX11_back 4 = .ok (.ifCond .ne 6, 3) := by decide +kernel
theorem dX11_back_7 : decode cX11_back 7 = .ok (.bipush (-2), 2) := by decide +kernel
theorem dX11_back_9 : decode cX11_back 9 = .ok (.ireturn, 1) := by decide +kernel
theorem dX11_back_10 : decode cX11_back 10 = .ok (.aload_n 0, 1) := by decide +kernel
theorem dX11_back_11 : decode cX11_back 11 = .ok (.dup, 1) := by decide +kernel
theorem dX11_back_12 : decode cX11_back 12 = .ok (.getfield 291, 3) := by decide +kernel
theorem dX11_back_15 : decode cX11_back 15 = .ok (.iconst 1, 1) := by decide +kernel
theorem dX11_back_16 : decode cX11_back 16 = .ok (.isub, 1) := by decide +kernel
theorem dX11_back_17 : decode cX11_back 17 = .ok (.putfield 291, 3) := by decide +kernel
theorem dX11_back_20 : decode cX11_back 20 = .ok (.aload_n 0, 1) := by decide +kernel
theorem dX11_back_21 : decode cX11_back 21 = .ok (.iconst 1, 1) := by decide +kernel
theorem dX11_back_22 : decode cX11_back 22 = .ok (.aload_n 0, 1) := by decide +kernel
theorem dX11_back_23 : decode cX11_back 23 = .ok (.getfield 291, 3) := by decide +kernel
theorem dX11_back_26 : decode cX11_back 26 = .ok (.iadd, 1) := by decide +kernel
theorem dX11_back_27 : decode cX11_back 27 = .ok (.iconst 0, 1) := by decide +kernel
theorem dX11_back_28 : decode cX11_back 28 = .ok (.invokevirtual 294, 3) := by decide +kernel
theorem dX11_back_31 : decode cX11_back 31 = .ok (.aload_n 0, 1) := by decide +kernel
theorem dX11_back_32 : decode cX11_back 32 = .ok (.getfield 291, 3) := by decide +kernel
theorem dX11_back_35 : decode cX11_back 35 = .ok (.ireturn, 1) := by decide +kernel
theorem dX11_count_0 : decode cX11_count 0 = .ok (.iconst 0, 1) := by decide +kernel
theorem dX11_count_1 : decode cX11_count 1 = .ok (.istore_n 2, 1) := by decide +kernel
theorem dX11_count_2 : decode cX11_count 2 = .ok (.iconst 0, 1) := by decide +kernel
theorem dX11_count_3 : decode cX11_count 3 = .ok (.istore_n 3, 1) := by decide +kernel
theorem dX11_count_4 : decode cX11_count 4 = .ok (.iload_n 3, 1) := by decide +kernel
theorem dX11_count_5 : decode cX11_count 5 = .ok (.bipush 12, 2) := by decide +kernel
theorem dX11_count_7 : decode cX11_count 7 = .ok (.aload_n 0, 1) := by decide +kernel
theorem dX11_count_8 : decode cX11_count 8 = .ok (.getfield 7, 3) := by decide +kernel
theorem dX11_count_11 : decode cX11_count 11 = .ok (.iconst 0, 1) := by decide +kernel
theorem dX11_count_12 : decode cX11_count 12 = .ok (.iaload, 1) := by decide +kernel
theorem dX11_count_13 : decode cX11_count 13 = .ok (.imul, 1) := by decide +kernel
theorem dX11_count_14 : decode cX11_count 14 = .ok (.if_icmp .ge 26, 3) := by decide +kernel
theorem dX11_count_17 : decode cX11_count 17 = .ok (.iload_n 2, 1) := by decide +kernel
theorem dX11_count_18 : decode cX11_count 18 = .ok (.aload_n 0, 1) := by decide +kernel
theorem dX11_count_19 : decode cX11_count 19 = .ok (.getfield 16, 3) := by decide +kernel
theorem dX11_count_22 : decode cX11_count 22 = .ok (.iload_n 3, 1) := by decide +kernel
theorem dX11_count_23 : decode cX11_count 23 = .ok (.iaload, 1) := by decide +kernel
theorem dX11_count_24 : decode cX11_count 24 = .ok (.ifCond .le 7, 3) := by decide +kernel
theorem dX11_count_27 : decode cX11_count 27 = .ok (.iconst 1, 1) := by decide +kernel
theorem dX11_count_28 : decode cX11_count 28 = .ok (.goto 4, 3) := by decide +kernel
theorem dX11_count_31 : decode cX11_count 31 = .ok (.iconst 0, 1) := by decide +kernel
theorem dX11_count_32 : decode cX11_count 32 = .ok (.iadd, 1) := by decide +kernel
theorem dX11_count_33 : decode cX11_count 33 = .ok (.istore_n 2, 1) := by decide +kernel
theorem dX11_count_34 : decode cX11_count 34 = .ok (.iinc 3 1, 3) := by decide +kernel
theorem dX11_count_37 : decode cX11_count 37 = .ok (.goto (-33), 3) := by decide +kernel
theorem dX11_count_40 : decode cX11_count 40 = .ok (.iload_n 1, 1) := by decide +kernel
theorem dX11_count_41 : decode cX11_count 41 = .ok (.tableswitch 77 0 6 #[43, 50, 52, 57, 62, 67, 72], 43) := by decide +kernel
theorem dX11_count_84 : decode cX11_count 84 = .ok (.aload_n 0, 1) := by decide +kernel
theorem dX11_count_85 : decode cX11_count 85 = .ok (.getfield 7, 3) := by decide +kernel
theorem dX11_count_88 : decode cX11_count 88 = .ok (.iconst 0, 1) := by decide +kernel
theorem dX11_count_89 : decode cX11_count 89 = .ok (.iaload, 1) := by decide +kernel
theorem dX11_count_90 : decode cX11_count 90 = .ok (.ireturn, 1) := by decide +kernel
theorem dX11_count_91 : decode cX11_count 91 = .ok (.iload_n 2, 1) := by decide +kernel
theorem dX11_count_92 : decode cX11_count 92 = .ok (.ireturn, 1) := by decide +kernel
theorem dX11_count_93 : decode cX11_count 93 = .ok (.aload_n 0, 1) := by decide +kernel
theorem dX11_count_94 : decode cX11_count 94 = .ok (.getfield 139, 3) := by decide +kernel
theorem dX11_count_97 : decode cX11_count 97 = .ok (.ireturn, 1) := by decide +kernel
theorem dX11_count_98 : decode cX11_count 98 = .ok (.aload_n 0, 1) := by decide +kernel
theorem dX11_count_99 : decode cX11_count 99 = .ok (.getfield 171, 3) := by decide +kernel
theorem dX11_count_102 : decode cX11_count 102 = .ok (.ireturn, 1) := by decide +kernel
theorem dX11_count_103 : decode cX11_count 103 = .ok (.aload_n 0, 1) := by decide +kernel
theorem dX11_count_104 : decode cX11_count 104 = .ok (.getfield 230, 3) := by decide +kernel
theorem dX11_count_107 : decode cX11_count 107 = .ok (.ireturn, 1) := by decide +kernel
theorem dX11_count_108 : decode cX11_count 108 = .ok (.aload_n 0, 1) := by decide +kernel
theorem dX11_count_109 : decode cX11_count 109 = .ok (.getfield 233, 3) := by decide +kernel
theorem dX11_count_112 : decode cX11_count 112 = .ok (.ireturn, 1) := by decide +kernel
theorem dX11_count_113 : decode cX11_count 113 = .ok (.aload_n 0, 1) := by decide +kernel
theorem dX11_count_114 : decode cX11_count 114 = .ok (.getfield 291, 3) := by decide +kernel
theorem dX11_count_117 : decode cX11_count 117 = .ok (.ireturn, 1) := by decide +kernel
theorem dX11_count_118 : decode cX11_count 118 = .ok (.iconst (-1), 1) := by decide +kernel
theorem dX11_count_119 : decode cX11_count 119 = .ok (.ireturn, 1) := by decide +kernel
