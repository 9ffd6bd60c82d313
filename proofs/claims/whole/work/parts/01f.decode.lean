theorem dX11_init_0 : decode cX11_init 0 = .ok (.aload_n 0, 1) := by decide +kernel
theorem dX11_init_1 : decode cX11_init 1 = .ok (.invokespecial 3, 3) := by decide +kernel
theorem dX11_init_4 : decode cX11_init 4 = .ok (.aload_n 0, 1) := by decide +kernel
theorem dX11_init_5 : decode cX11_init 5 = .ok (.sipush 1000, 3) := by decide +kernel
theorem dX11_init_8 : decode cX11_init 8 = .ok (.newarray .int, 2) := by decide +kernel
theorem dX11_init_10 : decode cX11_init 10 = .ok (.putfield 9, 3) := by decide +kernel
theorem dX11_init_13 : decode cX11_init 13 = .ok (.aload_n 0, 1) := by decide +kernel
theorem dX11_init_14 : decode cX11_init 14 = .ok (.sipush 2000, 3) := by decide +kernel
theorem dX11_init_17 : decode cX11_init 17 = .ok (.newarray .int, 2) := by decide +kernel
theorem dX11_init_19 : decode cX11_init 19 = .ok (.putfield 13, 3) := by decide +kernel
theorem dX11_init_22 : decode cX11_init 22 = .ok (.aload_n 0, 1) := by decide +kernel
theorem dX11_init_23 : decode cX11_init 23 = .ok (.iconst (-1), 1) := by decide +kernel
theorem dX11_init_24 : decode cX11_init 24 = .ok (.putfield 16, 3) := by decide +kernel
theorem dX11_init_27 : decode cX11_init 27 = .ok (.aload_n 0, 1) := by decide +kernel
theorem dX11_init_28 : decode cX11_init 28 = .ok (.bipush 6, 2) := by decide +kernel
theorem dX11_init_30 : decode cX11_init 30 = .ok (.newarray .int, 2) := by decide +kernel
theorem dX11_init_32 : decode cX11_init 32 = .ok (.putfield 20, 3) := by decide +kernel
theorem dX11_init_35 : decode cX11_init 35 = .ok (.aload_n 0, 1) := by decide +kernel
theorem dX11_init_36 : decode cX11_init 36 = .ok (.bipush 6, 2) := by decide +kernel
theorem dX11_init_38 : decode cX11_init 38 = .ok (.newarray .int, 2) := by decide +kernel
theorem dX11_init_40 : decode cX11_init 40 = .ok (.putfield 23, 3) := by decide +kernel
theorem dX11_init_43 : decode cX11_init 43 = .ok (.aload_n 0, 1) := by decide +kernel
theorem dX11_init_44 : decode cX11_init 44 = .ok (.bipush 36, 2) := by decide +kernel
theorem dX11_init_46 : decode cX11_init 46 = .ok (.newarray .int, 2) := by decide +kernel
theorem dX11_init_48 : decode cX11_init 48 = .ok (.putfield 26, 3) := by decide +kernel
theorem dX11_init_51 : decode cX11_init 51 = .ok (.aload_n 0, 1) := by decide +kernel
theorem dX11_init_52 : decode cX11_init 52 = .ok (.sipush 252, 3) := by decide +kernel
theorem dX11_init_55 : decode cX11_init 55 = .ok (.newarray .int, 2) := by decide +kernel
theorem dX11_init_57 : decode cX11_init 57 = .ok (.putfield 29, 3) := by decide +kernel
theorem dX11_init_60 : decode cX11_init 60 = .ok (.aload_n 0, 1) := by decide +kernel
theorem dX11_init_61 : decode cX11_init 61 = .ok (.sipush 2016, 3) := by decide +kernel
theorem dX11_init_64 : decode cX11_init 64 = .ok (.newarray .int, 2) := by decide +kernel
theorem dX11_init_66 : decode cX11_init 66 = .ok (.putfield 32, 3) := by decide +kernel
theorem dX11_init_69 : decode cX11_init 69 = .ok (.aload_n 0, 1) := by decide +kernel
theorem dX11_init_70 : decode cX11_init 70 = .ok (.sipush 1200, 3) := by decide +kernel
theorem dX11_init_73 : decode cX11_init 73 = .ok (.newarray .int, 2) := by decide +kernel
theorem dX11_init_75 : decode cX11_init 75 = .ok (.putfield 35, 3) := by decide +kernel
theorem dX11_init_78 : decode cX11_init 78 = .ok (.aload_n 0, 1) := by decide +kernel
theorem dX11_init_79 : decode cX11_init 79 = .ok (.sipush 240, 3) := by decide +kernel
theorem dX11_init_82 : decode cX11_init 82 = .ok (.newarray .int, 2) := by decide +kernel
theorem dX11_init_84 : decode cX11_init 84 = .ok (.putfield 38, 3) := by decide +kernel
theorem dX11_init_87 : decode cX11_init 87 = .ok (.aload_n 0, 1) := by decide +kernel
theorem dX11_init_88 : decode cX11_init 88 = .ok (.sipush 2400, 3) := by decide +kernel
theorem dX11_init_91 : decode cX11_init 91 = .ok (.newarray .int, 2) := by decide +kernel
theorem dX11_init_93 : decode cX11_init 93 = .ok (.putfield 41, 3) := by decide +kernel
theorem dX11_init_96 : decode cX11_init 96 = .ok (.aload_n 0, 1) := by decide +kernel
theorem dX11_init_97 : decode cX11_init 97 = .ok (.bipush 12, 2) := by decide +kernel
theorem dX11_init_99 : decode cX11_init 99 = .ok (.newarray .int, 2) := by decide +kernel
theorem dX11_init_101 : decode cX11_init 101 = .ok (.putfield 44, 3) := by decide +kernel
theorem dX11_init_104 : decode cX11_init 104 = .ok (.aload_n 0, 1) := by decide +kernel
theorem dX11_init_105 : decode cX11_init 105 = .ok (.bipush 12, 2) := by decide +kernel
theorem dX11_init_107 : decode cX11_init 107 = .ok (.newarray .int, 2) := by decide +kernel
theorem dX11_init_109 : decode cX11_init 109 = .ok (.putfield 47, 3) := by decide +kernel
theorem dX11_init_112 : decode cX11_init 112 = .ok (.aload_n 0, 1) := by decide +kernel
theorem dX11_init_113 : decode cX11_init 113 = .ok (.sipush 492, 3) := by decide +kernel
theorem dX11_init_116 : decode cX11_init 116 = .ok (.newarray .int, 2) := by decide +kernel
theorem dX11_init_118 : decode cX11_init 118 = .ok (.putfield 50, 3) := by decide +kernel
theorem dX11_init_121 : decode cX11_init 121 = .ok (.aload_n 0, 1) := by decide +kernel
theorem dX11_init_122 : decode cX11_init 122 = .ok (.sipush 492, 3) := by decide +kernel
theorem dX11_init_125 : decode cX11_init 125 = .ok (.newarray .int, 2) := by decide +kernel
theorem dX11_init_127 : decode cX11_init 127 = .ok (.putfield 53, 3) := by decide +kernel
theorem dX11_init_130 : decode cX11_init 130 = .ok (.aload_n 0, 1) := by decide +kernel
theorem dX11_init_131 : decode cX11_init 131 = .ok (.sipush 2400, 3) := by decide +kernel
theorem dX11_init_134 : decode cX11_init 134 = .ok (.newarray .int, 2) := by decide +kernel
theorem dX11_init_136 : decode cX11_init 136 = .ok (.putfield 56, 3) := by decide +kernel
theorem dX11_init_139 : decode cX11_init 139 = .ok (.aload_n 0, 1) := by decide +kernel
theorem dX11_init_140 : decode cX11_init 140 = .ok (.sipush 2400, 3) := by decide +kernel
theorem dX11_init_143 : decode cX11_init 143 = .ok (.newarray .int, 2) := by decide +kernel
theorem dX11_init_145 : decode cX11_init 145 = .ok (.putfield 59, 3) := by decide +kernel
theorem dX11_init_148 : decode cX11_init 148 = .ok (.aload_n 0, 1) := by decide +kernel
theorem dX11_init_149 : decode cX11_init 149 = .ok (.bipush 6, 2) := by decide +kernel
theorem dX11_init_151 : decode cX11_init 151 = .ok (.newarray .boolean, 2) := by decide +kernel
theorem dX11_init_153 : decode cX11_init 153 = .ok (.putfield 62, 3) := by decide +kernel
theorem dX11_init_156 : decode cX11_init 156 = .ok (.aload_n 0, 1) := by decide +kernel
theorem dX11_init_157 : decode cX11_init 157 = .ok (.bipush 6, 2) := by decide +kernel
theorem dX11_init_159 : decode cX11_init 159 = .ok (.newarray .int, 2) := by decide +kernel
theorem dX11_init_161 : decode cX11_init 161 = .ok (.putfield 66, 3) := by decide +kernel
theorem dX11_init_164 : decode cX11_init 164 = .ok (.aload_n 0, 1) := by decide +kernel
theorem dX11_init_165 : decode cX11_init 165 = .ok (.sipush 2400, 3) := by decide +kernel
theorem dX11_init_168 : decode cX11_init 168 = .ok (.newarray .int, 2) := by decide +kernel
theorem dX11_init_170 : decode cX11_init 170 = .ok (.putfield 69, 3) := by decide +kernel
theorem dX11_init_173 : decode cX11_init 173 = .ok (.aload_n 0, 1) := by decide +kernel
theorem dX11_init_174 : decode cX11_init 174 = .ok (.sipush 2400, 3) := by decide +kernel
theorem dX11_init_177 : decode cX11_init 177 = .ok (.newarray .int, 2) := by decide +kernel
theorem dX11_init_179 : decode cX11_init 179 = .ok (.putfield 72, 3) := by decide +kernel
theorem dX11_init_182 : decode cX11_init 182 = .ok (.aload_n 0, 1) := by decide +kernel
theorem dX11_init_183 : decode cX11_init 183 = .ok (.bipush 6, 2) := by decide +kernel
theorem dX11_init_185 : decode cX11_init 185 = .ok (.newarray .int, 2) := by decide +kernel
theorem dX11_init_187 : decode cX11_init 187 = .ok (.putfield 75, 3) := by decide +kernel
theorem dX11_init_190 : decode cX11_init 190 = .ok (.aload_n 0, 1) := by decide +kernel
theorem dX11_init_191 : decode cX11_init 191 = .ok (.sipush 2400, 3) := by decide +kernel
theorem dX11_init_194 : decode cX11_init 194 = .ok (.newarray .int, 2) := by decide +kernel
theorem dX11_init_196 : decode cX11_init 196 = .ok (.putfield 78, 3) := by decide +kernel
theorem dX11_init_199 : decode cX11_init 199 = .ok (.aload_n 0, 1) := by decide +kernel
theorem dX11_init_200 : decode cX11_init 200 = .ok (.iconst 5, 1) := by decide +kernel
theorem dX11_init_201 : decode cX11_init 201 = .ok (.newarray .int, 2) := by decide +kernel
theorem dX11_init_203 : decode cX11_init 203 = .ok (.putfield 81, 3) := by decide +kernel
theorem dX11_init_206 : decode cX11_init 206 = .ok (.aload_n 0, 1) := by decide +kernel
theorem dX11_init_207 : decode cX11_init 207 = .ok (.sipush 2000, 3) := by decide +kernel
theorem dX11_init_210 : decode cX11_init 210 = .ok (.newarray .int, 2) := by decide +kernel
theorem dX11_init_212 : decode cX11_init 212 = .ok (.putfield 84, 3) := by decide +kernel
theorem dX11_init_215 : decode cX11_init 215 = .ok (.aload_n 0, 1) := by decide +kernel
theorem dX11_init_216 : decode cX11_init 216 = .ok (.sipush 8000, 3) := by decide +kernel
theorem dX11_init_219 : decode cX11_init 219 = .ok (.newarray .int, 2) := by decide +kernel
theorem dX11_init_221 : decode cX11_init 221 = .ok (.putfield 87, 3) := by decide +kernel
theorem dX11_init_224 : decode cX11_init 224 = .ok (.aload_n 0, 1) := by decide +kernel
theorem dX11_init_225 : decode cX11_init 225 = .ok (.sipush 400, 3) := by decide +kernel
theorem dX11_init_228 : decode cX11_init 228 = .ok (.newarray .int, 2) := by decide +kernel
theorem dX11_init_230 : decode cX11_init 230 = .ok (.putfield 90, 3) := by decide +kernel
theorem dX11_init_233 : decode cX11_init 233 = .ok (.aload_n 0, 1) := by decide +kernel
theorem dX11_init_234 : decode cX11_init 234 = .ok (.sipush 400, 3) := by decide +kernel
theorem dX11_init_237 : decode cX11_init 237 = .ok (.newarray .boolean, 2) := by decide +kernel
theorem dX11_init_239 : decode cX11_init 239 = .ok (.putfield 93, 3) := by decide +kernel
theorem dX11_init_242 : decode cX11_init 242 = .ok (.return_, 1) := by decide +kernel
theorem dX11_thrown_0 : decode cX11_thrown 0 = .ok (.aload_n 0, 1) := by decide +kernel
theorem dX11_thrown_1 : decode cX11_thrown 1 = .ok (.getfield 96, 3) := by decide +kernel
theorem dX11_thrown_4 : decode cX11_thrown 4 = .ok (.ireturn, 1) := by decide +kernel
theorem dX11_fail_0 : decode cX11_fail 0 = .ok (.aload_n 0, 1) := by decide +kernel
theorem dX11_fail_1 : decode cX11_fail 1 = .ok (.iconst 1, 1) := by decide +kernel
theorem dX11_fail_2 : decode cX11_fail 2 = .ok (.putfield 96, 3) := by decide +kernel
theorem dX11_fail_5 : decode cX11_fail 5 = .ok (.iconst 0, 1) := by decide +kernel
theorem dX11_fail_6 : decode cX11_fail 6 = .ok (.ireturn, 1) := by decide +kernel
theorem dX11_isTable_0 : decode cX11_isTable 0 = .ok (.iload_n 1, 1) := by decide +kernel
theorem dX11_isTable_1 : decode cX11_isTable 1 = .ok (.ifCond .lt 15, 3) := by decide +kernel
theorem dX11_isTable_4 : decode cX11_isTable 4 = .ok (.iload_n 1, 1) := by decide +kernel
theorem dX11_isTable_5 : decode cX11_isTable 5 = .ok (.aload_n 0, 1) := by decide +kernel
theorem dX11_isTable_6 : decode cX11_isTable 6 = .ok (.getfield 99, 3) := by decide +kernel
theorem dX11_isTable_9 : decode cX11_isTable 9 = .ok (.if_icmp .ge 7, 3) := by decide +kernel
theorem dX11_isTable_12 : decode cX11_isTable 12 = .ok (.iconst 1, 1) := by decide +kernel
theorem dX11_isTable_13 : decode cX11_isTable 13 = .ok (.goto 4, 3) := by decide +kernel
theorem dX11_isTable_16 : decode cX11_isTable 16 = .ok (.iconst 0, 1) := by decide +kernel
theorem dX11_isTable_17 : decode cX11_isTable 17 = .ok (.ireturn, 1) := by decide +kernel
theorem dX11_feed_0 : decode cX11_feed 0 = .ok (.aload_n 0, 1) := by decide +kernel
theorem dX11_feed_1 : decode cX11_feed 1 = .ok (.iconst 0, 1) := by decide +kernel
theorem dX11_feed_2 : decode cX11_feed 2 = .ok (.putfield 96, 3) := by decide +kernel
theorem dX11_feed_5 : decode cX11_feed 5 = .ok (.aload_n 0, 1) := by decide +kernel
theorem dX11_feed_6 : decode cX11_feed 6 = .ok (.getfield 102, 3) := by decide +kernel
theorem dX11_feed_9 : decode cX11_feed 9 = .ok (.bipush 20, 2) := by decide +kernel
theorem dX11_feed_11 : decode cX11_feed 11 = .ok (.iadd, 1) := by decide +kernel
theorem dX11_feed_12 : decode cX11_feed 12 = .ok (.sipush 1000, 3) := by decide +kernel
theorem dX11_feed_15 : decode cX11_feed 15 = .ok (.if_icmp .le 5, 3) := by decide +kernel
theorem dX11_feed_18 : decode cX11_feed 18 = .ok (.iconst (-1), 1) := by decide +kernel
theorem dX11_feed_19 : decode cX11_feed 19 = .ok (.ireturn, 1) := by decide +kernel
theorem dX11_feed_20 : decode cX11_feed 20 = .ok (.iconst 0, 1) := by decide +kernel
theorem dX11_feed_21 : decode cX11_feed 21 = .ok (.istore 6, 2) := by decide +kernel
theorem dX11_feed_23 : decode cX11_feed 23 = .ok (.iload 6, 2) := by decide +kernel
theorem dX11_feed_25 : decode cX11_feed 25 = .ok (.bipush 20, 2) := by decide +kernel
theorem dX11_feed_27 : decode cX11_feed 27 = .ok (.if_icmp .ge 93, 3) := by decide +kernel
theorem dX11_feed_30 : decode cX11_feed 30 = .ok (.iload 6, 2) := by decide +kernel
theorem dX11_feed_32 : decode cX11_feed 32 = .ok (.iconst 4, 1) := by decide +kernel
theorem dX11_feed_33 : decode cX11_feed 33 = .ok (.if_icmp .ge 7, 3) := by decide +kernel
theorem dX11_feed_36 : decode cX11_feed 36 = .ok (.iload_n 1, 1) := by decide +kernel
theorem dX11_feed_37 : decode cX11_feed 37 = .ok (.goto 39, 3) := by decide +kernel
theorem dX11_feed_40 : decode cX11_feed 40 = .ok (.iload 6, 2) := by decide +kernel
theorem dX11_feed_42 : decode cX11_feed 42 = .ok (.bipush 8, 2) := by decide +kernel
theorem dX11_feed_44 : decode cX11_feed 44 = .ok (.if_icmp .ge 7, 3) := by decide +kernel
theorem dX11_feed_47 : decode cX11_feed 47 = .ok (.iload_n 2, 1) := by decide +kernel
theorem dX11_feed_48 : decode cX11_feed 48 = .ok (.goto 28, 3) := by decide +kernel
theorem dX11_feed_51 : decode cX11_feed 51 = .ok (.iload 6, 2) := by decide +kernel
theorem dX11_feed_53 : decode cX11_feed 53 = .ok (.bipush 12, 2) := by decide +kernel
theorem dX11_feed_55 : decode cX11_feed 55 = .ok (.if_icmp .ge 7, 3) := by decide +kernel
theorem dX11_feed_58 : decode cX11_feed 58 = .ok (.iload_n 3, 1) := by decide +kernel
theorem dX11_feed_59 : decode cX11_feed 59 = .ok (.goto 17, 3) := by decide +kernel
theorem dX11_feed_62 : decode cX11_feed 62 = .ok (.iload 6, 2) := by decide +kernel
theorem dX11_feed_64 : decode cX11_feed 64 = .ok (.bipush 16, 2) := by decide +kernel
theorem dX11_feed_66 : decode cX11_feed 66 = .ok (.if_icmp .ge 8, 3) := by decide +kernel
theorem dX11_feed_69 : decode cX11_feed 69 = .ok (.iload 4, 2) := by decide +kernel
theorem dX11_feed_71 : decode cX11_feed 71 = .ok (.goto 5, 3) := by decide +kernel
theorem dX11_feed_74 : decode cX11_feed 74 = .ok (.iload 5, 2) := by decide +kernel
theorem dX11_feed_76 : decode cX11_feed 76 = .ok (.istore 7, 2) := by decide +kernel
theorem dX11_feed_78 : decode cX11_feed 78 = .ok (.aload_n 0, 1) := by decide +kernel
theorem dX11_feed_79 : decode cX11_feed 79 = .ok (.getfield 9, 3) := by decide +kernel
theorem dX11_feed_82 : decode cX11_feed 82 = .ok (.aload_n 0, 1) := by decide +kernel
theorem dX11_feed_83 : decode cX11_feed 83 = .ok (.getfield 102, 3) := by decide +kernel
theorem dX11_feed_86 : decode cX11_feed 86 = .ok (.iload 7, 2) := by decide +kernel
theorem dX11_feed_88 : decode cX11_feed 88 = .ok (.bipush 24, 2) := by decide +kernel
theorem dX11_feed_90 : decode cX11_feed 90 = .ok (.bipush 8, 2) := by decide +kernel
theorem dX11_feed_92 : decode cX11_feed 92 = .ok (.iload 6, 2) := by decide +kernel
theorem dX11_feed_94 : decode cX11_feed 94 = .ok (.iconst 4, 1) := by decide +kernel
theorem dX11_feed_95 : decode cX11_feed 95 = .ok (.irem, 1) := by decide +kernel
theorem dX11_feed_96 : decode cX11_feed 96 = .ok (.imul, 1) := by decide +kernel
theorem dX11_feed_97 : decode cX11_feed 97 = .ok (.isub, 1) := by decide +kernel
theorem dX11_feed_98 : decode cX11_feed 98 = .ok (.ishr, 1) := by decide +kernel
theorem dX11_feed_99 : decode cX11_feed 99 = .ok (.sipush 255, 3) := by decide +kernel
theorem dX11_feed_102 : decode cX11_feed 102 = .ok (.iand, 1) := by decide +kernel
theorem dX11_feed_103 : decode cX11_feed 103 = .ok (.iastore, 1) := by decide +kernel
theorem dX11_feed_104 : decode cX11_feed 104 = .ok (.aload_n 0, 1) := by decide +kernel
theorem dX11_feed_105 : decode cX11_feed 105 = .ok (.dup, 1) := by decide +kernel
theorem dX11_feed_106 : decode cX11_feed 106 = .ok (.getfield 102, 3) := by decide +kernel
theorem dX11_feed_109 : decode cX11_feed 109 = .ok (.iconst 1, 1) := by decide +kernel
theorem dX11_feed_110 : decode cX11_feed 110 = .ok (.iadd, 1) := by decide +kernel
theorem dX11_feed_111 : decode cX11_feed 111 = .ok (.putfield 102, 3) := by decide +kernel
theorem dX11_feed_114 : decode cX11_feed 114 = .ok (.iinc 6 1, 3) := by decide +kernel
theorem dX11_feed_117 : decode cX11_feed 117 = .ok (.goto (-94), 3) := by decide +kernel
theorem dX11_feed_120 : decode cX11_feed 120 = .ok (.aload_n 0, 1) := by decide +kernel
theorem dX11_feed_121 : decode cX11_feed 121 = .ok (.getfield 102, 3) := by decide +kernel
theorem dX11_feed_124 : decode cX11_feed 124 = .ok (.ireturn, 1) := by decide +kernel
theorem dX11_byteAt_0 : decode cX11_byteAt 0 = .ok (.iload_n 1, 1) := by decide +kernel
theorem dX11_byteAt_1 : decode cX11_byteAt 1 = .ok (.aload_n 0, 1) := by decide +kernel
theorem dX11_byteAt_2 : decode cX11_byteAt 2 = .ok (.getfield 105, 3) := by decide +kernel
theorem dX11_byteAt_5 : decode cX11_byteAt 5 = .ok (.if_icmp .ge 12, 3) := by decide +kernel
theorem dX11_byteAt_8 : decode cX11_byteAt 8 = .ok (.aload_n 0, 1) := by decide +kernel
theorem dX11_byteAt_9 : decode cX11_byteAt 9 = .ok (.getfield 9, 3) := by decide +kernel
theorem dX11_byteAt_12 : decode cX11_byteAt 12 = .ok (.iload_n 1, 1) := by decide +kernel
theorem dX11_byteAt_13 : decode cX11_byteAt 13 = .ok (.iaload, 1) := by decide +kernel
theorem dX11_byteAt_14 : decode cX11_byteAt 14 = .ok (.goto 4, 3) := by decide +kernel
theorem dX11_byteAt_17 : decode cX11_byteAt 17 = .ok (.iconst (-1), 1) := by decide +kernel
theorem dX11_byteAt_18 : decode cX11_byteAt 18 = .ok (.ireturn, 1) := by decide +kernel
theorem dX11_isWordSign_0 : decode cX11_isWordSign 0 = .ok (.iload_n 0, 1) := by decide +kernel
theorem dX11_isWordSign_1 : decode cX11_isWordSign 1 = .ok (.bipush 97, 2) := by decide +kernel
theorem dX11_isWordSign_3 : decode cX11_isWordSign 3 = .ok (.if_icmp .lt 9, 3) := by decide +kernel
theorem dX11_isWordSign_6 : decode cX11_isWordSign 6 = .ok (.iload_n 0, 1) := by decide +kernel
theorem dX11_isWordSign_7 : decode cX11_isWordSign 7 = .ok (.bipush 122, 2) := by decide +kernel
theorem dX11_isWordSign_9 : decode cX11_isWordSign 9 = .ok (.if_icmp .le 15, 3) := by decide +kernel
theorem dX11_isWordSign_12 : decode cX11_isWordSign 12 = .ok (.iload_n 0, 1) := by decide +kernel
theorem dX11_isWordSign_13 : decode cX11_isWordSign 13 = .ok (.bipush 48, 2) := by decide +kernel
theorem dX11_isWordSign_15 : decode cX11_isWordSign 15 = .ok (.if_icmp .lt 13, 3) := by decide +kernel
theorem dX11_isWordSign_18 : decode cX11_isWordSign 18 = .ok (.iload_n 0, 1) := by decide +kernel
theorem dX11_isWordSign_19 : decode cX11_isWordSign 19 = .ok (.bipush 57, 2) := by decide +kernel
theorem dX11_isWordSign_21 : decode cX11_isWordSign 21 = .ok (.if_icmp .gt 7, 3) := by decide +kernel
theorem dX11_isWordSign_24 : decode cX11_isWordSign 24 = .ok (.iconst 1, 1) := by decide +kernel
theorem dX11_isWordSign_25 : decode cX11_isWordSign 25 = .ok (.goto 4, 3) := by decide +kernel
theorem dX11_isWordSign_28 : decode cX11_isWordSign 28 = .ok (.iconst 0, 1) := by decide +kernel
theorem dX11_isWordSign_29 : decode cX11_isWordSign 29 = .ok (.ireturn, 1) := by decide +kernel
theorem dX11_step_0 : decode cX11_step 0 = .ok (.aload_n 0, 1) := by decide +kernel
theorem dX11_step_1 : decode cX11_step 1 = .ok (.aload_n 0, 1) := by decide +kernel
theorem dX11_step_2 : decode cX11_step 2 = .ok (.getfield 108, 3) := by decide +kernel
theorem dX11_step_5 : decode cX11_step 5 = .ok (.invokevirtual 111, 3) := by decide +kernel
theorem dX11_step_8 : decode cX11_step 8 = .ok (.bipush 32, 2) := by decide +kernel
theorem dX11_step_10 : decode cX11_step 10 = .ok (.if_icmp .eq 16, 3) := by decide +kernel
theorem dX11_step_13 : decode cX11_step 13 = .ok (.aload_n 0, 1) := by decide +kernel
theorem dX11_step_14 : decode cX11_step 14 = .ok (.aload_n 0, 1) := by decide +kernel
theorem dX11_step_15 : decode cX11_step 15 = .ok (.getfield 108, 3) := by decide +kernel
theorem dX11_step_18 : decode cX11_step 18 = .ok (.invokevirtual 111, 3) := by decide +kernel
theorem dX11_step_21 : decode cX11_step 21 = .ok (.bipush 10, 2) := by decide +kernel
theorem dX11_step_23 : decode cX11_step 23 = .ok (.if_icmp .ne 16, 3) := by decide +kernel
theorem dX11_step_26 : decode cX11_step 26 = .ok (.aload_n 0, 1) := by decide +kernel
theorem dX11_step_27 : decode cX11_step 27 = .ok (.dup, 1) := by decide +kernel
theorem dX11_step_28 : decode cX11_step 28 = .ok (.getfield 108, 3) := by decide +kernel
theorem dX11_step_31 : decode cX11_step 31 = .ok (.iconst 1, 1) := by decide +kernel
theorem dX11_step_32 : decode cX11_step 32 = .ok (.iadd, 1) := by decide +kernel
theorem dX11_step_33 : decode cX11_step 33 = .ok (.putfield 108, 3) := by decide +kernel
theorem dX11_step_36 : decode cX11_step 36 = .ok (.goto (-36), 3) := by decide +kernel
theorem dX11_step_39 : decode cX11_step 39 = .ok (.aload_n 0, 1) := by decide +kernel
theorem dX11_step_40 : decode cX11_step 40 = .ok (.aload_n 0, 1) := by decide +kernel
theorem dX11_step_41 : decode cX11_step 41 = .ok (.getfield 108, 3) := by decide +kernel
theorem dX11_step_44 : decode cX11_step 44 = .ok (.putfield 115, 3) := by decide +kernel
theorem dX11_step_47 : decode cX11_step 47 = .ok (.aload_n 0, 1) := by decide +kernel
theorem dX11_step_48 : decode cX11_step 48 = .ok (.iconst 0, 1) := by decide +kernel
theorem dX11_step_49 : decode cX11_step 49 = .ok (.putfield 118, 3) := by decide +kernel
theorem dX11_step_52 : decode cX11_step 52 = .ok (.aload_n 0, 1) := by decide +kernel
theorem dX11_step_53 : decode cX11_step 53 = .ok (.aload_n 0, 1) := by decide +kernel
theorem dX11_step_54 : decode cX11_step 54 = .ok (.getfield 108, 3) := by decide +kernel
theorem dX11_step_57 : decode cX11_step 57 = .ok (.invokevirtual 111, 3) := by decide +kernel
theorem dX11_step_60 : decode cX11_step 60 = .ok (.istore_n 1, 1) := by decide +kernel
theorem dX11_step_61 : decode cX11_step 61 = .ok (.iload_n 1, 1) := by decide +kernel
theorem dX11_step_62 : decode cX11_step 62 = .ok (.iconst (-1), 1) := by decide +kernel
theorem dX11_step_63 : decode cX11_step 63 = .ok (.if_icmp .ne 11, 3) := by decide +kernel
theorem dX11_step_66 : decode cX11_step 66 = .ok (.aload_n 0, 1) := by decide +kernel
theorem dX11_step_67 : decode cX11_step 67 = .ok (.iconst 0, 1) := by decide +kernel
theorem dX11_step_68 : decode cX11_step 68 = .ok (.putfield 121, 3) := by decide +kernel
theorem dX11_step_71 : decode cX11_step 71 = .ok (.goto 140, 3) := by decide +kernel
theorem dX11_step_74 : decode cX11_step 74 = .ok (.iload_n 1, 1) := by decide +kernel
theorem dX11_step_75 : decode cX11_step 75 = .ok (.invokestatic 124, 3) := by decide +kernel
theorem dX11_step_78 : decode cX11_step 78 = .ok (.ifCond .eq 38, 3) := by decide +kernel
theorem dX11_step_81 : decode cX11_step 81 = .ok (.aload_n 0, 1) := by decide +kernel
theorem dX11_step_82 : decode cX11_step 82 = .ok (.aload_n 0, 1) := by decide +kernel
theorem dX11_step_83 : decode cX11_step 83 = .ok (.getfield 108, 3) := by decide +kernel
theorem dX11_step_86 : decode cX11_step 86 = .ok (.invokevirtual 111, 3) := by decide +kernel
theorem dX11_step_89 : decode cX11_step 89 = .ok (.invokestatic 124, 3) := by decide +kernel
theorem dX11_step_92 : decode cX11_step 92 = .ok (.ifCond .eq 16, 3) := by decide +kernel
theorem dX11_step_95 : decode cX11_step 95 = .ok (.aload_n 0, 1) := by decide +kernel
theorem dX11_step_96 : decode cX11_step 96 = .ok (.dup, 1) := by decide +kernel
theorem dX11_step_97 : decode cX11_step 97 = .ok (.getfield 108, 3) := by decide +kernel
theorem dX11_step_100 : decode cX11_step 100 = .ok (.iconst 1, 1) := by decide +kernel
theorem dX11_step_101 : decode cX11_step 101 = .ok (.iadd, 1) := by decide +kernel
theorem dX11_step_102 : decode cX11_step 102 = .ok (.putfield 108, 3) := by decide +kernel
theorem dX11_step_105 : decode cX11_step 105 = .ok (.goto (-24), 3) := by decide +kernel
theorem dX11_step_108 : decode cX11_step 108 = .ok (.aload_n 0, 1) := by decide +kernel
theorem dX11_step_109 : decode cX11_step 109 = .ok (.iconst 1, 1) := by decide +kernel
theorem dX11_step_110 : decode cX11_step 110 = .ok (.putfield 121, 3) := by decide +kernel
theorem dX11_step_113 : decode cX11_step 113 = .ok (.goto 98, 3) := by decide +kernel
theorem dX11_step_116 : decode cX11_step 116 = .ok (.aload_n 0, 1) := by decide +kernel
theorem dX11_step_117 : decode cX11_step 117 = .ok (.dup, 1) := by decide +kernel
theorem dX11_step_118 : decode cX11_step 118 = .ok (.getfield 108, 3) := by decide +kernel
theorem dX11_step_121 : decode cX11_step 121 = .ok (.iconst 1, 1) := by decide +kernel
theorem dX11_step_122 : decode cX11_step 122 = .ok (.iadd, 1) := by decide +kernel
theorem dX11_step_123 : decode cX11_step 123 = .ok (.putfield 108, 3) := by decide +kernel
theorem dX11_step_126 : decode cX11_step 126 = .ok (.aload_n 0, 1) := by decide +kernel
theorem dX11_step_127 : decode cX11_step 127 = .ok (.iload_n 1, 1) := by decide +kernel
theorem dX11_step_128 : decode cX11_step 128 = .ok (.bipush 42, 2) := by decide +kernel
theorem dX11_step_130 : decode cX11_step 130 = .ok (.if_icmp .eq 27, 3) := by decide +kernel
theorem dX11_step_133 : decode cX11_step 133 = .ok (.iload_n 1, 1) := by decide +kernel
theorem dX11_step_134 : decode cX11_step 134 = .ok (.bipush 47, 2) := by decide +kernel
theorem dX11_step_136 : decode cX11_step 136 = .ok (.if_icmp .eq 21, 3) := by decide +kernel
theorem dX11_step_139 : decode cX11_step 139 = .ok (.iload_n 1, 1) := by decide +kernel
theorem dX11_step_140 : decode cX11_step 140 = .ok (.bipush 33, 2) := by decide +kernel
theorem dX11_step_142 : decode cX11_step 142 = .ok (.if_icmp .eq 15, 3) := by decide +kernel
theorem dX11_step_145 : decode cX11_step 145 = .ok (.iload_n 1, 1) := by decide +kernel
theorem dX11_step_146 : decode cX11_step 146 = .ok (.bipush 59, 2) := by decide +kernel
theorem dX11_step_148 : decode cX11_step 148 = .ok (.if_icmp .eq 9, 3) := by decide +kernel
theorem dX11_step_151 : decode cX11_step 151 = .ok (.iload_n 1, 1) := by decide +kernel
theorem dX11_step_152 : decode cX11_step 152 = .ok (.bipush 58, 2) := by decide +kernel
theorem dX11_step_154 : decode cX11_step 154 = .ok (.if_icmp .ne 7, 3) := by decide +kernel
theorem dX11_step_157 : decode cX11_step 157 = .ok (.iconst 2, 1) := by decide +kernel
theorem dX11_step_158 : decode cX11_step 158 = .ok (.goto 4, 3) := by decide +kernel
theorem dX11_step_161 : decode cX11_step 161 = .ok (.iconst 3, 1) := by decide +kernel
theorem dX11_step_162 : decode cX11_step 162 = .ok (.putfield 121, 3) := by decide +kernel
theorem dX11_step_165 : decode cX11_step 165 = .ok (.aload_n 0, 1) := by decide +kernel
theorem dX11_step_166 : decode cX11_step 166 = .ok (.iload_n 1, 1) := by decide +kernel
theorem dX11_step_167 : decode cX11_step 167 = .ok (.putfield 118, 3) := by decide +kernel
theorem dX11_step_170 : decode cX11_step 170 = .ok (.iload_n 1, 1) := by decide +kernel
theorem dX11_step_171 : decode cX11_step 171 = .ok (.bipush 45, 2) := by decide +kernel
theorem dX11_step_173 : decode cX11_step 173 = .ok (.if_icmp .ne 38, 3) := by decide +kernel
theorem dX11_step_176 : decode cX11_step 176 = .ok (.aload_n 0, 1) := by decide +kernel
theorem dX11_step_177 : decode cX11_step 177 = .ok (.aload_n 0, 1) := by decide +kernel
theorem dX11_step_178 : decode cX11_step 178 = .ok (.getfield 108, 3) := by decide +kernel
theorem dX11_step_181 : decode cX11_step 181 = .ok (.invokevirtual 111, 3) := by decide +kernel
theorem dX11_step_184 : decode cX11_step 184 = .ok (.bipush 62, 2) := by decide +kernel
theorem dX11_step_186 : decode cX11_step 186 = .ok (.if_icmp .ne 25, 3) := by decide +kernel
theorem dX11_step_189 : decode cX11_step 189 = .ok (.aload_n 0, 1) := by decide +kernel
theorem dX11_step_190 : decode cX11_step 190 = .ok (.dup, 1) := by decide +kernel
theorem dX11_step_191 : decode cX11_step 191 = .ok (.getfield 108, 3) := by decide +kernel
theorem dX11_step_194 : decode cX11_step 194 = .ok (.iconst 1, 1) := by decide +kernel
theorem dX11_step_195 : decode cX11_step 195 = .ok (.iadd, 1) := by decide +kernel
theorem dX11_step_196 : decode cX11_step 196 = .ok (.putfield 108, 3) := by decide +kernel
theorem dX11_step_199 : decode cX11_step 199 = .ok (.aload_n 0, 1) := by decide +kernel
theorem dX11_step_200 : decode cX11_step 200 = .ok (.iconst 2, 1) := by decide +kernel
theorem dX11_step_201 : decode cX11_step 201 = .ok (.putfield 121, 3) := by decide +kernel
theorem dX11_step_204 : decode cX11_step 204 = .ok (.aload_n 0, 1) := by decide +kernel
theorem dX11_step_205 : decode cX11_step 205 = .ok (.sipush 256, 3) := by decide +kernel
theorem dX11_step_208 : decode cX11_step 208 = .ok (.putfield 118, 3) := by decide +kernel
theorem dX11_step_211 : decode cX11_step 211 = .ok (.aload_n 0, 1) := by decide +kernel
theorem dX11_step_212 : decode cX11_step 212 = .ok (.aload_n 0, 1) := by decide +kernel
theorem dX11_step_213 : decode cX11_step 213 = .ok (.getfield 108, 3) := by decide +kernel
theorem dX11_step_216 : decode cX11_step 216 = .ok (.putfield 128, 3) := by decide +kernel
theorem dX11_step_219 : decode cX11_step 219 = .ok (.return_, 1) := by decide +kernel
theorem dX11_wrong_0 : decode cX11_wrong 0 = .ok (.aload_n 0, 1) := by decide +kernel
theorem dX11_wrong_1 : decode cX11_wrong 1 = .ok (.getfield 131, 3) := by decide +kernel
theorem dX11_wrong_4 : decode cX11_wrong 4 = .ok (.ifCond .eq 4, 3) := by decide +kernel
theorem dX11_wrong_7 : decode cX11_wrong 7 = .ok (.return_, 1) := by decide +kernel
theorem dX11_wrong_8 : decode cX11_wrong 8 = .ok (.aload_n 0, 1) := by decide +kernel
theorem dX11_wrong_9 : decode cX11_wrong 9 = .ok (.iload_n 1, 1) := by decide +kernel
theorem dX11_wrong_10 : decode cX11_wrong 10 = .ok (.putfield 131, 3) := by decide +kernel
theorem dX11_wrong_13 : decode cX11_wrong 13 = .ok (.aload_n 0, 1) := by decide +kernel
theorem dX11_wrong_14 : decode cX11_wrong 14 = .ok (.aload_n 0, 1) := by decide +kernel
theorem dX11_wrong_15 : decode cX11_wrong 15 = .ok (.getfield 115, 3) := by decide +kernel
theorem dX11_wrong_18 : decode cX11_wrong 18 = .ok (.putfield 134, 3) := by decide +kernel
theorem dX11_wrong_21 : decode cX11_wrong 21 = .ok (.return_, 1) := by decide +kernel
theorem dX11_isSign_0 : decode cX11_isSign 0 = .ok (.aload_n 0, 1) := by decide +kernel
theorem dX11_isSign_1 : decode cX11_isSign 1 = .ok (.getfield 131, 3) := by decide +kernel
theorem dX11_isSign_4 : decode cX11_isSign 4 = .ok (.ifCond .ne 23, 3) := by decide +kernel
theorem dX11_isSign_7 : decode cX11_isSign 7 = .ok (.aload_n 0, 1) := by decide +kernel
theorem dX11_isSign_8 : decode cX11_isSign 8 = .ok (.getfield 121, 3) := by decide +kernel
theorem dX11_isSign_11 : decode cX11_isSign 11 = .ok (.iconst 2, 1) := by decide +kernel
theorem dX11_isSign_12 : decode cX11_isSign 12 = .ok (.if_icmp .ne 15, 3) := by decide +kernel
theorem dX11_isSign_15 : decode cX11_isSign 15 = .ok (.aload_n 0, 1) := by decide +kernel
theorem dX11_isSign_16 : decode cX11_isSign 16 = .ok (.getfield 118, 3) := by decide +kernel
theorem dX11_isSign_19 : decode cX11_isSign 19 = .ok (.iload_n 1, 1) := by decide +kernel
theorem dX11_isSign_20 : decode cX11_isSign 20 = .ok (.if_icmp .ne 7, 3) := by decide +kernel
theorem dX11_isSign_23 : decode cX11_isSign 23 = .ok (.iconst 1, 1) := by decide +kernel
theorem dX11_isSign_24 : decode cX11_isSign 24 = .ok (.goto 4, 3) := by decide +kernel
theorem dX11_isSign_27 : decode cX11_isSign 27 = .ok (.iconst 0, 1) := by decide +kernel
theorem dX11_isSign_28 : decode cX11_isSign 28 = .ok (.ireturn, 1) := by decide +kernel
theorem dX11_is_0 : decode cX11_is 0 = .ok (.aload_n 0, 1) := by decide +kernel
theorem dX11_is_1 : decode cX11_is 1 = .ok (.getfield 131, 3) := by decide +kernel
theorem dX11_is_4 : decode cX11_is 4 = .ok (.ifCond .ne 31, 3) := by decide +kernel
theorem dX11_is_7 : decode cX11_is 7 = .ok (.aload_n 0, 1) := by decide +kernel
theorem dX11_is_8 : decode cX11_is 8 = .ok (.getfield 121, 3) := by decide +kernel
theorem dX11_is_11 : decode cX11_is 11 = .ok (.iconst 1, 1) := by decide +kernel
theorem dX11_is_12 : decode cX11_is 12 = .ok (.if_icmp .ne 23, 3) := by decide +kernel
theorem dX11_is_15 : decode cX11_is 15 = .ok (.aload_n 1, 1) := by decide +kernel
theorem dX11_is_16 : decode cX11_is 16 = .ok (.invokevirtual 137, 3) := by decide +kernel
theorem dX11_is_19 : decode cX11_is 19 = .ok (.aload_n 0, 1) := by decide +kernel
theorem dX11_is_20 : decode cX11_is 20 = .ok (.getfield 128, 3) := by decide +kernel
theorem dX11_is_23 : decode cX11_is 23 = .ok (.aload_n 0, 1) := by decide +kernel
theorem dX11_is_24 : decode cX11_is 24 = .ok (.getfield 115, 3) := by decide +kernel
theorem dX11_is_27 : decode cX11_is 27 = .ok (.isub, 1) := by decide +kernel
theorem dX11_is_28 : decode cX11_is 28 = .ok (.if_icmp .ne 7, 3) := by decide +kernel
theorem dX11_is_31 : decode cX11_is 31 = .ok (.iconst 1, 1) := by decide +kernel
theorem dX11_is_32 : decode cX11_is 32 = .ok (.goto 4, 3) := by decide +kernel
theorem dX11_is_35 : decode cX11_is 35 = .ok (.iconst 0, 1) := by decide +kernel
theorem dX11_is_36 : decode cX11_is 36 = .ok (.istore_n 2, 1) := by decide +kernel
theorem dX11_is_37 : decode cX11_is 37 = .ok (.iconst 0, 1) := by decide +kernel
theorem dX11_is_38 : decode cX11_is 38 = .ok (.istore_n 3, 1) := by decide +kernel
theorem dX11_is_39 : decode cX11_is 39 = .ok (.iload_n 2, 1) := by decide +kernel
theorem dX11_is_40 : decode cX11_is 40 = .ok (.ifCond .eq 42, 3) := by decide +kernel
theorem dX11_is_43 : decode cX11_is 43 = .ok (.iload_n 3, 1) := by decide +kernel
theorem dX11_is_44 : decode cX11_is 44 = .ok (.aload_n 1, 1) := by decide +kernel
theorem dX11_is_45 : decode cX11_is 45 = .ok (.invokevirtual 137, 3) := by decide +kernel
theorem dX11_is_48 : decode cX11_is 48 = .ok (.if_icmp .ge 34, 3) := by decide +kernel
theorem dX11_is_51 : decode cX11_is 51 = .ok (.aload_n 1, 1) := by decide +kernel
theorem dX11_is_52 : decode cX11_is 52 = .ok (.iload_n 3, 1) := by decide +kernel
theorem dX11_is_53 : decode cX11_is 53 = .ok (.invokevirtual 143, 3) := by decide +kernel
theorem dX11_is_56 : decode cX11_is 56 = .ok (.aload_n 0, 1) := by decide +kernel
theorem dX11_is_57 : decode cX11_is 57 = .ok (.getfield 9, 3) := by decide +kernel
theorem dX11_is_60 : decode cX11_is 60 = .ok (.aload_n 0, 1) := by decide +kernel
theorem dX11_is_61 : decode cX11_is 61 = .ok (.getfield 115, 3) := by decide +kernel
theorem dX11_is_64 : decode cX11_is 64 = .ok (.iload_n 3, 1) := by decide +kernel
theorem dX11_is_65 : decode cX11_is 65 = .ok (.iadd, 1) := by decide +kernel
theorem dX11_is_66 : decode cX11_is 66 = .ok (.iaload, 1) := by decide +kernel
theorem dX11_is_67 : decode cX11_is 67 = .ok (.if_icmp .ne 7, 3) := by decide +kernel
theorem dX11_is_70 : decode cX11_is 70 = .ok (.iconst 1, 1) := by decide +kernel
theorem dX11_is_71 : decode cX11_is 71 = .ok (.goto 4, 3) := by decide +kernel
theorem dX11_is_74 : decode cX11_is 74 = .ok (.iconst 0, 1) := by decide +kernel
theorem dX11_is_75 : decode cX11_is 75 = .ok (.istore_n 2, 1) := by decide +kernel
theorem dX11_is_76 : decode cX11_is 76 = .ok (.iinc 3 1, 3) := by decide +kernel
theorem dX11_is_79 : decode cX11_is 79 = .ok (.goto (-40), 3) := by decide +kernel
theorem dX11_is_82 : decode cX11_is 82 = .ok (.iload_n 2, 1) := by decide +kernel
theorem dX11_is_83 : decode cX11_is 83 = .ok (.ireturn, 1) := by decide +kernel
theorem dX11_isKeyword_0 : decode cX11_isKeyword 0 = .ok (.aload_n 0, 1) := by decide +kernel
theorem dX11_isKeyword_1 : decode cX11_isKeyword 1 = .ok (.ldc 147, 2) := by decide +kernel
theorem dX11_isKeyword_3 : decode cX11_isKeyword 3 = .ok (.invokevirtual 149, 3) := by decide +kernel
theorem dX11_isKeyword_6 : decode cX11_isKeyword 6 = .ok (.ifCond .ne 57, 3) := by decide +kernel
theorem dX11_isKeyword_9 : decode cX11_isKeyword 9 = .ok (.aload_n 0, 1) := by decide +kernel
theorem dX11_isKeyword_10 : decode cX11_isKeyword 10 = .ok (.ldc 153, 2) := by decide +kernel
theorem dX11_isKeyword_12 : decode cX11_isKeyword 12 = .ok (.invokevirtual 149, 3) := by decide +kernel
theorem dX11_isKeyword_15 : decode cX11_isKeyword 15 = .ok (.ifCond .ne 48, 3) := by decide +kernel
theorem dX11_isKeyword_18 : decode cX11_isKeyword 18 = .ok (.aload_n 0, 1) := by decide +kernel
theorem dX11_isKeyword_19 : decode cX11_isKeyword 19 = .ok (.ldc 155, 2) := by decide +kernel
theorem dX11_isKeyword_21 : decode cX11_isKeyword 21 = .ok (.invokevirtual 149, 3) := by decide +kernel
theorem dX11_isKeyword_24 : decode cX11_isKeyword 24 = .ok (.ifCond .ne 39, 3) := by decide +kernel
theorem dX11_isKeyword_27 : decode cX11_isKeyword 27 = .ok (.aload_n 0, 1) := by decide +kernel
theorem dX11_isKeyword_28 : decode cX11_isKeyword 28 = .ok (.ldc 157, 2) := by decide +kernel
theorem dX11_isKeyword_30 : decode cX11_isKeyword 30 = .ok (.invokevirtual 149, 3) := by decide +kernel
theorem dX11_isKeyword_33 : decode cX11_isKeyword 33 = .ok (.ifCond .ne 30, 3) := by decide +kernel
theorem dX11_isKeyword_36 : decode cX11_isKeyword 36 = .ok (.aload_n 0, 1) := by decide +kernel
theorem dX11_isKeyword_37 : decode cX11_isKeyword 37 = .ok (.ldc 159, 2) := by decide +kernel
theorem dX11_isKeyword_39 : decode cX11_isKeyword 39 = .ok (.invokevirtual 149, 3) := by decide +kernel
theorem dX11_isKeyword_42 : decode cX11_isKeyword 42 = .ok (.ifCond .ne 21, 3) := by decide +kernel
theorem dX11_isKeyword_45 : decode cX11_isKeyword 45 = .ok (.aload_n 0, 1) := by decide +kernel
theorem dX11_isKeyword_46 : decode cX11_isKeyword 46 = .ok (.ldc 161, 2) := by decide +kernel
theorem dX11_isKeyword_48 : decode cX11_isKeyword 48 = .ok (.invokevirtual 149, 3) := by decide +kernel
theorem dX11_isKeyword_51 : decode cX11_isKeyword 51 = .ok (.ifCond .ne 12, 3) := by decide +kernel
theorem dX11_isKeyword_54 : decode cX11_isKeyword 54 = .ok (.aload_n 0, 1) := by decide +kernel
theorem dX11_isKeyword_55 : decode cX11_isKeyword 55 = .ok (.ldc 163, 2) := by decide +kernel
theorem dX11_isKeyword_57 : decode cX11_isKeyword 57 = .ok (.invokevirtual 149, 3) := by decide +kernel
theorem dX11_isKeyword_60 : decode cX11_isKeyword 60 = .ok (.ifCond .eq 7, 3) := by decide +kernel
theorem dX11_isKeyword_63 : decode cX11_isKeyword 63 = .ok (.iconst 1, 1) := by decide +kernel
theorem dX11_isKeyword_64 : decode cX11_isKeyword 64 = .ok (.goto 4, 3) := by decide +kernel
theorem dX11_isKeyword_67 : decode cX11_isKeyword 67 = .ok (.iconst 0, 1) := by decide +kernel
theorem dX11_isKeyword_68 : decode cX11_isKeyword 68 = .ok (.ireturn, 1) := by decide +kernel
theorem dX11_need_0 : decode cX11_need 0 = .ok (.aload_n 0, 1) := by decide +kernel
theorem dX11_need_1 : decode cX11_need 1 = .ok (.getfield 131, 3) := by decide +kernel
theorem dX11_need_4 : decode cX11_need 4 = .ok (.ifCond .ne 16, 3) := by decide +kernel
theorem dX11_need_7 : decode cX11_need 7 = .ok (.aload_n 0, 1) := by decide +kernel
theorem dX11_need_8 : decode cX11_need 8 = .ok (.iload_n 1, 1) := by decide +kernel
theorem dX11_need_9 : decode cX11_need 9 = .ok (.invokevirtual 165, 3) := by decide +kernel
theorem dX11_need_12 : decode cX11_need 12 = .ok (.ifCond .ne 8, 3) := by decide +kernel
theorem dX11_need_15 : decode cX11_need 15 = .ok (.aload_n 0, 1) := by decide +kernel
theorem dX11_need_16 : decode cX11_need 16 = .ok (.iconst 1, 1) := by decide +kernel
theorem dX11_need_17 : decode cX11_need 17 = .ok (.invokevirtual 168, 3) := by decide +kernel
theorem dX11_need_20 : decode cX11_need 20 = .ok (.aload_n 0, 1) := by decide +kernel
theorem dX11_need_21 : decode cX11_need 21 = .ok (.getfield 131, 3) := by decide +kernel
theorem dX11_need_24 : decode cX11_need 24 = .ok (.ifCond .ne 7, 3) := by decide +kernel
theorem dX11_need_27 : decode cX11_need 27 = .ok (.aload_n 0, 1) := by decide +kernel
theorem dX11_need_28 : decode cX11_need 28 = .ok (.invokevirtual 172, 3) := by decide +kernel
theorem dX11_need_31 : decode cX11_need 31 = .ok (.return_, 1) := by decide +kernel
theorem dX11_free_0 : decode cX11_free 0 = .ok (.aload_n 0, 1) := by decide +kernel
theorem dX11_free_1 : decode cX11_free 1 = .ok (.getfield 131, 3) := by decide +kernel
theorem dX11_free_4 : decode cX11_free 4 = .ok (.ifCond .ne 26, 3) := by decide +kernel
theorem dX11_free_7 : decode cX11_free 7 = .ok (.aload_n 0, 1) := by decide +kernel
theorem dX11_free_8 : decode cX11_free 8 = .ok (.getfield 121, 3) := by decide +kernel
theorem dX11_free_11 : decode cX11_free 11 = .ok (.iconst 1, 1) := by decide +kernel
theorem dX11_free_12 : decode cX11_free 12 = .ok (.if_icmp .ne 10, 3) := by decide +kernel
theorem dX11_free_15 : decode cX11_free 15 = .ok (.aload_n 0, 1) := by decide +kernel
theorem dX11_free_16 : decode cX11_free 16 = .ok (.invokevirtual 175, 3) := by decide +kernel
theorem dX11_free_19 : decode cX11_free 19 = .ok (.ifCond .eq 11, 3) := by decide +kernel
theorem dX11_free_22 : decode cX11_free 22 = .ok (.aload_n 0, 1) := by decide +kernel
theorem dX11_free_23 : decode cX11_free 23 = .ok (.iconst 1, 1) := by decide +kernel
theorem dX11_free_24 : decode cX11_free 24 = .ok (.invokevirtual 168, 3) := by decide +kernel
theorem dX11_free_27 : decode cX11_free 27 = .ok (.goto 29, 3) := by decide +kernel
theorem dX11_free_30 : decode cX11_free 30 = .ok (.aload_n 0, 1) := by decide +kernel
theorem dX11_free_31 : decode cX11_free 31 = .ok (.getfield 131, 3) := by decide +kernel
theorem dX11_free_34 : decode cX11_free 34 = .ok (.ifCond .ne 22, 3) := by decide +kernel
theorem dX11_free_37 : decode cX11_free 37 = .ok (.aload_n 0, 1) := by decide +kernel
theorem dX11_free_38 : decode cX11_free 38 = .ok (.getfield 128, 3) := by decide +kernel
theorem dX11_free_41 : decode cX11_free 41 = .ok (.aload_n 0, 1) := by decide +kernel
theorem dX11_free_42 : decode cX11_free 42 = .ok (.getfield 115, 3) := by decide +kernel
theorem dX11_free_45 : decode cX11_free 45 = .ok (.isub, 1) := by decide +kernel
theorem dX11_free_46 : decode cX11_free 46 = .ok (.bipush 8, 2) := by decide +kernel
theorem dX11_free_48 : decode cX11_free 48 = .ok (.if_icmp .le 8, 3) := by decide +kernel
theorem dX11_free_51 : decode cX11_free 51 = .ok (.aload_n 0, 1) := by decide +kernel
theorem dX11_free_52 : decode cX11_free 52 = .ok (.iconst 2, 1) := by decide +kernel
theorem dX11_free_53 : decode cX11_free 53 = .ok (.invokevirtual 168, 3) := by decide +kernel
theorem dX11_free_56 : decode cX11_free 56 = .ok (.aload_n 0, 1) := by decide +kernel
theorem dX11_free_57 : decode cX11_free 57 = .ok (.getfield 131, 3) := by decide +kernel
theorem dX11_free_60 : decode cX11_free 60 = .ok (.ifCond .ne 7, 3) := by decide +kernel
theorem dX11_free_63 : decode cX11_free 63 = .ok (.iconst 1, 1) := by decide +kernel
theorem dX11_free_64 : decode cX11_free 64 = .ok (.goto 4, 3) := by decide +kernel
theorem dX11_free_67 : decode cX11_free 67 = .ok (.iconst 0, 1) := by decide +kernel
theorem dX11_free_68 : decode cX11_free 68 = .ok (.ireturn, 1) := by decide +kernel
theorem dX11_wordAt_0 : decode cX11_wordAt 0 = .ok (.bipush 42, 2) := by decide +kernel
theorem dX11_wordAt_2 : decode cX11_wordAt 2 = .ok (.iload_n 0, 1) := by decide +kernel
theorem dX11_wordAt_3 : decode cX11_wordAt 3 = .ok (.imul, 1) := by decide +kernel
theorem dX11_wordAt_4 : decode cX11_wordAt 4 = .ok (.bipush 7, 2) := by decide +kernel
theorem dX11_wordAt_6 : decode cX11_wordAt 6 = .ok (.iload_n 1, 1) := by decide +kernel
theorem dX11_wordAt_7 : decode cX11_wordAt 7 = .ok (.imul, 1) := by decide +kernel
theorem dX11_wordAt_8 : decode cX11_wordAt 8 = .ok (.iadd, 1) := by decide +kernel
theorem dX11_wordAt_9 : decode cX11_wordAt 9 = .ok (.iload_n 2, 1) := by decide +kernel
theorem dX11_wordAt_10 : decode cX11_wordAt 10 = .ok (.iadd, 1) := by decide +kernel
theorem dX11_wordAt_11 : decode cX11_wordAt 11 = .ok (.ireturn, 1) := by decide +kernel
theorem dX11_isSame_0 : decode cX11_isSame 0 = .ok (.aload_n 0, 1) := by decide +kernel
theorem dX11_isSame_1 : decode cX11_isSame 1 = .ok (.getfield 29, 3) := by decide +kernel
theorem dX11_isSame_4 : decode cX11_isSame 4 = .ok (.iload_n 1, 1) := by decide +kernel
theorem dX11_isSame_5 : decode cX11_isSame 5 = .ok (.iaload, 1) := by decide +kernel
theorem dX11_isSame_6 : decode cX11_isSame 6 = .ok (.aload_n 0, 1) := by decide +kernel
theorem dX11_isSame_7 : decode cX11_isSame 7 = .ok (.getfield 128, 3) := by decide +kernel
theorem dX11_isSame_10 : decode cX11_isSame 10 = .ok (.aload_n 0, 1) := by decide +kernel
theorem dX11_isSame_11 : decode cX11_isSame 11 = .ok (.getfield 115, 3) := by decide +kernel
theorem dX11_isSame_14 : decode cX11_isSame 14 = .ok (.isub, 1) := by decide +kernel
theorem dX11_isSame_15 : decode cX11_isSame 15 = .ok (.if_icmp .ne 7, 3) := by decide +kernel
theorem dX11_isSame_18 : decode cX11_isSame 18 = .ok (.iconst 1, 1) := by decide +kernel
theorem dX11_isSame_19 : decode cX11_isSame 19 = .ok (.goto 4, 3) := by decide +kernel
theorem dX11_isSame_22 : decode cX11_isSame 22 = .ok (.iconst 0, 1) := by decide +kernel
theorem dX11_isSame_23 : decode cX11_isSame 23 = .ok (.istore_n 2, 1) := by decide +kernel
theorem dX11_isSame_24 : decode cX11_isSame 24 = .ok (.iconst 0, 1) := by decide +kernel
theorem dX11_isSame_25 : decode cX11_isSame 25 = .ok (.istore_n 3, 1) := by decide +kernel
theorem dX11_isSame_26 : decode cX11_isSame 26 = .ok (.iload_n 2, 1) := by decide +kernel
theorem dX11_isSame_27 : decode cX11_isSame 27 = .ok (.ifCond .eq 50, 3) := by decide +kernel
theorem dX11_isSame_30 : decode cX11_isSame 30 = .ok (.iload_n 3, 1) := by decide +kernel
theorem dX11_isSame_31 : decode cX11_isSame 31 = .ok (.aload_n 0, 1) := by decide +kernel
theorem dX11_isSame_32 : decode cX11_isSame 32 = .ok (.getfield 29, 3) := by decide +kernel
theorem dX11_isSame_35 : decode cX11_isSame 35 = .ok (.iload_n 1, 1) := by decide +kernel
theorem dX11_isSame_36 : decode cX11_isSame 36 = .ok (.iaload, 1) := by decide +kernel
theorem dX11_isSame_37 : decode cX11_isSame 37 = .ok (.if_icmp .ge 40, 3) := by decide +kernel
theorem dX11_isSame_40 : decode cX11_isSame 40 = .ok (.aload_n 0, 1) := by decide +kernel
theorem dX11_isSame_41 : decode cX11_isSame 41 = .ok (.getfield 32, 3) := by decide +kernel
theorem dX11_isSame_44 : decode cX11_isSame 44 = .ok (.bipush 8, 2) := by decide +kernel
theorem dX11_isSame_46 : decode cX11_isSame 46 = .ok (.iload_n 1, 1) := by decide +kernel
theorem dX11_isSame_47 : decode cX11_isSame 47 = .ok (.imul, 1) := by decide +kernel
theorem dX11_isSame_48 : decode cX11_isSame 48 = .ok (.iload_n 3, 1) := by decide +kernel
theorem dX11_isSame_49 : decode cX11_isSame 49 = .ok (.iadd, 1) := by decide +kernel
theorem dX11_isSame_50 : decode cX11_isSame 50 = .ok (.iaload, 1) := by decide +kernel
theorem dX11_isSame_51 : decode cX11_isSame 51 = .ok (.aload_n 0, 1) := by decide +kernel
theorem dX11_isSame_52 : decode cX11_isSame 52 = .ok (.getfield 9, 3) := by decide +kernel
theorem dX11_isSame_55 : decode cX11_isSame 55 = .ok (.aload_n 0, 1) := by decide +kernel
theorem dX11_isSame_56 : decode cX11_isSame 56 = .ok (.getfield 115, 3) := by decide +kernel
theorem dX11_isSame_59 : decode cX11_isSame 59 = .ok (.iload_n 3, 1) := by decide +kernel
theorem dX11_isSame_60 : decode cX11_isSame 60 = .ok (.iadd, 1) := by decide +kernel
theorem dX11_isSame_61 : decode cX11_isSame 61 = .ok (.iaload, 1) := by decide +kernel
theorem dX11_isSame_62 : decode cX11_isSame 62 = .ok (.if_icmp .ne 7, 3) := by decide +kernel
theorem dX11_isSame_65 : decode cX11_isSame 65 = .ok (.iconst 1, 1) := by decide +kernel
theorem dX11_isSame_66 : decode cX11_isSame 66 = .ok (.goto 4, 3) := by decide +kernel
theorem dX11_isSame_69 : decode cX11_isSame 69 = .ok (.iconst 0, 1) := by decide +kernel
theorem dX11_isSame_70 : decode cX11_isSame 70 = .ok (.istore_n 2, 1) := by decide +kernel
theorem dX11_isSame_71 : decode cX11_isSame 71 = .ok (.iinc 3 1, 3) := by decide +kernel
theorem dX11_isSame_74 : decode cX11_isSame 74 = .ok (.goto (-48), 3) := by decide +kernel
theorem dX11_isSame_77 : decode cX11_isSame 77 = .ok (.iload_n 2, 1) := by decide +kernel
theorem dX11_isSame_78 : decode cX11_isSame 78 = .ok (.ireturn, 1) := by decide +kernel
theorem dX11_keepWord_0 : decode cX11_keepWord 0 = .ok (.aload_n 0, 1) := by decide +kernel
theorem dX11_keepWord_1 : decode cX11_keepWord 1 = .ok (.getfield 29, 3) := by decide +kernel
theorem dX11_keepWord_4 : decode cX11_keepWord 4 = .ok (.iload_n 1, 1) := by decide +kernel
theorem dX11_keepWord_5 : decode cX11_keepWord 5 = .ok (.aload_n 0, 1) := by decide +kernel
theorem dX11_keepWord_6 : decode cX11_keepWord 6 = .ok (.getfield 128, 3) := by decide +kernel
theorem dX11_keepWord_9 : decode cX11_keepWord 9 = .ok (.aload_n 0, 1) := by decide +kernel
theorem dX11_keepWord_10 : decode cX11_keepWord 10 = .ok (.getfield 115, 3) := by decide +kernel
theorem dX11_keepWord_13 : decode cX11_keepWord 13 = .ok (.isub, 1) := by decide +kernel
theorem dX11_keepWord_14 : decode cX11_keepWord 14 = .ok (.iastore, 1) := by decide +kernel
theorem dX11_keepWord_15 : decode cX11_keepWord 15 = .ok (.iconst 0, 1) := by decide +kernel
theorem dX11_keepWord_16 : decode cX11_keepWord 16 = .ok (.istore_n 2, 1) := by decide +kernel
theorem dX11_keepWord_17 : decode cX11_keepWord 17 = .ok (.iload_n 2, 1) := by decide +kernel
theorem dX11_keepWord_18 : decode cX11_keepWord 18 = .ok (.aload_n 0, 1) := by decide +kernel
theorem dX11_keepWord_19 : decode cX11_keepWord 19 = .ok (.getfield 29, 3) := by decide +kernel
theorem dX11_keepWord_22 : decode cX11_keepWord 22 = .ok (.iload_n 1, 1) := by decide +kernel
theorem dX11_keepWord_23 : decode cX11_keepWord 23 = .ok (.iaload, 1) := by decide +kernel
theorem dX11_keepWord_24 : decode cX11_keepWord 24 = .ok (.if_icmp .ge 31, 3) := by decide +kernel
theorem dX11_keepWord_27 : decode cX11_keepWord 27 = .ok (.aload_n 0, 1) := by decide +kernel
theorem dX11_keepWord_28 : decode cX11_keepWord 28 = .ok (.getfield 32, 3) := by decide +kernel
theorem dX11_keepWord_31 : decode cX11_keepWord 31 = .ok (.bipush 8, 2) := by decide +kernel
theorem dX11_keepWord_33 : decode cX11_keepWord 33 = .ok (.iload_n 1, 1) := by decide +kernel
theorem dX11_keepWord_34 : decode cX11_keepWord 34 = .ok (.imul, 1) := by decide +kernel
theorem dX11_keepWord_35 : decode cX11_keepWord 35 = .ok (.iload_n 2, 1) := by decide +kernel
theorem dX11_keepWord_36 : decode cX11_keepWord 36 = .ok (.iadd, 1) := by decide +kernel
theorem dX11_keepWord_37 : decode cX11_keepWord 37 = .ok (.aload_n 0, 1) := by decide +kernel
theorem dX11_keepWord_38 : decode cX11_keepWord 38 = .ok (.getfield 9, 3) := by decide +kernel
theorem dX11_keepWord_41 : decode cX11_keepWord 41 = .ok (.aload_n 0, 1) := by decide +kernel
theorem dX11_keepWord_42 : decode cX11_keepWord 42 = .ok (.getfield 115, 3) := by decide +kernel
theorem dX11_keepWord_45 : decode cX11_keepWord 45 = .ok (.iload_n 2, 1) := by decide +kernel
theorem dX11_keepWord_46 : decode cX11_keepWord 46 = .ok (.iadd, 1) := by decide +kernel
theorem dX11_keepWord_47 : decode cX11_keepWord 47 = .ok (.iaload, 1) := by decide +kernel
theorem dX11_keepWord_48 : decode cX11_keepWord 48 = .ok (.iastore, 1) := by decide +kernel
theorem dX11_keepWord_49 : decode cX11_keepWord 49 = .ok (.iinc 2 1, 3) := by decide +kernel
theorem dX11_keepWord_52 : decode cX11_keepWord 52 = .ok (.goto (-35), 3) := by decide +kernel
theorem dX11_keepWord_55 : decode cX11_keepWord 55 = .ok (.aload_n 0, 1) := by decide +kernel
theorem dX11_keepWord_56 : decode cX11_keepWord 56 = .ok (.invokevirtual 172, 3) := by decide +kernel
theorem dX11_keepWord_59 : decode cX11_keepWord 59 = .ok (.return_, 1) := by decide +kernel
theorem dX11_valueNow_0 : decode cX11_valueNow 0 = .ok (.iconst 0, 1) := by decide +kernel
theorem dX11_valueNow_1 : decode cX11_valueNow 1 = .ok (.istore_n 3, 1) := by decide +kernel
theorem dX11_valueNow_2 : decode cX11_valueNow 2 = .ok (.iload_n 3, 1) := by decide +kernel
theorem dX11_valueNow_3 : decode cX11_valueNow 3 = .ok (.aload_n 0, 1) := by decide +kernel
theorem dX11_valueNow_4 : decode cX11_valueNow 4 = .ok (.getfield 26, 3) := by decide +kernel
theorem dX11_valueNow_7 : decode cX11_valueNow 7 = .ok (.bipush 6, 2) := by decide +kernel
theorem dX11_valueNow_9 : decode cX11_valueNow 9 = .ok (.iload_n 1, 1) := by decide +kernel
theorem dX11_valueNow_10 : decode cX11_valueNow 10 = .ok (.imul, 1) := by decide +kernel
theorem dX11_valueNow_11 : decode cX11_valueNow 11 = .ok (.iload_n 2, 1) := by decide +kernel
theorem dX11_valueNow_12 : decode cX11_valueNow 12 = .ok (.iadd, 1) := by decide +kernel
theorem dX11_valueNow_13 : decode cX11_valueNow 13 = .ok (.iaload, 1) := by decide +kernel
theorem dX11_valueNow_14 : decode cX11_valueNow 14 = .ok (.if_icmp .ge 26, 3) := by decide +kernel
theorem dX11_valueNow_17 : decode cX11_valueNow 17 = .ok (.aload_n 0, 1) := by decide +kernel
theorem dX11_valueNow_18 : decode cX11_valueNow 18 = .ok (.iload_n 1, 1) := by decide +kernel
theorem dX11_valueNow_19 : decode cX11_valueNow 19 = .ok (.iload_n 2, 1) := by decide +kernel
theorem dX11_valueNow_20 : decode cX11_valueNow 20 = .ok (.iconst 1, 1) := by decide +kernel
theorem dX11_valueNow_21 : decode cX11_valueNow 21 = .ok (.iload_n 3, 1) := by decide +kernel
theorem dX11_valueNow_22 : decode cX11_valueNow 22 = .ok (.iadd, 1) := by decide +kernel
theorem dX11_valueNow_23 : decode cX11_valueNow 23 = .ok (.invokestatic 179, 3) := by decide +kernel
theorem dX11_valueNow_26 : decode cX11_valueNow 26 = .ok (.invokevirtual 183, 3) := by decide +kernel
theorem dX11_valueNow_29 : decode cX11_valueNow 29 = .ok (.ifCond .eq 5, 3) := by decide +kernel
theorem dX11_valueNow_32 : decode cX11_valueNow 32 = .ok (.iload_n 3, 1) := by decide +kernel
theorem dX11_valueNow_33 : decode cX11_valueNow 33 = .ok (.ireturn, 1) := by decide +kernel
theorem dX11_valueNow_34 : decode cX11_valueNow 34 = .ok (.iinc 3 1, 3) := by decide +kernel
theorem dX11_valueNow_37 : decode cX11_valueNow 37 = .ok (.goto (-35), 3) := by decide +kernel
theorem dX11_valueNow_40 : decode cX11_valueNow 40 = .ok (.iconst (-1), 1) := by decide +kernel
theorem dX11_valueNow_41 : decode cX11_valueNow 41 = .ok (.ireturn, 1) := by decide +kernel
theorem dX11_readValue_0 : decode cX11_readValue 0 = .ok (.aload_n 0, 1) := by decide +kernel
theorem dX11_readValue_1 : decode cX11_readValue 1 = .ok (.invokevirtual 186, 3) := by decide +kernel
theorem dX11_readValue_4 : decode cX11_readValue 4 = .ok (.ifCond .ne 5, 3) := by decide +kernel
theorem dX11_readValue_7 : decode cX11_readValue 7 = .ok (.iconst 0, 1) := by decide +kernel
theorem dX11_readValue_8 : decode cX11_readValue 8 = .ok (.ireturn, 1) := by decide +kernel
theorem dX11_readValue_9 : decode cX11_readValue 9 = .ok (.aload_n 0, 1) := by decide +kernel
theorem dX11_readValue_10 : decode cX11_readValue 10 = .ok (.iload_n 1, 1) := by decide +kernel
theorem dX11_readValue_11 : decode cX11_readValue 11 = .ok (.iload_n 2, 1) := by decide +kernel
theorem dX11_readValue_12 : decode cX11_readValue 12 = .ok (.invokevirtual 189, 3) := by decide +kernel
theorem dX11_readValue_15 : decode cX11_readValue 15 = .ok (.istore_n 3, 1) := by decide +kernel
theorem dX11_readValue_16 : decode cX11_readValue 16 = .ok (.iload_n 3, 1) := by decide +kernel
theorem dX11_readValue_17 : decode cX11_readValue 17 = .ok (.iconst (-1), 1) := by decide +kernel
theorem dX11_readValue_18 : decode cX11_readValue 18 = .ok (.if_icmp .ne 11, 3) := by decide +kernel
theorem dX11_readValue_21 : decode cX11_readValue 21 = .ok (.aload_n 0, 1) := by decide +kernel
theorem dX11_readValue_22 : decode cX11_readValue 22 = .ok (.iconst 3, 1) := by decide +kernel
theorem dX11_readValue_23 : decode cX11_readValue 23 = .ok (.invokevirtual 168, 3) := by decide +kernel
theorem dX11_readValue_26 : decode cX11_readValue 26 = .ok (.goto 7, 3) := by decide +kernel
theorem dX11_readValue_29 : decode cX11_readValue 29 = .ok (.aload_n 0, 1) := by decide +kernel
theorem dX11_readValue_30 : decode cX11_readValue 30 = .ok (.invokevirtual 172, 3) := by decide +kernel
theorem dX11_readValue_33 : decode cX11_readValue 33 = .ok (.iload_n 3, 1) := by decide +kernel
theorem dX11_readValue_34 : decode cX11_readValue 34 = .ok (.ireturn, 1) := by decide +kernel
theorem dX11_casesOf_0 : decode cX11_casesOf 0 = .ok (.iconst 1, 1) := by decide +kernel
theorem dX11_casesOf_1 : decode cX11_casesOf 1 = .ok (.istore_n 2, 1) := by decide +kernel
theorem dX11_casesOf_2 : decode cX11_casesOf 2 = .ok (.iconst 0, 1) := by decide +kernel
theorem dX11_casesOf_3 : decode cX11_casesOf 3 = .ok (.istore_n 3, 1) := by decide +kernel
theorem dX11_casesOf_4 : decode cX11_casesOf 4 = .ok (.iload_n 3, 1) := by decide +kernel
theorem dX11_casesOf_5 : decode cX11_casesOf 5 = .ok (.aload_n 0, 1) := by decide +kernel
theorem dX11_casesOf_6 : decode cX11_casesOf 6 = .ok (.getfield 20, 3) := by decide +kernel
theorem dX11_casesOf_9 : decode cX11_casesOf 9 = .ok (.iload_n 1, 1) := by decide +kernel
theorem dX11_casesOf_10 : decode cX11_casesOf 10 = .ok (.iaload, 1) := by decide +kernel
theorem dX11_casesOf_11 : decode cX11_casesOf 11 = .ok (.if_icmp .ge 23, 3) := by decide +kernel
theorem dX11_casesOf_14 : decode cX11_casesOf 14 = .ok (.iload_n 2, 1) := by decide +kernel
theorem dX11_casesOf_15 : decode cX11_casesOf 15 = .ok (.aload_n 0, 1) := by decide +kernel
theorem dX11_casesOf_16 : decode cX11_casesOf 16 = .ok (.getfield 26, 3) := by decide +kernel
theorem dX11_casesOf_19 : decode cX11_casesOf 19 = .ok (.bipush 6, 2) := by decide +kernel
theorem dX11_casesOf_21 : decode cX11_casesOf 21 = .ok (.iload_n 1, 1) := by decide +kernel
theorem dX11_casesOf_22 : decode cX11_casesOf 22 = .ok (.imul, 1) := by decide +kernel
theorem dX11_casesOf_23 : decode cX11_casesOf 23 = .ok (.iload_n 3, 1) := by decide +kernel
theorem dX11_casesOf_24 : decode cX11_casesOf 24 = .ok (.iadd, 1) := by decide +kernel
theorem dX11_casesOf_25 : decode cX11_casesOf 25 = .ok (.iaload, 1) := by decide +kernel
theorem dX11_casesOf_26 : decode cX11_casesOf 26 = .ok (.imul, 1) := by decide +kernel
theorem dX11_casesOf_27 : decode cX11_casesOf 27 = .ok (.istore_n 2, 1) := by decide +kernel
theorem dX11_casesOf_28 : decode cX11_casesOf 28 = .ok (.iinc 3 1, 3) := by decide +kernel
theorem dX11_casesOf_31 : decode cX11_casesOf 31 = .ok (.goto (-27), 3) := by decide +kernel
theorem dX11_casesOf_34 : decode cX11_casesOf 34 = .ok (.iload_n 2, 1) := by decide +kernel
theorem dX11_casesOf_35 : decode cX11_casesOf 35 = .ok (.ireturn, 1) := by decide +kernel
theorem dX11_readInput_0 : decode cX11_readInput 0 = .ok (.bipush 6, 2) := by decide +kernel
theorem dX11_readInput_2 : decode cX11_readInput 2 = .ok (.iload_n 1, 1) := by decide +kernel
theorem dX11_readInput_3 : decode cX11_readInput 3 = .ok (.imul, 1) := by decide +kernel
theorem dX11_readInput_4 : decode cX11_readInput 4 = .ok (.iload_n 2, 1) := by decide +kernel
theorem dX11_readInput_5 : decode cX11_readInput 5 = .ok (.iadd, 1) := by decide +kernel
theorem dX11_readInput_6 : decode cX11_readInput 6 = .ok (.istore 4, 2) := by decide +kernel
theorem dX11_readInput_8 : decode cX11_readInput 8 = .ok (.aload_n 0, 1) := by decide +kernel
theorem dX11_readInput_9 : decode cX11_readInput 9 = .ok (.getfield 26, 3) := by decide +kernel
theorem dX11_readInput_12 : decode cX11_readInput 12 = .ok (.iload 4, 2) := by decide +kernel
theorem dX11_readInput_14 : decode cX11_readInput 14 = .ok (.iconst 0, 1) := by decide +kernel
theorem dX11_readInput_15 : decode cX11_readInput 15 = .ok (.iastore, 1) := by decide +kernel
theorem dX11_readInput_16 : decode cX11_readInput 16 = .ok (.aload_n 0, 1) := by decide +kernel
theorem dX11_readInput_17 : decode cX11_readInput 17 = .ok (.invokevirtual 172, 3) := by decide +kernel
theorem dX11_readInput_20 : decode cX11_readInput 20 = .ok (.aload_n 0, 1) := by decide +kernel
theorem dX11_readInput_21 : decode cX11_readInput 21 = .ok (.invokevirtual 186, 3) := by decide +kernel
theorem dX11_readInput_24 : decode cX11_readInput 24 = .ok (.ifCond .ne 4, 3) := by decide +kernel
theorem dX11_readInput_27 : decode cX11_readInput 27 = .ok (.return_, 1) := by decide +kernel
theorem dX11_readInput_28 : decode cX11_readInput 28 = .ok (.iconst 0, 1) := by decide +kernel
theorem dX11_readInput_29 : decode cX11_readInput 29 = .ok (.istore 5, 2) := by decide +kernel
theorem dX11_readInput_31 : decode cX11_readInput 31 = .ok (.iload 5, 2) := by decide +kernel
theorem dX11_readInput_33 : decode cX11_readInput 33 = .ok (.aload_n 0, 1) := by decide +kernel
theorem dX11_readInput_34 : decode cX11_readInput 34 = .ok (.getfield 20, 3) := by decide +kernel
theorem dX11_readInput_37 : decode cX11_readInput 37 = .ok (.iload_n 1, 1) := by decide +kernel
theorem dX11_readInput_38 : decode cX11_readInput 38 = .ok (.iaload, 1) := by decide +kernel
theorem dX11_readInput_39 : decode cX11_readInput 39 = .ok (.if_icmp .ge 28, 3) := by decide +kernel
theorem dX11_readInput_42 : decode cX11_readInput 42 = .ok (.aload_n 0, 1) := by decide +kernel
theorem dX11_readInput_43 : decode cX11_readInput 43 = .ok (.iload_n 1, 1) := by decide +kernel
theorem dX11_readInput_44 : decode cX11_readInput 44 = .ok (.iload 5, 2) := by decide +kernel
theorem dX11_readInput_46 : decode cX11_readInput 46 = .ok (.iconst 0, 1) := by decide +kernel
theorem dX11_readInput_47 : decode cX11_readInput 47 = .ok (.invokestatic 179, 3) := by decide +kernel
theorem dX11_readInput_50 : decode cX11_readInput 50 = .ok (.invokevirtual 183, 3) := by decide +kernel
theorem dX11_readInput_53 : decode cX11_readInput 53 = .ok (.ifCond .eq 8, 3) := by decide +kernel
theorem dX11_readInput_56 : decode cX11_readInput 56 = .ok (.aload_n 0, 1) := by decide +kernel
theorem dX11_readInput_57 : decode cX11_readInput 57 = .ok (.iconst 4, 1) := by decide +kernel
theorem dX11_readInput_58 : decode cX11_readInput 58 = .ok (.invokevirtual 168, 3) := by decide +kernel
theorem dX11_readInput_61 : decode cX11_readInput 61 = .ok (.iinc 5 1, 3) := by decide +kernel
theorem dX11_readInput_64 : decode cX11_readInput 64 = .ok (.goto (-33), 3) := by decide +kernel
theorem dX11_readInput_67 : decode cX11_readInput 67 = .ok (.aload_n 0, 1) := by decide +kernel
theorem dX11_readInput_68 : decode cX11_readInput 68 = .ok (.getfield 131, 3) := by decide +kernel
theorem dX11_readInput_71 : decode cX11_readInput 71 = .ok (.ifCond .eq 4, 3) := by decide +kernel
theorem dX11_readInput_74 : decode cX11_readInput 74 = .ok (.return_, 1) := by decide +kernel
theorem dX11_readInput_75 : decode cX11_readInput 75 = .ok (.aload_n 0, 1) := by decide +kernel
theorem dX11_readInput_76 : decode cX11_readInput 76 = .ok (.iload_n 1, 1) := by decide +kernel
theorem dX11_readInput_77 : decode cX11_readInput 77 = .ok (.iload_n 2, 1) := by decide +kernel
theorem dX11_readInput_78 : decode cX11_readInput 78 = .ok (.iconst 0, 1) := by decide +kernel
theorem dX11_readInput_79 : decode cX11_readInput 79 = .ok (.invokestatic 179, 3) := by decide +kernel
theorem dX11_readInput_82 : decode cX11_readInput 82 = .ok (.invokevirtual 193, 3) := by decide +kernel
theorem dX11_readInput_85 : decode cX11_readInput 85 = .ok (.aload_n 0, 1) := by decide +kernel
theorem dX11_readInput_86 : decode cX11_readInput 86 = .ok (.bipush 58, 2) := by decide +kernel
theorem dX11_readInput_88 : decode cX11_readInput 88 = .ok (.invokevirtual 196, 3) := by decide +kernel
theorem dX11_readInput_91 : decode cX11_readInput 91 = .ok (.aload_n 0, 1) := by decide +kernel
theorem dX11_readInput_92 : decode cX11_readInput 92 = .ok (.getfield 131, 3) := by decide +kernel
theorem dX11_readInput_95 : decode cX11_readInput 95 = .ok (.ifCond .ne 122, 3) := by decide +kernel
theorem dX11_readInput_98 : decode cX11_readInput 98 = .ok (.aload_n 0, 1) := by decide +kernel
theorem dX11_readInput_99 : decode cX11_readInput 99 = .ok (.getfield 26, 3) := by decide +kernel
theorem dX11_readInput_102 : decode cX11_readInput 102 = .ok (.iload 4, 2) := by decide +kernel
theorem dX11_readInput_104 : decode cX11_readInput 104 = .ok (.iaload, 1) := by decide +kernel
theorem dX11_readInput_105 : decode cX11_readInput 105 = .ok (.iconst 2, 1) := by decide +kernel
theorem dX11_readInput_106 : decode cX11_readInput 106 = .ok (.if_icmp .lt 12, 3) := by decide +kernel
theorem dX11_readInput_109 : decode cX11_readInput 109 = .ok (.aload_n 0, 1) := by decide +kernel
theorem dX11_readInput_110 : decode cX11_readInput 110 = .ok (.bipush 59, 2) := by decide +kernel
theorem dX11_readInput_112 : decode cX11_readInput 112 = .ok (.invokevirtual 165, 3) := by decide +kernel
theorem dX11_readInput_115 : decode cX11_readInput 115 = .ok (.ifCond .ne 102, 3) := by decide +kernel
theorem dX11_readInput_118 : decode cX11_readInput 118 = .ok (.aload_n 0, 1) := by decide +kernel
theorem dX11_readInput_119 : decode cX11_readInput 119 = .ok (.invokevirtual 186, 3) := by decide +kernel
theorem dX11_readInput_122 : decode cX11_readInput 122 = .ok (.ifCond .ne 4, 3) := by decide +kernel
theorem dX11_readInput_125 : decode cX11_readInput 125 = .ok (.return_, 1) := by decide +kernel
theorem dX11_readInput_126 : decode cX11_readInput 126 = .ok (.aload_n 0, 1) := by decide +kernel
theorem dX11_readInput_127 : decode cX11_readInput 127 = .ok (.getfield 26, 3) := by decide +kernel
theorem dX11_readInput_130 : decode cX11_readInput 130 = .ok (.iload 4, 2) := by decide +kernel
theorem dX11_readInput_132 : decode cX11_readInput 132 = .ok (.iaload, 1) := by decide +kernel
theorem dX11_readInput_133 : decode cX11_readInput 133 = .ok (.istore 5, 2) := by decide +kernel
theorem dX11_readInput_135 : decode cX11_readInput 135 = .ok (.iload 5, 2) := by decide +kernel
theorem dX11_readInput_137 : decode cX11_readInput 137 = .ok (.bipush 6, 2) := by decide +kernel
theorem dX11_readInput_139 : decode cX11_readInput 139 = .ok (.if_icmp .eq 20, 3) := by decide +kernel
theorem dX11_readInput_142 : decode cX11_readInput 142 = .ok (.iload_n 2, 1) := by decide +kernel
theorem dX11_readInput_143 : decode cX11_readInput 143 = .ok (.iconst 5, 1) := by decide +kernel
theorem dX11_readInput_144 : decode cX11_readInput 144 = .ok (.if_icmp .ge 23, 3) := by decide +kernel
theorem dX11_readInput_147 : decode cX11_readInput 147 = .ok (.iload_n 3, 1) := by decide +kernel
theorem dX11_readInput_148 : decode cX11_readInput 148 = .ok (.iload 5, 2) := by decide +kernel
theorem dX11_readInput_150 : decode cX11_readInput 150 = .ok (.iconst 1, 1) := by decide +kernel
theorem dX11_readInput_151 : decode cX11_readInput 151 = .ok (.iadd, 1) := by decide +kernel
theorem dX11_readInput_152 : decode cX11_readInput 152 = .ok (.imul, 1) := by decide +kernel
theorem dX11_readInput_153 : decode cX11_readInput 153 = .ok (.sipush 400, 3) := by decide +kernel
theorem dX11_readInput_156 : decode cX11_readInput 156 = .ok (.if_icmp .le 11, 3) := by decide +kernel
theorem dX11_readInput_159 : decode cX11_readInput 159 = .ok (.aload_n 0, 1) := by decide +kernel
theorem dX11_readInput_160 : decode cX11_readInput 160 = .ok (.iconst 2, 1) := by decide +kernel
theorem dX11_readInput_161 : decode cX11_readInput 161 = .ok (.invokevirtual 168, 3) := by decide +kernel
theorem dX11_readInput_164 : decode cX11_readInput 164 = .ok (.goto 18, 3) := by decide +kernel
theorem dX11_readInput_167 : decode cX11_readInput 167 = .ok (.aload_n 0, 1) := by decide +kernel
theorem dX11_readInput_168 : decode cX11_readInput 168 = .ok (.iload_n 1, 1) := by decide +kernel
theorem dX11_readInput_169 : decode cX11_readInput 169 = .ok (.iload_n 2, 1) := by decide +kernel
theorem dX11_readInput_170 : decode cX11_readInput 170 = .ok (.invokevirtual 189, 3) := by decide +kernel
theorem dX11_readInput_173 : decode cX11_readInput 173 = .ok (.iconst (-1), 1) := by decide +kernel
theorem dX11_readInput_174 : decode cX11_readInput 174 = .ok (.if_icmp .eq 8, 3) := by decide +kernel
theorem dX11_readInput_177 : decode cX11_readInput 177 = .ok (.aload_n 0, 1) := by decide +kernel
theorem dX11_readInput_178 : decode cX11_readInput 178 = .ok (.iconst 4, 1) := by decide +kernel
theorem dX11_readInput_179 : decode cX11_readInput 179 = .ok (.invokevirtual 168, 3) := by decide +kernel
theorem dX11_readInput_182 : decode cX11_readInput 182 = .ok (.aload_n 0, 1) := by decide +kernel
theorem dX11_readInput_183 : decode cX11_readInput 183 = .ok (.getfield 131, 3) := by decide +kernel
theorem dX11_readInput_186 : decode cX11_readInput 186 = .ok (.ifCond .eq 4, 3) := by decide +kernel
theorem dX11_readInput_189 : decode cX11_readInput 189 = .ok (.return_, 1) := by decide +kernel
theorem dX11_readInput_190 : decode cX11_readInput 190 = .ok (.aload_n 0, 1) := by decide +kernel
theorem dX11_readInput_191 : decode cX11_readInput 191 = .ok (.getfield 26, 3) := by decide +kernel
theorem dX11_readInput_194 : decode cX11_readInput 194 = .ok (.iload 4, 2) := by decide +kernel
theorem dX11_readInput_196 : decode cX11_readInput 196 = .ok (.iload 5, 2) := by decide +kernel
theorem dX11_readInput_198 : decode cX11_readInput 198 = .ok (.iconst 1, 1) := by decide +kernel
theorem dX11_readInput_199 : decode cX11_readInput 199 = .ok (.iadd, 1) := by decide +kernel
theorem dX11_readInput_200 : decode cX11_readInput 200 = .ok (.iastore, 1) := by decide +kernel
theorem dX11_readInput_201 : decode cX11_readInput 201 = .ok (.aload_n 0, 1) := by decide +kernel
theorem dX11_readInput_202 : decode cX11_readInput 202 = .ok (.iload_n 1, 1) := by decide +kernel
theorem dX11_readInput_203 : decode cX11_readInput 203 = .ok (.iload_n 2, 1) := by decide +kernel
theorem dX11_readInput_204 : decode cX11_readInput 204 = .ok (.iconst 1, 1) := by decide +kernel
theorem dX11_readInput_205 : decode cX11_readInput 205 = .ok (.iload 5, 2) := by decide +kernel
theorem dX11_readInput_207 : decode cX11_readInput 207 = .ok (.iadd, 1) := by decide +kernel
theorem dX11_readInput_208 : decode cX11_readInput 208 = .ok (.invokestatic 179, 3) := by decide +kernel
theorem dX11_readInput_211 : decode cX11_readInput 211 = .ok (.invokevirtual 193, 3) := by decide +kernel
theorem dX11_readInput_214 : decode cX11_readInput 214 = .ok (.goto (-123), 3) := by decide +kernel
theorem dX11_readInput_217 : decode cX11_readInput 217 = .ok (.aload_n 0, 1) := by decide +kernel
theorem dX11_readInput_218 : decode cX11_readInput 218 = .ok (.bipush 59, 2) := by decide +kernel
theorem dX11_readInput_220 : decode cX11_readInput 220 = .ok (.invokevirtual 196, 3) := by decide +kernel
theorem dX11_readInput_223 : decode cX11_readInput 223 = .ok (.return_, 1) := by decide +kernel
theorem dX11_all_0 : decode cX11_all 0 = .ok (.iconst 1, 1) := by decide +kernel
theorem dX11_all_1 : decode cX11_all 1 = .ok (.aload_n 0, 1) := by decide +kernel
theorem dX11_all_2 : decode cX11_all 2 = .ok (.getfield 26, 3) := by decide +kernel
theorem dX11_all_5 : decode cX11_all 5 = .ok (.bipush 6, 2) := by decide +kernel
theorem dX11_all_7 : decode cX11_all 7 = .ok (.iload_n 1, 1) := by decide +kernel
theorem dX11_all_8 : decode cX11_all 8 = .ok (.imul, 1) := by decide +kernel
theorem dX11_all_9 : decode cX11_all 9 = .ok (.iload_n 2, 1) := by decide +kernel
theorem dX11_all_10 : decode cX11_all 10 = .ok (.iadd, 1) := by decide +kernel
theorem dX11_all_11 : decode cX11_all 11 = .ok (.iaload, 1) := by decide +kernel
theorem dX11_all_12 : decode cX11_all 12 = .ok (.ishl, 1) := by decide +kernel
theorem dX11_all_13 : decode cX11_all 13 = .ok (.iconst 1, 1) := by decide +kernel
theorem dX11_all_14 : decode cX11_all 14 = .ok (.isub, 1) := by decide +kernel
theorem dX11_all_15 : decode cX11_all 15 = .ok (.ireturn, 1) := by decide +kernel
theorem dX11_readCell_0 : decode cX11_readCell 0 = .ok (.aload_n 0, 1) := by decide +kernel
theorem dX11_readCell_1 : decode cX11_readCell 1 = .ok (.bipush 42, 2) := by decide +kernel
theorem dX11_readCell_3 : decode cX11_readCell 3 = .ok (.invokevirtual 165, 3) := by decide +kernel
theorem dX11_readCell_6 : decode cX11_readCell 6 = .ok (.ifCond .eq 14, 3) := by decide +kernel
theorem dX11_readCell_9 : decode cX11_readCell 9 = .ok (.aload_n 0, 1) := by decide +kernel
theorem dX11_readCell_10 : decode cX11_readCell 10 = .ok (.invokevirtual 172, 3) := by decide +kernel
theorem dX11_readCell_13 : decode cX11_readCell 13 = .ok (.aload_n 0, 1) := by decide +kernel
theorem dX11_readCell_14 : decode cX11_readCell 14 = .ok (.iload_n 1, 1) := by decide +kernel
theorem dX11_readCell_15 : decode cX11_readCell 15 = .ok (.iload_n 2, 1) := by decide +kernel
theorem dX11_readCell_16 : decode cX11_readCell 16 = .ok (.invokevirtual 199, 3) := by decide +kernel
theorem dX11_readCell_19 : decode cX11_readCell 19 = .ok (.ireturn, 1) := by decide +kernel
theorem dX11_readCell_20 : decode cX11_readCell 20 = .ok (.aload_n 0, 1) := by decide +kernel
theorem dX11_readCell_21 : decode cX11_readCell 21 = .ok (.bipush 33, 2) := by decide +kernel
theorem dX11_readCell_23 : decode cX11_readCell 23 = .ok (.invokevirtual 165, 3) := by decide +kernel
theorem dX11_readCell_26 : decode cX11_readCell 26 = .ok (.ifCond .eq 38, 3) := by decide +kernel
theorem dX11_readCell_29 : decode cX11_readCell 29 = .ok (.aload_n 0, 1) := by decide +kernel
theorem dX11_readCell_30 : decode cX11_readCell 30 = .ok (.invokevirtual 172, 3) := by decide +kernel
theorem dX11_readCell_33 : decode cX11_readCell 33 = .ok (.aload_n 0, 1) := by decide +kernel
theorem dX11_readCell_34 : decode cX11_readCell 34 = .ok (.iload_n 1, 1) := by decide +kernel
theorem dX11_readCell_35 : decode cX11_readCell 35 = .ok (.iload_n 2, 1) := by decide +kernel
theorem dX11_readCell_36 : decode cX11_readCell 36 = .ok (.invokevirtual 202, 3) := by decide +kernel
theorem dX11_readCell_39 : decode cX11_readCell 39 = .ok (.istore_n 3, 1) := by decide +kernel
theorem dX11_readCell_40 : decode cX11_readCell 40 = .ok (.aload_n 0, 1) := by decide +kernel
theorem dX11_readCell_41 : decode cX11_readCell 41 = .ok (.getfield 131, 3) := by decide +kernel
theorem dX11_readCell_44 : decode cX11_readCell 44 = .ok (.ifCond .ne 18, 3) := by decide +kernel
theorem dX11_readCell_47 : decode cX11_readCell 47 = .ok (.aload_n 0, 1) := by decide +kernel
theorem dX11_readCell_48 : decode cX11_readCell 48 = .ok (.iload_n 1, 1) := by decide +kernel
theorem dX11_readCell_49 : decode cX11_readCell 49 = .ok (.iload_n 2, 1) := by decide +kernel
theorem dX11_readCell_50 : decode cX11_readCell 50 = .ok (.invokevirtual 199, 3) := by decide +kernel
theorem dX11_readCell_53 : decode cX11_readCell 53 = .ok (.iconst 1, 1) := by decide +kernel
theorem dX11_readCell_54 : decode cX11_readCell 54 = .ok (.iload_n 3, 1) := by decide +kernel
theorem dX11_readCell_55 : decode cX11_readCell 55 = .ok (.ishl, 1) := by decide +kernel
theorem dX11_readCell_56 : decode cX11_readCell 56 = .ok (.iconst (-1), 1) := by decide +kernel
theorem dX11_readCell_57 : decode cX11_readCell 57 = .ok (.ixor, 1) := by decide +kernel
theorem dX11_readCell_58 : decode cX11_readCell 58 = .ok (.iand, 1) := by decide +kernel
theorem dX11_readCell_59 : decode cX11_readCell 59 = .ok (.goto 4, 3) := by decide +kernel
theorem dX11_readCell_62 : decode cX11_readCell 62 = .ok (.iconst 0, 1) := by decide +kernel
theorem dX11_readCell_63 : decode cX11_readCell 63 = .ok (.ireturn, 1) := by decide +kernel
theorem dX11_readCell_64 : decode cX11_readCell 64 = .ok (.iconst 0, 1) := by decide +kernel
theorem dX11_readCell_65 : decode cX11_readCell 65 = .ok (.istore_n 3, 1) := by decide +kernel
theorem dX11_readCell_66 : decode cX11_readCell 66 = .ok (.iconst 1, 1) := by decide +kernel
theorem dX11_readCell_67 : decode cX11_readCell 67 = .ok (.istore 4, 2) := by decide +kernel
theorem dX11_readCell_69 : decode cX11_readCell 69 = .ok (.aload_n 0, 1) := by decide +kernel
theorem dX11_readCell_70 : decode cX11_readCell 70 = .ok (.getfield 131, 3) := by decide +kernel
theorem dX11_readCell_73 : decode cX11_readCell 73 = .ok (.ifCond .ne 94, 3) := by decide +kernel
theorem dX11_readCell_76 : decode cX11_readCell 76 = .ok (.iload 4, 2) := by decide +kernel
theorem dX11_readCell_78 : decode cX11_readCell 78 = .ok (.ifCond .eq 89, 3) := by decide +kernel
theorem dX11_readCell_81 : decode cX11_readCell 81 = .ok (.aload_n 0, 1) := by decide +kernel
theorem dX11_readCell_82 : decode cX11_readCell 82 = .ok (.invokevirtual 186, 3) := by decide +kernel
theorem dX11_readCell_85 : decode cX11_readCell 85 = .ok (.ifCond .ne 5, 3) := by decide +kernel
theorem dX11_readCell_88 : decode cX11_readCell 88 = .ok (.iconst 0, 1) := by decide +kernel
theorem dX11_readCell_89 : decode cX11_readCell 89 = .ok (.ireturn, 1) := by decide +kernel
theorem dX11_readCell_90 : decode cX11_readCell 90 = .ok (.aload_n 0, 1) := by decide +kernel
theorem dX11_readCell_91 : decode cX11_readCell 91 = .ok (.iload_n 1, 1) := by decide +kernel
theorem dX11_readCell_92 : decode cX11_readCell 92 = .ok (.iload_n 2, 1) := by decide +kernel
theorem dX11_readCell_93 : decode cX11_readCell 93 = .ok (.invokevirtual 189, 3) := by decide +kernel
theorem dX11_readCell_96 : decode cX11_readCell 96 = .ok (.istore 5, 2) := by decide +kernel
theorem dX11_readCell_98 : decode cX11_readCell 98 = .ok (.iload 5, 2) := by decide +kernel
theorem dX11_readCell_100 : decode cX11_readCell 100 = .ok (.iconst (-1), 1) := by decide +kernel
theorem dX11_readCell_101 : decode cX11_readCell 101 = .ok (.if_icmp .ne 11, 3) := by decide +kernel
theorem dX11_readCell_104 : decode cX11_readCell 104 = .ok (.aload_n 0, 1) := by decide +kernel
theorem dX11_readCell_105 : decode cX11_readCell 105 = .ok (.iconst 3, 1) := by decide +kernel
theorem dX11_readCell_106 : decode cX11_readCell 106 = .ok (.invokevirtual 168, 3) := by decide +kernel
theorem dX11_readCell_109 : decode cX11_readCell 109 = .ok (.goto 18, 3) := by decide +kernel
theorem dX11_readCell_112 : decode cX11_readCell 112 = .ok (.iload_n 3, 1) := by decide +kernel
theorem dX11_readCell_113 : decode cX11_readCell 113 = .ok (.iload 5, 2) := by decide +kernel
theorem dX11_readCell_115 : decode cX11_readCell 115 = .ok (.ishr, 1) := by decide +kernel
theorem dX11_readCell_116 : decode cX11_readCell 116 = .ok (.iconst 1, 1) := by decide +kernel
theorem dX11_readCell_117 : decode cX11_readCell 117 = .ok (.iand, 1) := by decide +kernel
theorem dX11_readCell_118 : decode cX11_readCell 118 = .ok (.iconst 1, 1) := by decide +kernel
theorem dX11_readCell_119 : decode cX11_readCell 119 = .ok (.if_icmp .ne 8, 3) := by decide +kernel
theorem dX11_readCell_122 : decode cX11_readCell 122 = .ok (.aload_n 0, 1) := by decide +kernel
theorem dX11_readCell_123 : decode cX11_readCell 123 = .ok (.iconst 4, 1) := by decide +kernel
theorem dX11_readCell_124 : decode cX11_readCell 124 = .ok (.invokevirtual 168, 3) := by decide +kernel
theorem dX11_readCell_127 : decode cX11_readCell 127 = .ok (.aload_n 0, 1) := by decide +kernel
theorem dX11_readCell_128 : decode cX11_readCell 128 = .ok (.getfield 131, 3) := by decide +kernel
theorem dX11_readCell_131 : decode cX11_readCell 131 = .ok (.ifCond .eq 5, 3) := by decide +kernel
theorem dX11_readCell_134 : decode cX11_readCell 134 = .ok (.iconst 0, 1) := by decide +kernel
theorem dX11_readCell_135 : decode cX11_readCell 135 = .ok (.ireturn, 1) := by decide +kernel
theorem dX11_readCell_136 : decode cX11_readCell 136 = .ok (.iload_n 3, 1) := by decide +kernel
theorem dX11_readCell_137 : decode cX11_readCell 137 = .ok (.iconst 1, 1) := by decide +kernel
theorem dX11_readCell_138 : decode cX11_readCell 138 = .ok (.iload 5, 2) := by decide +kernel
theorem dX11_readCell_140 : decode cX11_readCell 140 = .ok (.ishl, 1) := by decide +kernel
theorem dX11_readCell_141 : decode cX11_readCell 141 = .ok (.ior, 1) := by decide +kernel
theorem dX11_readCell_142 : decode cX11_readCell 142 = .ok (.istore_n 3, 1) := by decide +kernel
theorem dX11_readCell_143 : decode cX11_readCell 143 = .ok (.aload_n 0, 1) := by decide +kernel
theorem dX11_readCell_144 : decode cX11_readCell 144 = .ok (.invokevirtual 172, 3) := by decide +kernel
theorem dX11_readCell_147 : decode cX11_readCell 147 = .ok (.aload_n 0, 1) := by decide +kernel
theorem dX11_readCell_148 : decode cX11_readCell 148 = .ok (.bipush 47, 2) := by decide +kernel
theorem dX11_readCell_150 : decode cX11_readCell 150 = .ok (.invokevirtual 165, 3) := by decide +kernel
theorem dX11_readCell_153 : decode cX11_readCell 153 = .ok (.istore 4, 2) := by decide +kernel
theorem dX11_readCell_155 : decode cX11_readCell 155 = .ok (.iload 4, 2) := by decide +kernel
theorem dX11_readCell_157 : decode cX11_readCell 157 = .ok (.ifCond .eq 7, 3) := by decide +kernel
theorem dX11_readCell_160 : decode cX11_readCell 160 = .ok (.aload_n 0, 1) := by decide +kernel
theorem dX11_readCell_161 : decode cX11_readCell 161 = .ok (.invokevirtual 172, 3) := by decide +kernel
theorem dX11_readCell_164 : decode cX11_readCell 164 = .ok (.goto (-95), 3) := by decide +kernel
theorem dX11_readCell_167 : decode cX11_readCell 167 = .ok (.iload_n 3, 1) := by decide +kernel
theorem dX11_readCell_168 : decode cX11_readCell 168 = .ok (.ireturn, 1) := by decide +kernel
theorem dX11_readTable_0 : decode cX11_readTable 0 = .ok (.aload_n 0, 1) := by decide +kernel
theorem dX11_readTable_1 : decode cX11_readTable 1 = .ok (.getfield 20, 3) := by decide +kernel
theorem dX11_readTable_4 : decode cX11_readTable 4 = .ok (.iload_n 1, 1) := by decide +kernel
theorem dX11_readTable_5 : decode cX11_readTable 5 = .ok (.iconst 0, 1) := by decide +kernel
theorem dX11_readTable_6 : decode cX11_readTable 6 = .ok (.iastore, 1) := by decide +kernel
theorem dX11_readTable_7 : decode cX11_readTable 7 = .ok (.aload_n 0, 1) := by decide +kernel
theorem dX11_readTable_8 : decode cX11_readTable 8 = .ok (.getfield 23, 3) := by decide +kernel
theorem dX11_readTable_11 : decode cX11_readTable 11 = .ok (.iload_n 1, 1) := by decide +kernel
theorem dX11_readTable_12 : decode cX11_readTable 12 = .ok (.iconst 0, 1) := by decide +kernel
theorem dX11_readTable_13 : decode cX11_readTable 13 = .ok (.iastore, 1) := by decide +kernel
theorem dX11_readTable_14 : decode cX11_readTable 14 = .ok (.aload_n 0, 1) := by decide +kernel
theorem dX11_readTable_15 : decode cX11_readTable 15 = .ok (.invokevirtual 172, 3) := by decide +kernel
theorem dX11_readTable_18 : decode cX11_readTable 18 = .ok (.aload_n 0, 1) := by decide +kernel
theorem dX11_readTable_19 : decode cX11_readTable 19 = .ok (.getfield 131, 3) := by decide +kernel
theorem dX11_readTable_22 : decode cX11_readTable 22 = .ok (.ifCond .ne 99, 3) := by decide +kernel
theorem dX11_readTable_25 : decode cX11_readTable 25 = .ok (.aload_n 0, 1) := by decide +kernel
theorem dX11_readTable_26 : decode cX11_readTable 26 = .ok (.getfield 20, 3) := by decide +kernel
theorem dX11_readTable_29 : decode cX11_readTable 29 = .ok (.iload_n 1, 1) := by decide +kernel
theorem dX11_readTable_30 : decode cX11_readTable 30 = .ok (.iaload, 1) := by decide +kernel
theorem dX11_readTable_31 : decode cX11_readTable 31 = .ok (.ifCond .eq 12, 3) := by decide +kernel
theorem dX11_readTable_34 : decode cX11_readTable 34 = .ok (.aload_n 0, 1) := by decide +kernel
theorem dX11_readTable_35 : decode cX11_readTable 35 = .ok (.ldc 153, 2) := by decide +kernel
theorem dX11_readTable_37 : decode cX11_readTable 37 = .ok (.invokevirtual 149, 3) := by decide +kernel
theorem dX11_readTable_40 : decode cX11_readTable 40 = .ok (.ifCond .ne 81, 3) := by decide +kernel
theorem dX11_readTable_43 : decode cX11_readTable 43 = .ok (.aload_n 0, 1) := by decide +kernel
theorem dX11_readTable_44 : decode cX11_readTable 44 = .ok (.ldc 147, 2) := by decide +kernel
theorem dX11_readTable_46 : decode cX11_readTable 46 = .ok (.invokevirtual 149, 3) := by decide +kernel
theorem dX11_readTable_49 : decode cX11_readTable 49 = .ok (.ifCond .ne 11, 3) := by decide +kernel
theorem dX11_readTable_52 : decode cX11_readTable 52 = .ok (.aload_n 0, 1) := by decide +kernel
theorem dX11_readTable_53 : decode cX11_readTable 53 = .ok (.iconst 1, 1) := by decide +kernel
theorem dX11_readTable_54 : decode cX11_readTable 54 = .ok (.invokevirtual 168, 3) := by decide +kernel
theorem dX11_readTable_57 : decode cX11_readTable 57 = .ok (.goto 18, 3) := by decide +kernel
theorem dX11_readTable_60 : decode cX11_readTable 60 = .ok (.aload_n 0, 1) := by decide +kernel
theorem dX11_readTable_61 : decode cX11_readTable 61 = .ok (.getfield 20, 3) := by decide +kernel
theorem dX11_readTable_64 : decode cX11_readTable 64 = .ok (.iload_n 1, 1) := by decide +kernel
theorem dX11_readTable_65 : decode cX11_readTable 65 = .ok (.iaload, 1) := by decide +kernel
theorem dX11_readTable_66 : decode cX11_readTable 66 = .ok (.iconst 5, 1) := by decide +kernel
theorem dX11_readTable_67 : decode cX11_readTable 67 = .ok (.if_icmp .ne 8, 3) := by decide +kernel
theorem dX11_readTable_70 : decode cX11_readTable 70 = .ok (.aload_n 0, 1) := by decide +kernel
theorem dX11_readTable_71 : decode cX11_readTable 71 = .ok (.iconst 2, 1) := by decide +kernel
theorem dX11_readTable_72 : decode cX11_readTable 72 = .ok (.invokevirtual 168, 3) := by decide +kernel
theorem dX11_readTable_75 : decode cX11_readTable 75 = .ok (.aload_n 0, 1) := by decide +kernel
theorem dX11_readTable_76 : decode cX11_readTable 76 = .ok (.getfield 131, 3) := by decide +kernel
theorem dX11_readTable_79 : decode cX11_readTable 79 = .ok (.ifCond .eq 4, 3) := by decide +kernel
theorem dX11_readTable_82 : decode cX11_readTable 82 = .ok (.return_, 1) := by decide +kernel
theorem dX11_readTable_83 : decode cX11_readTable 83 = .ok (.aload_n 0, 1) := by decide +kernel
theorem dX11_readTable_84 : decode cX11_readTable 84 = .ok (.iload_n 1, 1) := by decide +kernel
theorem dX11_readTable_85 : decode cX11_readTable 85 = .ok (.invokevirtual 205, 3) := by decide +kernel
theorem dX11_readTable_88 : decode cX11_readTable 88 = .ok (.istore_n 2, 1) := by decide +kernel
theorem dX11_readTable_89 : decode cX11_readTable 89 = .ok (.aload_n 0, 1) := by decide +kernel
theorem dX11_readTable_90 : decode cX11_readTable 90 = .ok (.iload_n 1, 1) := by decide +kernel
theorem dX11_readTable_91 : decode cX11_readTable 91 = .ok (.aload_n 0, 1) := by decide +kernel
theorem dX11_readTable_92 : decode cX11_readTable 92 = .ok (.getfield 20, 3) := by decide +kernel
theorem dX11_readTable_95 : decode cX11_readTable 95 = .ok (.iload_n 1, 1) := by decide +kernel
theorem dX11_readTable_96 : decode cX11_readTable 96 = .ok (.iaload, 1) := by decide +kernel
theorem dX11_readTable_97 : decode cX11_readTable 97 = .ok (.iload_n 2, 1) := by decide +kernel
theorem dX11_readTable_98 : decode cX11_readTable 98 = .ok (.invokevirtual 208, 3) := by decide +kernel
theorem dX11_readTable_101 : decode cX11_readTable 101 = .ok (.aload_n 0, 1) := by decide +kernel
theorem dX11_readTable_102 : decode cX11_readTable 102 = .ok (.getfield 131, 3) := by decide +kernel
theorem dX11_readTable_105 : decode cX11_readTable 105 = .ok (.ifCond .ne 13, 3) := by decide +kernel
theorem dX11_readTable_108 : decode cX11_readTable 108 = .ok (.aload_n 0, 1) := by decide +kernel
theorem dX11_readTable_109 : decode cX11_readTable 109 = .ok (.getfield 20, 3) := by decide +kernel
theorem dX11_readTable_112 : decode cX11_readTable 112 = .ok (.iload_n 1, 1) := by decide +kernel
theorem dX11_readTable_113 : decode cX11_readTable 113 = .ok (.dup2, 1) := by decide +kernel
theorem dX11_readTable_114 : decode cX11_readTable 114 = .ok (.iaload, 1) := by decide +kernel
theorem dX11_readTable_115 : decode cX11_readTable 115 = .ok (.iconst 1, 1) := by decide +kernel
theorem dX11_readTable_116 : decode cX11_readTable 116 = .ok (.iadd, 1) := by decide +kernel
theorem dX11_readTable_117 : decode cX11_readTable 117 = .ok (.iastore, 1) := by decide +kernel
theorem dX11_readTable_118 : decode cX11_readTable 118 = .ok (.goto (-100), 3) := by decide +kernel
theorem dX11_readTable_121 : decode cX11_readTable 121 = .ok (.aload_n 0, 1) := by decide +kernel
theorem dX11_readTable_122 : decode cX11_readTable 122 = .ok (.getfield 131, 3) := by decide +kernel
theorem dX11_readTable_125 : decode cX11_readTable 125 = .ok (.ifCond .ne 10, 3) := by decide +kernel
theorem dX11_readTable_128 : decode cX11_readTable 128 = .ok (.aload_n 0, 1) := by decide +kernel
theorem dX11_readTable_129 : decode cX11_readTable 129 = .ok (.iload_n 1, 1) := by decide +kernel
theorem dX11_readTable_130 : decode cX11_readTable 130 = .ok (.iconst 5, 1) := by decide +kernel
theorem dX11_readTable_131 : decode cX11_readTable 131 = .ok (.iconst 0, 1) := by decide +kernel
theorem dX11_readTable_132 : decode cX11_readTable 132 = .ok (.invokevirtual 208, 3) := by decide +kernel
theorem dX11_readTable_135 : decode cX11_readTable 135 = .ok (.aload_n 0, 1) := by decide +kernel
theorem dX11_readTable_136 : decode cX11_readTable 136 = .ok (.getfield 131, 3) := by decide +kernel
theorem dX11_readTable_139 : decode cX11_readTable 139 = .ok (.ifCond .ne 146, 3) := by decide +kernel
theorem dX11_readTable_142 : decode cX11_readTable 142 = .ok (.aload_n 0, 1) := by decide +kernel
theorem dX11_readTable_143 : decode cX11_readTable 143 = .ok (.getfield 121, 3) := by decide +kernel
theorem dX11_readTable_146 : decode cX11_readTable 146 = .ok (.ifCond .eq 139, 3) := by decide +kernel
theorem dX11_readTable_149 : decode cX11_readTable 149 = .ok (.aload_n 0, 1) := by decide +kernel
theorem dX11_readTable_150 : decode cX11_readTable 150 = .ok (.ldc 155, 2) := by decide +kernel
theorem dX11_readTable_152 : decode cX11_readTable 152 = .ok (.invokevirtual 149, 3) := by decide +kernel
theorem dX11_readTable_155 : decode cX11_readTable 155 = .ok (.ifCond .ne 11, 3) := by decide +kernel
theorem dX11_readTable_158 : decode cX11_readTable 158 = .ok (.aload_n 0, 1) := by decide +kernel
theorem dX11_readTable_159 : decode cX11_readTable 159 = .ok (.iconst 1, 1) := by decide +kernel
theorem dX11_readTable_160 : decode cX11_readTable 160 = .ok (.invokevirtual 168, 3) := by decide +kernel
theorem dX11_readTable_163 : decode cX11_readTable 163 = .ok (.goto 19, 3) := by decide +kernel
theorem dX11_readTable_166 : decode cX11_readTable 166 = .ok (.aload_n 0, 1) := by decide +kernel
theorem dX11_readTable_167 : decode cX11_readTable 167 = .ok (.getfield 23, 3) := by decide +kernel
theorem dX11_readTable_170 : decode cX11_readTable 170 = .ok (.iload_n 1, 1) := by decide +kernel
theorem dX11_readTable_171 : decode cX11_readTable 171 = .ok (.iaload, 1) := by decide +kernel
theorem dX11_readTable_172 : decode cX11_readTable 172 = .ok (.bipush 40, 2) := by decide +kernel
theorem dX11_readTable_174 : decode cX11_readTable 174 = .ok (.if_icmp .ne 8, 3) := by decide +kernel
theorem dX11_readTable_177 : decode cX11_readTable 177 = .ok (.aload_n 0, 1) := by decide +kernel
theorem dX11_readTable_178 : decode cX11_readTable 178 = .ok (.iconst 2, 1) := by decide +kernel
theorem dX11_readTable_179 : decode cX11_readTable 179 = .ok (.invokevirtual 168, 3) := by decide +kernel
theorem dX11_readTable_182 : decode cX11_readTable 182 = .ok (.aload_n 0, 1) := by decide +kernel
theorem dX11_readTable_183 : decode cX11_readTable 183 = .ok (.getfield 131, 3) := by decide +kernel
theorem dX11_readTable_186 : decode cX11_readTable 186 = .ok (.ifCond .eq 4, 3) := by decide +kernel
theorem dX11_readTable_189 : decode cX11_readTable 189 = .ok (.return_, 1) := by decide +kernel
theorem dX11_readTable_190 : decode cX11_readTable 190 = .ok (.aload_n 0, 1) := by decide +kernel
theorem dX11_readTable_191 : decode cX11_readTable 191 = .ok (.invokevirtual 172, 3) := by decide +kernel
theorem dX11_readTable_194 : decode cX11_readTable 194 = .ok (.bipush 40, 2) := by decide +kernel
theorem dX11_readTable_196 : decode cX11_readTable 196 = .ok (.iload_n 1, 1) := by decide +kernel
theorem dX11_readTable_197 : decode cX11_readTable 197 = .ok (.imul, 1) := by decide +kernel
theorem dX11_readTable_198 : decode cX11_readTable 198 = .ok (.aload_n 0, 1) := by decide +kernel
theorem dX11_readTable_199 : decode cX11_readTable 199 = .ok (.getfield 23, 3) := by decide +kernel
theorem dX11_readTable_202 : decode cX11_readTable 202 = .ok (.iload_n 1, 1) := by decide +kernel
theorem dX11_readTable_203 : decode cX11_readTable 203 = .ok (.iaload, 1) := by decide +kernel
theorem dX11_readTable_204 : decode cX11_readTable 204 = .ok (.iadd, 1) := by decide +kernel
theorem dX11_readTable_205 : decode cX11_readTable 205 = .ok (.istore_n 2, 1) := by decide +kernel
theorem dX11_readTable_206 : decode cX11_readTable 206 = .ok (.iconst 0, 1) := by decide +kernel
theorem dX11_readTable_207 : decode cX11_readTable 207 = .ok (.istore_n 3, 1) := by decide +kernel
theorem dX11_readTable_208 : decode cX11_readTable 208 = .ok (.iload_n 3, 1) := by decide +kernel
theorem dX11_readTable_209 : decode cX11_readTable 209 = .ok (.aload_n 0, 1) := by decide +kernel
theorem dX11_readTable_210 : decode cX11_readTable 210 = .ok (.getfield 20, 3) := by decide +kernel
theorem dX11_readTable_213 : decode cX11_readTable 213 = .ok (.iload_n 1, 1) := by decide +kernel
theorem dX11_readTable_214 : decode cX11_readTable 214 = .ok (.iaload, 1) := by decide +kernel
theorem dX11_readTable_215 : decode cX11_readTable 215 = .ok (.if_icmp .ge 25, 3) := by decide +kernel
theorem dX11_readTable_218 : decode cX11_readTable 218 = .ok (.aload_n 0, 1) := by decide +kernel
theorem dX11_readTable_219 : decode cX11_readTable 219 = .ok (.getfield 35, 3) := by decide +kernel
theorem dX11_readTable_222 : decode cX11_readTable 222 = .ok (.iconst 5, 1) := by decide +kernel
theorem dX11_readTable_223 : decode cX11_readTable 223 = .ok (.iload_n 2, 1) := by decide +kernel
theorem dX11_readTable_224 : decode cX11_readTable 224 = .ok (.imul, 1) := by decide +kernel
theorem dX11_readTable_225 : decode cX11_readTable 225 = .ok (.iload_n 3, 1) := by decide +kernel
theorem dX11_readTable_226 : decode cX11_readTable 226 = .ok (.iadd, 1) := by decide +kernel
theorem dX11_readTable_227 : decode cX11_readTable 227 = .ok (.aload_n 0, 1) := by decide +kernel
theorem dX11_readTable_228 : decode cX11_readTable 228 = .ok (.iload_n 1, 1) := by decide +kernel
theorem dX11_readTable_229 : decode cX11_readTable 229 = .ok (.iload_n 3, 1) := by decide +kernel
theorem dX11_readTable_230 : decode cX11_readTable 230 = .ok (.invokevirtual 212, 3) := by decide +kernel
theorem dX11_readTable_233 : decode cX11_readTable 233 = .ok (.iastore, 1) := by decide +kernel
theorem dX11_readTable_234 : decode cX11_readTable 234 = .ok (.iinc 3 1, 3) := by decide +kernel
theorem dX11_readTable_237 : decode cX11_readTable 237 = .ok (.goto (-29), 3) := by decide +kernel
theorem dX11_readTable_240 : decode cX11_readTable 240 = .ok (.aload_n 0, 1) := by decide +kernel
theorem dX11_readTable_241 : decode cX11_readTable 241 = .ok (.sipush 256, 3) := by decide +kernel
theorem dX11_readTable_244 : decode cX11_readTable 244 = .ok (.invokevirtual 196, 3) := by decide +kernel
theorem dX11_readTable_247 : decode cX11_readTable 247 = .ok (.aload_n 0, 1) := by decide +kernel
theorem dX11_readTable_248 : decode cX11_readTable 248 = .ok (.getfield 38, 3) := by decide +kernel
theorem dX11_readTable_251 : decode cX11_readTable 251 = .ok (.iload_n 2, 1) := by decide +kernel
theorem dX11_readTable_252 : decode cX11_readTable 252 = .ok (.aload_n 0, 1) := by decide +kernel
theorem dX11_readTable_253 : decode cX11_readTable 253 = .ok (.iload_n 1, 1) := by decide +kernel
theorem dX11_readTable_254 : decode cX11_readTable 254 = .ok (.iconst 5, 1) := by decide +kernel
theorem dX11_readTable_255 : decode cX11_readTable 255 = .ok (.invokevirtual 202, 3) := by decide +kernel
theorem dX11_readTable_258 : decode cX11_readTable 258 = .ok (.iastore, 1) := by decide +kernel
theorem dX11_readTable_259 : decode cX11_readTable 259 = .ok (.aload_n 0, 1) := by decide +kernel
theorem dX11_readTable_260 : decode cX11_readTable 260 = .ok (.bipush 59, 2) := by decide +kernel
theorem dX11_readTable_262 : decode cX11_readTable 262 = .ok (.invokevirtual 196, 3) := by decide +kernel
theorem dX11_readTable_265 : decode cX11_readTable 265 = .ok (.aload_n 0, 1) := by decide +kernel
theorem dX11_readTable_266 : decode cX11_readTable 266 = .ok (.getfield 131, 3) := by decide +kernel
theorem dX11_readTable_269 : decode cX11_readTable 269 = .ok (.ifCond .ne 13, 3) := by decide +kernel
theorem dX11_readTable_272 : decode cX11_readTable 272 = .ok (.aload_n 0, 1) := by decide +kernel
theorem dX11_readTable_273 : decode cX11_readTable 273 = .ok (.getfield 23, 3) := by decide +kernel
theorem dX11_readTable_276 : decode cX11_readTable 276 = .ok (.iload_n 1, 1) := by decide +kernel
theorem dX11_readTable_277 : decode cX11_readTable 277 = .ok (.dup2, 1) := by decide +kernel
theorem dX11_readTable_278 : decode cX11_readTable 278 = .ok (.iaload, 1) := by decide +kernel
theorem dX11_readTable_279 : decode cX11_readTable 279 = .ok (.iconst 1, 1) := by decide +kernel
theorem dX11_readTable_280 : decode cX11_readTable 280 = .ok (.iadd, 1) := by decide +kernel
theorem dX11_readTable_281 : decode cX11_readTable 281 = .ok (.iastore, 1) := by decide +kernel
theorem dX11_readTable_282 : decode cX11_readTable 282 = .ok (.goto (-147), 3) := by decide +kernel
theorem dX11_readTable_285 : decode cX11_readTable 285 = .ok (.return_, 1) := by decide +kernel
theorem dX11_table_0 : decode cX11_table 0 = .ok (.aload_n 0, 1) := by decide +kernel
theorem dX11_table_1 : decode cX11_table 1 = .ok (.iconst 0, 1) := by decide +kernel
theorem dX11_table_2 : decode cX11_table 2 = .ok (.putfield 96, 3) := by decide +kernel
theorem dX11_table_5 : decode cX11_table 5 = .ok (.iload_n 1, 1) := by decide +kernel
theorem dX11_table_6 : decode cX11_table 6 = .ok (.ifCond .lt 11, 3) := by decide +kernel
theorem dX11_table_9 : decode cX11_table 9 = .ok (.iload_n 1, 1) := by decide +kernel
theorem dX11_table_10 : decode cX11_table 10 = .ok (.aload_n 0, 1) := by decide +kernel
theorem dX11_table_11 : decode cX11_table 11 = .ok (.getfield 102, 3) := by decide +kernel
theorem dX11_table_14 : decode cX11_table 14 = .ok (.if_icmp .le 8, 3) := by decide +kernel
theorem dX11_table_17 : decode cX11_table 17 = .ok (.aload_n 0, 1) := by decide +kernel
theorem dX11_table_18 : decode cX11_table 18 = .ok (.invokevirtual 215, 3) := by decide +kernel
theorem dX11_table_21 : decode cX11_table 21 = .ok (.ireturn, 1) := by decide +kernel
theorem dX11_table_22 : decode cX11_table 22 = .ok (.aload_n 0, 1) := by decide +kernel
theorem dX11_table_23 : decode cX11_table 23 = .ok (.iconst 0, 1) := by decide +kernel
theorem dX11_table_24 : decode cX11_table 24 = .ok (.putfield 102, 3) := by decide +kernel
theorem dX11_table_27 : decode cX11_table 27 = .ok (.aload_n 0, 1) := by decide +kernel
theorem dX11_table_28 : decode cX11_table 28 = .ok (.iconst (-1), 1) := by decide +kernel
theorem dX11_table_29 : decode cX11_table 29 = .ok (.putfield 16, 3) := by decide +kernel
theorem dX11_table_32 : decode cX11_table 32 = .ok (.aload_n 0, 1) := by decide +kernel
theorem dX11_table_33 : decode cX11_table 33 = .ok (.getfield 99, 3) := by decide +kernel
theorem dX11_table_36 : decode cX11_table 36 = .ok (.bipush 6, 2) := by decide +kernel
theorem dX11_table_38 : decode cX11_table 38 = .ok (.if_icmp .ne 6, 3) := by decide +kernel
theorem dX11_table_41 : decode cX11_table 41 = .ok (.bipush (-9), 2) := by decide +kernel
theorem dX11_table_43 : decode cX11_table 43 = .ok (.ireturn, 1) := by decide +kernel
theorem dX11_table_44 : decode cX11_table 44 = .ok (.aload_n 0, 1) := by decide +kernel
theorem dX11_table_45 : decode cX11_table 45 = .ok (.iload_n 1, 1) := by decide +kernel
theorem dX11_table_46 : decode cX11_table 46 = .ok (.putfield 105, 3) := by decide +kernel
theorem dX11_table_49 : decode cX11_table 49 = .ok (.aload_n 0, 1) := by decide +kernel
theorem dX11_table_50 : decode cX11_table 50 = .ok (.iconst 0, 1) := by decide +kernel
theorem dX11_table_51 : decode cX11_table 51 = .ok (.putfield 108, 3) := by decide +kernel
theorem dX11_table_54 : decode cX11_table 54 = .ok (.aload_n 0, 1) := by decide +kernel
theorem dX11_table_55 : decode cX11_table 55 = .ok (.iconst 0, 1) := by decide +kernel
theorem dX11_table_56 : decode cX11_table 56 = .ok (.putfield 131, 3) := by decide +kernel
theorem dX11_table_59 : decode cX11_table 59 = .ok (.aload_n 0, 1) := by decide +kernel
theorem dX11_table_60 : decode cX11_table 60 = .ok (.aload_n 0, 1) := by decide +kernel
theorem dX11_table_61 : decode cX11_table 61 = .ok (.getfield 99, 3) := by decide +kernel
theorem dX11_table_64 : decode cX11_table 64 = .ok (.invokevirtual 218, 3) := by decide +kernel
theorem dX11_table_67 : decode cX11_table 67 = .ok (.aload_n 0, 1) := by decide +kernel
theorem dX11_table_68 : decode cX11_table 68 = .ok (.getfield 131, 3) := by decide +kernel
theorem dX11_table_71 : decode cX11_table 71 = .ok (.ifCond .eq 18, 3) := by decide +kernel
theorem dX11_table_74 : decode cX11_table 74 = .ok (.aload_n 0, 1) := by decide +kernel
theorem dX11_table_75 : decode cX11_table 75 = .ok (.aload_n 0, 1) := by decide +kernel
theorem dX11_table_76 : decode cX11_table 76 = .ok (.getfield 134, 3) := by decide +kernel
theorem dX11_table_79 : decode cX11_table 79 = .ok (.putfield 16, 3) := by decide +kernel
theorem dX11_table_82 : decode cX11_table 82 = .ok (.iconst (-1), 1) := by decide +kernel
theorem dX11_table_83 : decode cX11_table 83 = .ok (.aload_n 0, 1) := by decide +kernel
theorem dX11_table_84 : decode cX11_table 84 = .ok (.getfield 131, 3) := by decide +kernel
theorem dX11_table_87 : decode cX11_table 87 = .ok (.isub, 1) := by decide +kernel
theorem dX11_table_88 : decode cX11_table 88 = .ok (.ireturn, 1) := by decide +kernel
theorem dX11_table_89 : decode cX11_table 89 = .ok (.aload_n 0, 1) := by decide +kernel
theorem dX11_table_90 : decode cX11_table 90 = .ok (.getfield 99, 3) := by decide +kernel
theorem dX11_table_93 : decode cX11_table 93 = .ok (.istore_n 2, 1) := by decide +kernel
theorem dX11_table_94 : decode cX11_table 94 = .ok (.iconst 0, 1) := by decide +kernel
theorem dX11_table_95 : decode cX11_table 95 = .ok (.istore_n 3, 1) := by decide +kernel
theorem dX11_table_96 : decode cX11_table 96 = .ok (.iload_n 3, 1) := by decide +kernel
theorem dX11_table_97 : decode cX11_table 97 = .ok (.aload_n 0, 1) := by decide +kernel
theorem dX11_table_98 : decode cX11_table 98 = .ok (.iload_n 2, 1) := by decide +kernel
theorem dX11_table_99 : decode cX11_table 99 = .ok (.invokevirtual 205, 3) := by decide +kernel
theorem dX11_table_102 : decode cX11_table 102 = .ok (.if_icmp .ge 28, 3) := by decide +kernel
theorem dX11_table_105 : decode cX11_table 105 = .ok (.aload_n 0, 1) := by decide +kernel
theorem dX11_table_106 : decode cX11_table 106 = .ok (.getfield 41, 3) := by decide +kernel
theorem dX11_table_109 : decode cX11_table 109 = .ok (.sipush 400, 3) := by decide +kernel
theorem dX11_table_112 : decode cX11_table 112 = .ok (.iload_n 2, 1) := by decide +kernel
theorem dX11_table_113 : decode cX11_table 113 = .ok (.imul, 1) := by decide +kernel
theorem dX11_table_114 : decode cX11_table 114 = .ok (.iload_n 3, 1) := by decide +kernel
theorem dX11_table_115 : decode cX11_table 115 = .ok (.iadd, 1) := by decide +kernel
theorem dX11_table_116 : decode cX11_table 116 = .ok (.aload_n 0, 1) := by decide +kernel
theorem dX11_table_117 : decode cX11_table 117 = .ok (.iload_n 2, 1) := by decide +kernel
theorem dX11_table_118 : decode cX11_table 118 = .ok (.iload_n 3, 1) := by decide +kernel
theorem dX11_table_119 : decode cX11_table 119 = .ok (.iconst (-1), 1) := by decide +kernel
theorem dX11_table_120 : decode cX11_table 120 = .ok (.invokevirtual 221, 3) := by decide +kernel
theorem dX11_table_123 : decode cX11_table 123 = .ok (.iastore, 1) := by decide +kernel
theorem dX11_table_124 : decode cX11_table 124 = .ok (.iinc 3 1, 3) := by decide +kernel
theorem dX11_table_127 : decode cX11_table 127 = .ok (.goto (-31), 3) := by decide +kernel
theorem dX11_table_130 : decode cX11_table 130 = .ok (.aload_n 0, 1) := by decide +kernel
theorem dX11_table_131 : decode cX11_table 131 = .ok (.dup, 1) := by decide +kernel
theorem dX11_table_132 : decode cX11_table 132 = .ok (.getfield 99, 3) := by decide +kernel
theorem dX11_table_135 : decode cX11_table 135 = .ok (.iconst 1, 1) := by decide +kernel
theorem dX11_table_136 : decode cX11_table 136 = .ok (.iadd, 1) := by decide +kernel
theorem dX11_table_137 : decode cX11_table 137 = .ok (.putfield 99, 3) := by decide +kernel
theorem dX11_table_140 : decode cX11_table 140 = .ok (.iload_n 2, 1) := by decide +kernel
theorem dX11_table_141 : decode cX11_table 141 = .ok (.ireturn, 1) := by decide +kernel
theorem dX11_readTest_0 : decode cX11_readTest 0 = .ok (.aload_n 0, 1) := by decide +kernel
theorem dX11_readTest_1 : decode cX11_readTest 1 = .ok (.invokevirtual 186, 3) := by decide +kernel
theorem dX11_readTest_4 : decode cX11_readTest 4 = .ok (.ifCond .ne 4, 3) := by decide +kernel
theorem dX11_readTest_7 : decode cX11_readTest 7 = .ok (.return_, 1) := by decide +kernel
theorem dX11_readTest_8 : decode cX11_readTest 8 = .ok (.iconst (-1), 1) := by decide +kernel
theorem dX11_readTest_9 : decode cX11_readTest 9 = .ok (.istore_n 3, 1) := by decide +kernel
theorem dX11_readTest_10 : decode cX11_readTest 10 = .ok (.iconst 0, 1) := by decide +kernel
theorem dX11_readTest_11 : decode cX11_readTest 11 = .ok (.istore 4, 2) := by decide +kernel
theorem dX11_readTest_13 : decode cX11_readTest 13 = .ok (.iload 4, 2) := by decide +kernel
theorem dX11_readTest_15 : decode cX11_readTest 15 = .ok (.aload_n 0, 1) := by decide +kernel
theorem dX11_readTest_16 : decode cX11_readTest 16 = .ok (.getfield 20, 3) := by decide +kernel
theorem dX11_readTest_19 : decode cX11_readTest 19 = .ok (.iload_n 2, 1) := by decide +kernel
theorem dX11_readTest_20 : decode cX11_readTest 20 = .ok (.iaload, 1) := by decide +kernel
theorem dX11_readTest_21 : decode cX11_readTest 21 = .ok (.if_icmp .ge 26, 3) := by decide +kernel
theorem dX11_readTest_24 : decode cX11_readTest 24 = .ok (.aload_n 0, 1) := by decide +kernel
theorem dX11_readTest_25 : decode cX11_readTest 25 = .ok (.iload_n 2, 1) := by decide +kernel
theorem dX11_readTest_26 : decode cX11_readTest 26 = .ok (.iload 4, 2) := by decide +kernel
theorem dX11_readTest_28 : decode cX11_readTest 28 = .ok (.iconst 0, 1) := by decide +kernel
theorem dX11_readTest_29 : decode cX11_readTest 29 = .ok (.invokestatic 179, 3) := by decide +kernel
theorem dX11_readTest_32 : decode cX11_readTest 32 = .ok (.invokevirtual 183, 3) := by decide +kernel
theorem dX11_readTest_35 : decode cX11_readTest 35 = .ok (.ifCond .eq 6, 3) := by decide +kernel
theorem dX11_readTest_38 : decode cX11_readTest 38 = .ok (.iload 4, 2) := by decide +kernel
theorem dX11_readTest_40 : decode cX11_readTest 40 = .ok (.istore_n 3, 1) := by decide +kernel
theorem dX11_readTest_41 : decode cX11_readTest 41 = .ok (.iinc 4 1, 3) := by decide +kernel
theorem dX11_readTest_44 : decode cX11_readTest 44 = .ok (.goto (-31), 3) := by decide +kernel
theorem dX11_readTest_47 : decode cX11_readTest 47 = .ok (.iload_n 3, 1) := by decide +kernel
theorem dX11_readTest_48 : decode cX11_readTest 48 = .ok (.iconst (-1), 1) := by decide +kernel
theorem dX11_readTest_49 : decode cX11_readTest 49 = .ok (.if_icmp .ne 8, 3) := by decide +kernel
theorem dX11_readTest_52 : decode cX11_readTest 52 = .ok (.aload_n 0, 1) := by decide +kernel
theorem dX11_readTest_53 : decode cX11_readTest 53 = .ok (.iconst 3, 1) := by decide +kernel
theorem dX11_readTest_54 : decode cX11_readTest 54 = .ok (.invokevirtual 168, 3) := by decide +kernel
theorem dX11_readTest_57 : decode cX11_readTest 57 = .ok (.aload_n 0, 1) := by decide +kernel
theorem dX11_readTest_58 : decode cX11_readTest 58 = .ok (.getfield 131, 3) := by decide +kernel
theorem dX11_readTest_61 : decode cX11_readTest 61 = .ok (.ifCond .eq 4, 3) := by decide +kernel
theorem dX11_readTest_64 : decode cX11_readTest 64 = .ok (.return_, 1) := by decide +kernel
theorem dX11_readTest_65 : decode cX11_readTest 65 = .ok (.aload_n 0, 1) := by decide +kernel
theorem dX11_readTest_66 : decode cX11_readTest 66 = .ok (.invokevirtual 172, 3) := by decide +kernel
theorem dX11_readTest_69 : decode cX11_readTest 69 = .ok (.aload_n 0, 1) := by decide +kernel
theorem dX11_readTest_70 : decode cX11_readTest 70 = .ok (.bipush 58, 2) := by decide +kernel
theorem dX11_readTest_72 : decode cX11_readTest 72 = .ok (.invokevirtual 196, 3) := by decide +kernel
theorem dX11_readTest_75 : decode cX11_readTest 75 = .ok (.aload_n 0, 1) := by decide +kernel
theorem dX11_readTest_76 : decode cX11_readTest 76 = .ok (.getfield 131, 3) := by decide +kernel
theorem dX11_readTest_79 : decode cX11_readTest 79 = .ok (.ifCond .eq 4, 3) := by decide +kernel
theorem dX11_readTest_82 : decode cX11_readTest 82 = .ok (.return_, 1) := by decide +kernel
theorem dX11_readTest_83 : decode cX11_readTest 83 = .ok (.aload_n 0, 1) := by decide +kernel
theorem dX11_readTest_84 : decode cX11_readTest 84 = .ok (.iload_n 2, 1) := by decide +kernel
theorem dX11_readTest_85 : decode cX11_readTest 85 = .ok (.iload_n 3, 1) := by decide +kernel
theorem dX11_readTest_86 : decode cX11_readTest 86 = .ok (.invokevirtual 212, 3) := by decide +kernel
theorem dX11_readTest_89 : decode cX11_readTest 89 = .ok (.istore 4, 2) := by decide +kernel
theorem dX11_readTest_91 : decode cX11_readTest 91 = .ok (.aload_n 0, 1) := by decide +kernel
theorem dX11_readTest_92 : decode cX11_readTest 92 = .ok (.getfield 56, 3) := by decide +kernel
theorem dX11_readTest_95 : decode cX11_readTest 95 = .ok (.sipush 200, 3) := by decide +kernel
theorem dX11_readTest_98 : decode cX11_readTest 98 = .ok (.iload_n 1, 1) := by decide +kernel
theorem dX11_readTest_99 : decode cX11_readTest 99 = .ok (.imul, 1) := by decide +kernel
theorem dX11_readTest_100 : decode cX11_readTest 100 = .ok (.aload_n 0, 1) := by decide +kernel
theorem dX11_readTest_101 : decode cX11_readTest 101 = .ok (.getfield 224, 3) := by decide +kernel
theorem dX11_readTest_104 : decode cX11_readTest 104 = .ok (.iadd, 1) := by decide +kernel
theorem dX11_readTest_105 : decode cX11_readTest 105 = .ok (.iload_n 3, 1) := by decide +kernel
theorem dX11_readTest_106 : decode cX11_readTest 106 = .ok (.iastore, 1) := by decide +kernel
theorem dX11_readTest_107 : decode cX11_readTest 107 = .ok (.aload_n 0, 1) := by decide +kernel
theorem dX11_readTest_108 : decode cX11_readTest 108 = .ok (.getfield 59, 3) := by decide +kernel
theorem dX11_readTest_111 : decode cX11_readTest 111 = .ok (.sipush 200, 3) := by decide +kernel
theorem dX11_readTest_114 : decode cX11_readTest 114 = .ok (.iload_n 1, 1) := by decide +kernel
theorem dX11_readTest_115 : decode cX11_readTest 115 = .ok (.imul, 1) := by decide +kernel
theorem dX11_readTest_116 : decode cX11_readTest 116 = .ok (.aload_n 0, 1) := by decide +kernel
theorem dX11_readTest_117 : decode cX11_readTest 117 = .ok (.getfield 224, 3) := by decide +kernel
theorem dX11_readTest_120 : decode cX11_readTest 120 = .ok (.iadd, 1) := by decide +kernel
theorem dX11_readTest_121 : decode cX11_readTest 121 = .ok (.iload 4, 2) := by decide +kernel
theorem dX11_readTest_123 : decode cX11_readTest 123 = .ok (.iastore, 1) := by decide +kernel
theorem dX11_readTest_124 : decode cX11_readTest 124 = .ok (.aload_n 0, 1) := by decide +kernel
theorem dX11_readTest_125 : decode cX11_readTest 125 = .ok (.dup, 1) := by decide +kernel
theorem dX11_readTest_126 : decode cX11_readTest 126 = .ok (.getfield 224, 3) := by decide +kernel
theorem dX11_readTest_129 : decode cX11_readTest 129 = .ok (.iconst 1, 1) := by decide +kernel
theorem dX11_readTest_130 : decode cX11_readTest 130 = .ok (.iadd, 1) := by decide +kernel
theorem dX11_readTest_131 : decode cX11_readTest 131 = .ok (.putfield 224, 3) := by decide +kernel
theorem dX11_readTest_134 : decode cX11_readTest 134 = .ok (.return_, 1) := by decide +kernel
theorem dX11_readProgram_0 : decode cX11_readProgram 0 = .ok (.aload_n 0, 1) := by decide +kernel
theorem dX11_readProgram_1 : decode cX11_readProgram 1 = .ok (.iconst 0, 1) := by decide +kernel
theorem dX11_readProgram_2 : decode cX11_readProgram 2 = .ok (.putfield 224, 3) := by decide +kernel
theorem dX11_readProgram_5 : decode cX11_readProgram 5 = .ok (.iconst 0, 1) := by decide +kernel
theorem dX11_readProgram_6 : decode cX11_readProgram 6 = .ok (.istore_n 3, 1) := by decide +kernel
theorem dX11_readProgram_7 : decode cX11_readProgram 7 = .ok (.aload_n 0, 1) := by decide +kernel
theorem dX11_readProgram_8 : decode cX11_readProgram 8 = .ok (.invokevirtual 172, 3) := by decide +kernel
theorem dX11_readProgram_11 : decode cX11_readProgram 11 = .ok (.aload_n 0, 1) := by decide +kernel
theorem dX11_readProgram_12 : decode cX11_readProgram 12 = .ok (.getfield 131, 3) := by decide +kernel
theorem dX11_readProgram_15 : decode cX11_readProgram 15 = .ok (.ifCond .ne 167, 3) := by decide +kernel
theorem dX11_readProgram_18 : decode cX11_readProgram 18 = .ok (.aload_n 0, 1) := by decide +kernel
theorem dX11_readProgram_19 : decode cX11_readProgram 19 = .ok (.ldc 163, 2) := by decide +kernel
theorem dX11_readProgram_21 : decode cX11_readProgram 21 = .ok (.invokevirtual 149, 3) := by decide +kernel
theorem dX11_readProgram_24 : decode cX11_readProgram 24 = .ok (.ifCond .ne 158, 3) := by decide +kernel
theorem dX11_readProgram_27 : decode cX11_readProgram 27 = .ok (.aload_n 0, 1) := by decide +kernel
theorem dX11_readProgram_28 : decode cX11_readProgram 28 = .ok (.ldc 157, 2) := by decide +kernel
theorem dX11_readProgram_30 : decode cX11_readProgram 30 = .ok (.invokevirtual 149, 3) := by decide +kernel
theorem dX11_readProgram_33 : decode cX11_readProgram 33 = .ok (.ifCond .ne 11, 3) := by decide +kernel
theorem dX11_readProgram_36 : decode cX11_readProgram 36 = .ok (.aload_n 0, 1) := by decide +kernel
theorem dX11_readProgram_37 : decode cX11_readProgram 37 = .ok (.iconst 1, 1) := by decide +kernel
theorem dX11_readProgram_38 : decode cX11_readProgram 38 = .ok (.invokevirtual 168, 3) := by decide +kernel
theorem dX11_readProgram_41 : decode cX11_readProgram 41 = .ok (.goto 14, 3) := by decide +kernel
theorem dX11_readProgram_44 : decode cX11_readProgram 44 = .ok (.iload_n 3, 1) := by decide +kernel
theorem dX11_readProgram_45 : decode cX11_readProgram 45 = .ok (.bipush 40, 2) := by decide +kernel
theorem dX11_readProgram_47 : decode cX11_readProgram 47 = .ok (.if_icmp .ne 8, 3) := by decide +kernel
theorem dX11_readProgram_50 : decode cX11_readProgram 50 = .ok (.aload_n 0, 1) := by decide +kernel
theorem dX11_readProgram_51 : decode cX11_readProgram 51 = .ok (.iconst 2, 1) := by decide +kernel
theorem dX11_readProgram_52 : decode cX11_readProgram 52 = .ok (.invokevirtual 168, 3) := by decide +kernel
theorem dX11_readProgram_55 : decode cX11_readProgram 55 = .ok (.aload_n 0, 1) := by decide +kernel
theorem dX11_readProgram_56 : decode cX11_readProgram 56 = .ok (.getfield 131, 3) := by decide +kernel
theorem dX11_readProgram_59 : decode cX11_readProgram 59 = .ok (.ifCond .eq 4, 3) := by decide +kernel
theorem dX11_readProgram_62 : decode cX11_readProgram 62 = .ok (.return_, 1) := by decide +kernel
theorem dX11_readProgram_63 : decode cX11_readProgram 63 = .ok (.aload_n 0, 1) := by decide +kernel
theorem dX11_readProgram_64 : decode cX11_readProgram 64 = .ok (.getfield 53, 3) := by decide +kernel
theorem dX11_readProgram_67 : decode cX11_readProgram 67 = .ok (.bipush 41, 2) := by decide +kernel
theorem dX11_readProgram_69 : decode cX11_readProgram 69 = .ok (.iload_n 1, 1) := by decide +kernel
theorem dX11_readProgram_70 : decode cX11_readProgram 70 = .ok (.imul, 1) := by decide +kernel
theorem dX11_readProgram_71 : decode cX11_readProgram 71 = .ok (.iload_n 3, 1) := by decide +kernel
theorem dX11_readProgram_72 : decode cX11_readProgram 72 = .ok (.iadd, 1) := by decide +kernel
theorem dX11_readProgram_73 : decode cX11_readProgram 73 = .ok (.aload_n 0, 1) := by decide +kernel
theorem dX11_readProgram_74 : decode cX11_readProgram 74 = .ok (.getfield 224, 3) := by decide +kernel
theorem dX11_readProgram_77 : decode cX11_readProgram 77 = .ok (.iastore, 1) := by decide +kernel
theorem dX11_readProgram_78 : decode cX11_readProgram 78 = .ok (.iconst 1, 1) := by decide +kernel
theorem dX11_readProgram_79 : decode cX11_readProgram 79 = .ok (.istore 4, 2) := by decide +kernel
theorem dX11_readProgram_81 : decode cX11_readProgram 81 = .ok (.aload_n 0, 1) := by decide +kernel
theorem dX11_readProgram_82 : decode cX11_readProgram 82 = .ok (.getfield 131, 3) := by decide +kernel
theorem dX11_readProgram_85 : decode cX11_readProgram 85 = .ok (.ifCond .ne 29, 3) := by decide +kernel
theorem dX11_readProgram_88 : decode cX11_readProgram 88 = .ok (.iload 4, 2) := by decide +kernel
theorem dX11_readProgram_90 : decode cX11_readProgram 90 = .ok (.ifCond .eq 24, 3) := by decide +kernel
theorem dX11_readProgram_93 : decode cX11_readProgram 93 = .ok (.aload_n 0, 1) := by decide +kernel
theorem dX11_readProgram_94 : decode cX11_readProgram 94 = .ok (.invokevirtual 172, 3) := by decide +kernel
theorem dX11_readProgram_97 : decode cX11_readProgram 97 = .ok (.aload_n 0, 1) := by decide +kernel
theorem dX11_readProgram_98 : decode cX11_readProgram 98 = .ok (.iload_n 1, 1) := by decide +kernel
theorem dX11_readProgram_99 : decode cX11_readProgram 99 = .ok (.iload_n 2, 1) := by decide +kernel
theorem dX11_readProgram_100 : decode cX11_readProgram 100 = .ok (.invokevirtual 227, 3) := by decide +kernel
theorem dX11_readProgram_103 : decode cX11_readProgram 103 = .ok (.aload_n 0, 1) := by decide +kernel
theorem dX11_readProgram_104 : decode cX11_readProgram 104 = .ok (.ldc 159, 2) := by decide +kernel
theorem dX11_readProgram_106 : decode cX11_readProgram 106 = .ok (.invokevirtual 149, 3) := by decide +kernel
theorem dX11_readProgram_109 : decode cX11_readProgram 109 = .ok (.istore 4, 2) := by decide +kernel
theorem dX11_readProgram_111 : decode cX11_readProgram 111 = .ok (.goto (-30), 3) := by decide +kernel
theorem dX11_readProgram_114 : decode cX11_readProgram 114 = .ok (.aload_n 0, 1) := by decide +kernel
theorem dX11_readProgram_115 : decode cX11_readProgram 115 = .ok (.getfield 131, 3) := by decide +kernel
theorem dX11_readProgram_118 : decode cX11_readProgram 118 = .ok (.ifCond .ne 17, 3) := by decide +kernel
theorem dX11_readProgram_121 : decode cX11_readProgram 121 = .ok (.aload_n 0, 1) := by decide +kernel
theorem dX11_readProgram_122 : decode cX11_readProgram 122 = .ok (.ldc 161, 2) := by decide +kernel
theorem dX11_readProgram_124 : decode cX11_readProgram 124 = .ok (.invokevirtual 149, 3) := by decide +kernel
theorem dX11_readProgram_127 : decode cX11_readProgram 127 = .ok (.ifCond .ne 8, 3) := by decide +kernel
theorem dX11_readProgram_130 : decode cX11_readProgram 130 = .ok (.aload_n 0, 1) := by decide +kernel
theorem dX11_readProgram_131 : decode cX11_readProgram 131 = .ok (.iconst 1, 1) := by decide +kernel
theorem dX11_readProgram_132 : decode cX11_readProgram 132 = .ok (.invokevirtual 168, 3) := by decide +kernel
theorem dX11_readProgram_135 : decode cX11_readProgram 135 = .ok (.aload_n 0, 1) := by decide +kernel
theorem dX11_readProgram_136 : decode cX11_readProgram 136 = .ok (.getfield 131, 3) := by decide +kernel
theorem dX11_readProgram_139 : decode cX11_readProgram 139 = .ok (.ifCond .ne 7, 3) := by decide +kernel
theorem dX11_readProgram_142 : decode cX11_readProgram 142 = .ok (.aload_n 0, 1) := by decide +kernel
theorem dX11_readProgram_143 : decode cX11_readProgram 143 = .ok (.invokevirtual 172, 3) := by decide +kernel
theorem dX11_readProgram_146 : decode cX11_readProgram 146 = .ok (.aload_n 0, 1) := by decide +kernel
theorem dX11_readProgram_147 : decode cX11_readProgram 147 = .ok (.getfield 50, 3) := by decide +kernel
theorem dX11_readProgram_150 : decode cX11_readProgram 150 = .ok (.bipush 41, 2) := by decide +kernel
theorem dX11_readProgram_152 : decode cX11_readProgram 152 = .ok (.iload_n 1, 1) := by decide +kernel
theorem dX11_readProgram_153 : decode cX11_readProgram 153 = .ok (.imul, 1) := by decide +kernel
theorem dX11_readProgram_154 : decode cX11_readProgram 154 = .ok (.iload_n 3, 1) := by decide +kernel
theorem dX11_readProgram_155 : decode cX11_readProgram 155 = .ok (.iadd, 1) := by decide +kernel
theorem dX11_readProgram_156 : decode cX11_readProgram 156 = .ok (.aload_n 0, 1) := by decide +kernel
theorem dX11_readProgram_157 : decode cX11_readProgram 157 = .ok (.iload_n 2, 1) := by decide +kernel
theorem dX11_readProgram_158 : decode cX11_readProgram 158 = .ok (.iconst 5, 1) := by decide +kernel
theorem dX11_readProgram_159 : decode cX11_readProgram 159 = .ok (.invokevirtual 202, 3) := by decide +kernel
theorem dX11_readProgram_162 : decode cX11_readProgram 162 = .ok (.iastore, 1) := by decide +kernel
theorem dX11_readProgram_163 : decode cX11_readProgram 163 = .ok (.aload_n 0, 1) := by decide +kernel
theorem dX11_readProgram_164 : decode cX11_readProgram 164 = .ok (.bipush 59, 2) := by decide +kernel
theorem dX11_readProgram_166 : decode cX11_readProgram 166 = .ok (.invokevirtual 196, 3) := by decide +kernel
theorem dX11_readProgram_169 : decode cX11_readProgram 169 = .ok (.aload_n 0, 1) := by decide +kernel
theorem dX11_readProgram_170 : decode cX11_readProgram 170 = .ok (.getfield 131, 3) := by decide +kernel
theorem dX11_readProgram_173 : decode cX11_readProgram 173 = .ok (.ifCond .ne 6, 3) := by decide +kernel
theorem dX11_readProgram_176 : decode cX11_readProgram 176 = .ok (.iinc 3 1, 3) := by decide +kernel
theorem dX11_readProgram_179 : decode cX11_readProgram 179 = .ok (.goto (-168), 3) := by decide +kernel
theorem dX11_readProgram_182 : decode cX11_readProgram 182 = .ok (.aload_n 0, 1) := by decide +kernel
theorem dX11_readProgram_183 : decode cX11_readProgram 183 = .ok (.getfield 131, 3) := by decide +kernel
theorem dX11_readProgram_186 : decode cX11_readProgram 186 = .ok (.ifCond .eq 4, 3) := by decide +kernel
theorem dX11_readProgram_189 : decode cX11_readProgram 189 = .ok (.return_, 1) := by decide +kernel
theorem dX11_readProgram_190 : decode cX11_readProgram 190 = .ok (.aload_n 0, 1) := by decide +kernel
theorem dX11_readProgram_191 : decode cX11_readProgram 191 = .ok (.invokevirtual 172, 3) := by decide +kernel
theorem dX11_readProgram_194 : decode cX11_readProgram 194 = .ok (.aload_n 0, 1) := by decide +kernel
theorem dX11_readProgram_195 : decode cX11_readProgram 195 = .ok (.getfield 53, 3) := by decide +kernel
theorem dX11_readProgram_198 : decode cX11_readProgram 198 = .ok (.bipush 41, 2) := by decide +kernel
theorem dX11_readProgram_200 : decode cX11_readProgram 200 = .ok (.iload_n 1, 1) := by decide +kernel
theorem dX11_readProgram_201 : decode cX11_readProgram 201 = .ok (.imul, 1) := by decide +kernel
theorem dX11_readProgram_202 : decode cX11_readProgram 202 = .ok (.iload_n 3, 1) := by decide +kernel
theorem dX11_readProgram_203 : decode cX11_readProgram 203 = .ok (.iadd, 1) := by decide +kernel
theorem dX11_readProgram_204 : decode cX11_readProgram 204 = .ok (.aload_n 0, 1) := by decide +kernel
theorem dX11_readProgram_205 : decode cX11_readProgram 205 = .ok (.getfield 224, 3) := by decide +kernel
theorem dX11_readProgram_208 : decode cX11_readProgram 208 = .ok (.iastore, 1) := by decide +kernel
theorem dX11_readProgram_209 : decode cX11_readProgram 209 = .ok (.aload_n 0, 1) := by decide +kernel
theorem dX11_readProgram_210 : decode cX11_readProgram 210 = .ok (.getfield 50, 3) := by decide +kernel
theorem dX11_readProgram_213 : decode cX11_readProgram 213 = .ok (.bipush 41, 2) := by decide +kernel
theorem dX11_readProgram_215 : decode cX11_readProgram 215 = .ok (.iload_n 1, 1) := by decide +kernel
theorem dX11_readProgram_216 : decode cX11_readProgram 216 = .ok (.imul, 1) := by decide +kernel
theorem dX11_readProgram_217 : decode cX11_readProgram 217 = .ok (.iload_n 3, 1) := by decide +kernel
theorem dX11_readProgram_218 : decode cX11_readProgram 218 = .ok (.iadd, 1) := by decide +kernel
theorem dX11_readProgram_219 : decode cX11_readProgram 219 = .ok (.aload_n 0, 1) := by decide +kernel
theorem dX11_readProgram_220 : decode cX11_readProgram 220 = .ok (.iload_n 2, 1) := by decide +kernel
theorem dX11_readProgram_221 : decode cX11_readProgram 221 = .ok (.iconst 5, 1) := by decide +kernel
theorem dX11_readProgram_222 : decode cX11_readProgram 222 = .ok (.invokevirtual 202, 3) := by decide +kernel
theorem dX11_readProgram_225 : decode cX11_readProgram 225 = .ok (.iastore, 1) := by decide +kernel
theorem dX11_readProgram_226 : decode cX11_readProgram 226 = .ok (.aload_n 0, 1) := by decide +kernel
theorem dX11_readProgram_227 : decode cX11_readProgram 227 = .ok (.bipush 59, 2) := by decide +kernel
theorem dX11_readProgram_229 : decode cX11_readProgram 229 = .ok (.invokevirtual 196, 3) := by decide +kernel
theorem dX11_readProgram_232 : decode cX11_readProgram 232 = .ok (.aload_n 0, 1) := by decide +kernel
theorem dX11_readProgram_233 : decode cX11_readProgram 233 = .ok (.getfield 131, 3) := by decide +kernel
theorem dX11_readProgram_236 : decode cX11_readProgram 236 = .ok (.ifCond .ne 15, 3) := by decide +kernel
theorem dX11_readProgram_239 : decode cX11_readProgram 239 = .ok (.aload_n 0, 1) := by decide +kernel
theorem dX11_readProgram_240 : decode cX11_readProgram 240 = .ok (.getfield 121, 3) := by decide +kernel
theorem dX11_readProgram_243 : decode cX11_readProgram 243 = .ok (.ifCond .eq 8, 3) := by decide +kernel
theorem dX11_readProgram_246 : decode cX11_readProgram 246 = .ok (.aload_n 0, 1) := by decide +kernel
theorem dX11_readProgram_247 : decode cX11_readProgram 247 = .ok (.iconst 1, 1) := by decide +kernel
theorem dX11_readProgram_248 : decode cX11_readProgram 248 = .ok (.invokevirtual 168, 3) := by decide +kernel
theorem dX11_readProgram_251 : decode cX11_readProgram 251 = .ok (.aload_n 0, 1) := by decide +kernel
theorem dX11_readProgram_252 : decode cX11_readProgram 252 = .ok (.getfield 47, 3) := by decide +kernel
theorem dX11_readProgram_255 : decode cX11_readProgram 255 = .ok (.iload_n 1, 1) := by decide +kernel
theorem dX11_readProgram_256 : decode cX11_readProgram 256 = .ok (.iload_n 3, 1) := by decide +kernel
theorem dX11_readProgram_257 : decode cX11_readProgram 257 = .ok (.iastore, 1) := by decide +kernel
theorem dX11_readProgram_258 : decode cX11_readProgram 258 = .ok (.return_, 1) := by decide +kernel
theorem dX11_program_0 : decode cX11_program 0 = .ok (.aload_n 0, 1) := by decide +kernel
theorem dX11_program_1 : decode cX11_program 1 = .ok (.iconst 0, 1) := by decide +kernel
theorem dX11_program_2 : decode cX11_program 2 = .ok (.putfield 96, 3) := by decide +kernel
theorem dX11_program_5 : decode cX11_program 5 = .ok (.aload_n 0, 1) := by decide +kernel
theorem dX11_program_6 : decode cX11_program 6 = .ok (.iload_n 1, 1) := by decide +kernel
theorem dX11_program_7 : decode cX11_program 7 = .ok (.invokevirtual 231, 3) := by decide +kernel
theorem dX11_program_10 : decode cX11_program 10 = .ok (.ifCond .ne 8, 3) := by decide +kernel
theorem dX11_program_13 : decode cX11_program 13 = .ok (.aload_n 0, 1) := by decide +kernel
theorem dX11_program_14 : decode cX11_program 14 = .ok (.invokevirtual 215, 3) := by decide +kernel
theorem dX11_program_17 : decode cX11_program 17 = .ok (.ireturn, 1) := by decide +kernel
theorem dX11_program_18 : decode cX11_program 18 = .ok (.iload_n 2, 1) := by decide +kernel
theorem dX11_program_19 : decode cX11_program 19 = .ok (.ifCond .lt 11, 3) := by decide +kernel
theorem dX11_program_22 : decode cX11_program 22 = .ok (.iload_n 2, 1) := by decide +kernel
theorem dX11_program_23 : decode cX11_program 23 = .ok (.aload_n 0, 1) := by decide +kernel
theorem dX11_program_24 : decode cX11_program 24 = .ok (.getfield 102, 3) := by decide +kernel
theorem dX11_program_27 : decode cX11_program 27 = .ok (.if_icmp .le 10, 3) := by decide +kernel
theorem dX11_program_30 : decode cX11_program 30 = .ok (.aload_n 0, 1) := by decide +kernel
theorem dX11_program_31 : decode cX11_program 31 = .ok (.iconst 2, 1) := by decide +kernel
theorem dX11_program_32 : decode cX11_program 32 = .ok (.putfield 96, 3) := by decide +kernel
theorem dX11_program_35 : decode cX11_program 35 = .ok (.iconst 0, 1) := by decide +kernel
theorem dX11_program_36 : decode cX11_program 36 = .ok (.ireturn, 1) := by decide +kernel
theorem dX11_program_37 : decode cX11_program 37 = .ok (.aload_n 0, 1) := by decide +kernel
theorem dX11_program_38 : decode cX11_program 38 = .ok (.iconst 0, 1) := by decide +kernel
theorem dX11_program_39 : decode cX11_program 39 = .ok (.putfield 102, 3) := by decide +kernel
theorem dX11_program_42 : decode cX11_program 42 = .ok (.aload_n 0, 1) := by decide +kernel
theorem dX11_program_43 : decode cX11_program 43 = .ok (.iconst (-1), 1) := by decide +kernel
theorem dX11_program_44 : decode cX11_program 44 = .ok (.putfield 16, 3) := by decide +kernel
theorem dX11_program_47 : decode cX11_program 47 = .ok (.aload_n 0, 1) := by decide +kernel
theorem dX11_program_48 : decode cX11_program 48 = .ok (.getfield 234, 3) := by decide +kernel
theorem dX11_program_51 : decode cX11_program 51 = .ok (.bipush 12, 2) := by decide +kernel
theorem dX11_program_53 : decode cX11_program 53 = .ok (.if_icmp .ne 6, 3) := by decide +kernel
theorem dX11_program_56 : decode cX11_program 56 = .ok (.bipush (-9), 2) := by decide +kernel
theorem dX11_program_58 : decode cX11_program 58 = .ok (.ireturn, 1) := by decide +kernel
theorem dX11_program_59 : decode cX11_program 59 = .ok (.aload_n 0, 1) := by decide +kernel
theorem dX11_program_60 : decode cX11_program 60 = .ok (.iload_n 2, 1) := by decide +kernel
theorem dX11_program_61 : decode cX11_program 61 = .ok (.putfield 105, 3) := by decide +kernel
theorem dX11_program_64 : decode cX11_program 64 = .ok (.aload_n 0, 1) := by decide +kernel
theorem dX11_program_65 : decode cX11_program 65 = .ok (.iconst 0, 1) := by decide +kernel
theorem dX11_program_66 : decode cX11_program 66 = .ok (.putfield 108, 3) := by decide +kernel
theorem dX11_program_69 : decode cX11_program 69 = .ok (.aload_n 0, 1) := by decide +kernel
theorem dX11_program_70 : decode cX11_program 70 = .ok (.iconst 0, 1) := by decide +kernel
theorem dX11_program_71 : decode cX11_program 71 = .ok (.putfield 131, 3) := by decide +kernel
theorem dX11_program_74 : decode cX11_program 74 = .ok (.aload_n 0, 1) := by decide +kernel
theorem dX11_program_75 : decode cX11_program 75 = .ok (.aload_n 0, 1) := by decide +kernel
theorem dX11_program_76 : decode cX11_program 76 = .ok (.getfield 234, 3) := by decide +kernel
theorem dX11_program_79 : decode cX11_program 79 = .ok (.iload_n 1, 1) := by decide +kernel
theorem dX11_program_80 : decode cX11_program 80 = .ok (.invokevirtual 237, 3) := by decide +kernel
theorem dX11_program_83 : decode cX11_program 83 = .ok (.aload_n 0, 1) := by decide +kernel
theorem dX11_program_84 : decode cX11_program 84 = .ok (.getfield 131, 3) := by decide +kernel
theorem dX11_program_87 : decode cX11_program 87 = .ok (.ifCond .eq 18, 3) := by decide +kernel
theorem dX11_program_90 : decode cX11_program 90 = .ok (.aload_n 0, 1) := by decide +kernel
theorem dX11_program_91 : decode cX11_program 91 = .ok (.aload_n 0, 1) := by decide +kernel
theorem dX11_program_92 : decode cX11_program 92 = .ok (.getfield 134, 3) := by decide +kernel
theorem dX11_program_95 : decode cX11_program 95 = .ok (.putfield 16, 3) := by decide +kernel
theorem dX11_program_98 : decode cX11_program 98 = .ok (.iconst (-1), 1) := by decide +kernel
theorem dX11_program_99 : decode cX11_program 99 = .ok (.aload_n 0, 1) := by decide +kernel
theorem dX11_program_100 : decode cX11_program 100 = .ok (.getfield 131, 3) := by decide +kernel
theorem dX11_program_103 : decode cX11_program 103 = .ok (.isub, 1) := by decide +kernel
theorem dX11_program_104 : decode cX11_program 104 = .ok (.ireturn, 1) := by decide +kernel
theorem dX11_program_105 : decode cX11_program 105 = .ok (.aload_n 0, 1) := by decide +kernel
theorem dX11_program_106 : decode cX11_program 106 = .ok (.getfield 44, 3) := by decide +kernel
theorem dX11_program_109 : decode cX11_program 109 = .ok (.aload_n 0, 1) := by decide +kernel
theorem dX11_program_110 : decode cX11_program 110 = .ok (.getfield 234, 3) := by decide +kernel
theorem dX11_program_113 : decode cX11_program 113 = .ok (.iload_n 1, 1) := by decide +kernel
theorem dX11_program_114 : decode cX11_program 114 = .ok (.iastore, 1) := by decide +kernel
theorem dX11_program_115 : decode cX11_program 115 = .ok (.aload_n 0, 1) := by decide +kernel
theorem dX11_program_116 : decode cX11_program 116 = .ok (.dup, 1) := by decide +kernel
theorem dX11_program_117 : decode cX11_program 117 = .ok (.getfield 234, 3) := by decide +kernel
theorem dX11_program_120 : decode cX11_program 120 = .ok (.iconst 1, 1) := by decide +kernel
theorem dX11_program_121 : decode cX11_program 121 = .ok (.iadd, 1) := by decide +kernel
theorem dX11_program_122 : decode cX11_program 122 = .ok (.putfield 234, 3) := by decide +kernel
theorem dX11_program_125 : decode cX11_program 125 = .ok (.aload_n 0, 1) := by decide +kernel
theorem dX11_program_126 : decode cX11_program 126 = .ok (.getfield 234, 3) := by decide +kernel
theorem dX11_program_129 : decode cX11_program 129 = .ok (.iconst 1, 1) := by decide +kernel
theorem dX11_program_130 : decode cX11_program 130 = .ok (.isub, 1) := by decide +kernel
theorem dX11_program_131 : decode cX11_program 131 = .ok (.ireturn, 1) := by decide +kernel
theorem dX11_fault_0 : decode cX11_fault 0 = .ok (.aload_n 0, 1) := by decide +kernel
theorem dX11_fault_1 : decode cX11_fault 1 = .ok (.iconst 0, 1) := by decide +kernel
theorem dX11_fault_2 : decode cX11_fault 2 = .ok (.putfield 96, 3) := by decide +kernel
theorem dX11_fault_5 : decode cX11_fault 5 = .ok (.aload_n 0, 1) := by decide +kernel
theorem dX11_fault_6 : decode cX11_fault 6 = .ok (.getfield 16, 3) := by decide +kernel
theorem dX11_fault_9 : decode cX11_fault 9 = .ok (.ireturn, 1) := by decide +kernel
theorem dX11_valueOf_0 : decode cX11_valueOf 0 = .ok (.iload_n 2, 1) := by decide +kernel
theorem dX11_valueOf_1 : decode cX11_valueOf 1 = .ok (.istore 4, 2) := by decide +kernel
theorem dX11_valueOf_3 : decode cX11_valueOf 3 = .ok (.aload_n 0, 1) := by decide +kernel
theorem dX11_valueOf_4 : decode cX11_valueOf 4 = .ok (.getfield 20, 3) := by decide +kernel
theorem dX11_valueOf_7 : decode cX11_valueOf 7 = .ok (.iload_n 1, 1) := by decide +kernel
theorem dX11_valueOf_8 : decode cX11_valueOf 8 = .ok (.iaload, 1) := by decide +kernel
theorem dX11_valueOf_9 : decode cX11_valueOf 9 = .ok (.iconst 1, 1) := by decide +kernel
theorem dX11_valueOf_10 : decode cX11_valueOf 10 = .ok (.isub, 1) := by decide +kernel
theorem dX11_valueOf_11 : decode cX11_valueOf 11 = .ok (.istore 5, 2) := by decide +kernel
theorem dX11_valueOf_13 : decode cX11_valueOf 13 = .ok (.iload 5, 2) := by decide +kernel
theorem dX11_valueOf_15 : decode cX11_valueOf 15 = .ok (.iload_n 3, 1) := by decide +kernel
theorem dX11_valueOf_16 : decode cX11_valueOf 16 = .ok (.if_icmp .le 26, 3) := by decide +kernel
theorem dX11_valueOf_19 : decode cX11_valueOf 19 = .ok (.iload 4, 2) := by decide +kernel
theorem dX11_valueOf_21 : decode cX11_valueOf 21 = .ok (.aload_n 0, 1) := by decide +kernel
theorem dX11_valueOf_22 : decode cX11_valueOf 22 = .ok (.getfield 26, 3) := by decide +kernel
theorem dX11_valueOf_25 : decode cX11_valueOf 25 = .ok (.bipush 6, 2) := by decide +kernel
theorem dX11_valueOf_27 : decode cX11_valueOf 27 = .ok (.iload_n 1, 1) := by decide +kernel
theorem dX11_valueOf_28 : decode cX11_valueOf 28 = .ok (.imul, 1) := by decide +kernel
theorem dX11_valueOf_29 : decode cX11_valueOf 29 = .ok (.iload 5, 2) := by decide +kernel
theorem dX11_valueOf_31 : decode cX11_valueOf 31 = .ok (.iadd, 1) := by decide +kernel
theorem dX11_valueOf_32 : decode cX11_valueOf 32 = .ok (.iaload, 1) := by decide +kernel
theorem dX11_valueOf_33 : decode cX11_valueOf 33 = .ok (.idiv, 1) := by decide +kernel
theorem dX11_valueOf_34 : decode cX11_valueOf 34 = .ok (.istore 4, 2) := by decide +kernel
theorem dX11_valueOf_36 : decode cX11_valueOf 36 = .ok (.iinc 5 (-1), 3) := by decide +kernel
theorem dX11_valueOf_39 : decode cX11_valueOf 39 = .ok (.goto (-26), 3) := by decide +kernel
theorem dX11_valueOf_42 : decode cX11_valueOf 42 = .ok (.iload 4, 2) := by decide +kernel
theorem dX11_valueOf_44 : decode cX11_valueOf 44 = .ok (.aload_n 0, 1) := by decide +kernel
theorem dX11_valueOf_45 : decode cX11_valueOf 45 = .ok (.getfield 26, 3) := by decide +kernel
theorem dX11_valueOf_48 : decode cX11_valueOf 48 = .ok (.bipush 6, 2) := by decide +kernel
theorem dX11_valueOf_50 : decode cX11_valueOf 50 = .ok (.iload_n 1, 1) := by decide +kernel
theorem dX11_valueOf_51 : decode cX11_valueOf 51 = .ok (.imul, 1) := by decide +kernel
theorem dX11_valueOf_52 : decode cX11_valueOf 52 = .ok (.iload_n 3, 1) := by decide +kernel
theorem dX11_valueOf_53 : decode cX11_valueOf 53 = .ok (.iadd, 1) := by decide +kernel
theorem dX11_valueOf_54 : decode cX11_valueOf 54 = .ok (.iaload, 1) := by decide +kernel
theorem dX11_valueOf_55 : decode cX11_valueOf 55 = .ok (.irem, 1) := by decide +kernel
theorem dX11_valueOf_56 : decode cX11_valueOf 56 = .ok (.ireturn, 1) := by decide +kernel
theorem dX11_fits_0 : decode cX11_fits 0 = .ok (.iconst 1, 1) := by decide +kernel
theorem dX11_fits_1 : decode cX11_fits 1 = .ok (.istore 4, 2) := by decide +kernel
theorem dX11_fits_3 : decode cX11_fits 3 = .ok (.iconst 0, 1) := by decide +kernel
theorem dX11_fits_4 : decode cX11_fits 4 = .ok (.istore 5, 2) := by decide +kernel
theorem dX11_fits_6 : decode cX11_fits 6 = .ok (.iload 5, 2) := by decide +kernel
theorem dX11_fits_8 : decode cX11_fits 8 = .ok (.aload_n 0, 1) := by decide +kernel
theorem dX11_fits_9 : decode cX11_fits 9 = .ok (.getfield 20, 3) := by decide +kernel
theorem dX11_fits_12 : decode cX11_fits 12 = .ok (.iload_n 1, 1) := by decide +kernel
theorem dX11_fits_13 : decode cX11_fits 13 = .ok (.iaload, 1) := by decide +kernel
theorem dX11_fits_14 : decode cX11_fits 14 = .ok (.if_icmp .ge 52, 3) := by decide +kernel
theorem dX11_fits_17 : decode cX11_fits 17 = .ok (.iload 4, 2) := by decide +kernel
theorem dX11_fits_19 : decode cX11_fits 19 = .ok (.ifCond .eq 47, 3) := by decide +kernel
theorem dX11_fits_22 : decode cX11_fits 22 = .ok (.aload_n 0, 1) := by decide +kernel
theorem dX11_fits_23 : decode cX11_fits 23 = .ok (.getfield 35, 3) := by decide +kernel
theorem dX11_fits_26 : decode cX11_fits 26 = .ok (.iconst 5, 1) := by decide +kernel
theorem dX11_fits_27 : decode cX11_fits 27 = .ok (.bipush 40, 2) := by decide +kernel
theorem dX11_fits_29 : decode cX11_fits 29 = .ok (.iload_n 1, 1) := by decide +kernel
theorem dX11_fits_30 : decode cX11_fits 30 = .ok (.imul, 1) := by decide +kernel
theorem dX11_fits_31 : decode cX11_fits 31 = .ok (.iload_n 2, 1) := by decide +kernel
theorem dX11_fits_32 : decode cX11_fits 32 = .ok (.iadd, 1) := by decide +kernel
theorem dX11_fits_33 : decode cX11_fits 33 = .ok (.imul, 1) := by decide +kernel
theorem dX11_fits_34 : decode cX11_fits 34 = .ok (.iload 5, 2) := by decide +kernel
theorem dX11_fits_36 : decode cX11_fits 36 = .ok (.iadd, 1) := by decide +kernel
theorem dX11_fits_37 : decode cX11_fits 37 = .ok (.iaload, 1) := by decide +kernel
theorem dX11_fits_38 : decode cX11_fits 38 = .ok (.aload_n 0, 1) := by decide +kernel
theorem dX11_fits_39 : decode cX11_fits 39 = .ok (.iload_n 1, 1) := by decide +kernel
theorem dX11_fits_40 : decode cX11_fits 40 = .ok (.iload_n 3, 1) := by decide +kernel
theorem dX11_fits_41 : decode cX11_fits 41 = .ok (.iload 5, 2) := by decide +kernel
theorem dX11_fits_43 : decode cX11_fits 43 = .ok (.invokevirtual 240, 3) := by decide +kernel
theorem dX11_fits_46 : decode cX11_fits 46 = .ok (.ishr, 1) := by decide +kernel
theorem dX11_fits_47 : decode cX11_fits 47 = .ok (.iconst 1, 1) := by decide +kernel
theorem dX11_fits_48 : decode cX11_fits 48 = .ok (.iand, 1) := by decide +kernel
theorem dX11_fits_49 : decode cX11_fits 49 = .ok (.iconst 1, 1) := by decide +kernel
theorem dX11_fits_50 : decode cX11_fits 50 = .ok (.if_icmp .ne 7, 3) := by decide +kernel
theorem dX11_fits_53 : decode cX11_fits 53 = .ok (.iconst 1, 1) := by decide +kernel
theorem dX11_fits_54 : decode cX11_fits 54 = .ok (.goto 4, 3) := by decide +kernel
theorem dX11_fits_57 : decode cX11_fits 57 = .ok (.iconst 0, 1) := by decide +kernel
theorem dX11_fits_58 : decode cX11_fits 58 = .ok (.istore 4, 2) := by decide +kernel
theorem dX11_fits_60 : decode cX11_fits 60 = .ok (.iinc 5 1, 3) := by decide +kernel
theorem dX11_fits_63 : decode cX11_fits 63 = .ok (.goto (-57), 3) := by decide +kernel
theorem dX11_fits_66 : decode cX11_fits 66 = .ok (.iload 4, 2) := by decide +kernel
theorem dX11_fits_68 : decode cX11_fits 68 = .ok (.ireturn, 1) := by decide +kernel
theorem dX11_firstRow_0 : decode cX11_firstRow 0 = .ok (.iconst 0, 1) := by decide +kernel
theorem dX11_firstRow_1 : decode cX11_firstRow 1 = .ok (.istore 4, 2) := by decide +kernel
theorem dX11_firstRow_3 : decode cX11_firstRow 3 = .ok (.iload 4, 2) := by decide +kernel
theorem dX11_firstRow_5 : decode cX11_firstRow 5 = .ok (.aload_n 0, 1) := by decide +kernel
theorem dX11_firstRow_6 : decode cX11_firstRow 6 = .ok (.getfield 23, 3) := by decide +kernel
theorem dX11_firstRow_9 : decode cX11_firstRow 9 = .ok (.iload_n 1, 1) := by decide +kernel
theorem dX11_firstRow_10 : decode cX11_firstRow 10 = .ok (.iaload, 1) := by decide +kernel
theorem dX11_firstRow_11 : decode cX11_firstRow 11 = .ok (.if_icmp .ge 29, 3) := by decide +kernel
theorem dX11_firstRow_14 : decode cX11_firstRow 14 = .ok (.iload 4, 2) := by decide +kernel
theorem dX11_firstRow_16 : decode cX11_firstRow 16 = .ok (.iload_n 3, 1) := by decide +kernel
theorem dX11_firstRow_17 : decode cX11_firstRow 17 = .ok (.if_icmp .eq 17, 3) := by decide +kernel
theorem dX11_firstRow_20 : decode cX11_firstRow 20 = .ok (.aload_n 0, 1) := by decide +kernel
theorem dX11_firstRow_21 : decode cX11_firstRow 21 = .ok (.iload_n 1, 1) := by decide +kernel
theorem dX11_firstRow_22 : decode cX11_firstRow 22 = .ok (.iload 4, 2) := by decide +kernel
theorem dX11_firstRow_24 : decode cX11_firstRow 24 = .ok (.iload_n 2, 1) := by decide +kernel
theorem dX11_firstRow_25 : decode cX11_firstRow 25 = .ok (.invokevirtual 243, 3) := by decide +kernel
theorem dX11_firstRow_28 : decode cX11_firstRow 28 = .ok (.ifCond .eq 6, 3) := by decide +kernel
theorem dX11_firstRow_31 : decode cX11_firstRow 31 = .ok (.iload 4, 2) := by decide +kernel
theorem dX11_firstRow_33 : decode cX11_firstRow 33 = .ok (.ireturn, 1) := by decide +kernel
theorem dX11_firstRow_34 : decode cX11_firstRow 34 = .ok (.iinc 4 1, 3) := by decide +kernel
theorem dX11_firstRow_37 : decode cX11_firstRow 37 = .ok (.goto (-34), 3) := by decide +kernel
theorem dX11_firstRow_40 : decode cX11_firstRow 40 = .ok (.iconst (-1), 1) := by decide +kernel
theorem dX11_firstRow_41 : decode cX11_firstRow 41 = .ok (.ireturn, 1) := by decide +kernel
theorem dX11_told0_0 : decode cX11_told0 0 = .ok (.iload_n 2, 1) := by decide +kernel
theorem dX11_told0_1 : decode cX11_told0 1 = .ok (.iconst (-1), 1) := by decide +kernel
theorem dX11_told0_2 : decode cX11_told0 2 = .ok (.if_icmp .ne 7, 3) := by decide +kernel
theorem dX11_told0_5 : decode cX11_told0 5 = .ok (.iconst (-1), 1) := by decide +kernel
theorem dX11_told0_6 : decode cX11_told0 6 = .ok (.goto 14, 3) := by decide +kernel
theorem dX11_told0_9 : decode cX11_told0 9 = .ok (.aload_n 0, 1) := by decide +kernel
theorem dX11_told0_10 : decode cX11_told0 10 = .ok (.getfield 38, 3) := by decide +kernel
theorem dX11_told0_13 : decode cX11_told0 13 = .ok (.bipush 40, 2) := by decide +kernel
theorem dX11_told0_15 : decode cX11_told0 15 = .ok (.iload_n 1, 1) := by decide +kernel
theorem dX11_told0_16 : decode cX11_told0 16 = .ok (.imul, 1) := by decide +kernel
theorem dX11_told0_17 : decode cX11_told0 17 = .ok (.iload_n 2, 1) := by decide +kernel
theorem dX11_told0_18 : decode cX11_told0 18 = .ok (.iadd, 1) := by decide +kernel
theorem dX11_told0_19 : decode cX11_told0 19 = .ok (.iaload, 1) := by decide +kernel
theorem dX11_told0_20 : decode cX11_told0 20 = .ok (.ireturn, 1) := by decide +kernel
theorem dX11_answerOf_0 : decode cX11_answerOf 0 = .ok (.aload_n 0, 1) := by decide +kernel
theorem dX11_answerOf_1 : decode cX11_answerOf 1 = .ok (.iload_n 1, 1) := by decide +kernel
theorem dX11_answerOf_2 : decode cX11_answerOf 2 = .ok (.aload_n 0, 1) := by decide +kernel
theorem dX11_answerOf_3 : decode cX11_answerOf 3 = .ok (.getfield 41, 3) := by decide +kernel
theorem dX11_answerOf_6 : decode cX11_answerOf 6 = .ok (.sipush 400, 3) := by decide +kernel
theorem dX11_answerOf_9 : decode cX11_answerOf 9 = .ok (.iload_n 1, 1) := by decide +kernel
theorem dX11_answerOf_10 : decode cX11_answerOf 10 = .ok (.imul, 1) := by decide +kernel
theorem dX11_answerOf_11 : decode cX11_answerOf 11 = .ok (.iload_n 2, 1) := by decide +kernel
theorem dX11_answerOf_12 : decode cX11_answerOf 12 = .ok (.iadd, 1) := by decide +kernel
theorem dX11_answerOf_13 : decode cX11_answerOf 13 = .ok (.iaload, 1) := by decide +kernel
theorem dX11_answerOf_14 : decode cX11_answerOf 14 = .ok (.invokevirtual 247, 3) := by decide +kernel
theorem dX11_answerOf_17 : decode cX11_answerOf 17 = .ok (.ireturn, 1) := by decide +kernel
theorem dX11_isIdle_0 : decode cX11_isIdle 0 = .ok (.iconst 0, 1) := by decide +kernel
theorem dX11_isIdle_1 : decode cX11_isIdle 1 = .ok (.istore_n 3, 1) := by decide +kernel
theorem dX11_isIdle_2 : decode cX11_isIdle 2 = .ok (.iload_n 3, 1) := by decide +kernel
theorem dX11_isIdle_3 : decode cX11_isIdle 3 = .ok (.aload_n 0, 1) := by decide +kernel
theorem dX11_isIdle_4 : decode cX11_isIdle 4 = .ok (.iload_n 1, 1) := by decide +kernel
theorem dX11_isIdle_5 : decode cX11_isIdle 5 = .ok (.invokevirtual 205, 3) := by decide +kernel
theorem dX11_isIdle_8 : decode cX11_isIdle 8 = .ok (.if_icmp .ge 53, 3) := by decide +kernel
theorem dX11_isIdle_11 : decode cX11_isIdle 11 = .ok (.aload_n 0, 1) := by decide +kernel
theorem dX11_isIdle_12 : decode cX11_isIdle 12 = .ok (.getfield 41, 3) := by decide +kernel
theorem dX11_isIdle_15 : decode cX11_isIdle 15 = .ok (.sipush 400, 3) := by decide +kernel
theorem dX11_isIdle_18 : decode cX11_isIdle 18 = .ok (.iload_n 1, 1) := by decide +kernel
theorem dX11_isIdle_19 : decode cX11_isIdle 19 = .ok (.imul, 1) := by decide +kernel
theorem dX11_isIdle_20 : decode cX11_isIdle 20 = .ok (.iload_n 3, 1) := by decide +kernel
theorem dX11_isIdle_21 : decode cX11_isIdle 21 = .ok (.iadd, 1) := by decide +kernel
theorem dX11_isIdle_22 : decode cX11_isIdle 22 = .ok (.iaload, 1) := by decide +kernel
theorem dX11_isIdle_23 : decode cX11_isIdle 23 = .ok (.iload_n 2, 1) := by decide +kernel
theorem dX11_isIdle_24 : decode cX11_isIdle 24 = .ok (.if_icmp .ne 31, 3) := by decide +kernel
theorem dX11_isIdle_27 : decode cX11_isIdle 27 = .ok (.aload_n 0, 1) := by decide +kernel
theorem dX11_isIdle_28 : decode cX11_isIdle 28 = .ok (.iload_n 1, 1) := by decide +kernel
theorem dX11_isIdle_29 : decode cX11_isIdle 29 = .ok (.aload_n 0, 1) := by decide +kernel
theorem dX11_isIdle_30 : decode cX11_isIdle 30 = .ok (.iload_n 1, 1) := by decide +kernel
theorem dX11_isIdle_31 : decode cX11_isIdle 31 = .ok (.iload_n 3, 1) := by decide +kernel
theorem dX11_isIdle_32 : decode cX11_isIdle 32 = .ok (.iload_n 2, 1) := by decide +kernel
theorem dX11_isIdle_33 : decode cX11_isIdle 33 = .ok (.invokevirtual 221, 3) := by decide +kernel
theorem dX11_isIdle_36 : decode cX11_isIdle 36 = .ok (.invokevirtual 247, 3) := by decide +kernel
theorem dX11_isIdle_39 : decode cX11_isIdle 39 = .ok (.aload_n 0, 1) := by decide +kernel
theorem dX11_isIdle_40 : decode cX11_isIdle 40 = .ok (.getfield 38, 3) := by decide +kernel
theorem dX11_isIdle_43 : decode cX11_isIdle 43 = .ok (.bipush 40, 2) := by decide +kernel
theorem dX11_isIdle_45 : decode cX11_isIdle 45 = .ok (.iload_n 1, 1) := by decide +kernel
theorem dX11_isIdle_46 : decode cX11_isIdle 46 = .ok (.imul, 1) := by decide +kernel
theorem dX11_isIdle_47 : decode cX11_isIdle 47 = .ok (.iload_n 2, 1) := by decide +kernel
theorem dX11_isIdle_48 : decode cX11_isIdle 48 = .ok (.iadd, 1) := by decide +kernel
theorem dX11_isIdle_49 : decode cX11_isIdle 49 = .ok (.iaload, 1) := by decide +kernel
theorem dX11_isIdle_50 : decode cX11_isIdle 50 = .ok (.if_icmp .eq 5, 3) := by decide +kernel
theorem dX11_isIdle_53 : decode cX11_isIdle 53 = .ok (.iconst 0, 1) := by decide +kernel
theorem dX11_isIdle_54 : decode cX11_isIdle 54 = .ok (.ireturn, 1) := by decide +kernel
theorem dX11_isIdle_55 : decode cX11_isIdle 55 = .ok (.iinc 3 1, 3) := by decide +kernel
theorem dX11_isIdle_58 : decode cX11_isIdle 58 = .ok (.goto (-56), 3) := by decide +kernel
theorem dX11_isIdle_61 : decode cX11_isIdle 61 = .ok (.iconst 1, 1) := by decide +kernel
theorem dX11_isIdle_62 : decode cX11_isIdle 62 = .ok (.ireturn, 1) := by decide +kernel
theorem dX11_quarrelAt_0 : decode cX11_quarrelAt 0 = .ok (.aload_n 0, 1) := by decide +kernel
theorem dX11_quarrelAt_1 : decode cX11_quarrelAt 1 = .ok (.getfield 38, 3) := by decide +kernel
theorem dX11_quarrelAt_4 : decode cX11_quarrelAt 4 = .ok (.bipush 40, 2) := by decide +kernel
theorem dX11_quarrelAt_6 : decode cX11_quarrelAt 6 = .ok (.iload_n 1, 1) := by decide +kernel
theorem dX11_quarrelAt_7 : decode cX11_quarrelAt 7 = .ok (.imul, 1) := by decide +kernel
theorem dX11_quarrelAt_8 : decode cX11_quarrelAt 8 = .ok (.iload_n 2, 1) := by decide +kernel
theorem dX11_quarrelAt_9 : decode cX11_quarrelAt 9 = .ok (.iadd, 1) := by decide +kernel
theorem dX11_quarrelAt_10 : decode cX11_quarrelAt 10 = .ok (.iaload, 1) := by decide +kernel
theorem dX11_quarrelAt_11 : decode cX11_quarrelAt 11 = .ok (.aload_n 0, 1) := by decide +kernel
theorem dX11_quarrelAt_12 : decode cX11_quarrelAt 12 = .ok (.getfield 38, 3) := by decide +kernel
theorem dX11_quarrelAt_15 : decode cX11_quarrelAt 15 = .ok (.bipush 40, 2) := by decide +kernel
theorem dX11_quarrelAt_17 : decode cX11_quarrelAt 17 = .ok (.iload_n 1, 1) := by decide +kernel
theorem dX11_quarrelAt_18 : decode cX11_quarrelAt 18 = .ok (.imul, 1) := by decide +kernel
theorem dX11_quarrelAt_19 : decode cX11_quarrelAt 19 = .ok (.iload_n 3, 1) := by decide +kernel
theorem dX11_quarrelAt_20 : decode cX11_quarrelAt 20 = .ok (.iadd, 1) := by decide +kernel
theorem dX11_quarrelAt_21 : decode cX11_quarrelAt 21 = .ok (.iaload, 1) := by decide +kernel
theorem dX11_quarrelAt_22 : decode cX11_quarrelAt 22 = .ok (.if_icmp .ne 5, 3) := by decide +kernel
theorem dX11_quarrelAt_25 : decode cX11_quarrelAt 25 = .ok (.iconst (-1), 1) := by decide +kernel
theorem dX11_quarrelAt_26 : decode cX11_quarrelAt 26 = .ok (.ireturn, 1) := by decide +kernel
theorem dX11_quarrelAt_27 : decode cX11_quarrelAt 27 = .ok (.iconst 0, 1) := by decide +kernel
theorem dX11_quarrelAt_28 : decode cX11_quarrelAt 28 = .ok (.istore 4, 2) := by decide +kernel
theorem dX11_quarrelAt_30 : decode cX11_quarrelAt 30 = .ok (.iload 4, 2) := by decide +kernel
theorem dX11_quarrelAt_32 : decode cX11_quarrelAt 32 = .ok (.aload_n 0, 1) := by decide +kernel
theorem dX11_quarrelAt_33 : decode cX11_quarrelAt 33 = .ok (.iload_n 1, 1) := by decide +kernel
theorem dX11_quarrelAt_34 : decode cX11_quarrelAt 34 = .ok (.invokevirtual 205, 3) := by decide +kernel
theorem dX11_quarrelAt_37 : decode cX11_quarrelAt 37 = .ok (.if_icmp .ge 34, 3) := by decide +kernel
theorem dX11_quarrelAt_40 : decode cX11_quarrelAt 40 = .ok (.aload_n 0, 1) := by decide +kernel
theorem dX11_quarrelAt_41 : decode cX11_quarrelAt 41 = .ok (.iload_n 1, 1) := by decide +kernel
theorem dX11_quarrelAt_42 : decode cX11_quarrelAt 42 = .ok (.iload_n 2, 1) := by decide +kernel
theorem dX11_quarrelAt_43 : decode cX11_quarrelAt 43 = .ok (.iload 4, 2) := by decide +kernel
theorem dX11_quarrelAt_45 : decode cX11_quarrelAt 45 = .ok (.invokevirtual 243, 3) := by decide +kernel
theorem dX11_quarrelAt_48 : decode cX11_quarrelAt 48 = .ok (.ifCond .eq 17, 3) := by decide +kernel
theorem dX11_quarrelAt_51 : decode cX11_quarrelAt 51 = .ok (.aload_n 0, 1) := by decide +kernel
theorem dX11_quarrelAt_52 : decode cX11_quarrelAt 52 = .ok (.iload_n 1, 1) := by decide +kernel
theorem dX11_quarrelAt_53 : decode cX11_quarrelAt 53 = .ok (.iload_n 3, 1) := by decide +kernel
theorem dX11_quarrelAt_54 : decode cX11_quarrelAt 54 = .ok (.iload 4, 2) := by decide +kernel
theorem dX11_quarrelAt_56 : decode cX11_quarrelAt 56 = .ok (.invokevirtual 243, 3) := by decide +kernel
theorem dX11_quarrelAt_59 : decode cX11_quarrelAt 59 = .ok (.ifCond .eq 6, 3) := by decide +kernel
theorem dX11_quarrelAt_62 : decode cX11_quarrelAt 62 = .ok (.iload 4, 2) := by decide +kernel
theorem dX11_quarrelAt_64 : decode cX11_quarrelAt 64 = .ok (.ireturn, 1) := by decide +kernel
theorem dX11_quarrelAt_65 : decode cX11_quarrelAt 65 = .ok (.iinc 4 1, 3) := by decide +kernel
theorem dX11_quarrelAt_68 : decode cX11_quarrelAt 68 = .ok (.goto (-38), 3) := by decide +kernel
theorem dX11_quarrelAt_71 : decode cX11_quarrelAt 71 = .ok (.iconst (-1), 1) := by decide +kernel
theorem dX11_quarrelAt_72 : decode cX11_quarrelAt 72 = .ok (.ireturn, 1) := by decide +kernel
theorem dX11_terms_0 : decode cX11_terms 0 = .ok (.iconst 1, 1) := by decide +kernel
theorem dX11_terms_1 : decode cX11_terms 1 = .ok (.istore_n 2, 1) := by decide +kernel
theorem dX11_terms_2 : decode cX11_terms 2 = .ok (.iconst 0, 1) := by decide +kernel
theorem dX11_terms_3 : decode cX11_terms 3 = .ok (.istore_n 3, 1) := by decide +kernel
theorem dX11_terms_4 : decode cX11_terms 4 = .ok (.iload_n 3, 1) := by decide +kernel
theorem dX11_terms_5 : decode cX11_terms 5 = .ok (.aload_n 0, 1) := by decide +kernel
theorem dX11_terms_6 : decode cX11_terms 6 = .ok (.getfield 20, 3) := by decide +kernel
theorem dX11_terms_9 : decode cX11_terms 9 = .ok (.iload_n 1, 1) := by decide +kernel
theorem dX11_terms_10 : decode cX11_terms 10 = .ok (.iaload, 1) := by decide +kernel
theorem dX11_terms_11 : decode cX11_terms 11 = .ok (.if_icmp .ge 25, 3) := by decide +kernel
theorem dX11_terms_14 : decode cX11_terms 14 = .ok (.iload_n 2, 1) := by decide +kernel
theorem dX11_terms_15 : decode cX11_terms 15 = .ok (.aload_n 0, 1) := by decide +kernel
theorem dX11_terms_16 : decode cX11_terms 16 = .ok (.getfield 26, 3) := by decide +kernel
theorem dX11_terms_19 : decode cX11_terms 19 = .ok (.bipush 6, 2) := by decide +kernel
theorem dX11_terms_21 : decode cX11_terms 21 = .ok (.iload_n 1, 1) := by decide +kernel
theorem dX11_terms_22 : decode cX11_terms 22 = .ok (.imul, 1) := by decide +kernel
theorem dX11_terms_23 : decode cX11_terms 23 = .ok (.iload_n 3, 1) := by decide +kernel
theorem dX11_terms_24 : decode cX11_terms 24 = .ok (.iadd, 1) := by decide +kernel
theorem dX11_terms_25 : decode cX11_terms 25 = .ok (.iaload, 1) := by decide +kernel
theorem dX11_terms_26 : decode cX11_terms 26 = .ok (.iconst 1, 1) := by decide +kernel
theorem dX11_terms_27 : decode cX11_terms 27 = .ok (.iadd, 1) := by decide +kernel
theorem dX11_terms_28 : decode cX11_terms 28 = .ok (.imul, 1) := by decide +kernel
theorem dX11_terms_29 : decode cX11_terms 29 = .ok (.istore_n 2, 1) := by decide +kernel
theorem dX11_terms_30 : decode cX11_terms 30 = .ok (.iinc 3 1, 3) := by decide +kernel
theorem dX11_terms_33 : decode cX11_terms 33 = .ok (.goto (-29), 3) := by decide +kernel
theorem dX11_terms_36 : decode cX11_terms 36 = .ok (.iload_n 2, 1) := by decide +kernel
theorem dX11_terms_37 : decode cX11_terms 37 = .ok (.ireturn, 1) := by decide +kernel
theorem dX11_termAt_0 : decode cX11_termAt 0 = .ok (.iload_n 2, 1) := by decide +kernel
theorem dX11_termAt_1 : decode cX11_termAt 1 = .ok (.istore 4, 2) := by decide +kernel
theorem dX11_termAt_3 : decode cX11_termAt 3 = .ok (.aload_n 0, 1) := by decide +kernel
theorem dX11_termAt_4 : decode cX11_termAt 4 = .ok (.getfield 20, 3) := by decide +kernel
theorem dX11_termAt_7 : decode cX11_termAt 7 = .ok (.iload_n 1, 1) := by decide +kernel
theorem dX11_termAt_8 : decode cX11_termAt 8 = .ok (.iaload, 1) := by decide +kernel
theorem dX11_termAt_9 : decode cX11_termAt 9 = .ok (.iconst 1, 1) := by decide +kernel
theorem dX11_termAt_10 : decode cX11_termAt 10 = .ok (.isub, 1) := by decide +kernel
theorem dX11_termAt_11 : decode cX11_termAt 11 = .ok (.istore 5, 2) := by decide +kernel
theorem dX11_termAt_13 : decode cX11_termAt 13 = .ok (.iload 5, 2) := by decide +kernel
theorem dX11_termAt_15 : decode cX11_termAt 15 = .ok (.iload_n 3, 1) := by decide +kernel
theorem dX11_termAt_16 : decode cX11_termAt 16 = .ok (.if_icmp .le 28, 3) := by decide +kernel
theorem dX11_termAt_19 : decode cX11_termAt 19 = .ok (.iload 4, 2) := by decide +kernel
theorem dX11_termAt_21 : decode cX11_termAt 21 = .ok (.aload_n 0, 1) := by decide +kernel
theorem dX11_termAt_22 : decode cX11_termAt 22 = .ok (.getfield 26, 3) := by decide +kernel
theorem dX11_termAt_25 : decode cX11_termAt 25 = .ok (.bipush 6, 2) := by decide +kernel
theorem dX11_termAt_27 : decode cX11_termAt 27 = .ok (.iload_n 1, 1) := by decide +kernel
theorem dX11_termAt_28 : decode cX11_termAt 28 = .ok (.imul, 1) := by decide +kernel
theorem dX11_termAt_29 : decode cX11_termAt 29 = .ok (.iload 5, 2) := by decide +kernel
theorem dX11_termAt_31 : decode cX11_termAt 31 = .ok (.iadd, 1) := by decide +kernel
theorem dX11_termAt_32 : decode cX11_termAt 32 = .ok (.iaload, 1) := by decide +kernel
theorem dX11_termAt_33 : decode cX11_termAt 33 = .ok (.iconst 1, 1) := by decide +kernel
theorem dX11_termAt_34 : decode cX11_termAt 34 = .ok (.iadd, 1) := by decide +kernel
theorem dX11_termAt_35 : decode cX11_termAt 35 = .ok (.idiv, 1) := by decide +kernel
theorem dX11_termAt_36 : decode cX11_termAt 36 = .ok (.istore 4, 2) := by decide +kernel
theorem dX11_termAt_38 : decode cX11_termAt 38 = .ok (.iinc 5 (-1), 3) := by decide +kernel
theorem dX11_termAt_41 : decode cX11_termAt 41 = .ok (.goto (-28), 3) := by decide +kernel
theorem dX11_termAt_44 : decode cX11_termAt 44 = .ok (.iload 4, 2) := by decide +kernel
theorem dX11_termAt_46 : decode cX11_termAt 46 = .ok (.aload_n 0, 1) := by decide +kernel
theorem dX11_termAt_47 : decode cX11_termAt 47 = .ok (.getfield 26, 3) := by decide +kernel
theorem dX11_termAt_50 : decode cX11_termAt 50 = .ok (.bipush 6, 2) := by decide +kernel
theorem dX11_termAt_52 : decode cX11_termAt 52 = .ok (.iload_n 1, 1) := by decide +kernel
theorem dX11_termAt_53 : decode cX11_termAt 53 = .ok (.imul, 1) := by decide +kernel
theorem dX11_termAt_54 : decode cX11_termAt 54 = .ok (.iload_n 3, 1) := by decide +kernel
theorem dX11_termAt_55 : decode cX11_termAt 55 = .ok (.iadd, 1) := by decide +kernel
theorem dX11_termAt_56 : decode cX11_termAt 56 = .ok (.iaload, 1) := by decide +kernel
theorem dX11_termAt_57 : decode cX11_termAt 57 = .ok (.iconst 1, 1) := by decide +kernel
theorem dX11_termAt_58 : decode cX11_termAt 58 = .ok (.iadd, 1) := by decide +kernel
theorem dX11_termAt_59 : decode cX11_termAt 59 = .ok (.irem, 1) := by decide +kernel
theorem dX11_termAt_60 : decode cX11_termAt 60 = .ok (.istore 4, 2) := by decide +kernel
theorem dX11_termAt_62 : decode cX11_termAt 62 = .ok (.iload 4, 2) := by decide +kernel
theorem dX11_termAt_64 : decode cX11_termAt 64 = .ok (.aload_n 0, 1) := by decide +kernel
theorem dX11_termAt_65 : decode cX11_termAt 65 = .ok (.getfield 26, 3) := by decide +kernel
theorem dX11_termAt_68 : decode cX11_termAt 68 = .ok (.bipush 6, 2) := by decide +kernel
theorem dX11_termAt_70 : decode cX11_termAt 70 = .ok (.iload_n 1, 1) := by decide +kernel
theorem dX11_termAt_71 : decode cX11_termAt 71 = .ok (.imul, 1) := by decide +kernel
theorem dX11_termAt_72 : decode cX11_termAt 72 = .ok (.iload_n 3, 1) := by decide +kernel
theorem dX11_termAt_73 : decode cX11_termAt 73 = .ok (.iadd, 1) := by decide +kernel
theorem dX11_termAt_74 : decode cX11_termAt 74 = .ok (.iaload, 1) := by decide +kernel
theorem dX11_termAt_75 : decode cX11_termAt 75 = .ok (.if_icmp .ne 7, 3) := by decide +kernel
theorem dX11_termAt_78 : decode cX11_termAt 78 = .ok (.iconst (-1), 1) := by decide +kernel
theorem dX11_termAt_79 : decode cX11_termAt 79 = .ok (.goto 5, 3) := by decide +kernel
theorem dX11_termAt_82 : decode cX11_termAt 82 = .ok (.iload 4, 2) := by decide +kernel
theorem dX11_termAt_84 : decode cX11_termAt 84 = .ok (.ireturn, 1) := by decide +kernel
theorem dX11_takeUp_0 : decode cX11_takeUp 0 = .ok (.iconst 0, 1) := by decide +kernel
theorem dX11_takeUp_1 : decode cX11_takeUp 1 = .ok (.istore_n 3, 1) := by decide +kernel
theorem dX11_takeUp_2 : decode cX11_takeUp 2 = .ok (.iconst 0, 1) := by decide +kernel
theorem dX11_takeUp_3 : decode cX11_takeUp 3 = .ok (.istore 4, 2) := by decide +kernel
theorem dX11_takeUp_5 : decode cX11_takeUp 5 = .ok (.iload 4, 2) := by decide +kernel
theorem dX11_takeUp_7 : decode cX11_takeUp 7 = .ok (.aload_n 0, 1) := by decide +kernel
theorem dX11_takeUp_8 : decode cX11_takeUp 8 = .ok (.getfield 20, 3) := by decide +kernel
theorem dX11_takeUp_11 : decode cX11_takeUp 11 = .ok (.iload_n 1, 1) := by decide +kernel
theorem dX11_takeUp_12 : decode cX11_takeUp 12 = .ok (.iaload, 1) := by decide +kernel
theorem dX11_takeUp_13 : decode cX11_takeUp 13 = .ok (.if_icmp .ge 43, 3) := by decide +kernel
theorem dX11_takeUp_16 : decode cX11_takeUp 16 = .ok (.aload_n 0, 1) := by decide +kernel
theorem dX11_takeUp_17 : decode cX11_takeUp 17 = .ok (.getfield 81, 3) := by decide +kernel
theorem dX11_takeUp_20 : decode cX11_takeUp 20 = .ok (.iload 4, 2) := by decide +kernel
theorem dX11_takeUp_22 : decode cX11_takeUp 22 = .ok (.aload_n 0, 1) := by decide +kernel
theorem dX11_takeUp_23 : decode cX11_takeUp 23 = .ok (.iload_n 1, 1) := by decide +kernel
theorem dX11_takeUp_24 : decode cX11_takeUp 24 = .ok (.iload_n 2, 1) := by decide +kernel
theorem dX11_takeUp_25 : decode cX11_takeUp 25 = .ok (.iload 4, 2) := by decide +kernel
theorem dX11_takeUp_27 : decode cX11_takeUp 27 = .ok (.invokevirtual 250, 3) := by decide +kernel
theorem dX11_takeUp_30 : decode cX11_takeUp 30 = .ok (.iastore, 1) := by decide +kernel
theorem dX11_takeUp_31 : decode cX11_takeUp 31 = .ok (.iload_n 3, 1) := by decide +kernel
theorem dX11_takeUp_32 : decode cX11_takeUp 32 = .ok (.aload_n 0, 1) := by decide +kernel
theorem dX11_takeUp_33 : decode cX11_takeUp 33 = .ok (.getfield 81, 3) := by decide +kernel
theorem dX11_takeUp_36 : decode cX11_takeUp 36 = .ok (.iload 4, 2) := by decide +kernel
theorem dX11_takeUp_38 : decode cX11_takeUp 38 = .ok (.iaload, 1) := by decide +kernel
theorem dX11_takeUp_39 : decode cX11_takeUp 39 = .ok (.iconst (-1), 1) := by decide +kernel
theorem dX11_takeUp_40 : decode cX11_takeUp 40 = .ok (.if_icmp .ne 7, 3) := by decide +kernel
theorem dX11_takeUp_43 : decode cX11_takeUp 43 = .ok (.iconst 0, 1) := by decide +kernel
theorem dX11_takeUp_44 : decode cX11_takeUp 44 = .ok (.goto 4, 3) := by decide +kernel
theorem dX11_takeUp_47 : decode cX11_takeUp 47 = .ok (.iconst 1, 1) := by decide +kernel
theorem dX11_takeUp_48 : decode cX11_takeUp 48 = .ok (.iadd, 1) := by decide +kernel
theorem dX11_takeUp_49 : decode cX11_takeUp 49 = .ok (.istore_n 3, 1) := by decide +kernel
theorem dX11_takeUp_50 : decode cX11_takeUp 50 = .ok (.iinc 4 1, 3) := by decide +kernel
theorem dX11_takeUp_53 : decode cX11_takeUp 53 = .ok (.goto (-48), 3) := by decide +kernel
theorem dX11_takeUp_56 : decode cX11_takeUp 56 = .ok (.iload_n 3, 1) := by decide +kernel
theorem dX11_takeUp_57 : decode cX11_takeUp 57 = .ok (.ireturn, 1) := by decide +kernel
theorem dX11_holds_0 : decode cX11_holds 0 = .ok (.iconst 0, 1) := by decide +kernel
theorem dX11_holds_1 : decode cX11_holds 1 = .ok (.istore_n 3, 1) := by decide +kernel
theorem dX11_holds_2 : decode cX11_holds 2 = .ok (.iload_n 3, 1) := by decide +kernel
theorem dX11_holds_3 : decode cX11_holds 3 = .ok (.aload_n 0, 1) := by decide +kernel
theorem dX11_holds_4 : decode cX11_holds 4 = .ok (.getfield 20, 3) := by decide +kernel
theorem dX11_holds_7 : decode cX11_holds 7 = .ok (.iload_n 1, 1) := by decide +kernel
theorem dX11_holds_8 : decode cX11_holds 8 = .ok (.iaload, 1) := by decide +kernel
theorem dX11_holds_9 : decode cX11_holds 9 = .ok (.if_icmp .ge 40, 3) := by decide +kernel
theorem dX11_holds_12 : decode cX11_holds 12 = .ok (.aload_n 0, 1) := by decide +kernel
theorem dX11_holds_13 : decode cX11_holds 13 = .ok (.getfield 81, 3) := by decide +kernel
theorem dX11_holds_16 : decode cX11_holds 16 = .ok (.iload_n 3, 1) := by decide +kernel
theorem dX11_holds_17 : decode cX11_holds 17 = .ok (.iaload, 1) := by decide +kernel
theorem dX11_holds_18 : decode cX11_holds 18 = .ok (.iconst (-1), 1) := by decide +kernel
theorem dX11_holds_19 : decode cX11_holds 19 = .ok (.if_icmp .eq 24, 3) := by decide +kernel
theorem dX11_holds_22 : decode cX11_holds 22 = .ok (.aload_n 0, 1) := by decide +kernel
theorem dX11_holds_23 : decode cX11_holds 23 = .ok (.getfield 81, 3) := by decide +kernel
theorem dX11_holds_26 : decode cX11_holds 26 = .ok (.iload_n 3, 1) := by decide +kernel
theorem dX11_holds_27 : decode cX11_holds 27 = .ok (.iaload, 1) := by decide +kernel
theorem dX11_holds_28 : decode cX11_holds 28 = .ok (.aload_n 0, 1) := by decide +kernel
theorem dX11_holds_29 : decode cX11_holds 29 = .ok (.getfield 84, 3) := by decide +kernel
theorem dX11_holds_32 : decode cX11_holds 32 = .ok (.iconst 5, 1) := by decide +kernel
theorem dX11_holds_33 : decode cX11_holds 33 = .ok (.iload_n 2, 1) := by decide +kernel
theorem dX11_holds_34 : decode cX11_holds 34 = .ok (.imul, 1) := by decide +kernel
theorem dX11_holds_35 : decode cX11_holds 35 = .ok (.iload_n 3, 1) := by decide +kernel
theorem dX11_holds_36 : decode cX11_holds 36 = .ok (.iadd, 1) := by decide +kernel
theorem dX11_holds_37 : decode cX11_holds 37 = .ok (.iaload, 1) := by decide +kernel
theorem dX11_holds_38 : decode cX11_holds 38 = .ok (.if_icmp .eq 5, 3) := by decide +kernel
theorem dX11_holds_41 : decode cX11_holds 41 = .ok (.iconst 0, 1) := by decide +kernel
theorem dX11_holds_42 : decode cX11_holds 42 = .ok (.ireturn, 1) := by decide +kernel
theorem dX11_holds_43 : decode cX11_holds 43 = .ok (.iinc 3 1, 3) := by decide +kernel
theorem dX11_holds_46 : decode cX11_holds 46 = .ok (.goto (-44), 3) := by decide +kernel
theorem dX11_holds_49 : decode cX11_holds 49 = .ok (.iconst 1, 1) := by decide +kernel
theorem dX11_holds_50 : decode cX11_holds 50 = .ok (.ireturn, 1) := by decide +kernel
theorem dX11_sortTerms_0 : decode cX11_sortTerms 0 = .ok (.aload_n 0, 1) := by decide +kernel
theorem dX11_sortTerms_1 : decode cX11_sortTerms 1 = .ok (.iload_n 1, 1) := by decide +kernel
theorem dX11_sortTerms_2 : decode cX11_sortTerms 2 = .ok (.invokevirtual 205, 3) := by decide +kernel
theorem dX11_sortTerms_5 : decode cX11_sortTerms 5 = .ok (.istore_n 2, 1) := by decide +kernel
theorem dX11_sortTerms_6 : decode cX11_sortTerms 6 = .ok (.iconst 0, 1) := by decide +kernel
theorem dX11_sortTerms_7 : decode cX11_sortTerms 7 = .ok (.istore_n 3, 1) := by decide +kernel
theorem dX11_sortTerms_8 : decode cX11_sortTerms 8 = .ok (.iload_n 3, 1) := by decide +kernel
theorem dX11_sortTerms_9 : decode cX11_sortTerms 9 = .ok (.iload_n 2, 1) := by decide +kernel
theorem dX11_sortTerms_10 : decode cX11_sortTerms 10 = .ok (.if_icmp .ge 60, 3) := by decide +kernel
theorem dX11_sortTerms_13 : decode cX11_sortTerms 13 = .ok (.aload_n 0, 1) := by decide +kernel
theorem dX11_sortTerms_14 : decode cX11_sortTerms 14 = .ok (.getfield 90, 3) := by decide +kernel
theorem dX11_sortTerms_17 : decode cX11_sortTerms 17 = .ok (.iload_n 3, 1) := by decide +kernel
theorem dX11_sortTerms_18 : decode cX11_sortTerms 18 = .ok (.aload_n 0, 1) := by decide +kernel
theorem dX11_sortTerms_19 : decode cX11_sortTerms 19 = .ok (.iload_n 1, 1) := by decide +kernel
theorem dX11_sortTerms_20 : decode cX11_sortTerms 20 = .ok (.iload_n 3, 1) := by decide +kernel
theorem dX11_sortTerms_21 : decode cX11_sortTerms 21 = .ok (.invokevirtual 253, 3) := by decide +kernel
theorem dX11_sortTerms_24 : decode cX11_sortTerms 24 = .ok (.iastore, 1) := by decide +kernel
theorem dX11_sortTerms_25 : decode cX11_sortTerms 25 = .ok (.iconst 0, 1) := by decide +kernel
theorem dX11_sortTerms_26 : decode cX11_sortTerms 26 = .ok (.istore 4, 2) := by decide +kernel
theorem dX11_sortTerms_28 : decode cX11_sortTerms 28 = .ok (.iload 4, 2) := by decide +kernel
theorem dX11_sortTerms_30 : decode cX11_sortTerms 30 = .ok (.aload_n 0, 1) := by decide +kernel
theorem dX11_sortTerms_31 : decode cX11_sortTerms 31 = .ok (.getfield 20, 3) := by decide +kernel
theorem dX11_sortTerms_34 : decode cX11_sortTerms 34 = .ok (.iload_n 1, 1) := by decide +kernel
theorem dX11_sortTerms_35 : decode cX11_sortTerms 35 = .ok (.iaload, 1) := by decide +kernel
theorem dX11_sortTerms_36 : decode cX11_sortTerms 36 = .ok (.if_icmp .ge 28, 3) := by decide +kernel
theorem dX11_sortTerms_39 : decode cX11_sortTerms 39 = .ok (.aload_n 0, 1) := by decide +kernel
theorem dX11_sortTerms_40 : decode cX11_sortTerms 40 = .ok (.getfield 84, 3) := by decide +kernel
theorem dX11_sortTerms_43 : decode cX11_sortTerms 43 = .ok (.iconst 5, 1) := by decide +kernel
theorem dX11_sortTerms_44 : decode cX11_sortTerms 44 = .ok (.iload_n 3, 1) := by decide +kernel
theorem dX11_sortTerms_45 : decode cX11_sortTerms 45 = .ok (.imul, 1) := by decide +kernel
theorem dX11_sortTerms_46 : decode cX11_sortTerms 46 = .ok (.iload 4, 2) := by decide +kernel
theorem dX11_sortTerms_48 : decode cX11_sortTerms 48 = .ok (.iadd, 1) := by decide +kernel
theorem dX11_sortTerms_49 : decode cX11_sortTerms 49 = .ok (.aload_n 0, 1) := by decide +kernel
theorem dX11_sortTerms_50 : decode cX11_sortTerms 50 = .ok (.iload_n 1, 1) := by decide +kernel
theorem dX11_sortTerms_51 : decode cX11_sortTerms 51 = .ok (.iload_n 3, 1) := by decide +kernel
theorem dX11_sortTerms_52 : decode cX11_sortTerms 52 = .ok (.iload 4, 2) := by decide +kernel
theorem dX11_sortTerms_54 : decode cX11_sortTerms 54 = .ok (.invokevirtual 240, 3) := by decide +kernel
theorem dX11_sortTerms_57 : decode cX11_sortTerms 57 = .ok (.iastore, 1) := by decide +kernel
theorem dX11_sortTerms_58 : decode cX11_sortTerms 58 = .ok (.iinc 4 1, 3) := by decide +kernel
theorem dX11_sortTerms_61 : decode cX11_sortTerms 61 = .ok (.goto (-33), 3) := by decide +kernel
theorem dX11_sortTerms_64 : decode cX11_sortTerms 64 = .ok (.iinc 3 1, 3) := by decide +kernel
theorem dX11_sortTerms_67 : decode cX11_sortTerms 67 = .ok (.goto (-59), 3) := by decide +kernel
theorem dX11_sortTerms_70 : decode cX11_sortTerms 70 = .ok (.iconst 0, 1) := by decide +kernel
theorem dX11_sortTerms_71 : decode cX11_sortTerms 71 = .ok (.istore_n 3, 1) := by decide +kernel
theorem dX11_sortTerms_72 : decode cX11_sortTerms 72 = .ok (.iload_n 3, 1) := by decide +kernel
theorem dX11_sortTerms_73 : decode cX11_sortTerms 73 = .ok (.aload_n 0, 1) := by decide +kernel
theorem dX11_sortTerms_74 : decode cX11_sortTerms 74 = .ok (.iload_n 1, 1) := by decide +kernel
theorem dX11_sortTerms_75 : decode cX11_sortTerms 75 = .ok (.invokevirtual 256, 3) := by decide +kernel
theorem dX11_sortTerms_78 : decode cX11_sortTerms 78 = .ok (.if_icmp .ge 99, 3) := by decide +kernel
theorem dX11_sortTerms_81 : decode cX11_sortTerms 81 = .ok (.aload_n 0, 1) := by decide +kernel
theorem dX11_sortTerms_82 : decode cX11_sortTerms 82 = .ok (.iload_n 1, 1) := by decide +kernel
theorem dX11_sortTerms_83 : decode cX11_sortTerms 83 = .ok (.iload_n 3, 1) := by decide +kernel
theorem dX11_sortTerms_84 : decode cX11_sortTerms 84 = .ok (.invokevirtual 259, 3) := by decide +kernel
theorem dX11_sortTerms_87 : decode cX11_sortTerms 87 = .ok (.pop, 1) := by decide +kernel
theorem dX11_sortTerms_88 : decode cX11_sortTerms 88 = .ok (.bipush 6, 2) := by decide +kernel
theorem dX11_sortTerms_90 : decode cX11_sortTerms 90 = .ok (.istore 4, 2) := by decide +kernel
theorem dX11_sortTerms_92 : decode cX11_sortTerms 92 = .ok (.iconst 0, 1) := by decide +kernel
theorem dX11_sortTerms_93 : decode cX11_sortTerms 93 = .ok (.istore 5, 2) := by decide +kernel
theorem dX11_sortTerms_95 : decode cX11_sortTerms 95 = .ok (.iload 5, 2) := by decide +kernel
theorem dX11_sortTerms_97 : decode cX11_sortTerms 97 = .ok (.iload_n 2, 1) := by decide +kernel
theorem dX11_sortTerms_98 : decode cX11_sortTerms 98 = .ok (.if_icmp .ge 65, 3) := by decide +kernel
theorem dX11_sortTerms_101 : decode cX11_sortTerms 101 = .ok (.aload_n 0, 1) := by decide +kernel
theorem dX11_sortTerms_102 : decode cX11_sortTerms 102 = .ok (.getfield 90, 3) := by decide +kernel
theorem dX11_sortTerms_105 : decode cX11_sortTerms 105 = .ok (.iload 5, 2) := by decide +kernel
theorem dX11_sortTerms_107 : decode cX11_sortTerms 107 = .ok (.iaload, 1) := by decide +kernel
theorem dX11_sortTerms_108 : decode cX11_sortTerms 108 = .ok (.iconst (-1), 1) := by decide +kernel
theorem dX11_sortTerms_109 : decode cX11_sortTerms 109 = .ok (.if_icmp .eq 48, 3) := by decide +kernel
theorem dX11_sortTerms_112 : decode cX11_sortTerms 112 = .ok (.aload_n 0, 1) := by decide +kernel
theorem dX11_sortTerms_113 : decode cX11_sortTerms 113 = .ok (.iload_n 1, 1) := by decide +kernel
theorem dX11_sortTerms_114 : decode cX11_sortTerms 114 = .ok (.iload 5, 2) := by decide +kernel
theorem dX11_sortTerms_116 : decode cX11_sortTerms 116 = .ok (.invokevirtual 262, 3) := by decide +kernel
theorem dX11_sortTerms_119 : decode cX11_sortTerms 119 = .ok (.ifCond .ne 6, 3) := by decide +kernel
theorem dX11_sortTerms_122 : decode cX11_sortTerms 122 = .ok (.goto 35, 3) := by decide +kernel
theorem dX11_sortTerms_125 : decode cX11_sortTerms 125 = .ok (.iload 4, 2) := by decide +kernel
theorem dX11_sortTerms_127 : decode cX11_sortTerms 127 = .ok (.bipush 6, 2) := by decide +kernel
theorem dX11_sortTerms_129 : decode cX11_sortTerms 129 = .ok (.if_icmp .eq 15, 3) := by decide +kernel
theorem dX11_sortTerms_132 : decode cX11_sortTerms 132 = .ok (.iload 4, 2) := by decide +kernel
theorem dX11_sortTerms_134 : decode cX11_sortTerms 134 = .ok (.aload_n 0, 1) := by decide +kernel
theorem dX11_sortTerms_135 : decode cX11_sortTerms 135 = .ok (.getfield 90, 3) := by decide +kernel
theorem dX11_sortTerms_138 : decode cX11_sortTerms 138 = .ok (.iload 5, 2) := by decide +kernel
theorem dX11_sortTerms_140 : decode cX11_sortTerms 140 = .ok (.iaload, 1) := by decide +kernel
theorem dX11_sortTerms_141 : decode cX11_sortTerms 141 = .ok (.if_icmp .ne 13, 3) := by decide +kernel
theorem dX11_sortTerms_144 : decode cX11_sortTerms 144 = .ok (.aload_n 0, 1) := by decide +kernel
theorem dX11_sortTerms_145 : decode cX11_sortTerms 145 = .ok (.getfield 90, 3) := by decide +kernel
theorem dX11_sortTerms_148 : decode cX11_sortTerms 148 = .ok (.iload 5, 2) := by decide +kernel
theorem dX11_sortTerms_150 : decode cX11_sortTerms 150 = .ok (.iaload, 1) := by decide +kernel
theorem dX11_sortTerms_151 : decode cX11_sortTerms 151 = .ok (.goto 4, 3) := by decide +kernel
theorem dX11_sortTerms_154 : decode cX11_sortTerms 154 = .ok (.iconst (-1), 1) := by decide +kernel
theorem dX11_sortTerms_155 : decode cX11_sortTerms 155 = .ok (.istore 4, 2) := by decide +kernel
theorem dX11_sortTerms_157 : decode cX11_sortTerms 157 = .ok (.iinc 5 1, 3) := by decide +kernel
theorem dX11_sortTerms_160 : decode cX11_sortTerms 160 = .ok (.goto (-65), 3) := by decide +kernel
theorem dX11_sortTerms_163 : decode cX11_sortTerms 163 = .ok (.aload_n 0, 1) := by decide +kernel
theorem dX11_sortTerms_164 : decode cX11_sortTerms 164 = .ok (.getfield 87, 3) := by decide +kernel
theorem dX11_sortTerms_167 : decode cX11_sortTerms 167 = .ok (.iload_n 3, 1) := by decide +kernel
theorem dX11_sortTerms_168 : decode cX11_sortTerms 168 = .ok (.iload 4, 2) := by decide +kernel
theorem dX11_sortTerms_170 : decode cX11_sortTerms 170 = .ok (.iastore, 1) := by decide +kernel
theorem dX11_sortTerms_171 : decode cX11_sortTerms 171 = .ok (.iinc 3 1, 3) := by decide +kernel
theorem dX11_sortTerms_174 : decode cX11_sortTerms 174 = .ok (.goto (-102), 3) := by decide +kernel
theorem dX11_sortTerms_177 : decode cX11_sortTerms 177 = .ok (.return_, 1) := by decide +kernel
theorem dX11_bestTerm_0 : decode cX11_bestTerm 0 = .ok (.iload_n 2, 1) := by decide +kernel
theorem dX11_bestTerm_1 : decode cX11_bestTerm 1 = .ok (.bipush 6, 2) := by decide +kernel
theorem dX11_bestTerm_3 : decode cX11_bestTerm 3 = .ok (.if_icmp .ne 7, 3) := by decide +kernel
theorem dX11_bestTerm_6 : decode cX11_bestTerm 6 = .ok (.iconst (-1), 1) := by decide +kernel
theorem dX11_bestTerm_7 : decode cX11_bestTerm 7 = .ok (.goto 4, 3) := by decide +kernel
theorem dX11_bestTerm_10 : decode cX11_bestTerm 10 = .ok (.iload_n 2, 1) := by decide +kernel
theorem dX11_bestTerm_11 : decode cX11_bestTerm 11 = .ok (.istore_n 3, 1) := by decide +kernel
theorem dX11_bestTerm_12 : decode cX11_bestTerm 12 = .ok (.iconst (-1), 1) := by decide +kernel
theorem dX11_bestTerm_13 : decode cX11_bestTerm 13 = .ok (.istore 4, 2) := by decide +kernel
theorem dX11_bestTerm_15 : decode cX11_bestTerm 15 = .ok (.iconst 0, 1) := by decide +kernel
theorem dX11_bestTerm_16 : decode cX11_bestTerm 16 = .ok (.istore 5, 2) := by decide +kernel
theorem dX11_bestTerm_18 : decode cX11_bestTerm 18 = .ok (.iconst 0, 1) := by decide +kernel
theorem dX11_bestTerm_19 : decode cX11_bestTerm 19 = .ok (.istore 6, 2) := by decide +kernel
theorem dX11_bestTerm_21 : decode cX11_bestTerm 21 = .ok (.iconst 0, 1) := by decide +kernel
theorem dX11_bestTerm_22 : decode cX11_bestTerm 22 = .ok (.istore 7, 2) := by decide +kernel
theorem dX11_bestTerm_24 : decode cX11_bestTerm 24 = .ok (.iload 7, 2) := by decide +kernel
theorem dX11_bestTerm_26 : decode cX11_bestTerm 26 = .ok (.aload_n 0, 1) := by decide +kernel
theorem dX11_bestTerm_27 : decode cX11_bestTerm 27 = .ok (.iload_n 1, 1) := by decide +kernel
theorem dX11_bestTerm_28 : decode cX11_bestTerm 28 = .ok (.invokevirtual 256, 3) := by decide +kernel
theorem dX11_bestTerm_31 : decode cX11_bestTerm 31 = .ok (.if_icmp .ge 135, 3) := by decide +kernel
theorem dX11_bestTerm_34 : decode cX11_bestTerm 34 = .ok (.aload_n 0, 1) := by decide +kernel
theorem dX11_bestTerm_35 : decode cX11_bestTerm 35 = .ok (.getfield 87, 3) := by decide +kernel
theorem dX11_bestTerm_38 : decode cX11_bestTerm 38 = .ok (.iload 7, 2) := by decide +kernel
theorem dX11_bestTerm_40 : decode cX11_bestTerm 40 = .ok (.iaload, 1) := by decide +kernel
theorem dX11_bestTerm_41 : decode cX11_bestTerm 41 = .ok (.iload_n 2, 1) := by decide +kernel
theorem dX11_bestTerm_42 : decode cX11_bestTerm 42 = .ok (.if_icmp .eq 6, 3) := by decide +kernel
theorem dX11_bestTerm_45 : decode cX11_bestTerm 45 = .ok (.goto 115, 3) := by decide +kernel
theorem dX11_bestTerm_48 : decode cX11_bestTerm 48 = .ok (.aload_n 0, 1) := by decide +kernel
theorem dX11_bestTerm_49 : decode cX11_bestTerm 49 = .ok (.iload_n 1, 1) := by decide +kernel
theorem dX11_bestTerm_50 : decode cX11_bestTerm 50 = .ok (.iload 7, 2) := by decide +kernel
theorem dX11_bestTerm_52 : decode cX11_bestTerm 52 = .ok (.invokevirtual 259, 3) := by decide +kernel
theorem dX11_bestTerm_55 : decode cX11_bestTerm 55 = .ok (.istore 8, 2) := by decide +kernel
theorem dX11_bestTerm_57 : decode cX11_bestTerm 57 = .ok (.iconst 0, 1) := by decide +kernel
theorem dX11_bestTerm_58 : decode cX11_bestTerm 58 = .ok (.istore 9, 2) := by decide +kernel
theorem dX11_bestTerm_60 : decode cX11_bestTerm 60 = .ok (.iconst 0, 1) := by decide +kernel
theorem dX11_bestTerm_61 : decode cX11_bestTerm 61 = .ok (.istore 10, 2) := by decide +kernel
theorem dX11_bestTerm_63 : decode cX11_bestTerm 63 = .ok (.iload 10, 2) := by decide +kernel
theorem dX11_bestTerm_65 : decode cX11_bestTerm 65 = .ok (.aload_n 0, 1) := by decide +kernel
theorem dX11_bestTerm_66 : decode cX11_bestTerm 66 = .ok (.getfield 266, 3) := by decide +kernel
theorem dX11_bestTerm_69 : decode cX11_bestTerm 69 = .ok (.if_icmp .ge 50, 3) := by decide +kernel
theorem dX11_bestTerm_72 : decode cX11_bestTerm 72 = .ok (.iload 9, 2) := by decide +kernel
theorem dX11_bestTerm_74 : decode cX11_bestTerm 74 = .ok (.aload_n 0, 1) := by decide +kernel
theorem dX11_bestTerm_75 : decode cX11_bestTerm 75 = .ok (.getfield 90, 3) := by decide +kernel
theorem dX11_bestTerm_78 : decode cX11_bestTerm 78 = .ok (.iload 10, 2) := by decide +kernel
theorem dX11_bestTerm_80 : decode cX11_bestTerm 80 = .ok (.iaload, 1) := by decide +kernel
theorem dX11_bestTerm_81 : decode cX11_bestTerm 81 = .ok (.iload_n 3, 1) := by decide +kernel
theorem dX11_bestTerm_82 : decode cX11_bestTerm 82 = .ok (.if_icmp .ne 27, 3) := by decide +kernel
theorem dX11_bestTerm_85 : decode cX11_bestTerm 85 = .ok (.aload_n 0, 1) := by decide +kernel
theorem dX11_bestTerm_86 : decode cX11_bestTerm 86 = .ok (.getfield 93, 3) := by decide +kernel
theorem dX11_bestTerm_89 : decode cX11_bestTerm 89 = .ok (.iload 10, 2) := by decide +kernel
theorem dX11_bestTerm_91 : decode cX11_bestTerm 91 = .ok (.baload, 1) := by decide +kernel
theorem dX11_bestTerm_92 : decode cX11_bestTerm 92 = .ok (.ifCond .ne 17, 3) := by decide +kernel
theorem dX11_bestTerm_95 : decode cX11_bestTerm 95 = .ok (.aload_n 0, 1) := by decide +kernel
theorem dX11_bestTerm_96 : decode cX11_bestTerm 96 = .ok (.iload_n 1, 1) := by decide +kernel
theorem dX11_bestTerm_97 : decode cX11_bestTerm 97 = .ok (.iload 10, 2) := by decide +kernel
theorem dX11_bestTerm_99 : decode cX11_bestTerm 99 = .ok (.invokevirtual 262, 3) := by decide +kernel
theorem dX11_bestTerm_102 : decode cX11_bestTerm 102 = .ok (.ifCond .eq 7, 3) := by decide +kernel
theorem dX11_bestTerm_105 : decode cX11_bestTerm 105 = .ok (.iconst 1, 1) := by decide +kernel
theorem dX11_bestTerm_106 : decode cX11_bestTerm 106 = .ok (.goto 4, 3) := by decide +kernel
theorem dX11_bestTerm_109 : decode cX11_bestTerm 109 = .ok (.iconst 0, 1) := by decide +kernel
theorem dX11_bestTerm_110 : decode cX11_bestTerm 110 = .ok (.iadd, 1) := by decide +kernel
theorem dX11_bestTerm_111 : decode cX11_bestTerm 111 = .ok (.istore 9, 2) := by decide +kernel
theorem dX11_bestTerm_113 : decode cX11_bestTerm 113 = .ok (.iinc 10 1, 3) := by decide +kernel
theorem dX11_bestTerm_116 : decode cX11_bestTerm 116 = .ok (.goto (-53), 3) := by decide +kernel
theorem dX11_bestTerm_119 : decode cX11_bestTerm 119 = .ok (.iload 9, 2) := by decide +kernel
theorem dX11_bestTerm_121 : decode cX11_bestTerm 121 = .ok (.iload 5, 2) := by decide +kernel
theorem dX11_bestTerm_123 : decode cX11_bestTerm 123 = .ok (.if_icmp .lt 37, 3) := by decide +kernel
theorem dX11_bestTerm_126 : decode cX11_bestTerm 126 = .ok (.iload 9, 2) := by decide +kernel
theorem dX11_bestTerm_128 : decode cX11_bestTerm 128 = .ok (.ifCond .eq 32, 3) := by decide +kernel
theorem dX11_bestTerm_131 : decode cX11_bestTerm 131 = .ok (.iload 9, 2) := by decide +kernel
theorem dX11_bestTerm_133 : decode cX11_bestTerm 133 = .ok (.iload 5, 2) := by decide +kernel
theorem dX11_bestTerm_135 : decode cX11_bestTerm 135 = .ok (.if_icmp .ne 13, 3) := by decide +kernel
theorem dX11_bestTerm_138 : decode cX11_bestTerm 138 = .ok (.iload 8, 2) := by decide +kernel
theorem dX11_bestTerm_140 : decode cX11_bestTerm 140 = .ok (.iload 6, 2) := by decide +kernel
theorem dX11_bestTerm_142 : decode cX11_bestTerm 142 = .ok (.if_icmp .lt 6, 3) := by decide +kernel
theorem dX11_bestTerm_145 : decode cX11_bestTerm 145 = .ok (.goto 15, 3) := by decide +kernel
theorem dX11_bestTerm_148 : decode cX11_bestTerm 148 = .ok (.iload 7, 2) := by decide +kernel
theorem dX11_bestTerm_150 : decode cX11_bestTerm 150 = .ok (.istore 4, 2) := by decide +kernel
theorem dX11_bestTerm_152 : decode cX11_bestTerm 152 = .ok (.iload 9, 2) := by decide +kernel
theorem dX11_bestTerm_154 : decode cX11_bestTerm 154 = .ok (.istore 5, 2) := by decide +kernel
theorem dX11_bestTerm_156 : decode cX11_bestTerm 156 = .ok (.iload 8, 2) := by decide +kernel
theorem dX11_bestTerm_158 : decode cX11_bestTerm 158 = .ok (.istore 6, 2) := by decide +kernel
theorem dX11_bestTerm_160 : decode cX11_bestTerm 160 = .ok (.iinc 7 1, 3) := by decide +kernel
theorem dX11_bestTerm_163 : decode cX11_bestTerm 163 = .ok (.goto (-139), 3) := by decide +kernel
theorem dX11_bestTerm_166 : decode cX11_bestTerm 166 = .ok (.iload 4, 2) := by decide +kernel
theorem dX11_bestTerm_168 : decode cX11_bestTerm 168 = .ok (.iconst (-1), 1) := by decide +kernel
theorem dX11_bestTerm_169 : decode cX11_bestTerm 169 = .ok (.if_icmp .ne 5, 3) := by decide +kernel
theorem dX11_bestTerm_172 : decode cX11_bestTerm 172 = .ok (.iconst (-1), 1) := by decide +kernel
theorem dX11_bestTerm_173 : decode cX11_bestTerm 173 = .ok (.ireturn, 1) := by decide +kernel
theorem dX11_bestTerm_174 : decode cX11_bestTerm 174 = .ok (.aload_n 0, 1) := by decide +kernel
theorem dX11_bestTerm_175 : decode cX11_bestTerm 175 = .ok (.iload_n 1, 1) := by decide +kernel
theorem dX11_bestTerm_176 : decode cX11_bestTerm 176 = .ok (.iload 4, 2) := by decide +kernel
theorem dX11_bestTerm_178 : decode cX11_bestTerm 178 = .ok (.invokevirtual 259, 3) := by decide +kernel
theorem dX11_bestTerm_181 : decode cX11_bestTerm 181 = .ok (.pop, 1) := by decide +kernel
theorem dX11_bestTerm_182 : decode cX11_bestTerm 182 = .ok (.iconst 0, 1) := by decide +kernel
theorem dX11_bestTerm_183 : decode cX11_bestTerm 183 = .ok (.istore 7, 2) := by decide +kernel
theorem dX11_bestTerm_185 : decode cX11_bestTerm 185 = .ok (.iload 7, 2) := by decide +kernel
theorem dX11_bestTerm_187 : decode cX11_bestTerm 187 = .ok (.aload_n 0, 1) := by decide +kernel
theorem dX11_bestTerm_188 : decode cX11_bestTerm 188 = .ok (.getfield 266, 3) := by decide +kernel
theorem dX11_bestTerm_191 : decode cX11_bestTerm 191 = .ok (.if_icmp .ge 27, 3) := by decide +kernel
theorem dX11_bestTerm_194 : decode cX11_bestTerm 194 = .ok (.aload_n 0, 1) := by decide +kernel
theorem dX11_bestTerm_195 : decode cX11_bestTerm 195 = .ok (.iload_n 1, 1) := by decide +kernel
theorem dX11_bestTerm_196 : decode cX11_bestTerm 196 = .ok (.iload 7, 2) := by decide +kernel
theorem dX11_bestTerm_198 : decode cX11_bestTerm 198 = .ok (.invokevirtual 262, 3) := by decide +kernel
theorem dX11_bestTerm_201 : decode cX11_bestTerm 201 = .ok (.ifCond .eq 11, 3) := by decide +kernel
theorem dX11_bestTerm_204 : decode cX11_bestTerm 204 = .ok (.aload_n 0, 1) := by decide +kernel
theorem dX11_bestTerm_205 : decode cX11_bestTerm 205 = .ok (.getfield 93, 3) := by decide +kernel
theorem dX11_bestTerm_208 : decode cX11_bestTerm 208 = .ok (.iload 7, 2) := by decide +kernel
theorem dX11_bestTerm_210 : decode cX11_bestTerm 210 = .ok (.iconst 1, 1) := by decide +kernel
theorem dX11_bestTerm_211 : decode cX11_bestTerm 211 = .ok (.bastore, 1) := by decide +kernel
theorem dX11_bestTerm_212 : decode cX11_bestTerm 212 = .ok (.iinc 7 1, 3) := by decide +kernel
theorem dX11_bestTerm_215 : decode cX11_bestTerm 215 = .ok (.goto (-30), 3) := by decide +kernel
theorem dX11_bestTerm_218 : decode cX11_bestTerm 218 = .ok (.iload 4, 2) := by decide +kernel
theorem dX11_bestTerm_220 : decode cX11_bestTerm 220 = .ok (.ireturn, 1) := by decide +kernel
theorem dX11_lay_0 : decode cX11_lay 0 = .ok (.aload_n 0, 1) := by decide +kernel
theorem dX11_lay_1 : decode cX11_lay 1 = .ok (.getfield 62, 3) := by decide +kernel
theorem dX11_lay_4 : decode cX11_lay 4 = .ok (.iload_n 1, 1) := by decide +kernel
theorem dX11_lay_5 : decode cX11_lay 5 = .ok (.baload, 1) := by decide +kernel
theorem dX11_lay_6 : decode cX11_lay 6 = .ok (.ifCond .eq 4, 3) := by decide +kernel
theorem dX11_lay_9 : decode cX11_lay 9 = .ok (.return_, 1) := by decide +kernel
theorem dX11_lay_10 : decode cX11_lay 10 = .ok (.aload_n 0, 1) := by decide +kernel
theorem dX11_lay_11 : decode cX11_lay 11 = .ok (.getfield 62, 3) := by decide +kernel
theorem dX11_lay_14 : decode cX11_lay 14 = .ok (.iload_n 1, 1) := by decide +kernel
theorem dX11_lay_15 : decode cX11_lay 15 = .ok (.iconst 1, 1) := by decide +kernel
theorem dX11_lay_16 : decode cX11_lay 16 = .ok (.bastore, 1) := by decide +kernel
theorem dX11_lay_17 : decode cX11_lay 17 = .ok (.aload_n 0, 1) := by decide +kernel
theorem dX11_lay_18 : decode cX11_lay 18 = .ok (.iload_n 1, 1) := by decide +kernel
theorem dX11_lay_19 : decode cX11_lay 19 = .ok (.invokevirtual 269, 3) := by decide +kernel
theorem dX11_lay_22 : decode cX11_lay 22 = .ok (.aload_n 0, 1) := by decide +kernel
theorem dX11_lay_23 : decode cX11_lay 23 = .ok (.aload_n 0, 1) := by decide +kernel
theorem dX11_lay_24 : decode cX11_lay 24 = .ok (.iload_n 1, 1) := by decide +kernel
theorem dX11_lay_25 : decode cX11_lay 25 = .ok (.invokevirtual 205, 3) := by decide +kernel
theorem dX11_lay_28 : decode cX11_lay 28 = .ok (.putfield 266, 3) := by decide +kernel
theorem dX11_lay_31 : decode cX11_lay 31 = .ok (.iconst 0, 1) := by decide +kernel
theorem dX11_lay_32 : decode cX11_lay 32 = .ok (.istore_n 2, 1) := by decide +kernel
theorem dX11_lay_33 : decode cX11_lay 33 = .ok (.iload_n 2, 1) := by decide +kernel
theorem dX11_lay_34 : decode cX11_lay 34 = .ok (.aload_n 0, 1) := by decide +kernel
theorem dX11_lay_35 : decode cX11_lay 35 = .ok (.getfield 26, 3) := by decide +kernel
theorem dX11_lay_38 : decode cX11_lay 38 = .ok (.bipush 6, 2) := by decide +kernel
theorem dX11_lay_40 : decode cX11_lay 40 = .ok (.iload_n 1, 1) := by decide +kernel
theorem dX11_lay_41 : decode cX11_lay 41 = .ok (.imul, 1) := by decide +kernel
theorem dX11_lay_42 : decode cX11_lay 42 = .ok (.iconst 5, 1) := by decide +kernel
theorem dX11_lay_43 : decode cX11_lay 43 = .ok (.iadd, 1) := by decide +kernel
theorem dX11_lay_44 : decode cX11_lay 44 = .ok (.iaload, 1) := by decide +kernel
theorem dX11_lay_45 : decode cX11_lay 45 = .ok (.if_icmp .ge 94, 3) := by decide +kernel
theorem dX11_lay_48 : decode cX11_lay 48 = .ok (.iconst 0, 1) := by decide +kernel
theorem dX11_lay_49 : decode cX11_lay 49 = .ok (.istore_n 3, 1) := by decide +kernel
theorem dX11_lay_50 : decode cX11_lay 50 = .ok (.iload_n 3, 1) := by decide +kernel
theorem dX11_lay_51 : decode cX11_lay 51 = .ok (.aload_n 0, 1) := by decide +kernel
theorem dX11_lay_52 : decode cX11_lay 52 = .ok (.getfield 266, 3) := by decide +kernel
theorem dX11_lay_55 : decode cX11_lay 55 = .ok (.if_icmp .ge 16, 3) := by decide +kernel
theorem dX11_lay_58 : decode cX11_lay 58 = .ok (.aload_n 0, 1) := by decide +kernel
theorem dX11_lay_59 : decode cX11_lay 59 = .ok (.getfield 93, 3) := by decide +kernel
theorem dX11_lay_62 : decode cX11_lay 62 = .ok (.iload_n 3, 1) := by decide +kernel
theorem dX11_lay_63 : decode cX11_lay 63 = .ok (.iconst 0, 1) := by decide +kernel
theorem dX11_lay_64 : decode cX11_lay 64 = .ok (.bastore, 1) := by decide +kernel
theorem dX11_lay_65 : decode cX11_lay 65 = .ok (.iinc 3 1, 3) := by decide +kernel
theorem dX11_lay_68 : decode cX11_lay 68 = .ok (.goto (-18), 3) := by decide +kernel
theorem dX11_lay_71 : decode cX11_lay 71 = .ok (.aload_n 0, 1) := by decide +kernel
theorem dX11_lay_72 : decode cX11_lay 72 = .ok (.iload_n 1, 1) := by decide +kernel
theorem dX11_lay_73 : decode cX11_lay 73 = .ok (.iload_n 2, 1) := by decide +kernel
theorem dX11_lay_74 : decode cX11_lay 74 = .ok (.invokevirtual 272, 3) := by decide +kernel
theorem dX11_lay_77 : decode cX11_lay 77 = .ok (.istore_n 3, 1) := by decide +kernel
theorem dX11_lay_78 : decode cX11_lay 78 = .ok (.iload_n 3, 1) := by decide +kernel
theorem dX11_lay_79 : decode cX11_lay 79 = .ok (.iconst (-1), 1) := by decide +kernel
theorem dX11_lay_80 : decode cX11_lay 80 = .ok (.if_icmp .eq 53, 3) := by decide +kernel
theorem dX11_lay_83 : decode cX11_lay 83 = .ok (.sipush 400, 3) := by decide +kernel
theorem dX11_lay_86 : decode cX11_lay 86 = .ok (.iload_n 1, 1) := by decide +kernel
theorem dX11_lay_87 : decode cX11_lay 87 = .ok (.imul, 1) := by decide +kernel
theorem dX11_lay_88 : decode cX11_lay 88 = .ok (.aload_n 0, 1) := by decide +kernel
theorem dX11_lay_89 : decode cX11_lay 89 = .ok (.getfield 66, 3) := by decide +kernel
theorem dX11_lay_92 : decode cX11_lay 92 = .ok (.iload_n 1, 1) := by decide +kernel
theorem dX11_lay_93 : decode cX11_lay 93 = .ok (.iaload, 1) := by decide +kernel
theorem dX11_lay_94 : decode cX11_lay 94 = .ok (.iadd, 1) := by decide +kernel
theorem dX11_lay_95 : decode cX11_lay 95 = .ok (.istore 4, 2) := by decide +kernel
theorem dX11_lay_97 : decode cX11_lay 97 = .ok (.aload_n 0, 1) := by decide +kernel
theorem dX11_lay_98 : decode cX11_lay 98 = .ok (.getfield 69, 3) := by decide +kernel
theorem dX11_lay_101 : decode cX11_lay 101 = .ok (.iload 4, 2) := by decide +kernel
theorem dX11_lay_103 : decode cX11_lay 103 = .ok (.iload_n 3, 1) := by decide +kernel
theorem dX11_lay_104 : decode cX11_lay 104 = .ok (.iastore, 1) := by decide +kernel
theorem dX11_lay_105 : decode cX11_lay 105 = .ok (.aload_n 0, 1) := by decide +kernel
theorem dX11_lay_106 : decode cX11_lay 106 = .ok (.getfield 72, 3) := by decide +kernel
theorem dX11_lay_109 : decode cX11_lay 109 = .ok (.iload 4, 2) := by decide +kernel
theorem dX11_lay_111 : decode cX11_lay 111 = .ok (.iload_n 2, 1) := by decide +kernel
theorem dX11_lay_112 : decode cX11_lay 112 = .ok (.iastore, 1) := by decide +kernel
theorem dX11_lay_113 : decode cX11_lay 113 = .ok (.aload_n 0, 1) := by decide +kernel
theorem dX11_lay_114 : decode cX11_lay 114 = .ok (.getfield 66, 3) := by decide +kernel
theorem dX11_lay_117 : decode cX11_lay 117 = .ok (.iload_n 1, 1) := by decide +kernel
theorem dX11_lay_118 : decode cX11_lay 118 = .ok (.dup2, 1) := by decide +kernel
theorem dX11_lay_119 : decode cX11_lay 119 = .ok (.iaload, 1) := by decide +kernel
theorem dX11_lay_120 : decode cX11_lay 120 = .ok (.iconst 1, 1) := by decide +kernel
theorem dX11_lay_121 : decode cX11_lay 121 = .ok (.iadd, 1) := by decide +kernel
theorem dX11_lay_122 : decode cX11_lay 122 = .ok (.iastore, 1) := by decide +kernel
theorem dX11_lay_123 : decode cX11_lay 123 = .ok (.aload_n 0, 1) := by decide +kernel
theorem dX11_lay_124 : decode cX11_lay 124 = .ok (.iload_n 1, 1) := by decide +kernel
theorem dX11_lay_125 : decode cX11_lay 125 = .ok (.iload_n 2, 1) := by decide +kernel
theorem dX11_lay_126 : decode cX11_lay 126 = .ok (.invokevirtual 272, 3) := by decide +kernel
theorem dX11_lay_129 : decode cX11_lay 129 = .ok (.istore_n 3, 1) := by decide +kernel
theorem dX11_lay_130 : decode cX11_lay 130 = .ok (.goto (-52), 3) := by decide +kernel
theorem dX11_lay_133 : decode cX11_lay 133 = .ok (.iinc 2 1, 3) := by decide +kernel
theorem dX11_lay_136 : decode cX11_lay 136 = .ok (.goto (-103), 3) := by decide +kernel
theorem dX11_lay_139 : decode cX11_lay 139 = .ok (.iconst 0, 1) := by decide +kernel
theorem dX11_lay_140 : decode cX11_lay 140 = .ok (.istore_n 2, 1) := by decide +kernel
theorem dX11_lay_141 : decode cX11_lay 141 = .ok (.iload_n 2, 1) := by decide +kernel
theorem dX11_lay_142 : decode cX11_lay 142 = .ok (.aload_n 0, 1) := by decide +kernel
theorem dX11_lay_143 : decode cX11_lay 143 = .ok (.getfield 266, 3) := by decide +kernel
theorem dX11_lay_146 : decode cX11_lay 146 = .ok (.if_icmp .ge 16, 3) := by decide +kernel
theorem dX11_lay_149 : decode cX11_lay 149 = .ok (.aload_n 0, 1) := by decide +kernel
theorem dX11_lay_150 : decode cX11_lay 150 = .ok (.getfield 93, 3) := by decide +kernel
theorem dX11_lay_153 : decode cX11_lay 153 = .ok (.iload_n 2, 1) := by decide +kernel
theorem dX11_lay_154 : decode cX11_lay 154 = .ok (.iconst 0, 1) := by decide +kernel
theorem dX11_lay_155 : decode cX11_lay 155 = .ok (.bastore, 1) := by decide +kernel
theorem dX11_lay_156 : decode cX11_lay 156 = .ok (.iinc 2 1, 3) := by decide +kernel
theorem dX11_lay_159 : decode cX11_lay 159 = .ok (.goto (-18), 3) := by decide +kernel
theorem dX11_lay_162 : decode cX11_lay 162 = .ok (.aload_n 0, 1) := by decide +kernel
theorem dX11_lay_163 : decode cX11_lay 163 = .ok (.iload_n 1, 1) := by decide +kernel
theorem dX11_lay_164 : decode cX11_lay 164 = .ok (.bipush 6, 2) := by decide +kernel
theorem dX11_lay_166 : decode cX11_lay 166 = .ok (.invokevirtual 272, 3) := by decide +kernel
theorem dX11_lay_169 : decode cX11_lay 169 = .ok (.istore_n 2, 1) := by decide +kernel
theorem dX11_lay_170 : decode cX11_lay 170 = .ok (.iload_n 2, 1) := by decide +kernel
theorem dX11_lay_171 : decode cX11_lay 171 = .ok (.iconst (-1), 1) := by decide +kernel
theorem dX11_lay_172 : decode cX11_lay 172 = .ok (.if_icmp .eq 42, 3) := by decide +kernel
theorem dX11_lay_175 : decode cX11_lay 175 = .ok (.aload_n 0, 1) := by decide +kernel
theorem dX11_lay_176 : decode cX11_lay 176 = .ok (.getfield 78, 3) := by decide +kernel
theorem dX11_lay_179 : decode cX11_lay 179 = .ok (.sipush 400, 3) := by decide +kernel
theorem dX11_lay_182 : decode cX11_lay 182 = .ok (.iload_n 1, 1) := by decide +kernel
theorem dX11_lay_183 : decode cX11_lay 183 = .ok (.imul, 1) := by decide +kernel
theorem dX11_lay_184 : decode cX11_lay 184 = .ok (.aload_n 0, 1) := by decide +kernel
theorem dX11_lay_185 : decode cX11_lay 185 = .ok (.getfield 75, 3) := by decide +kernel
theorem dX11_lay_188 : decode cX11_lay 188 = .ok (.iload_n 1, 1) := by decide +kernel
theorem dX11_lay_189 : decode cX11_lay 189 = .ok (.iaload, 1) := by decide +kernel
theorem dX11_lay_190 : decode cX11_lay 190 = .ok (.iadd, 1) := by decide +kernel
theorem dX11_lay_191 : decode cX11_lay 191 = .ok (.iload_n 2, 1) := by decide +kernel
theorem dX11_lay_192 : decode cX11_lay 192 = .ok (.iastore, 1) := by decide +kernel
theorem dX11_lay_193 : decode cX11_lay 193 = .ok (.aload_n 0, 1) := by decide +kernel
theorem dX11_lay_194 : decode cX11_lay 194 = .ok (.getfield 75, 3) := by decide +kernel
theorem dX11_lay_197 : decode cX11_lay 197 = .ok (.iload_n 1, 1) := by decide +kernel
theorem dX11_lay_198 : decode cX11_lay 198 = .ok (.dup2, 1) := by decide +kernel
theorem dX11_lay_199 : decode cX11_lay 199 = .ok (.iaload, 1) := by decide +kernel
theorem dX11_lay_200 : decode cX11_lay 200 = .ok (.iconst 1, 1) := by decide +kernel
theorem dX11_lay_201 : decode cX11_lay 201 = .ok (.iadd, 1) := by decide +kernel
theorem dX11_lay_202 : decode cX11_lay 202 = .ok (.iastore, 1) := by decide +kernel
theorem dX11_lay_203 : decode cX11_lay 203 = .ok (.aload_n 0, 1) := by decide +kernel
theorem dX11_lay_204 : decode cX11_lay 204 = .ok (.iload_n 1, 1) := by decide +kernel
theorem dX11_lay_205 : decode cX11_lay 205 = .ok (.bipush 6, 2) := by decide +kernel
theorem dX11_lay_207 : decode cX11_lay 207 = .ok (.invokevirtual 272, 3) := by decide +kernel
theorem dX11_lay_210 : decode cX11_lay 210 = .ok (.istore_n 2, 1) := by decide +kernel
theorem dX11_lay_211 : decode cX11_lay 211 = .ok (.goto (-41), 3) := by decide +kernel
theorem dX11_lay_214 : decode cX11_lay 214 = .ok (.return_, 1) := by decide +kernel
theorem dX11_holes_0 : decode cX11_holes 0 = .ok (.iconst 0, 1) := by decide +kernel
theorem dX11_holes_1 : decode cX11_holes 1 = .ok (.istore_n 2, 1) := by decide +kernel
theorem dX11_holes_2 : decode cX11_holes 2 = .ok (.iconst 0, 1) := by decide +kernel
theorem dX11_holes_3 : decode cX11_holes 3 = .ok (.istore_n 3, 1) := by decide +kernel
theorem dX11_holes_4 : decode cX11_holes 4 = .ok (.iload_n 3, 1) := by decide +kernel
theorem dX11_holes_5 : decode cX11_holes 5 = .ok (.aload_n 0, 1) := by decide +kernel
theorem dX11_holes_6 : decode cX11_holes 6 = .ok (.iload_n 1, 1) := by decide +kernel
theorem dX11_holes_7 : decode cX11_holes 7 = .ok (.invokevirtual 205, 3) := by decide +kernel
theorem dX11_holes_10 : decode cX11_holes 10 = .ok (.if_icmp .ge 33, 3) := by decide +kernel
theorem dX11_holes_13 : decode cX11_holes 13 = .ok (.iload_n 2, 1) := by decide +kernel
theorem dX11_holes_14 : decode cX11_holes 14 = .ok (.aload_n 0, 1) := by decide +kernel
theorem dX11_holes_15 : decode cX11_holes 15 = .ok (.getfield 41, 3) := by decide +kernel
theorem dX11_holes_18 : decode cX11_holes 18 = .ok (.sipush 400, 3) := by decide +kernel
theorem dX11_holes_21 : decode cX11_holes 21 = .ok (.iload_n 1, 1) := by decide +kernel
theorem dX11_holes_22 : decode cX11_holes 22 = .ok (.imul, 1) := by decide +kernel
theorem dX11_holes_23 : decode cX11_holes 23 = .ok (.iload_n 3, 1) := by decide +kernel
theorem dX11_holes_24 : decode cX11_holes 24 = .ok (.iadd, 1) := by decide +kernel
theorem dX11_holes_25 : decode cX11_holes 25 = .ok (.iaload, 1) := by decide +kernel
theorem dX11_holes_26 : decode cX11_holes 26 = .ok (.iconst (-1), 1) := by decide +kernel
theorem dX11_holes_27 : decode cX11_holes 27 = .ok (.if_icmp .ne 7, 3) := by decide +kernel
theorem dX11_holes_30 : decode cX11_holes 30 = .ok (.iconst 1, 1) := by decide +kernel
theorem dX11_holes_31 : decode cX11_holes 31 = .ok (.goto 4, 3) := by decide +kernel
theorem dX11_holes_34 : decode cX11_holes 34 = .ok (.iconst 0, 1) := by decide +kernel
theorem dX11_holes_35 : decode cX11_holes 35 = .ok (.iadd, 1) := by decide +kernel
theorem dX11_holes_36 : decode cX11_holes 36 = .ok (.istore_n 2, 1) := by decide +kernel
theorem dX11_holes_37 : decode cX11_holes 37 = .ok (.iinc 3 1, 3) := by decide +kernel
theorem dX11_holes_40 : decode cX11_holes 40 = .ok (.goto (-36), 3) := by decide +kernel
theorem dX11_holes_43 : decode cX11_holes 43 = .ok (.iload_n 2, 1) := by decide +kernel
theorem dX11_holes_44 : decode cX11_holes 44 = .ok (.ireturn, 1) := by decide +kernel
theorem dX11_about_0 : decode cX11_about 0 = .ok (.aload_n 0, 1) := by decide +kernel
theorem dX11_about_1 : decode cX11_about 1 = .ok (.iconst 0, 1) := by decide +kernel
theorem dX11_about_2 : decode cX11_about 2 = .ok (.putfield 96, 3) := by decide +kernel
theorem dX11_about_5 : decode cX11_about 5 = .ok (.aload_n 0, 1) := by decide +kernel
theorem dX11_about_6 : decode cX11_about 6 = .ok (.iload_n 1, 1) := by decide +kernel
theorem dX11_about_7 : decode cX11_about 7 = .ok (.invokevirtual 231, 3) := by decide +kernel
theorem dX11_about_10 : decode cX11_about 10 = .ok (.ifCond .ne 8, 3) := by decide +kernel
theorem dX11_about_13 : decode cX11_about 13 = .ok (.aload_n 0, 1) := by decide +kernel
theorem dX11_about_14 : decode cX11_about 14 = .ok (.invokevirtual 215, 3) := by decide +kernel
theorem dX11_about_17 : decode cX11_about 17 = .ok (.ireturn, 1) := by decide +kernel
theorem dX11_about_18 : decode cX11_about 18 = .ok (.iconst 0, 1) := by decide +kernel
theorem dX11_about_19 : decode cX11_about 19 = .ok (.istore_n 3, 1) := by decide +kernel
theorem dX11_about_20 : decode cX11_about 20 = .ok (.iload_n 2, 1) := by decide +kernel
theorem dX11_about_21 : decode cX11_about 21 = .ok (.tableswitch 219 0 8 #[51, 58, 64, 76, 83, 89, 155, 195, 207], 51) := by decide +kernel
theorem dX11_about_72 : decode cX11_about 72 = .ok (.aload_n 0, 1) := by decide +kernel
theorem dX11_about_73 : decode cX11_about 73 = .ok (.getfield 20, 3) := by decide +kernel
theorem dX11_about_76 : decode cX11_about 76 = .ok (.iload_n 1, 1) := by decide +kernel
theorem dX11_about_77 : decode cX11_about 77 = .ok (.iaload, 1) := by decide +kernel
theorem dX11_about_78 : decode cX11_about 78 = .ok (.ireturn, 1) := by decide +kernel
theorem dX11_about_79 : decode cX11_about 79 = .ok (.aload_n 0, 1) := by decide +kernel
theorem dX11_about_80 : decode cX11_about 80 = .ok (.iload_n 1, 1) := by decide +kernel
theorem dX11_about_81 : decode cX11_about 81 = .ok (.invokevirtual 205, 3) := by decide +kernel
theorem dX11_about_84 : decode cX11_about 84 = .ok (.ireturn, 1) := by decide +kernel
theorem dX11_about_85 : decode cX11_about 85 = .ok (.aload_n 0, 1) := by decide +kernel
theorem dX11_about_86 : decode cX11_about 86 = .ok (.getfield 26, 3) := by decide +kernel
theorem dX11_about_89 : decode cX11_about 89 = .ok (.bipush 6, 2) := by decide +kernel
theorem dX11_about_91 : decode cX11_about 91 = .ok (.iload_n 1, 1) := by decide +kernel
theorem dX11_about_92 : decode cX11_about 92 = .ok (.imul, 1) := by decide +kernel
theorem dX11_about_93 : decode cX11_about 93 = .ok (.iconst 5, 1) := by decide +kernel
theorem dX11_about_94 : decode cX11_about 94 = .ok (.iadd, 1) := by decide +kernel
theorem dX11_about_95 : decode cX11_about 95 = .ok (.iaload, 1) := by decide +kernel
theorem dX11_about_96 : decode cX11_about 96 = .ok (.ireturn, 1) := by decide +kernel
theorem dX11_about_97 : decode cX11_about 97 = .ok (.aload_n 0, 1) := by decide +kernel
theorem dX11_about_98 : decode cX11_about 98 = .ok (.getfield 23, 3) := by decide +kernel
theorem dX11_about_101 : decode cX11_about 101 = .ok (.iload_n 1, 1) := by decide +kernel
theorem dX11_about_102 : decode cX11_about 102 = .ok (.iaload, 1) := by decide +kernel
theorem dX11_about_103 : decode cX11_about 103 = .ok (.ireturn, 1) := by decide +kernel
theorem dX11_about_104 : decode cX11_about 104 = .ok (.aload_n 0, 1) := by decide +kernel
theorem dX11_about_105 : decode cX11_about 105 = .ok (.iload_n 1, 1) := by decide +kernel
theorem dX11_about_106 : decode cX11_about 106 = .ok (.invokevirtual 275, 3) := by decide +kernel
theorem dX11_about_109 : decode cX11_about 109 = .ok (.ireturn, 1) := by decide +kernel
theorem dX11_about_110 : decode cX11_about 110 = .ok (.iconst 0, 1) := by decide +kernel
theorem dX11_about_111 : decode cX11_about 111 = .ok (.istore 4, 2) := by decide +kernel
theorem dX11_about_113 : decode cX11_about 113 = .ok (.iload 4, 2) := by decide +kernel
theorem dX11_about_115 : decode cX11_about 115 = .ok (.aload_n 0, 1) := by decide +kernel
theorem dX11_about_116 : decode cX11_about 116 = .ok (.getfield 23, 3) := by decide +kernel
theorem dX11_about_119 : decode cX11_about 119 = .ok (.iload_n 1, 1) := by decide +kernel
theorem dX11_about_120 : decode cX11_about 120 = .ok (.iaload, 1) := by decide +kernel
theorem dX11_about_121 : decode cX11_about 121 = .ok (.if_icmp .ge 53, 3) := by decide +kernel
theorem dX11_about_124 : decode cX11_about 124 = .ok (.iload 4, 2) := by decide +kernel
theorem dX11_about_126 : decode cX11_about 126 = .ok (.iconst 1, 1) := by decide +kernel
theorem dX11_about_127 : decode cX11_about 127 = .ok (.iadd, 1) := by decide +kernel
theorem dX11_about_128 : decode cX11_about 128 = .ok (.istore 5, 2) := by decide +kernel
theorem dX11_about_130 : decode cX11_about 130 = .ok (.iload 5, 2) := by decide +kernel
theorem dX11_about_132 : decode cX11_about 132 = .ok (.aload_n 0, 1) := by decide +kernel
theorem dX11_about_133 : decode cX11_about 133 = .ok (.getfield 23, 3) := by decide +kernel
theorem dX11_about_136 : decode cX11_about 136 = .ok (.iload_n 1, 1) := by decide +kernel
theorem dX11_about_137 : decode cX11_about 137 = .ok (.iaload, 1) := by decide +kernel
theorem dX11_about_138 : decode cX11_about 138 = .ok (.if_icmp .ge 30, 3) := by decide +kernel
theorem dX11_about_141 : decode cX11_about 141 = .ok (.iload_n 3, 1) := by decide +kernel
theorem dX11_about_142 : decode cX11_about 142 = .ok (.aload_n 0, 1) := by decide +kernel
theorem dX11_about_143 : decode cX11_about 143 = .ok (.iload_n 1, 1) := by decide +kernel
theorem dX11_about_144 : decode cX11_about 144 = .ok (.iload 4, 2) := by decide +kernel
theorem dX11_about_146 : decode cX11_about 146 = .ok (.iload 5, 2) := by decide +kernel
theorem dX11_about_148 : decode cX11_about 148 = .ok (.invokevirtual 278, 3) := by decide +kernel
theorem dX11_about_151 : decode cX11_about 151 = .ok (.iconst (-1), 1) := by decide +kernel
theorem dX11_about_152 : decode cX11_about 152 = .ok (.if_icmp .ne 7, 3) := by decide +kernel
theorem dX11_about_155 : decode cX11_about 155 = .ok (.iconst 0, 1) := by decide +kernel
theorem dX11_about_156 : decode cX11_about 156 = .ok (.goto 4, 3) := by decide +kernel
theorem dX11_about_159 : decode cX11_about 159 = .ok (.iconst 1, 1) := by decide +kernel
theorem dX11_about_160 : decode cX11_about 160 = .ok (.iadd, 1) := by decide +kernel
theorem dX11_about_161 : decode cX11_about 161 = .ok (.istore_n 3, 1) := by decide +kernel
theorem dX11_about_162 : decode cX11_about 162 = .ok (.iinc 5 1, 3) := by decide +kernel
theorem dX11_about_165 : decode cX11_about 165 = .ok (.goto (-35), 3) := by decide +kernel
theorem dX11_about_168 : decode cX11_about 168 = .ok (.iinc 4 1, 3) := by decide +kernel
theorem dX11_about_171 : decode cX11_about 171 = .ok (.goto (-58), 3) := by decide +kernel
theorem dX11_about_174 : decode cX11_about 174 = .ok (.iload_n 3, 1) := by decide +kernel
theorem dX11_about_175 : decode cX11_about 175 = .ok (.ireturn, 1) := by decide +kernel
theorem dX11_about_176 : decode cX11_about 176 = .ok (.iconst 0, 1) := by decide +kernel
theorem dX11_about_177 : decode cX11_about 177 = .ok (.istore 4, 2) := by decide +kernel
theorem dX11_about_179 : decode cX11_about 179 = .ok (.iload 4, 2) := by decide +kernel
theorem dX11_about_181 : decode cX11_about 181 = .ok (.aload_n 0, 1) := by decide +kernel
theorem dX11_about_182 : decode cX11_about 182 = .ok (.getfield 23, 3) := by decide +kernel
theorem dX11_about_185 : decode cX11_about 185 = .ok (.iload_n 1, 1) := by decide +kernel
theorem dX11_about_186 : decode cX11_about 186 = .ok (.iaload, 1) := by decide +kernel
theorem dX11_about_187 : decode cX11_about 187 = .ok (.if_icmp .ge 27, 3) := by decide +kernel
theorem dX11_about_190 : decode cX11_about 190 = .ok (.iload_n 3, 1) := by decide +kernel
theorem dX11_about_191 : decode cX11_about 191 = .ok (.aload_n 0, 1) := by decide +kernel
theorem dX11_about_192 : decode cX11_about 192 = .ok (.iload_n 1, 1) := by decide +kernel
theorem dX11_about_193 : decode cX11_about 193 = .ok (.iload 4, 2) := by decide +kernel
theorem dX11_about_195 : decode cX11_about 195 = .ok (.invokevirtual 281, 3) := by decide +kernel
theorem dX11_about_198 : decode cX11_about 198 = .ok (.ifCond .eq 7, 3) := by decide +kernel
theorem dX11_about_201 : decode cX11_about 201 = .ok (.iconst 1, 1) := by decide +kernel
theorem dX11_about_202 : decode cX11_about 202 = .ok (.goto 4, 3) := by decide +kernel
theorem dX11_about_205 : decode cX11_about 205 = .ok (.iconst 0, 1) := by decide +kernel
theorem dX11_about_206 : decode cX11_about 206 = .ok (.iadd, 1) := by decide +kernel
theorem dX11_about_207 : decode cX11_about 207 = .ok (.istore_n 3, 1) := by decide +kernel
theorem dX11_about_208 : decode cX11_about 208 = .ok (.iinc 4 1, 3) := by decide +kernel
theorem dX11_about_211 : decode cX11_about 211 = .ok (.goto (-32), 3) := by decide +kernel
theorem dX11_about_214 : decode cX11_about 214 = .ok (.iload_n 3, 1) := by decide +kernel
theorem dX11_about_215 : decode cX11_about 215 = .ok (.ireturn, 1) := by decide +kernel
theorem dX11_about_216 : decode cX11_about 216 = .ok (.aload_n 0, 1) := by decide +kernel
theorem dX11_about_217 : decode cX11_about 217 = .ok (.iload_n 1, 1) := by decide +kernel
theorem dX11_about_218 : decode cX11_about 218 = .ok (.invokevirtual 284, 3) := by decide +kernel
theorem dX11_about_221 : decode cX11_about 221 = .ok (.aload_n 0, 1) := by decide +kernel
theorem dX11_about_222 : decode cX11_about 222 = .ok (.getfield 66, 3) := by decide +kernel
theorem dX11_about_225 : decode cX11_about 225 = .ok (.iload_n 1, 1) := by decide +kernel
theorem dX11_about_226 : decode cX11_about 226 = .ok (.iaload, 1) := by decide +kernel
theorem dX11_about_227 : decode cX11_about 227 = .ok (.ireturn, 1) := by decide +kernel
theorem dX11_about_228 : decode cX11_about 228 = .ok (.aload_n 0, 1) := by decide +kernel
theorem dX11_about_229 : decode cX11_about 229 = .ok (.iload_n 1, 1) := by decide +kernel
theorem dX11_about_230 : decode cX11_about 230 = .ok (.invokevirtual 284, 3) := by decide +kernel
theorem dX11_about_233 : decode cX11_about 233 = .ok (.aload_n 0, 1) := by decide +kernel
theorem dX11_about_234 : decode cX11_about 234 = .ok (.getfield 75, 3) := by decide +kernel
theorem dX11_about_237 : decode cX11_about 237 = .ok (.iload_n 1, 1) := by decide +kernel
theorem dX11_about_238 : decode cX11_about 238 = .ok (.iaload, 1) := by decide +kernel
theorem dX11_about_239 : decode cX11_about 239 = .ok (.ireturn, 1) := by decide +kernel
theorem dX11_about_240 : decode cX11_about 240 = .ok (.aload_n 0, 1) := by decide +kernel
theorem dX11_about_241 : decode cX11_about 241 = .ok (.invokevirtual 215, 3) := by decide +kernel
theorem dX11_about_244 : decode cX11_about 244 = .ok (.ireturn, 1) := by decide +kernel
theorem dX11_answer_0 : decode cX11_answer 0 = .ok (.aload_n 0, 1) := by decide +kernel
theorem dX11_answer_1 : decode cX11_answer 1 = .ok (.iconst 0, 1) := by decide +kernel
theorem dX11_answer_2 : decode cX11_answer 2 = .ok (.putfield 96, 3) := by decide +kernel
theorem dX11_answer_5 : decode cX11_answer 5 = .ok (.aload_n 0, 1) := by decide +kernel
theorem dX11_answer_6 : decode cX11_answer 6 = .ok (.iload_n 1, 1) := by decide +kernel
theorem dX11_answer_7 : decode cX11_answer 7 = .ok (.invokevirtual 231, 3) := by decide +kernel
theorem dX11_answer_10 : decode cX11_answer 10 = .ok (.ifCond .eq 25, 3) := by decide +kernel
theorem dX11_answer_13 : decode cX11_answer 13 = .ok (.iload_n 2, 1) := by decide +kernel
theorem dX11_answer_14 : decode cX11_answer 14 = .ok (.ifCond .lt 21, 3) := by decide +kernel
theorem dX11_answer_17 : decode cX11_answer 17 = .ok (.iload_n 2, 1) := by decide +kernel
theorem dX11_answer_18 : decode cX11_answer 18 = .ok (.aload_n 0, 1) := by decide +kernel
theorem dX11_answer_19 : decode cX11_answer 19 = .ok (.iload_n 1, 1) := by decide +kernel
theorem dX11_answer_20 : decode cX11_answer 20 = .ok (.invokevirtual 205, 3) := by decide +kernel
theorem dX11_answer_23 : decode cX11_answer 23 = .ok (.if_icmp .ge 12, 3) := by decide +kernel
theorem dX11_answer_26 : decode cX11_answer 26 = .ok (.iload_n 3, 1) := by decide +kernel
theorem dX11_answer_27 : decode cX11_answer 27 = .ok (.ifCond .lt 8, 3) := by decide +kernel
theorem dX11_answer_30 : decode cX11_answer 30 = .ok (.iload_n 3, 1) := by decide +kernel
theorem dX11_answer_31 : decode cX11_answer 31 = .ok (.iconst 2, 1) := by decide +kernel
theorem dX11_answer_32 : decode cX11_answer 32 = .ok (.if_icmp .le 8, 3) := by decide +kernel
theorem dX11_answer_35 : decode cX11_answer 35 = .ok (.aload_n 0, 1) := by decide +kernel
theorem dX11_answer_36 : decode cX11_answer 36 = .ok (.invokevirtual 215, 3) := by decide +kernel
theorem dX11_answer_39 : decode cX11_answer 39 = .ok (.ireturn, 1) := by decide +kernel
theorem dX11_answer_40 : decode cX11_answer 40 = .ok (.iconst 0, 1) := by decide +kernel
theorem dX11_answer_41 : decode cX11_answer 41 = .ok (.istore 4, 2) := by decide +kernel
theorem dX11_answer_43 : decode cX11_answer 43 = .ok (.iconst 0, 1) := by decide +kernel
theorem dX11_answer_44 : decode cX11_answer 44 = .ok (.istore 5, 2) := by decide +kernel
theorem dX11_answer_46 : decode cX11_answer 46 = .ok (.iload 5, 2) := by decide +kernel
theorem dX11_answer_48 : decode cX11_answer 48 = .ok (.aload_n 0, 1) := by decide +kernel
theorem dX11_answer_49 : decode cX11_answer 49 = .ok (.getfield 23, 3) := by decide +kernel
theorem dX11_answer_52 : decode cX11_answer 52 = .ok (.iload_n 1, 1) := by decide +kernel
theorem dX11_answer_53 : decode cX11_answer 53 = .ok (.iaload, 1) := by decide +kernel
theorem dX11_answer_54 : decode cX11_answer 54 = .ok (.if_icmp .ge 30, 3) := by decide +kernel
theorem dX11_answer_57 : decode cX11_answer 57 = .ok (.iload 4, 2) := by decide +kernel
theorem dX11_answer_59 : decode cX11_answer 59 = .ok (.aload_n 0, 1) := by decide +kernel
theorem dX11_answer_60 : decode cX11_answer 60 = .ok (.iload_n 1, 1) := by decide +kernel
theorem dX11_answer_61 : decode cX11_answer 61 = .ok (.iload 5, 2) := by decide +kernel
theorem dX11_answer_63 : decode cX11_answer 63 = .ok (.iload_n 2, 1) := by decide +kernel
theorem dX11_answer_64 : decode cX11_answer 64 = .ok (.invokevirtual 243, 3) := by decide +kernel
theorem dX11_answer_67 : decode cX11_answer 67 = .ok (.ifCond .eq 7, 3) := by decide +kernel
theorem dX11_answer_70 : decode cX11_answer 70 = .ok (.iconst 1, 1) := by decide +kernel
theorem dX11_answer_71 : decode cX11_answer 71 = .ok (.goto 4, 3) := by decide +kernel
theorem dX11_answer_74 : decode cX11_answer 74 = .ok (.iconst 0, 1) := by decide +kernel
theorem dX11_answer_75 : decode cX11_answer 75 = .ok (.iadd, 1) := by decide +kernel
theorem dX11_answer_76 : decode cX11_answer 76 = .ok (.istore 4, 2) := by decide +kernel
theorem dX11_answer_78 : decode cX11_answer 78 = .ok (.iinc 5 1, 3) := by decide +kernel
theorem dX11_answer_81 : decode cX11_answer 81 = .ok (.goto (-35), 3) := by decide +kernel
theorem dX11_answer_84 : decode cX11_answer 84 = .ok (.iload_n 3, 1) := by decide +kernel
theorem dX11_answer_85 : decode cX11_answer 85 = .ok (.ifCond .ne 12, 3) := by decide +kernel
theorem dX11_answer_88 : decode cX11_answer 88 = .ok (.aload_n 0, 1) := by decide +kernel
theorem dX11_answer_89 : decode cX11_answer 89 = .ok (.iload_n 1, 1) := by decide +kernel
theorem dX11_answer_90 : decode cX11_answer 90 = .ok (.iload_n 2, 1) := by decide +kernel
theorem dX11_answer_91 : decode cX11_answer 91 = .ok (.invokevirtual 253, 3) := by decide +kernel
theorem dX11_answer_94 : decode cX11_answer 94 = .ok (.goto 25, 3) := by decide +kernel
theorem dX11_answer_97 : decode cX11_answer 97 = .ok (.iload_n 3, 1) := by decide +kernel
theorem dX11_answer_98 : decode cX11_answer 98 = .ok (.iconst 1, 1) := by decide +kernel
theorem dX11_answer_99 : decode cX11_answer 99 = .ok (.if_icmp .ne 18, 3) := by decide +kernel
theorem dX11_answer_102 : decode cX11_answer 102 = .ok (.aload_n 0, 1) := by decide +kernel
theorem dX11_answer_103 : decode cX11_answer 103 = .ok (.getfield 41, 3) := by decide +kernel
theorem dX11_answer_106 : decode cX11_answer 106 = .ok (.sipush 400, 3) := by decide +kernel
theorem dX11_answer_109 : decode cX11_answer 109 = .ok (.iload_n 1, 1) := by decide +kernel
theorem dX11_answer_110 : decode cX11_answer 110 = .ok (.imul, 1) := by decide +kernel
theorem dX11_answer_111 : decode cX11_answer 111 = .ok (.iload_n 2, 1) := by decide +kernel
theorem dX11_answer_112 : decode cX11_answer 112 = .ok (.iadd, 1) := by decide +kernel
theorem dX11_answer_113 : decode cX11_answer 113 = .ok (.iaload, 1) := by decide +kernel
theorem dX11_answer_114 : decode cX11_answer 114 = .ok (.goto 5, 3) := by decide +kernel
theorem dX11_answer_117 : decode cX11_answer 117 = .ok (.iload 4, 2) := by decide +kernel
theorem dX11_answer_119 : decode cX11_answer 119 = .ok (.ireturn, 1) := by decide +kernel
theorem dX11_value_0 : decode cX11_value 0 = .ok (.aload_n 0, 1) := by decide +kernel
theorem dX11_value_1 : decode cX11_value 1 = .ok (.iconst 0, 1) := by decide +kernel
theorem dX11_value_2 : decode cX11_value 2 = .ok (.putfield 96, 3) := by decide +kernel
theorem dX11_value_5 : decode cX11_value 5 = .ok (.aload_n 0, 1) := by decide +kernel
theorem dX11_value_6 : decode cX11_value 6 = .ok (.iload_n 1, 1) := by decide +kernel
theorem dX11_value_7 : decode cX11_value 7 = .ok (.invokevirtual 231, 3) := by decide +kernel
theorem dX11_value_10 : decode cX11_value 10 = .ok (.ifCond .eq 30, 3) := by decide +kernel
theorem dX11_value_13 : decode cX11_value 13 = .ok (.iload_n 2, 1) := by decide +kernel
theorem dX11_value_14 : decode cX11_value 14 = .ok (.ifCond .lt 26, 3) := by decide +kernel
theorem dX11_value_17 : decode cX11_value 17 = .ok (.iload_n 2, 1) := by decide +kernel
theorem dX11_value_18 : decode cX11_value 18 = .ok (.aload_n 0, 1) := by decide +kernel
theorem dX11_value_19 : decode cX11_value 19 = .ok (.iload_n 1, 1) := by decide +kernel
theorem dX11_value_20 : decode cX11_value 20 = .ok (.invokevirtual 205, 3) := by decide +kernel
theorem dX11_value_23 : decode cX11_value 23 = .ok (.if_icmp .ge 17, 3) := by decide +kernel
theorem dX11_value_26 : decode cX11_value 26 = .ok (.iload_n 3, 1) := by decide +kernel
theorem dX11_value_27 : decode cX11_value 27 = .ok (.ifCond .lt 13, 3) := by decide +kernel
theorem dX11_value_30 : decode cX11_value 30 = .ok (.iload_n 3, 1) := by decide +kernel
theorem dX11_value_31 : decode cX11_value 31 = .ok (.aload_n 0, 1) := by decide +kernel
theorem dX11_value_32 : decode cX11_value 32 = .ok (.getfield 20, 3) := by decide +kernel
theorem dX11_value_35 : decode cX11_value 35 = .ok (.iload_n 1, 1) := by decide +kernel
theorem dX11_value_36 : decode cX11_value 36 = .ok (.iaload, 1) := by decide +kernel
theorem dX11_value_37 : decode cX11_value 37 = .ok (.if_icmp .lt 8, 3) := by decide +kernel
theorem dX11_value_40 : decode cX11_value 40 = .ok (.aload_n 0, 1) := by decide +kernel
theorem dX11_value_41 : decode cX11_value 41 = .ok (.invokevirtual 215, 3) := by decide +kernel
theorem dX11_value_44 : decode cX11_value 44 = .ok (.ireturn, 1) := by decide +kernel
theorem dX11_value_45 : decode cX11_value 45 = .ok (.aload_n 0, 1) := by decide +kernel
theorem dX11_value_46 : decode cX11_value 46 = .ok (.iload_n 1, 1) := by decide +kernel
theorem dX11_value_47 : decode cX11_value 47 = .ok (.iload_n 2, 1) := by decide +kernel
theorem dX11_value_48 : decode cX11_value 48 = .ok (.iload_n 3, 1) := by decide +kernel
theorem dX11_value_49 : decode cX11_value 49 = .ok (.invokevirtual 240, 3) := by decide +kernel
theorem dX11_value_52 : decode cX11_value 52 = .ok (.ireturn, 1) := by decide +kernel
theorem dX11_hole_0 : decode cX11_hole 0 = .ok (.aload_n 0, 1) := by decide +kernel
theorem dX11_hole_1 : decode cX11_hole 1 = .ok (.iconst 0, 1) := by decide +kernel
theorem dX11_hole_2 : decode cX11_hole 2 = .ok (.putfield 96, 3) := by decide +kernel
theorem dX11_hole_5 : decode cX11_hole 5 = .ok (.aload_n 0, 1) := by decide +kernel
theorem dX11_hole_6 : decode cX11_hole 6 = .ok (.iload_n 1, 1) := by decide +kernel
theorem dX11_hole_7 : decode cX11_hole 7 = .ok (.invokevirtual 231, 3) := by decide +kernel
theorem dX11_hole_10 : decode cX11_hole 10 = .ok (.ifCond .eq 16, 3) := by decide +kernel
theorem dX11_hole_13 : decode cX11_hole 13 = .ok (.iload_n 2, 1) := by decide +kernel
theorem dX11_hole_14 : decode cX11_hole 14 = .ok (.ifCond .lt 12, 3) := by decide +kernel
theorem dX11_hole_17 : decode cX11_hole 17 = .ok (.iload_n 2, 1) := by decide +kernel
theorem dX11_hole_18 : decode cX11_hole 18 = .ok (.aload_n 0, 1) := by decide +kernel
theorem dX11_hole_19 : decode cX11_hole 19 = .ok (.iload_n 1, 1) := by decide +kernel
theorem dX11_hole_20 : decode cX11_hole 20 = .ok (.invokevirtual 275, 3) := by decide +kernel
theorem dX11_hole_23 : decode cX11_hole 23 = .ok (.if_icmp .lt 8, 3) := by decide +kernel
theorem dX11_hole_26 : decode cX11_hole 26 = .ok (.aload_n 0, 1) := by decide +kernel
theorem dX11_hole_27 : decode cX11_hole 27 = .ok (.invokevirtual 215, 3) := by decide +kernel
theorem dX11_hole_30 : decode cX11_hole 30 = .ok (.ireturn, 1) := by decide +kernel
theorem dX11_hole_31 : decode cX11_hole 31 = .ok (.iconst 0, 1) := by decide +kernel
theorem dX11_hole_32 : decode cX11_hole 32 = .ok (.istore_n 3, 1) := by decide +kernel
theorem dX11_hole_33 : decode cX11_hole 33 = .ok (.iconst 0, 1) := by decide +kernel
theorem dX11_hole_34 : decode cX11_hole 34 = .ok (.istore 4, 2) := by decide +kernel
theorem dX11_hole_36 : decode cX11_hole 36 = .ok (.aload_n 0, 1) := by decide +kernel
theorem dX11_hole_37 : decode cX11_hole 37 = .ok (.getfield 41, 3) := by decide +kernel
theorem dX11_hole_40 : decode cX11_hole 40 = .ok (.sipush 400, 3) := by decide +kernel
theorem dX11_hole_43 : decode cX11_hole 43 = .ok (.iload_n 1, 1) := by decide +kernel
theorem dX11_hole_44 : decode cX11_hole 44 = .ok (.imul, 1) := by decide +kernel
theorem dX11_hole_45 : decode cX11_hole 45 = .ok (.iload 4, 2) := by decide +kernel
theorem dX11_hole_47 : decode cX11_hole 47 = .ok (.iadd, 1) := by decide +kernel
theorem dX11_hole_48 : decode cX11_hole 48 = .ok (.iaload, 1) := by decide +kernel
theorem dX11_hole_49 : decode cX11_hole 49 = .ok (.iconst (-1), 1) := by decide +kernel
theorem dX11_hole_50 : decode cX11_hole 50 = .ok (.if_icmp .ne 8, 3) := by decide +kernel
theorem dX11_hole_53 : decode cX11_hole 53 = .ok (.iload_n 3, 1) := by decide +kernel
theorem dX11_hole_54 : decode cX11_hole 54 = .ok (.iload_n 2, 1) := by decide +kernel
theorem dX11_hole_55 : decode cX11_hole 55 = .ok (.if_icmp .ge 34, 3) := by decide +kernel
theorem dX11_hole_58 : decode cX11_hole 58 = .ok (.iload_n 3, 1) := by decide +kernel
theorem dX11_hole_59 : decode cX11_hole 59 = .ok (.aload_n 0, 1) := by decide +kernel
theorem dX11_hole_60 : decode cX11_hole 60 = .ok (.getfield 41, 3) := by decide +kernel
theorem dX11_hole_63 : decode cX11_hole 63 = .ok (.sipush 400, 3) := by decide +kernel
theorem dX11_hole_66 : decode cX11_hole 66 = .ok (.iload_n 1, 1) := by decide +kernel
theorem dX11_hole_67 : decode cX11_hole 67 = .ok (.imul, 1) := by decide +kernel
theorem dX11_hole_68 : decode cX11_hole 68 = .ok (.iload 4, 2) := by decide +kernel
theorem dX11_hole_70 : decode cX11_hole 70 = .ok (.iadd, 1) := by decide +kernel
theorem dX11_hole_71 : decode cX11_hole 71 = .ok (.iaload, 1) := by decide +kernel
theorem dX11_hole_72 : decode cX11_hole 72 = .ok (.iconst (-1), 1) := by decide +kernel
theorem dX11_hole_73 : decode cX11_hole 73 = .ok (.if_icmp .ne 7, 3) := by decide +kernel
theorem dX11_hole_76 : decode cX11_hole 76 = .ok (.iconst 1, 1) := by decide +kernel
theorem dX11_hole_77 : decode cX11_hole 77 = .ok (.goto 4, 3) := by decide +kernel
theorem dX11_hole_80 : decode cX11_hole 80 = .ok (.iconst 0, 1) := by decide +kernel
theorem dX11_hole_81 : decode cX11_hole 81 = .ok (.iadd, 1) := by decide +kernel
theorem dX11_hole_82 : decode cX11_hole 82 = .ok (.istore_n 3, 1) := by decide +kernel
theorem dX11_hole_83 : decode cX11_hole 83 = .ok (.iinc 4 1, 3) := by decide +kernel
theorem dX11_hole_86 : decode cX11_hole 86 = .ok (.goto (-50), 3) := by decide +kernel
theorem dX11_hole_89 : decode cX11_hole 89 = .ok (.iload 4, 2) := by decide +kernel
theorem dX11_hole_91 : decode cX11_hole 91 = .ok (.ireturn, 1) := by decide +kernel
theorem dX11_quarrel_0 : decode cX11_quarrel 0 = .ok (.aload_n 0, 1) := by decide +kernel
theorem dX11_quarrel_1 : decode cX11_quarrel 1 = .ok (.iconst 0, 1) := by decide +kernel
theorem dX11_quarrel_2 : decode cX11_quarrel 2 = .ok (.putfield 96, 3) := by decide +kernel
theorem dX11_quarrel_5 : decode cX11_quarrel 5 = .ok (.aload_n 0, 1) := by decide +kernel
theorem dX11_quarrel_6 : decode cX11_quarrel 6 = .ok (.iload_n 1, 1) := by decide +kernel
theorem dX11_quarrel_7 : decode cX11_quarrel 7 = .ok (.invokevirtual 231, 3) := by decide +kernel
theorem dX11_quarrel_10 : decode cX11_quarrel 10 = .ok (.ifCond .eq 16, 3) := by decide +kernel
theorem dX11_quarrel_13 : decode cX11_quarrel 13 = .ok (.iload_n 2, 1) := by decide +kernel
theorem dX11_quarrel_14 : decode cX11_quarrel 14 = .ok (.ifCond .lt 12, 3) := by decide +kernel
theorem dX11_quarrel_17 : decode cX11_quarrel 17 = .ok (.iload_n 3, 1) := by decide +kernel
theorem dX11_quarrel_18 : decode cX11_quarrel 18 = .ok (.ifCond .lt 8, 3) := by decide +kernel
theorem dX11_quarrel_21 : decode cX11_quarrel 21 = .ok (.iload_n 3, 1) := by decide +kernel
theorem dX11_quarrel_22 : decode cX11_quarrel 22 = .ok (.iconst 2, 1) := by decide +kernel
theorem dX11_quarrel_23 : decode cX11_quarrel 23 = .ok (.if_icmp .le 8, 3) := by decide +kernel
theorem dX11_quarrel_26 : decode cX11_quarrel 26 = .ok (.aload_n 0, 1) := by decide +kernel
theorem dX11_quarrel_27 : decode cX11_quarrel 27 = .ok (.invokevirtual 215, 3) := by decide +kernel
theorem dX11_quarrel_30 : decode cX11_quarrel 30 = .ok (.ireturn, 1) := by decide +kernel
theorem dX11_quarrel_31 : decode cX11_quarrel 31 = .ok (.iconst 0, 1) := by decide +kernel
theorem dX11_quarrel_32 : decode cX11_quarrel 32 = .ok (.istore 4, 2) := by decide +kernel
theorem dX11_quarrel_34 : decode cX11_quarrel 34 = .ok (.iconst 0, 1) := by decide +kernel
theorem dX11_quarrel_35 : decode cX11_quarrel 35 = .ok (.istore 5, 2) := by decide +kernel
theorem dX11_quarrel_37 : decode cX11_quarrel 37 = .ok (.iload 5, 2) := by decide +kernel
theorem dX11_quarrel_39 : decode cX11_quarrel 39 = .ok (.aload_n 0, 1) := by decide +kernel
theorem dX11_quarrel_40 : decode cX11_quarrel 40 = .ok (.getfield 23, 3) := by decide +kernel
theorem dX11_quarrel_43 : decode cX11_quarrel 43 = .ok (.iload_n 1, 1) := by decide +kernel
theorem dX11_quarrel_44 : decode cX11_quarrel 44 = .ok (.iaload, 1) := by decide +kernel
theorem dX11_quarrel_45 : decode cX11_quarrel 45 = .ok (.if_icmp .ge 83, 3) := by decide +kernel
theorem dX11_quarrel_48 : decode cX11_quarrel 48 = .ok (.iload 5, 2) := by decide +kernel
theorem dX11_quarrel_50 : decode cX11_quarrel 50 = .ok (.iconst 1, 1) := by decide +kernel
theorem dX11_quarrel_51 : decode cX11_quarrel 51 = .ok (.iadd, 1) := by decide +kernel
theorem dX11_quarrel_52 : decode cX11_quarrel 52 = .ok (.istore 6, 2) := by decide +kernel
theorem dX11_quarrel_54 : decode cX11_quarrel 54 = .ok (.iload 6, 2) := by decide +kernel
theorem dX11_quarrel_56 : decode cX11_quarrel 56 = .ok (.aload_n 0, 1) := by decide +kernel
theorem dX11_quarrel_57 : decode cX11_quarrel 57 = .ok (.getfield 23, 3) := by decide +kernel
theorem dX11_quarrel_60 : decode cX11_quarrel 60 = .ok (.iload_n 1, 1) := by decide +kernel
theorem dX11_quarrel_61 : decode cX11_quarrel 61 = .ok (.iaload, 1) := by decide +kernel
theorem dX11_quarrel_62 : decode cX11_quarrel 62 = .ok (.if_icmp .ge 60, 3) := by decide +kernel
theorem dX11_quarrel_65 : decode cX11_quarrel 65 = .ok (.aload_n 0, 1) := by decide +kernel
theorem dX11_quarrel_66 : decode cX11_quarrel 66 = .ok (.iload_n 1, 1) := by decide +kernel
theorem dX11_quarrel_67 : decode cX11_quarrel 67 = .ok (.iload 5, 2) := by decide +kernel
theorem dX11_quarrel_69 : decode cX11_quarrel 69 = .ok (.iload 6, 2) := by decide +kernel
theorem dX11_quarrel_71 : decode cX11_quarrel 71 = .ok (.invokevirtual 278, 3) := by decide +kernel
theorem dX11_quarrel_74 : decode cX11_quarrel 74 = .ok (.istore 7, 2) := by decide +kernel
theorem dX11_quarrel_76 : decode cX11_quarrel 76 = .ok (.iload 7, 2) := by decide +kernel
theorem dX11_quarrel_78 : decode cX11_quarrel 78 = .ok (.iconst (-1), 1) := by decide +kernel
theorem dX11_quarrel_79 : decode cX11_quarrel 79 = .ok (.if_icmp .ne 6, 3) := by decide +kernel
theorem dX11_quarrel_82 : decode cX11_quarrel 82 = .ok (.goto 34, 3) := by decide +kernel
theorem dX11_quarrel_85 : decode cX11_quarrel 85 = .ok (.iload 4, 2) := by decide +kernel
theorem dX11_quarrel_87 : decode cX11_quarrel 87 = .ok (.iload_n 2, 1) := by decide +kernel
theorem dX11_quarrel_88 : decode cX11_quarrel 88 = .ok (.if_icmp .ne 25, 3) := by decide +kernel
theorem dX11_quarrel_91 : decode cX11_quarrel 91 = .ok (.iload_n 3, 1) := by decide +kernel
theorem dX11_quarrel_92 : decode cX11_quarrel 92 = .ok (.ifCond .ne 8, 3) := by decide +kernel
theorem dX11_quarrel_95 : decode cX11_quarrel 95 = .ok (.iload 5, 2) := by decide +kernel
theorem dX11_quarrel_97 : decode cX11_quarrel 97 = .ok (.goto 15, 3) := by decide +kernel
theorem dX11_quarrel_100 : decode cX11_quarrel 100 = .ok (.iload_n 3, 1) := by decide +kernel
theorem dX11_quarrel_101 : decode cX11_quarrel 101 = .ok (.iconst 1, 1) := by decide +kernel
theorem dX11_quarrel_102 : decode cX11_quarrel 102 = .ok (.if_icmp .ne 8, 3) := by decide +kernel
theorem dX11_quarrel_105 : decode cX11_quarrel 105 = .ok (.iload 6, 2) := by decide +kernel
theorem dX11_quarrel_107 : decode cX11_quarrel 107 = .ok (.goto 5, 3) := by decide +kernel
theorem dX11_quarrel_110 : decode cX11_quarrel 110 = .ok (.iload 7, 2) := by decide +kernel
theorem dX11_quarrel_112 : decode cX11_quarrel 112 = .ok (.ireturn, 1) := by decide +kernel
theorem dX11_quarrel_113 : decode cX11_quarrel 113 = .ok (.iinc 4 1, 3) := by decide +kernel
theorem dX11_quarrel_116 : decode cX11_quarrel 116 = .ok (.iinc 6 1, 3) := by decide +kernel
theorem dX11_quarrel_119 : decode cX11_quarrel 119 = .ok (.goto (-65), 3) := by decide +kernel
theorem dX11_quarrel_122 : decode cX11_quarrel 122 = .ok (.iinc 5 1, 3) := by decide +kernel
theorem dX11_quarrel_125 : decode cX11_quarrel 125 = .ok (.goto (-88), 3) := by decide +kernel
theorem dX11_quarrel_128 : decode cX11_quarrel 128 = .ok (.aload_n 0, 1) := by decide +kernel
theorem dX11_quarrel_129 : decode cX11_quarrel 129 = .ok (.invokevirtual 215, 3) := by decide +kernel
theorem dX11_quarrel_132 : decode cX11_quarrel 132 = .ok (.ireturn, 1) := by decide +kernel
theorem dX11_idle_0 : decode cX11_idle 0 = .ok (.aload_n 0, 1) := by decide +kernel
theorem dX11_idle_1 : decode cX11_idle 1 = .ok (.iconst 0, 1) := by decide +kernel
theorem dX11_idle_2 : decode cX11_idle 2 = .ok (.putfield 96, 3) := by decide +kernel
theorem dX11_idle_5 : decode cX11_idle 5 = .ok (.aload_n 0, 1) := by decide +kernel
theorem dX11_idle_6 : decode cX11_idle 6 = .ok (.iload_n 1, 1) := by decide +kernel
theorem dX11_idle_7 : decode cX11_idle 7 = .ok (.invokevirtual 231, 3) := by decide +kernel
theorem dX11_idle_10 : decode cX11_idle 10 = .ok (.ifCond .eq 17, 3) := by decide +kernel
theorem dX11_idle_13 : decode cX11_idle 13 = .ok (.iload_n 2, 1) := by decide +kernel
theorem dX11_idle_14 : decode cX11_idle 14 = .ok (.ifCond .lt 13, 3) := by decide +kernel
theorem dX11_idle_17 : decode cX11_idle 17 = .ok (.iload_n 2, 1) := by decide +kernel
theorem dX11_idle_18 : decode cX11_idle 18 = .ok (.aload_n 0, 1) := by decide +kernel
theorem dX11_idle_19 : decode cX11_idle 19 = .ok (.getfield 23, 3) := by decide +kernel
theorem dX11_idle_22 : decode cX11_idle 22 = .ok (.iload_n 1, 1) := by decide +kernel
theorem dX11_idle_23 : decode cX11_idle 23 = .ok (.iaload, 1) := by decide +kernel
theorem dX11_idle_24 : decode cX11_idle 24 = .ok (.if_icmp .lt 10, 3) := by decide +kernel
theorem dX11_idle_27 : decode cX11_idle 27 = .ok (.aload_n 0, 1) := by decide +kernel
theorem dX11_idle_28 : decode cX11_idle 28 = .ok (.invokevirtual 215, 3) := by decide +kernel
theorem dX11_idle_31 : decode cX11_idle 31 = .ok (.pop, 1) := by decide +kernel
theorem dX11_idle_32 : decode cX11_idle 32 = .ok (.iconst 0, 1) := by decide +kernel
theorem dX11_idle_33 : decode cX11_idle 33 = .ok (.ireturn, 1) := by decide +kernel
theorem dX11_idle_34 : decode cX11_idle 34 = .ok (.aload_n 0, 1) := by decide +kernel
theorem dX11_idle_35 : decode cX11_idle 35 = .ok (.iload_n 1, 1) := by decide +kernel
theorem dX11_idle_36 : decode cX11_idle 36 = .ok (.iload_n 2, 1) := by decide +kernel
theorem dX11_idle_37 : decode cX11_idle 37 = .ok (.invokevirtual 281, 3) := by decide +kernel
theorem dX11_idle_40 : decode cX11_idle 40 = .ok (.ireturn, 1) := by decide +kernel
theorem dX11_term_0 : decode cX11_term 0 = .ok (.aload_n 0, 1) := by decide +kernel
theorem dX11_term_1 : decode cX11_term 1 = .ok (.iconst 0, 1) := by decide +kernel
theorem dX11_term_2 : decode cX11_term 2 = .ok (.putfield 96, 3) := by decide +kernel
theorem dX11_term_5 : decode cX11_term 5 = .ok (.aload_n 0, 1) := by decide +kernel
theorem dX11_term_6 : decode cX11_term 6 = .ok (.iload_n 1, 1) := by decide +kernel
theorem dX11_term_7 : decode cX11_term 7 = .ok (.invokevirtual 231, 3) := by decide +kernel
theorem dX11_term_10 : decode cX11_term 10 = .ok (.ifCond .eq 18, 3) := by decide +kernel
theorem dX11_term_13 : decode cX11_term 13 = .ok (.iload_n 3, 1) := by decide +kernel
theorem dX11_term_14 : decode cX11_term 14 = .ok (.iconst (-1), 1) := by decide +kernel
theorem dX11_term_15 : decode cX11_term 15 = .ok (.if_icmp .lt 13, 3) := by decide +kernel
theorem dX11_term_18 : decode cX11_term 18 = .ok (.iload_n 3, 1) := by decide +kernel
theorem dX11_term_19 : decode cX11_term 19 = .ok (.aload_n 0, 1) := by decide +kernel
theorem dX11_term_20 : decode cX11_term 20 = .ok (.getfield 20, 3) := by decide +kernel
theorem dX11_term_23 : decode cX11_term 23 = .ok (.iload_n 1, 1) := by decide +kernel
theorem dX11_term_24 : decode cX11_term 24 = .ok (.iaload, 1) := by decide +kernel
theorem dX11_term_25 : decode cX11_term 25 = .ok (.if_icmp .lt 8, 3) := by decide +kernel
theorem dX11_term_28 : decode cX11_term 28 = .ok (.aload_n 0, 1) := by decide +kernel
theorem dX11_term_29 : decode cX11_term 29 = .ok (.invokevirtual 215, 3) := by decide +kernel
theorem dX11_term_32 : decode cX11_term 32 = .ok (.ireturn, 1) := by decide +kernel
theorem dX11_term_33 : decode cX11_term 33 = .ok (.aload_n 0, 1) := by decide +kernel
theorem dX11_term_34 : decode cX11_term 34 = .ok (.iload_n 1, 1) := by decide +kernel
theorem dX11_term_35 : decode cX11_term 35 = .ok (.invokevirtual 284, 3) := by decide +kernel
theorem dX11_term_38 : decode cX11_term 38 = .ok (.iload_n 2, 1) := by decide +kernel
theorem dX11_term_39 : decode cX11_term 39 = .ok (.ifCond .lt 13, 3) := by decide +kernel
theorem dX11_term_42 : decode cX11_term 42 = .ok (.iload_n 2, 1) := by decide +kernel
theorem dX11_term_43 : decode cX11_term 43 = .ok (.aload_n 0, 1) := by decide +kernel
theorem dX11_term_44 : decode cX11_term 44 = .ok (.getfield 66, 3) := by decide +kernel
theorem dX11_term_47 : decode cX11_term 47 = .ok (.iload_n 1, 1) := by decide +kernel
theorem dX11_term_48 : decode cX11_term 48 = .ok (.iaload, 1) := by decide +kernel
theorem dX11_term_49 : decode cX11_term 49 = .ok (.if_icmp .lt 8, 3) := by decide +kernel
theorem dX11_term_52 : decode cX11_term 52 = .ok (.aload_n 0, 1) := by decide +kernel
theorem dX11_term_53 : decode cX11_term 53 = .ok (.invokevirtual 215, 3) := by decide +kernel
theorem dX11_term_56 : decode cX11_term 56 = .ok (.ireturn, 1) := by decide +kernel
theorem dX11_term_57 : decode cX11_term 57 = .ok (.iload_n 3, 1) := by decide +kernel
theorem dX11_term_58 : decode cX11_term 58 = .ok (.iconst (-1), 1) := by decide +kernel
theorem dX11_term_59 : decode cX11_term 59 = .ok (.if_icmp .ne 18, 3) := by decide +kernel
theorem dX11_term_62 : decode cX11_term 62 = .ok (.aload_n 0, 1) := by decide +kernel
theorem dX11_term_63 : decode cX11_term 63 = .ok (.getfield 72, 3) := by decide +kernel
theorem dX11_term_66 : decode cX11_term 66 = .ok (.sipush 400, 3) := by decide +kernel
theorem dX11_term_69 : decode cX11_term 69 = .ok (.iload_n 1, 1) := by decide +kernel
theorem dX11_term_70 : decode cX11_term 70 = .ok (.imul, 1) := by decide +kernel
theorem dX11_term_71 : decode cX11_term 71 = .ok (.iload_n 2, 1) := by decide +kernel
theorem dX11_term_72 : decode cX11_term 72 = .ok (.iadd, 1) := by decide +kernel
theorem dX11_term_73 : decode cX11_term 73 = .ok (.iaload, 1) := by decide +kernel
theorem dX11_term_74 : decode cX11_term 74 = .ok (.goto 21, 3) := by decide +kernel
theorem dX11_term_77 : decode cX11_term 77 = .ok (.aload_n 0, 1) := by decide +kernel
theorem dX11_term_78 : decode cX11_term 78 = .ok (.iload_n 1, 1) := by decide +kernel
theorem dX11_term_79 : decode cX11_term 79 = .ok (.aload_n 0, 1) := by decide +kernel
theorem dX11_term_80 : decode cX11_term 80 = .ok (.getfield 69, 3) := by decide +kernel
theorem dX11_term_83 : decode cX11_term 83 = .ok (.sipush 400, 3) := by decide +kernel
theorem dX11_term_86 : decode cX11_term 86 = .ok (.iload_n 1, 1) := by decide +kernel
theorem dX11_term_87 : decode cX11_term 87 = .ok (.imul, 1) := by decide +kernel
theorem dX11_term_88 : decode cX11_term 88 = .ok (.iload_n 2, 1) := by decide +kernel
theorem dX11_term_89 : decode cX11_term 89 = .ok (.iadd, 1) := by decide +kernel
theorem dX11_term_90 : decode cX11_term 90 = .ok (.iaload, 1) := by decide +kernel
theorem dX11_term_91 : decode cX11_term 91 = .ok (.iload_n 3, 1) := by decide +kernel
theorem dX11_term_92 : decode cX11_term 92 = .ok (.invokevirtual 250, 3) := by decide +kernel
theorem dX11_term_95 : decode cX11_term 95 = .ok (.ireturn, 1) := by decide +kernel
theorem dX11_offered_0 : decode cX11_offered 0 = .ok (.aload_n 0, 1) := by decide +kernel
theorem dX11_offered_1 : decode cX11_offered 1 = .ok (.iconst 0, 1) := by decide +kernel
theorem dX11_offered_2 : decode cX11_offered 2 = .ok (.putfield 96, 3) := by decide +kernel
theorem dX11_offered_5 : decode cX11_offered 5 = .ok (.aload_n 0, 1) := by decide +kernel
theorem dX11_offered_6 : decode cX11_offered 6 = .ok (.iload_n 1, 1) := by decide +kernel
theorem dX11_offered_7 : decode cX11_offered 7 = .ok (.invokevirtual 231, 3) := by decide +kernel
theorem dX11_offered_10 : decode cX11_offered 10 = .ok (.ifCond .eq 18, 3) := by decide +kernel
theorem dX11_offered_13 : decode cX11_offered 13 = .ok (.iload_n 3, 1) := by decide +kernel
theorem dX11_offered_14 : decode cX11_offered 14 = .ok (.iconst (-1), 1) := by decide +kernel
theorem dX11_offered_15 : decode cX11_offered 15 = .ok (.if_icmp .lt 13, 3) := by decide +kernel
theorem dX11_offered_18 : decode cX11_offered 18 = .ok (.iload_n 3, 1) := by decide +kernel
theorem dX11_offered_19 : decode cX11_offered 19 = .ok (.aload_n 0, 1) := by decide +kernel
theorem dX11_offered_20 : decode cX11_offered 20 = .ok (.getfield 20, 3) := by decide +kernel
theorem dX11_offered_23 : decode cX11_offered 23 = .ok (.iload_n 1, 1) := by decide +kernel
theorem dX11_offered_24 : decode cX11_offered 24 = .ok (.iaload, 1) := by decide +kernel
theorem dX11_offered_25 : decode cX11_offered 25 = .ok (.if_icmp .lt 8, 3) := by decide +kernel
theorem dX11_offered_28 : decode cX11_offered 28 = .ok (.aload_n 0, 1) := by decide +kernel
theorem dX11_offered_29 : decode cX11_offered 29 = .ok (.invokevirtual 215, 3) := by decide +kernel
theorem dX11_offered_32 : decode cX11_offered 32 = .ok (.ireturn, 1) := by decide +kernel
theorem dX11_offered_33 : decode cX11_offered 33 = .ok (.aload_n 0, 1) := by decide +kernel
theorem dX11_offered_34 : decode cX11_offered 34 = .ok (.iload_n 1, 1) := by decide +kernel
theorem dX11_offered_35 : decode cX11_offered 35 = .ok (.invokevirtual 284, 3) := by decide +kernel
theorem dX11_offered_38 : decode cX11_offered 38 = .ok (.iload_n 2, 1) := by decide +kernel
theorem dX11_offered_39 : decode cX11_offered 39 = .ok (.ifCond .lt 13, 3) := by decide +kernel
theorem dX11_offered_42 : decode cX11_offered 42 = .ok (.iload_n 2, 1) := by decide +kernel
theorem dX11_offered_43 : decode cX11_offered 43 = .ok (.aload_n 0, 1) := by decide +kernel
theorem dX11_offered_44 : decode cX11_offered 44 = .ok (.getfield 75, 3) := by decide +kernel
theorem dX11_offered_47 : decode cX11_offered 47 = .ok (.iload_n 1, 1) := by decide +kernel
theorem dX11_offered_48 : decode cX11_offered 48 = .ok (.iaload, 1) := by decide +kernel
theorem dX11_offered_49 : decode cX11_offered 49 = .ok (.if_icmp .lt 8, 3) := by decide +kernel
theorem dX11_offered_52 : decode cX11_offered 52 = .ok (.aload_n 0, 1) := by decide +kernel
theorem dX11_offered_53 : decode cX11_offered 53 = .ok (.invokevirtual 215, 3) := by decide +kernel
theorem dX11_offered_56 : decode cX11_offered 56 = .ok (.ireturn, 1) := by decide +kernel
theorem dX11_offered_57 : decode cX11_offered 57 = .ok (.aload_n 0, 1) := by decide +kernel
theorem dX11_offered_58 : decode cX11_offered 58 = .ok (.getfield 78, 3) := by decide +kernel
theorem dX11_offered_61 : decode cX11_offered 61 = .ok (.sipush 400, 3) := by decide +kernel
theorem dX11_offered_64 : decode cX11_offered 64 = .ok (.iload_n 1, 1) := by decide +kernel
theorem dX11_offered_65 : decode cX11_offered 65 = .ok (.imul, 1) := by decide +kernel
theorem dX11_offered_66 : decode cX11_offered 66 = .ok (.iload_n 2, 1) := by decide +kernel
theorem dX11_offered_67 : decode cX11_offered 67 = .ok (.iadd, 1) := by decide +kernel
theorem dX11_offered_68 : decode cX11_offered 68 = .ok (.iaload, 1) := by decide +kernel
theorem dX11_offered_69 : decode cX11_offered 69 = .ok (.istore 4, 2) := by decide +kernel
theorem dX11_offered_71 : decode cX11_offered 71 = .ok (.iload_n 3, 1) := by decide +kernel
theorem dX11_offered_72 : decode cX11_offered 72 = .ok (.iconst (-1), 1) := by decide +kernel
theorem dX11_offered_73 : decode cX11_offered 73 = .ok (.if_icmp .eq 12, 3) := by decide +kernel
theorem dX11_offered_76 : decode cX11_offered 76 = .ok (.aload_n 0, 1) := by decide +kernel
theorem dX11_offered_77 : decode cX11_offered 77 = .ok (.iload_n 1, 1) := by decide +kernel
theorem dX11_offered_78 : decode cX11_offered 78 = .ok (.iload 4, 2) := by decide +kernel
theorem dX11_offered_80 : decode cX11_offered 80 = .ok (.iload_n 3, 1) := by decide +kernel
theorem dX11_offered_81 : decode cX11_offered 81 = .ok (.invokevirtual 250, 3) := by decide +kernel
theorem dX11_offered_84 : decode cX11_offered 84 = .ok (.ireturn, 1) := by decide +kernel
theorem dX11_offered_85 : decode cX11_offered 85 = .ok (.iconst 1, 1) := by decide +kernel
theorem dX11_offered_86 : decode cX11_offered 86 = .ok (.istore 5, 2) := by decide +kernel
theorem dX11_offered_88 : decode cX11_offered 88 = .ok (.iconst 0, 1) := by decide +kernel
theorem dX11_offered_89 : decode cX11_offered 89 = .ok (.istore 6, 2) := by decide +kernel
theorem dX11_offered_91 : decode cX11_offered 91 = .ok (.iload 6, 2) := by decide +kernel
theorem dX11_offered_93 : decode cX11_offered 93 = .ok (.aload_n 0, 1) := by decide +kernel
theorem dX11_offered_94 : decode cX11_offered 94 = .ok (.getfield 20, 3) := by decide +kernel
theorem dX11_offered_97 : decode cX11_offered 97 = .ok (.iload_n 1, 1) := by decide +kernel
theorem dX11_offered_98 : decode cX11_offered 98 = .ok (.iaload, 1) := by decide +kernel
theorem dX11_offered_99 : decode cX11_offered 99 = .ok (.if_icmp .ge 43, 3) := by decide +kernel
theorem dX11_offered_102 : decode cX11_offered 102 = .ok (.iload 5, 2) := by decide +kernel
theorem dX11_offered_104 : decode cX11_offered 104 = .ok (.aload_n 0, 1) := by decide +kernel
theorem dX11_offered_105 : decode cX11_offered 105 = .ok (.iload_n 1, 1) := by decide +kernel
theorem dX11_offered_106 : decode cX11_offered 106 = .ok (.iload 4, 2) := by decide +kernel
theorem dX11_offered_108 : decode cX11_offered 108 = .ok (.iload 6, 2) := by decide +kernel
theorem dX11_offered_110 : decode cX11_offered 110 = .ok (.invokevirtual 250, 3) := by decide +kernel
theorem dX11_offered_113 : decode cX11_offered 113 = .ok (.iconst (-1), 1) := by decide +kernel
theorem dX11_offered_114 : decode cX11_offered 114 = .ok (.if_icmp .ne 18, 3) := by decide +kernel
theorem dX11_offered_117 : decode cX11_offered 117 = .ok (.aload_n 0, 1) := by decide +kernel
theorem dX11_offered_118 : decode cX11_offered 118 = .ok (.getfield 26, 3) := by decide +kernel
theorem dX11_offered_121 : decode cX11_offered 121 = .ok (.bipush 6, 2) := by decide +kernel
theorem dX11_offered_123 : decode cX11_offered 123 = .ok (.iload_n 1, 1) := by decide +kernel
theorem dX11_offered_124 : decode cX11_offered 124 = .ok (.imul, 1) := by decide +kernel
theorem dX11_offered_125 : decode cX11_offered 125 = .ok (.iload 6, 2) := by decide +kernel
theorem dX11_offered_127 : decode cX11_offered 127 = .ok (.iadd, 1) := by decide +kernel
theorem dX11_offered_128 : decode cX11_offered 128 = .ok (.iaload, 1) := by decide +kernel
theorem dX11_offered_129 : decode cX11_offered 129 = .ok (.goto 4, 3) := by decide +kernel
theorem dX11_offered_132 : decode cX11_offered 132 = .ok (.iconst 1, 1) := by decide +kernel
theorem dX11_offered_133 : decode cX11_offered 133 = .ok (.imul, 1) := by decide +kernel
theorem dX11_offered_134 : decode cX11_offered 134 = .ok (.istore 5, 2) := by decide +kernel
theorem dX11_offered_136 : decode cX11_offered 136 = .ok (.iinc 6 1, 3) := by decide +kernel
theorem dX11_offered_139 : decode cX11_offered 139 = .ok (.goto (-48), 3) := by decide +kernel
theorem dX11_offered_142 : decode cX11_offered 142 = .ok (.iload 5, 2) := by decide +kernel
theorem dX11_offered_144 : decode cX11_offered 144 = .ok (.ireturn, 1) := by decide +kernel
theorem dX11_say_0 : decode cX11_say 0 = .ok (.aload_n 0, 1) := by decide +kernel
theorem dX11_say_1 : decode cX11_say 1 = .ok (.getfield 287, 3) := by decide +kernel
theorem dX11_say_4 : decode cX11_say 4 = .ok (.sipush 2000, 3) := by decide +kernel
theorem dX11_say_7 : decode cX11_say 7 = .ok (.if_icmp .ge 13, 3) := by decide +kernel
theorem dX11_say_10 : decode cX11_say 10 = .ok (.aload_n 0, 1) := by decide +kernel
theorem dX11_say_11 : decode cX11_say 11 = .ok (.getfield 13, 3) := by decide +kernel
theorem dX11_say_14 : decode cX11_say 14 = .ok (.aload_n 0, 1) := by decide +kernel
theorem dX11_say_15 : decode cX11_say 15 = .ok (.getfield 287, 3) := by decide +kernel
theorem dX11_say_18 : decode cX11_say 18 = .ok (.iload_n 1, 1) := by decide +kernel
theorem dX11_say_19 : decode cX11_say 19 = .ok (.iastore, 1) := by decide +kernel
theorem dX11_say_20 : decode cX11_say 20 = .ok (.aload_n 0, 1) := by decide +kernel
theorem dX11_say_21 : decode cX11_say 21 = .ok (.dup, 1) := by decide +kernel
theorem dX11_say_22 : decode cX11_say 22 = .ok (.getfield 287, 3) := by decide +kernel
theorem dX11_say_25 : decode cX11_say 25 = .ok (.iconst 1, 1) := by decide +kernel
theorem dX11_say_26 : decode cX11_say 26 = .ok (.iadd, 1) := by decide +kernel
theorem dX11_say_27 : decode cX11_say 27 = .ok (.putfield 287, 3) := by decide +kernel
theorem dX11_say_30 : decode cX11_say 30 = .ok (.return_, 1) := by decide +kernel
theorem dX11_sayText_0 : decode cX11_sayText 0 = .ok (.iconst 0, 1) := by decide +kernel
theorem dX11_sayText_1 : decode cX11_sayText 1 = .ok (.istore_n 2, 1) := by decide +kernel
theorem dX11_sayText_2 : decode cX11_sayText 2 = .ok (.iload_n 2, 1) := by decide +kernel
theorem dX11_sayText_3 : decode cX11_sayText 3 = .ok (.aload_n 1, 1) := by decide +kernel
theorem dX11_sayText_4 : decode cX11_sayText 4 = .ok (.invokevirtual 137, 3) := by decide +kernel
theorem dX11_sayText_7 : decode cX11_sayText 7 = .ok (.if_icmp .ge 18, 3) := by decide +kernel
theorem dX11_sayText_10 : decode cX11_sayText 10 = .ok (.aload_n 0, 1) := by decide +kernel
theorem dX11_sayText_11 : decode cX11_sayText 11 = .ok (.aload_n 1, 1) := by decide +kernel
theorem dX11_sayText_12 : decode cX11_sayText 12 = .ok (.iload_n 2, 1) := by decide +kernel
theorem dX11_sayText_13 : decode cX11_sayText 13 = .ok (.invokevirtual 143, 3) := by decide +kernel
theorem dX11_sayText_16 : decode cX11_sayText 16 = .ok (.invokevirtual 290, 3) := by decide +kernel
theorem dX11_sayText_19 : decode cX11_sayText 19 = .ok (.iinc 2 1, 3) := by decide +kernel
theorem dX11_sayText_22 : decode cX11_sayText 22 = .ok (.goto (-20), 3) := by decide +kernel
theorem dX11_sayText_25 : decode cX11_sayText 25 = .ok (.return_, 1) := by decide +kernel
theorem dX11_sayWord_0 : decode cX11_sayWord 0 = .ok (.iconst 0, 1) := by decide +kernel
theorem dX11_sayWord_1 : decode cX11_sayWord 1 = .ok (.istore_n 2, 1) := by decide +kernel
theorem dX11_sayWord_2 : decode cX11_sayWord 2 = .ok (.iload_n 2, 1) := by decide +kernel
theorem dX11_sayWord_3 : decode cX11_sayWord 3 = .ok (.aload_n 0, 1) := by decide +kernel
theorem dX11_sayWord_4 : decode cX11_sayWord 4 = .ok (.getfield 29, 3) := by decide +kernel
theorem dX11_sayWord_7 : decode cX11_sayWord 7 = .ok (.iload_n 1, 1) := by decide +kernel
theorem dX11_sayWord_8 : decode cX11_sayWord 8 = .ok (.iaload, 1) := by decide +kernel
theorem dX11_sayWord_9 : decode cX11_sayWord 9 = .ok (.if_icmp .ge 24, 3) := by decide +kernel
theorem dX11_sayWord_12 : decode cX11_sayWord 12 = .ok (.aload_n 0, 1) := by decide +kernel
theorem dX11_sayWord_13 : decode cX11_sayWord 13 = .ok (.aload_n 0, 1) := by decide +kernel
theorem dX11_sayWord_14 : decode cX11_sayWord 14 = .ok (.getfield 32, 3) := by decide +kernel
theorem dX11_sayWord_17 : decode cX11_sayWord 17 = .ok (.bipush 8, 2) := by decide +kernel
theorem dX11_sayWord_19 : decode cX11_sayWord 19 = .ok (.iload_n 1, 1) := by decide +kernel
theorem dX11_sayWord_20 : decode cX11_sayWord 20 = .ok (.imul, 1) := by decide +kernel
theorem dX11_sayWord_21 : decode cX11_sayWord 21 = .ok (.iload_n 2, 1) := by decide +kernel
theorem dX11_sayWord_22 : decode cX11_sayWord 22 = .ok (.iadd, 1) := by decide +kernel
theorem dX11_sayWord_23 : decode cX11_sayWord 23 = .ok (.iaload, 1) := by decide +kernel
theorem dX11_sayWord_24 : decode cX11_sayWord 24 = .ok (.invokevirtual 290, 3) := by decide +kernel
theorem dX11_sayWord_27 : decode cX11_sayWord 27 = .ok (.iinc 2 1, 3) := by decide +kernel
theorem dX11_sayWord_30 : decode cX11_sayWord 30 = .ok (.goto (-28), 3) := by decide +kernel
theorem dX11_sayWord_33 : decode cX11_sayWord 33 = .ok (.return_, 1) := by decide +kernel
theorem dX11_tell_0 : decode cX11_tell 0 = .ok (.aload_n 0, 1) := by decide +kernel
theorem dX11_tell_1 : decode cX11_tell 1 = .ok (.iconst 0, 1) := by decide +kernel
theorem dX11_tell_2 : decode cX11_tell 2 = .ok (.putfield 96, 3) := by decide +kernel
theorem dX11_tell_5 : decode cX11_tell 5 = .ok (.aload_n 0, 1) := by decide +kernel
theorem dX11_tell_6 : decode cX11_tell 6 = .ok (.iload_n 1, 1) := by decide +kernel
theorem dX11_tell_7 : decode cX11_tell 7 = .ok (.invokevirtual 231, 3) := by decide +kernel
theorem dX11_tell_10 : decode cX11_tell 10 = .ok (.ifCond .ne 8, 3) := by decide +kernel
theorem dX11_tell_13 : decode cX11_tell 13 = .ok (.aload_n 0, 1) := by decide +kernel
theorem dX11_tell_14 : decode cX11_tell 14 = .ok (.invokevirtual 215, 3) := by decide +kernel
theorem dX11_tell_17 : decode cX11_tell 17 = .ok (.ireturn, 1) := by decide +kernel
theorem dX11_tell_18 : decode cX11_tell 18 = .ok (.aload_n 0, 1) := by decide +kernel
theorem dX11_tell_19 : decode cX11_tell 19 = .ok (.iload_n 1, 1) := by decide +kernel
theorem dX11_tell_20 : decode cX11_tell 20 = .ok (.invokevirtual 284, 3) := by decide +kernel
theorem dX11_tell_23 : decode cX11_tell 23 = .ok (.aload_n 0, 1) := by decide +kernel
theorem dX11_tell_24 : decode cX11_tell 24 = .ok (.iconst 0, 1) := by decide +kernel
theorem dX11_tell_25 : decode cX11_tell 25 = .ok (.putfield 287, 3) := by decide +kernel
theorem dX11_tell_28 : decode cX11_tell 28 = .ok (.iconst 0, 1) := by decide +kernel
theorem dX11_tell_29 : decode cX11_tell 29 = .ok (.istore_n 2, 1) := by decide +kernel
theorem dX11_tell_30 : decode cX11_tell 30 = .ok (.iload_n 2, 1) := by decide +kernel
theorem dX11_tell_31 : decode cX11_tell 31 = .ok (.aload_n 0, 1) := by decide +kernel
theorem dX11_tell_32 : decode cX11_tell 32 = .ok (.getfield 66, 3) := by decide +kernel
theorem dX11_tell_35 : decode cX11_tell 35 = .ok (.iload_n 1, 1) := by decide +kernel
theorem dX11_tell_36 : decode cX11_tell 36 = .ok (.iaload, 1) := by decide +kernel
theorem dX11_tell_37 : decode cX11_tell 37 = .ok (.if_icmp .ge 152, 3) := by decide +kernel
theorem dX11_tell_40 : decode cX11_tell 40 = .ok (.aload_n 0, 1) := by decide +kernel
theorem dX11_tell_41 : decode cX11_tell 41 = .ok (.iload_n 1, 1) := by decide +kernel
theorem dX11_tell_42 : decode cX11_tell 42 = .ok (.iconst 5, 1) := by decide +kernel
theorem dX11_tell_43 : decode cX11_tell 43 = .ok (.iconst 1, 1) := by decide +kernel
theorem dX11_tell_44 : decode cX11_tell 44 = .ok (.aload_n 0, 1) := by decide +kernel
theorem dX11_tell_45 : decode cX11_tell 45 = .ok (.getfield 72, 3) := by decide +kernel
theorem dX11_tell_48 : decode cX11_tell 48 = .ok (.sipush 400, 3) := by decide +kernel
theorem dX11_tell_51 : decode cX11_tell 51 = .ok (.iload_n 1, 1) := by decide +kernel
theorem dX11_tell_52 : decode cX11_tell 52 = .ok (.imul, 1) := by decide +kernel
theorem dX11_tell_53 : decode cX11_tell 53 = .ok (.iload_n 2, 1) := by decide +kernel
theorem dX11_tell_54 : decode cX11_tell 54 = .ok (.iadd, 1) := by decide +kernel
theorem dX11_tell_55 : decode cX11_tell 55 = .ok (.iaload, 1) := by decide +kernel
theorem dX11_tell_56 : decode cX11_tell 56 = .ok (.iadd, 1) := by decide +kernel
theorem dX11_tell_57 : decode cX11_tell 57 = .ok (.invokestatic 179, 3) := by decide +kernel
theorem dX11_tell_60 : decode cX11_tell 60 = .ok (.invokevirtual 293, 3) := by decide +kernel
theorem dX11_tell_63 : decode cX11_tell 63 = .ok (.iconst 1, 1) := by decide +kernel
theorem dX11_tell_64 : decode cX11_tell 64 = .ok (.istore_n 3, 1) := by decide +kernel
theorem dX11_tell_65 : decode cX11_tell 65 = .ok (.iconst 0, 1) := by decide +kernel
theorem dX11_tell_66 : decode cX11_tell 66 = .ok (.istore 4, 2) := by decide +kernel
theorem dX11_tell_68 : decode cX11_tell 68 = .ok (.iload 4, 2) := by decide +kernel
theorem dX11_tell_70 : decode cX11_tell 70 = .ok (.aload_n 0, 1) := by decide +kernel
theorem dX11_tell_71 : decode cX11_tell 71 = .ok (.getfield 20, 3) := by decide +kernel
theorem dX11_tell_74 : decode cX11_tell 74 = .ok (.iload_n 1, 1) := by decide +kernel
theorem dX11_tell_75 : decode cX11_tell 75 = .ok (.iaload, 1) := by decide +kernel
theorem dX11_tell_76 : decode cX11_tell 76 = .ok (.if_icmp .ge 90, 3) := by decide +kernel
theorem dX11_tell_79 : decode cX11_tell 79 = .ok (.aload_n 0, 1) := by decide +kernel
theorem dX11_tell_80 : decode cX11_tell 80 = .ok (.iload_n 1, 1) := by decide +kernel
theorem dX11_tell_81 : decode cX11_tell 81 = .ok (.aload_n 0, 1) := by decide +kernel
theorem dX11_tell_82 : decode cX11_tell 82 = .ok (.getfield 69, 3) := by decide +kernel
theorem dX11_tell_85 : decode cX11_tell 85 = .ok (.sipush 400, 3) := by decide +kernel
theorem dX11_tell_88 : decode cX11_tell 88 = .ok (.iload_n 1, 1) := by decide +kernel
theorem dX11_tell_89 : decode cX11_tell 89 = .ok (.imul, 1) := by decide +kernel
theorem dX11_tell_90 : decode cX11_tell 90 = .ok (.iload_n 2, 1) := by decide +kernel
theorem dX11_tell_91 : decode cX11_tell 91 = .ok (.iadd, 1) := by decide +kernel
theorem dX11_tell_92 : decode cX11_tell 92 = .ok (.iaload, 1) := by decide +kernel
theorem dX11_tell_93 : decode cX11_tell 93 = .ok (.iload 4, 2) := by decide +kernel
theorem dX11_tell_95 : decode cX11_tell 95 = .ok (.invokevirtual 250, 3) := by decide +kernel
theorem dX11_tell_98 : decode cX11_tell 98 = .ok (.istore 5, 2) := by decide +kernel
theorem dX11_tell_100 : decode cX11_tell 100 = .ok (.iload 5, 2) := by decide +kernel
theorem dX11_tell_102 : decode cX11_tell 102 = .ok (.iconst (-1), 1) := by decide +kernel
theorem dX11_tell_103 : decode cX11_tell 103 = .ok (.if_icmp .ne 6, 3) := by decide +kernel
theorem dX11_tell_106 : decode cX11_tell 106 = .ok (.goto 54, 3) := by decide +kernel
theorem dX11_tell_109 : decode cX11_tell 109 = .ok (.aload_n 0, 1) := by decide +kernel
theorem dX11_tell_110 : decode cX11_tell 110 = .ok (.iload_n 3, 1) := by decide +kernel
theorem dX11_tell_111 : decode cX11_tell 111 = .ok (.ifCond .eq 9, 3) := by decide +kernel
theorem dX11_tell_114 : decode cX11_tell 114 = .ok (.ldc_w 296, 3) := by decide +kernel
theorem dX11_tell_117 : decode cX11_tell 117 = .ok (.goto 6, 3) := by decide +kernel
theorem dX11_tell_120 : decode cX11_tell 120 = .ok (.ldc_w 298, 3) := by decide +kernel
theorem dX11_tell_123 : decode cX11_tell 123 = .ok (.invokevirtual 300, 3) := by decide +kernel
theorem dX11_tell_126 : decode cX11_tell 126 = .ok (.iconst 0, 1) := by decide +kernel
theorem dX11_tell_127 : decode cX11_tell 127 = .ok (.istore_n 3, 1) := by decide +kernel
theorem dX11_tell_128 : decode cX11_tell 128 = .ok (.aload_n 0, 1) := by decide +kernel
theorem dX11_tell_129 : decode cX11_tell 129 = .ok (.iload_n 1, 1) := by decide +kernel
theorem dX11_tell_130 : decode cX11_tell 130 = .ok (.iload 4, 2) := by decide +kernel
theorem dX11_tell_132 : decode cX11_tell 132 = .ok (.iconst 0, 1) := by decide +kernel
theorem dX11_tell_133 : decode cX11_tell 133 = .ok (.invokestatic 179, 3) := by decide +kernel
theorem dX11_tell_136 : decode cX11_tell 136 = .ok (.invokevirtual 293, 3) := by decide +kernel
theorem dX11_tell_139 : decode cX11_tell 139 = .ok (.aload_n 0, 1) := by decide +kernel
theorem dX11_tell_140 : decode cX11_tell 140 = .ok (.ldc_w 304, 3) := by decide +kernel
theorem dX11_tell_143 : decode cX11_tell 143 = .ok (.invokevirtual 300, 3) := by decide +kernel
theorem dX11_tell_146 : decode cX11_tell 146 = .ok (.aload_n 0, 1) := by decide +kernel
theorem dX11_tell_147 : decode cX11_tell 147 = .ok (.iload_n 1, 1) := by decide +kernel
theorem dX11_tell_148 : decode cX11_tell 148 = .ok (.iload 4, 2) := by decide +kernel
theorem dX11_tell_150 : decode cX11_tell 150 = .ok (.iconst 1, 1) := by decide +kernel
theorem dX11_tell_151 : decode cX11_tell 151 = .ok (.iload 5, 2) := by decide +kernel
theorem dX11_tell_153 : decode cX11_tell 153 = .ok (.iadd, 1) := by decide +kernel
theorem dX11_tell_154 : decode cX11_tell 154 = .ok (.invokestatic 179, 3) := by decide +kernel
theorem dX11_tell_157 : decode cX11_tell 157 = .ok (.invokevirtual 293, 3) := by decide +kernel
theorem dX11_tell_160 : decode cX11_tell 160 = .ok (.iinc 4 1, 3) := by decide +kernel
theorem dX11_tell_163 : decode cX11_tell 163 = .ok (.goto (-95), 3) := by decide +kernel
theorem dX11_tell_166 : decode cX11_tell 166 = .ok (.iload_n 3, 1) := by decide +kernel
theorem dX11_tell_167 : decode cX11_tell 167 = .ok (.ifCond .eq 10, 3) := by decide +kernel
theorem dX11_tell_170 : decode cX11_tell 170 = .ok (.aload_n 0, 1) := by decide +kernel
theorem dX11_tell_171 : decode cX11_tell 171 = .ok (.ldc_w 306, 3) := by decide +kernel
theorem dX11_tell_174 : decode cX11_tell 174 = .ok (.invokevirtual 300, 3) := by decide +kernel
theorem dX11_tell_177 : decode cX11_tell 177 = .ok (.aload_n 0, 1) := by decide +kernel
theorem dX11_tell_178 : decode cX11_tell 178 = .ok (.bipush 10, 2) := by decide +kernel
theorem dX11_tell_180 : decode cX11_tell 180 = .ok (.invokevirtual 290, 3) := by decide +kernel
theorem dX11_tell_183 : decode cX11_tell 183 = .ok (.iinc 2 1, 3) := by decide +kernel
theorem dX11_tell_186 : decode cX11_tell 186 = .ok (.goto (-156), 3) := by decide +kernel
theorem dX11_tell_189 : decode cX11_tell 189 = .ok (.aload_n 0, 1) := by decide +kernel
theorem dX11_tell_190 : decode cX11_tell 190 = .ok (.getfield 287, 3) := by decide +kernel
theorem dX11_tell_193 : decode cX11_tell 193 = .ok (.ireturn, 1) := by decide +kernel
theorem dX11_bytes_0 : decode cX11_bytes 0 = .ok (.aload_n 0, 1) := by decide +kernel
theorem dX11_bytes_1 : decode cX11_bytes 1 = .ok (.getfield 287, 3) := by decide +kernel
theorem dX11_bytes_4 : decode cX11_bytes 4 = .ok (.sipush 2000, 3) := by decide +kernel
theorem dX11_bytes_7 : decode cX11_bytes 7 = .ok (.invokestatic 308, 3) := by decide +kernel
theorem dX11_bytes_10 : decode cX11_bytes 10 = .ok (.ireturn, 1) := by decide +kernel
theorem dX11_told_0 : decode cX11_told 0 = .ok (.aload_n 0, 1) := by decide +kernel
theorem dX11_told_1 : decode cX11_told 1 = .ok (.iconst 0, 1) := by decide +kernel
theorem dX11_told_2 : decode cX11_told 2 = .ok (.putfield 96, 3) := by decide +kernel
theorem dX11_told_5 : decode cX11_told 5 = .ok (.iload_n 1, 1) := by decide +kernel
theorem dX11_told_6 : decode cX11_told 6 = .ok (.ifCond .lt 11, 3) := by decide +kernel
theorem dX11_told_9 : decode cX11_told 9 = .ok (.iload_n 1, 1) := by decide +kernel
theorem dX11_told_10 : decode cX11_told 10 = .ok (.aload_n 0, 1) := by decide +kernel
theorem dX11_told_11 : decode cX11_told 11 = .ok (.invokevirtual 313, 3) := by decide +kernel
theorem dX11_told_14 : decode cX11_told 14 = .ok (.if_icmp .lt 10, 3) := by decide +kernel
theorem dX11_told_17 : decode cX11_told 17 = .ok (.aload_n 0, 1) := by decide +kernel
theorem dX11_told_18 : decode cX11_told 18 = .ok (.invokevirtual 215, 3) := by decide +kernel
theorem dX11_told_21 : decode cX11_told 21 = .ok (.goto 9, 3) := by decide +kernel
theorem dX11_told_24 : decode cX11_told 24 = .ok (.aload_n 0, 1) := by decide +kernel
theorem dX11_told_25 : decode cX11_told 25 = .ok (.getfield 13, 3) := by decide +kernel
theorem dX11_told_28 : decode cX11_told 28 = .ok (.iload_n 1, 1) := by decide +kernel
theorem dX11_told_29 : decode cX11_told 29 = .ok (.iaload, 1) := by decide +kernel
theorem dX11_told_30 : decode cX11_told 30 = .ok (.ireturn, 1) := by decide +kernel
theorem dX11_isProgram_0 : decode cX11_isProgram 0 = .ok (.iload_n 1, 1) := by decide +kernel
theorem dX11_isProgram_1 : decode cX11_isProgram 1 = .ok (.ifCond .lt 15, 3) := by decide +kernel
theorem dX11_isProgram_4 : decode cX11_isProgram 4 = .ok (.iload_n 1, 1) := by decide +kernel
theorem dX11_isProgram_5 : decode cX11_isProgram 5 = .ok (.aload_n 0, 1) := by decide +kernel
theorem dX11_isProgram_6 : decode cX11_isProgram 6 = .ok (.getfield 234, 3) := by decide +kernel
theorem dX11_isProgram_9 : decode cX11_isProgram 9 = .ok (.if_icmp .ge 7, 3) := by decide +kernel
theorem dX11_isProgram_12 : decode cX11_isProgram 12 = .ok (.iconst 1, 1) := by decide +kernel
theorem dX11_isProgram_13 : decode cX11_isProgram 13 = .ok (.goto 4, 3) := by decide +kernel
theorem dX11_isProgram_16 : decode cX11_isProgram 16 = .ok (.iconst 0, 1) := by decide +kernel
theorem dX11_isProgram_17 : decode cX11_isProgram 17 = .ok (.ireturn, 1) := by decide +kernel
theorem dX11_answers0_0 : decode cX11_answers0 0 = .ok (.aload_n 0, 1) := by decide +kernel
theorem dX11_answers0_1 : decode cX11_answers0 1 = .ok (.getfield 44, 3) := by decide +kernel
theorem dX11_answers0_4 : decode cX11_answers0 4 = .ok (.iload_n 1, 1) := by decide +kernel
theorem dX11_answers0_5 : decode cX11_answers0 5 = .ok (.iaload, 1) := by decide +kernel
theorem dX11_answers0_6 : decode cX11_answers0 6 = .ok (.istore_n 3, 1) := by decide +kernel
theorem dX11_answers0_7 : decode cX11_answers0 7 = .ok (.iconst 0, 1) := by decide +kernel
theorem dX11_answers0_8 : decode cX11_answers0 8 = .ok (.istore 4, 2) := by decide +kernel
theorem dX11_answers0_10 : decode cX11_answers0 10 = .ok (.iload 4, 2) := by decide +kernel
theorem dX11_answers0_12 : decode cX11_answers0 12 = .ok (.aload_n 0, 1) := by decide +kernel
theorem dX11_answers0_13 : decode cX11_answers0 13 = .ok (.getfield 47, 3) := by decide +kernel
theorem dX11_answers0_16 : decode cX11_answers0 16 = .ok (.iload_n 1, 1) := by decide +kernel
theorem dX11_answers0_17 : decode cX11_answers0 17 = .ok (.iaload, 1) := by decide +kernel
theorem dX11_answers0_18 : decode cX11_answers0 18 = .ok (.if_icmp .ge 114, 3) := by decide +kernel
theorem dX11_answers0_21 : decode cX11_answers0 21 = .ok (.bipush 41, 2) := by decide +kernel
theorem dX11_answers0_23 : decode cX11_answers0 23 = .ok (.iload_n 1, 1) := by decide +kernel
theorem dX11_answers0_24 : decode cX11_answers0 24 = .ok (.imul, 1) := by decide +kernel
theorem dX11_answers0_25 : decode cX11_answers0 25 = .ok (.iload 4, 2) := by decide +kernel
theorem dX11_answers0_27 : decode cX11_answers0 27 = .ok (.iadd, 1) := by decide +kernel
theorem dX11_answers0_28 : decode cX11_answers0 28 = .ok (.istore 5, 2) := by decide +kernel
theorem dX11_answers0_30 : decode cX11_answers0 30 = .ok (.iconst 1, 1) := by decide +kernel
theorem dX11_answers0_31 : decode cX11_answers0 31 = .ok (.istore 6, 2) := by decide +kernel
theorem dX11_answers0_33 : decode cX11_answers0 33 = .ok (.aload_n 0, 1) := by decide +kernel
theorem dX11_answers0_34 : decode cX11_answers0 34 = .ok (.getfield 53, 3) := by decide +kernel
theorem dX11_answers0_37 : decode cX11_answers0 37 = .ok (.iload 5, 2) := by decide +kernel
theorem dX11_answers0_39 : decode cX11_answers0 39 = .ok (.iaload, 1) := by decide +kernel
theorem dX11_answers0_40 : decode cX11_answers0 40 = .ok (.istore 7, 2) := by decide +kernel
theorem dX11_answers0_42 : decode cX11_answers0 42 = .ok (.iload 7, 2) := by decide +kernel
theorem dX11_answers0_44 : decode cX11_answers0 44 = .ok (.aload_n 0, 1) := by decide +kernel
theorem dX11_answers0_45 : decode cX11_answers0 45 = .ok (.getfield 53, 3) := by decide +kernel
theorem dX11_answers0_48 : decode cX11_answers0 48 = .ok (.iload 5, 2) := by decide +kernel
theorem dX11_answers0_50 : decode cX11_answers0 50 = .ok (.iconst 1, 1) := by decide +kernel
theorem dX11_answers0_51 : decode cX11_answers0 51 = .ok (.iadd, 1) := by decide +kernel
theorem dX11_answers0_52 : decode cX11_answers0 52 = .ok (.iaload, 1) := by decide +kernel
theorem dX11_answers0_53 : decode cX11_answers0 53 = .ok (.if_icmp .ge 60, 3) := by decide +kernel
theorem dX11_answers0_56 : decode cX11_answers0 56 = .ok (.iload 6, 2) := by decide +kernel
theorem dX11_answers0_58 : decode cX11_answers0 58 = .ok (.ifCond .eq 55, 3) := by decide +kernel
theorem dX11_answers0_61 : decode cX11_answers0 61 = .ok (.aload_n 0, 1) := by decide +kernel
theorem dX11_answers0_62 : decode cX11_answers0 62 = .ok (.getfield 59, 3) := by decide +kernel
theorem dX11_answers0_65 : decode cX11_answers0 65 = .ok (.sipush 200, 3) := by decide +kernel
theorem dX11_answers0_68 : decode cX11_answers0 68 = .ok (.iload_n 1, 1) := by decide +kernel
theorem dX11_answers0_69 : decode cX11_answers0 69 = .ok (.imul, 1) := by decide +kernel
theorem dX11_answers0_70 : decode cX11_answers0 70 = .ok (.iload 7, 2) := by decide +kernel
theorem dX11_answers0_72 : decode cX11_answers0 72 = .ok (.iadd, 1) := by decide +kernel
theorem dX11_answers0_73 : decode cX11_answers0 73 = .ok (.iaload, 1) := by decide +kernel
theorem dX11_answers0_74 : decode cX11_answers0 74 = .ok (.aload_n 0, 1) := by decide +kernel
theorem dX11_answers0_75 : decode cX11_answers0 75 = .ok (.iload_n 3, 1) := by decide +kernel
theorem dX11_answers0_76 : decode cX11_answers0 76 = .ok (.iload_n 2, 1) := by decide +kernel
theorem dX11_answers0_77 : decode cX11_answers0 77 = .ok (.aload_n 0, 1) := by decide +kernel
theorem dX11_answers0_78 : decode cX11_answers0 78 = .ok (.getfield 56, 3) := by decide +kernel
theorem dX11_answers0_81 : decode cX11_answers0 81 = .ok (.sipush 200, 3) := by decide +kernel
theorem dX11_answers0_84 : decode cX11_answers0 84 = .ok (.iload_n 1, 1) := by decide +kernel
theorem dX11_answers0_85 : decode cX11_answers0 85 = .ok (.imul, 1) := by decide +kernel
theorem dX11_answers0_86 : decode cX11_answers0 86 = .ok (.iload 7, 2) := by decide +kernel
theorem dX11_answers0_88 : decode cX11_answers0 88 = .ok (.iadd, 1) := by decide +kernel
theorem dX11_answers0_89 : decode cX11_answers0 89 = .ok (.iaload, 1) := by decide +kernel
theorem dX11_answers0_90 : decode cX11_answers0 90 = .ok (.invokevirtual 240, 3) := by decide +kernel
theorem dX11_answers0_93 : decode cX11_answers0 93 = .ok (.ishr, 1) := by decide +kernel
theorem dX11_answers0_94 : decode cX11_answers0 94 = .ok (.iconst 1, 1) := by decide +kernel
theorem dX11_answers0_95 : decode cX11_answers0 95 = .ok (.iand, 1) := by decide +kernel
theorem dX11_answers0_96 : decode cX11_answers0 96 = .ok (.iconst 1, 1) := by decide +kernel
theorem dX11_answers0_97 : decode cX11_answers0 97 = .ok (.if_icmp .ne 7, 3) := by decide +kernel
theorem dX11_answers0_100 : decode cX11_answers0 100 = .ok (.iconst 1, 1) := by decide +kernel
theorem dX11_answers0_101 : decode cX11_answers0 101 = .ok (.goto 4, 3) := by decide +kernel
theorem dX11_answers0_104 : decode cX11_answers0 104 = .ok (.iconst 0, 1) := by decide +kernel
theorem dX11_answers0_105 : decode cX11_answers0 105 = .ok (.istore 6, 2) := by decide +kernel
theorem dX11_answers0_107 : decode cX11_answers0 107 = .ok (.iinc 7 1, 3) := by decide +kernel
theorem dX11_answers0_110 : decode cX11_answers0 110 = .ok (.goto (-68), 3) := by decide +kernel
theorem dX11_answers0_113 : decode cX11_answers0 113 = .ok (.iload 6, 2) := by decide +kernel
theorem dX11_answers0_115 : decode cX11_answers0 115 = .ok (.ifCond .eq 11, 3) := by decide +kernel
theorem dX11_answers0_118 : decode cX11_answers0 118 = .ok (.aload_n 0, 1) := by decide +kernel
theorem dX11_answers0_119 : decode cX11_answers0 119 = .ok (.getfield 50, 3) := by decide +kernel
theorem dX11_answers0_122 : decode cX11_answers0 122 = .ok (.iload 5, 2) := by decide +kernel
theorem dX11_answers0_124 : decode cX11_answers0 124 = .ok (.iaload, 1) := by decide +kernel
theorem dX11_answers0_125 : decode cX11_answers0 125 = .ok (.ireturn, 1) := by decide +kernel
theorem dX11_answers0_126 : decode cX11_answers0 126 = .ok (.iinc 4 1, 3) := by decide +kernel
theorem dX11_answers0_129 : decode cX11_answers0 129 = .ok (.goto (-119), 3) := by decide +kernel
theorem dX11_answers0_132 : decode cX11_answers0 132 = .ok (.aload_n 0, 1) := by decide +kernel
theorem dX11_answers0_133 : decode cX11_answers0 133 = .ok (.getfield 50, 3) := by decide +kernel
theorem dX11_answers0_136 : decode cX11_answers0 136 = .ok (.bipush 41, 2) := by decide +kernel
theorem dX11_answers0_138 : decode cX11_answers0 138 = .ok (.iload_n 1, 1) := by decide +kernel
theorem dX11_answers0_139 : decode cX11_answers0 139 = .ok (.imul, 1) := by decide +kernel
theorem dX11_answers0_140 : decode cX11_answers0 140 = .ok (.aload_n 0, 1) := by decide +kernel
theorem dX11_answers0_141 : decode cX11_answers0 141 = .ok (.getfield 47, 3) := by decide +kernel
theorem dX11_answers0_144 : decode cX11_answers0 144 = .ok (.iload_n 1, 1) := by decide +kernel
theorem dX11_answers0_145 : decode cX11_answers0 145 = .ok (.iaload, 1) := by decide +kernel
theorem dX11_answers0_146 : decode cX11_answers0 146 = .ok (.iadd, 1) := by decide +kernel
theorem dX11_answers0_147 : decode cX11_answers0 147 = .ok (.iaload, 1) := by decide +kernel
theorem dX11_answers0_148 : decode cX11_answers0 148 = .ok (.ireturn, 1) := by decide +kernel
theorem dX11_run_0 : decode cX11_run 0 = .ok (.aload_n 0, 1) := by decide +kernel
theorem dX11_run_1 : decode cX11_run 1 = .ok (.iconst 0, 1) := by decide +kernel
theorem dX11_run_2 : decode cX11_run 2 = .ok (.putfield 96, 3) := by decide +kernel
theorem dX11_run_5 : decode cX11_run 5 = .ok (.aload_n 0, 1) := by decide +kernel
theorem dX11_run_6 : decode cX11_run 6 = .ok (.iload_n 1, 1) := by decide +kernel
theorem dX11_run_7 : decode cX11_run 7 = .ok (.invokevirtual 316, 3) := by decide +kernel
theorem dX11_run_10 : decode cX11_run 10 = .ok (.ifCond .eq 21, 3) := by decide +kernel
theorem dX11_run_13 : decode cX11_run 13 = .ok (.iload_n 2, 1) := by decide +kernel
theorem dX11_run_14 : decode cX11_run 14 = .ok (.ifCond .lt 17, 3) := by decide +kernel
theorem dX11_run_17 : decode cX11_run 17 = .ok (.iload_n 2, 1) := by decide +kernel
theorem dX11_run_18 : decode cX11_run 18 = .ok (.aload_n 0, 1) := by decide +kernel
theorem dX11_run_19 : decode cX11_run 19 = .ok (.aload_n 0, 1) := by decide +kernel
theorem dX11_run_20 : decode cX11_run 20 = .ok (.getfield 44, 3) := by decide +kernel
theorem dX11_run_23 : decode cX11_run 23 = .ok (.iload_n 1, 1) := by decide +kernel
theorem dX11_run_24 : decode cX11_run 24 = .ok (.iaload, 1) := by decide +kernel
theorem dX11_run_25 : decode cX11_run 25 = .ok (.invokevirtual 205, 3) := by decide +kernel
theorem dX11_run_28 : decode cX11_run 28 = .ok (.if_icmp .lt 10, 3) := by decide +kernel
theorem dX11_run_31 : decode cX11_run 31 = .ok (.aload_n 0, 1) := by decide +kernel
theorem dX11_run_32 : decode cX11_run 32 = .ok (.invokevirtual 215, 3) := by decide +kernel
theorem dX11_run_35 : decode cX11_run 35 = .ok (.goto 9, 3) := by decide +kernel
theorem dX11_run_38 : decode cX11_run 38 = .ok (.aload_n 0, 1) := by decide +kernel
theorem dX11_run_39 : decode cX11_run 39 = .ok (.iload_n 1, 1) := by decide +kernel
theorem dX11_run_40 : decode cX11_run 40 = .ok (.iload_n 2, 1) := by decide +kernel
theorem dX11_run_41 : decode cX11_run 41 = .ok (.invokevirtual 319, 3) := by decide +kernel
theorem dX11_run_44 : decode cX11_run 44 = .ok (.ireturn, 1) := by decide +kernel
theorem dX11_isFailed_0 : decode cX11_isFailed 0 = .ok (.aload_n 0, 1) := by decide +kernel
theorem dX11_isFailed_1 : decode cX11_isFailed 1 = .ok (.getfield 44, 3) := by decide +kernel
theorem dX11_isFailed_4 : decode cX11_isFailed 4 = .ok (.iload_n 1, 1) := by decide +kernel
theorem dX11_isFailed_5 : decode cX11_isFailed 5 = .ok (.iaload, 1) := by decide +kernel
theorem dX11_isFailed_6 : decode cX11_isFailed 6 = .ok (.istore 4, 2) := by decide +kernel
theorem dX11_isFailed_8 : decode cX11_isFailed 8 = .ok (.aload_n 0, 1) := by decide +kernel
theorem dX11_isFailed_9 : decode cX11_isFailed 9 = .ok (.getfield 41, 3) := by decide +kernel
theorem dX11_isFailed_12 : decode cX11_isFailed 12 = .ok (.sipush 400, 3) := by decide +kernel
theorem dX11_isFailed_15 : decode cX11_isFailed 15 = .ok (.iload 4, 2) := by decide +kernel
theorem dX11_isFailed_17 : decode cX11_isFailed 17 = .ok (.imul, 1) := by decide +kernel
theorem dX11_isFailed_18 : decode cX11_isFailed 18 = .ok (.iload_n 3, 1) := by decide +kernel
theorem dX11_isFailed_19 : decode cX11_isFailed 19 = .ok (.iadd, 1) := by decide +kernel
theorem dX11_isFailed_20 : decode cX11_isFailed 20 = .ok (.iaload, 1) := by decide +kernel
theorem dX11_isFailed_21 : decode cX11_isFailed 21 = .ok (.istore 5, 2) := by decide +kernel
theorem dX11_isFailed_23 : decode cX11_isFailed 23 = .ok (.iload 5, 2) := by decide +kernel
theorem dX11_isFailed_25 : decode cX11_isFailed 25 = .ok (.iconst (-1), 1) := by decide +kernel
theorem dX11_isFailed_26 : decode cX11_isFailed 26 = .ok (.if_icmp .eq 40, 3) := by decide +kernel
theorem dX11_isFailed_29 : decode cX11_isFailed 29 = .ok (.iload_n 2, 1) := by decide +kernel
theorem dX11_isFailed_30 : decode cX11_isFailed 30 = .ok (.iconst (-1), 1) := by decide +kernel
theorem dX11_isFailed_31 : decode cX11_isFailed 31 = .ok (.if_icmp .eq 9, 3) := by decide +kernel
theorem dX11_isFailed_34 : decode cX11_isFailed 34 = .ok (.iload 5, 2) := by decide +kernel
theorem dX11_isFailed_36 : decode cX11_isFailed 36 = .ok (.iload_n 2, 1) := by decide +kernel
theorem dX11_isFailed_37 : decode cX11_isFailed 37 = .ok (.if_icmp .ne 29, 3) := by decide +kernel
theorem dX11_isFailed_40 : decode cX11_isFailed 40 = .ok (.aload_n 0, 1) := by decide +kernel
theorem dX11_isFailed_41 : decode cX11_isFailed 41 = .ok (.iload_n 1, 1) := by decide +kernel
theorem dX11_isFailed_42 : decode cX11_isFailed 42 = .ok (.iload_n 3, 1) := by decide +kernel
theorem dX11_isFailed_43 : decode cX11_isFailed 43 = .ok (.invokevirtual 319, 3) := by decide +kernel
theorem dX11_isFailed_46 : decode cX11_isFailed 46 = .ok (.aload_n 0, 1) := by decide +kernel
theorem dX11_isFailed_47 : decode cX11_isFailed 47 = .ok (.getfield 38, 3) := by decide +kernel
theorem dX11_isFailed_50 : decode cX11_isFailed 50 = .ok (.bipush 40, 2) := by decide +kernel
theorem dX11_isFailed_52 : decode cX11_isFailed 52 = .ok (.iload 4, 2) := by decide +kernel
theorem dX11_isFailed_54 : decode cX11_isFailed 54 = .ok (.imul, 1) := by decide +kernel
theorem dX11_isFailed_55 : decode cX11_isFailed 55 = .ok (.iload 5, 2) := by decide +kernel
theorem dX11_isFailed_57 : decode cX11_isFailed 57 = .ok (.iadd, 1) := by decide +kernel
theorem dX11_isFailed_58 : decode cX11_isFailed 58 = .ok (.iaload, 1) := by decide +kernel
theorem dX11_isFailed_59 : decode cX11_isFailed 59 = .ok (.if_icmp .eq 7, 3) := by decide +kernel
theorem dX11_isFailed_62 : decode cX11_isFailed 62 = .ok (.iconst 1, 1) := by decide +kernel
theorem dX11_isFailed_63 : decode cX11_isFailed 63 = .ok (.goto 4, 3) := by decide +kernel
theorem dX11_isFailed_66 : decode cX11_isFailed 66 = .ok (.iconst 0, 1) := by decide +kernel
theorem dX11_isFailed_67 : decode cX11_isFailed 67 = .ok (.ireturn, 1) := by decide +kernel
theorem dX11_fails_0 : decode cX11_fails 0 = .ok (.aload_n 0, 1) := by decide +kernel
theorem dX11_fails_1 : decode cX11_fails 1 = .ok (.iconst 0, 1) := by decide +kernel
theorem dX11_fails_2 : decode cX11_fails 2 = .ok (.putfield 96, 3) := by decide +kernel
theorem dX11_fails_5 : decode cX11_fails 5 = .ok (.aload_n 0, 1) := by decide +kernel
theorem dX11_fails_6 : decode cX11_fails 6 = .ok (.iload_n 1, 1) := by decide +kernel
theorem dX11_fails_7 : decode cX11_fails 7 = .ok (.invokevirtual 316, 3) := by decide +kernel
theorem dX11_fails_10 : decode cX11_fails 10 = .ok (.ifCond .eq 23, 3) := by decide +kernel
theorem dX11_fails_13 : decode cX11_fails 13 = .ok (.iload_n 2, 1) := by decide +kernel
theorem dX11_fails_14 : decode cX11_fails 14 = .ok (.iconst (-1), 1) := by decide +kernel
theorem dX11_fails_15 : decode cX11_fails 15 = .ok (.if_icmp .lt 18, 3) := by decide +kernel
theorem dX11_fails_18 : decode cX11_fails 18 = .ok (.iload_n 2, 1) := by decide +kernel
theorem dX11_fails_19 : decode cX11_fails 19 = .ok (.aload_n 0, 1) := by decide +kernel
theorem dX11_fails_20 : decode cX11_fails 20 = .ok (.getfield 23, 3) := by decide +kernel
theorem dX11_fails_23 : decode cX11_fails 23 = .ok (.aload_n 0, 1) := by decide +kernel
theorem dX11_fails_24 : decode cX11_fails 24 = .ok (.getfield 44, 3) := by decide +kernel
theorem dX11_fails_27 : decode cX11_fails 27 = .ok (.iload_n 1, 1) := by decide +kernel
theorem dX11_fails_28 : decode cX11_fails 28 = .ok (.iaload, 1) := by decide +kernel
theorem dX11_fails_29 : decode cX11_fails 29 = .ok (.iaload, 1) := by decide +kernel
theorem dX11_fails_30 : decode cX11_fails 30 = .ok (.if_icmp .lt 8, 3) := by decide +kernel
theorem dX11_fails_33 : decode cX11_fails 33 = .ok (.aload_n 0, 1) := by decide +kernel
theorem dX11_fails_34 : decode cX11_fails 34 = .ok (.invokevirtual 215, 3) := by decide +kernel
theorem dX11_fails_37 : decode cX11_fails 37 = .ok (.ireturn, 1) := by decide +kernel
theorem dX11_fails_38 : decode cX11_fails 38 = .ok (.iconst 0, 1) := by decide +kernel
theorem dX11_fails_39 : decode cX11_fails 39 = .ok (.istore_n 3, 1) := by decide +kernel
theorem dX11_fails_40 : decode cX11_fails 40 = .ok (.iconst 0, 1) := by decide +kernel
theorem dX11_fails_41 : decode cX11_fails 41 = .ok (.istore 4, 2) := by decide +kernel
theorem dX11_fails_43 : decode cX11_fails 43 = .ok (.iload 4, 2) := by decide +kernel
theorem dX11_fails_45 : decode cX11_fails 45 = .ok (.aload_n 0, 1) := by decide +kernel
theorem dX11_fails_46 : decode cX11_fails 46 = .ok (.aload_n 0, 1) := by decide +kernel
theorem dX11_fails_47 : decode cX11_fails 47 = .ok (.getfield 44, 3) := by decide +kernel
theorem dX11_fails_50 : decode cX11_fails 50 = .ok (.iload_n 1, 1) := by decide +kernel
theorem dX11_fails_51 : decode cX11_fails 51 = .ok (.iaload, 1) := by decide +kernel
theorem dX11_fails_52 : decode cX11_fails 52 = .ok (.invokevirtual 205, 3) := by decide +kernel
theorem dX11_fails_55 : decode cX11_fails 55 = .ok (.if_icmp .ge 28, 3) := by decide +kernel
theorem dX11_fails_58 : decode cX11_fails 58 = .ok (.iload_n 3, 1) := by decide +kernel
theorem dX11_fails_59 : decode cX11_fails 59 = .ok (.aload_n 0, 1) := by decide +kernel
theorem dX11_fails_60 : decode cX11_fails 60 = .ok (.iload_n 1, 1) := by decide +kernel
theorem dX11_fails_61 : decode cX11_fails 61 = .ok (.iload_n 2, 1) := by decide +kernel
theorem dX11_fails_62 : decode cX11_fails 62 = .ok (.iload 4, 2) := by decide +kernel
theorem dX11_fails_64 : decode cX11_fails 64 = .ok (.invokevirtual 322, 3) := by decide +kernel
theorem dX11_fails_67 : decode cX11_fails 67 = .ok (.ifCond .eq 7, 3) := by decide +kernel
theorem dX11_fails_70 : decode cX11_fails 70 = .ok (.iconst 1, 1) := by decide +kernel
theorem dX11_fails_71 : decode cX11_fails 71 = .ok (.goto 4, 3) := by decide +kernel
theorem dX11_fails_74 : decode cX11_fails 74 = .ok (.iconst 0, 1) := by decide +kernel
theorem dX11_fails_75 : decode cX11_fails 75 = .ok (.iadd, 1) := by decide +kernel
theorem dX11_fails_76 : decode cX11_fails 76 = .ok (.istore_n 3, 1) := by decide +kernel
theorem dX11_fails_77 : decode cX11_fails 77 = .ok (.iinc 4 1, 3) := by decide +kernel
theorem dX11_fails_80 : decode cX11_fails 80 = .ok (.goto (-37), 3) := by decide +kernel
theorem dX11_fails_83 : decode cX11_fails 83 = .ok (.iload_n 3, 1) := by decide +kernel
theorem dX11_fails_84 : decode cX11_fails 84 = .ok (.ireturn, 1) := by decide +kernel
theorem dX11_failing_0 : decode cX11_failing 0 = .ok (.aload_n 0, 1) := by decide +kernel
theorem dX11_failing_1 : decode cX11_failing 1 = .ok (.iconst 0, 1) := by decide +kernel
theorem dX11_failing_2 : decode cX11_failing 2 = .ok (.putfield 96, 3) := by decide +kernel
theorem dX11_failing_5 : decode cX11_failing 5 = .ok (.aload_n 0, 1) := by decide +kernel
theorem dX11_failing_6 : decode cX11_failing 6 = .ok (.iload_n 1, 1) := by decide +kernel
theorem dX11_failing_7 : decode cX11_failing 7 = .ok (.invokevirtual 316, 3) := by decide +kernel
theorem dX11_failing_10 : decode cX11_failing 10 = .ok (.ifCond .eq 23, 3) := by decide +kernel
theorem dX11_failing_13 : decode cX11_failing 13 = .ok (.iload_n 2, 1) := by decide +kernel
theorem dX11_failing_14 : decode cX11_failing 14 = .ok (.iconst (-1), 1) := by decide +kernel
theorem dX11_failing_15 : decode cX11_failing 15 = .ok (.if_icmp .lt 18, 3) := by decide +kernel
theorem dX11_failing_18 : decode cX11_failing 18 = .ok (.iload_n 2, 1) := by decide +kernel
theorem dX11_failing_19 : decode cX11_failing 19 = .ok (.aload_n 0, 1) := by decide +kernel
theorem dX11_failing_20 : decode cX11_failing 20 = .ok (.getfield 23, 3) := by decide +kernel
theorem dX11_failing_23 : decode cX11_failing 23 = .ok (.aload_n 0, 1) := by decide +kernel
theorem dX11_failing_24 : decode cX11_failing 24 = .ok (.getfield 44, 3) := by decide +kernel
theorem dX11_failing_27 : decode cX11_failing 27 = .ok (.iload_n 1, 1) := by decide +kernel
theorem dX11_failing_28 : decode cX11_failing 28 = .ok (.iaload, 1) := by decide +kernel
theorem dX11_failing_29 : decode cX11_failing 29 = .ok (.iaload, 1) := by decide +kernel
theorem dX11_failing_30 : decode cX11_failing 30 = .ok (.if_icmp .lt 8, 3) := by decide +kernel
theorem dX11_failing_33 : decode cX11_failing 33 = .ok (.aload_n 0, 1) := by decide +kernel
theorem dX11_failing_34 : decode cX11_failing 34 = .ok (.invokevirtual 215, 3) := by decide +kernel
theorem dX11_failing_37 : decode cX11_failing 37 = .ok (.ireturn, 1) := by decide +kernel
theorem dX11_failing_38 : decode cX11_failing 38 = .ok (.iconst 0, 1) := by decide +kernel
theorem dX11_failing_39 : decode cX11_failing 39 = .ok (.istore_n 3, 1) := by decide +kernel
theorem dX11_failing_40 : decode cX11_failing 40 = .ok (.iload_n 3, 1) := by decide +kernel
theorem dX11_failing_41 : decode cX11_failing 41 = .ok (.aload_n 0, 1) := by decide +kernel
theorem dX11_failing_42 : decode cX11_failing 42 = .ok (.aload_n 0, 1) := by decide +kernel
theorem dX11_failing_43 : decode cX11_failing 43 = .ok (.getfield 44, 3) := by decide +kernel
theorem dX11_failing_46 : decode cX11_failing 46 = .ok (.iload_n 1, 1) := by decide +kernel
theorem dX11_failing_47 : decode cX11_failing 47 = .ok (.iaload, 1) := by decide +kernel
theorem dX11_failing_48 : decode cX11_failing 48 = .ok (.invokevirtual 205, 3) := by decide +kernel
theorem dX11_failing_51 : decode cX11_failing 51 = .ok (.if_icmp .ge 21, 3) := by decide +kernel
theorem dX11_failing_54 : decode cX11_failing 54 = .ok (.aload_n 0, 1) := by decide +kernel
theorem dX11_failing_55 : decode cX11_failing 55 = .ok (.iload_n 1, 1) := by decide +kernel
theorem dX11_failing_56 : decode cX11_failing 56 = .ok (.iload_n 2, 1) := by decide +kernel
theorem dX11_failing_57 : decode cX11_failing 57 = .ok (.iload_n 3, 1) := by decide +kernel
theorem dX11_failing_58 : decode cX11_failing 58 = .ok (.invokevirtual 322, 3) := by decide +kernel
theorem dX11_failing_61 : decode cX11_failing 61 = .ok (.ifCond .eq 5, 3) := by decide +kernel
theorem dX11_failing_64 : decode cX11_failing 64 = .ok (.iload_n 3, 1) := by decide +kernel
theorem dX11_failing_65 : decode cX11_failing 65 = .ok (.ireturn, 1) := by decide +kernel
theorem dX11_failing_66 : decode cX11_failing 66 = .ok (.iinc 3 1, 3) := by decide +kernel
theorem dX11_failing_69 : decode cX11_failing 69 = .ok (.goto (-29), 3) := by decide +kernel
theorem dX11_failing_72 : decode cX11_failing 72 = .ok (.iconst (-1), 1) := by decide +kernel
theorem dX11_failing_73 : decode cX11_failing 73 = .ok (.ireturn, 1) := by decide +kernel
theorem dX11_changed_0 : decode cX11_changed 0 = .ok (.aload_n 0, 1) := by decide +kernel
theorem dX11_changed_1 : decode cX11_changed 1 = .ok (.iconst 0, 1) := by decide +kernel
theorem dX11_changed_2 : decode cX11_changed 2 = .ok (.putfield 96, 3) := by decide +kernel
theorem dX11_changed_5 : decode cX11_changed 5 = .ok (.aload_n 0, 1) := by decide +kernel
theorem dX11_changed_6 : decode cX11_changed 6 = .ok (.iload_n 1, 1) := by decide +kernel
theorem dX11_changed_7 : decode cX11_changed 7 = .ok (.invokevirtual 316, 3) := by decide +kernel
theorem dX11_changed_10 : decode cX11_changed 10 = .ok (.ifCond .eq 20, 3) := by decide +kernel
theorem dX11_changed_13 : decode cX11_changed 13 = .ok (.aload_n 0, 1) := by decide +kernel
theorem dX11_changed_14 : decode cX11_changed 14 = .ok (.iload_n 2, 1) := by decide +kernel
theorem dX11_changed_15 : decode cX11_changed 15 = .ok (.invokevirtual 316, 3) := by decide +kernel
theorem dX11_changed_18 : decode cX11_changed 18 = .ok (.ifCond .eq 12, 3) := by decide +kernel
theorem dX11_changed_21 : decode cX11_changed 21 = .ok (.iload_n 3, 1) := by decide +kernel
theorem dX11_changed_22 : decode cX11_changed 22 = .ok (.ifCond .lt 8, 3) := by decide +kernel
theorem dX11_changed_25 : decode cX11_changed 25 = .ok (.iload_n 3, 1) := by decide +kernel
theorem dX11_changed_26 : decode cX11_changed 26 = .ok (.iconst 2, 1) := by decide +kernel
theorem dX11_changed_27 : decode cX11_changed 27 = .ok (.if_icmp .le 8, 3) := by decide +kernel
theorem dX11_changed_30 : decode cX11_changed 30 = .ok (.aload_n 0, 1) := by decide +kernel
theorem dX11_changed_31 : decode cX11_changed 31 = .ok (.invokevirtual 215, 3) := by decide +kernel
theorem dX11_changed_34 : decode cX11_changed 34 = .ok (.ireturn, 1) := by decide +kernel
theorem dX11_changed_35 : decode cX11_changed 35 = .ok (.aload_n 0, 1) := by decide +kernel
theorem dX11_changed_36 : decode cX11_changed 36 = .ok (.getfield 44, 3) := by decide +kernel
theorem dX11_changed_39 : decode cX11_changed 39 = .ok (.iload_n 1, 1) := by decide +kernel
theorem dX11_changed_40 : decode cX11_changed 40 = .ok (.iaload, 1) := by decide +kernel
theorem dX11_changed_41 : decode cX11_changed 41 = .ok (.istore 4, 2) := by decide +kernel
theorem dX11_changed_43 : decode cX11_changed 43 = .ok (.iload 4, 2) := by decide +kernel
theorem dX11_changed_45 : decode cX11_changed 45 = .ok (.aload_n 0, 1) := by decide +kernel
theorem dX11_changed_46 : decode cX11_changed 46 = .ok (.getfield 44, 3) := by decide +kernel
theorem dX11_changed_49 : decode cX11_changed 49 = .ok (.iload_n 2, 1) := by decide +kernel
theorem dX11_changed_50 : decode cX11_changed 50 = .ok (.iaload, 1) := by decide +kernel
theorem dX11_changed_51 : decode cX11_changed 51 = .ok (.if_icmp .eq 10, 3) := by decide +kernel
theorem dX11_changed_54 : decode cX11_changed 54 = .ok (.aload_n 0, 1) := by decide +kernel
theorem dX11_changed_55 : decode cX11_changed 55 = .ok (.iconst 2, 1) := by decide +kernel
theorem dX11_changed_56 : decode cX11_changed 56 = .ok (.putfield 96, 3) := by decide +kernel
theorem dX11_changed_59 : decode cX11_changed 59 = .ok (.iconst 0, 1) := by decide +kernel
theorem dX11_changed_60 : decode cX11_changed 60 = .ok (.ireturn, 1) := by decide +kernel
theorem dX11_changed_61 : decode cX11_changed 61 = .ok (.iconst 0, 1) := by decide +kernel
theorem dX11_changed_62 : decode cX11_changed 62 = .ok (.istore 5, 2) := by decide +kernel
theorem dX11_changed_64 : decode cX11_changed 64 = .ok (.iconst 0, 1) := by decide +kernel
theorem dX11_changed_65 : decode cX11_changed 65 = .ok (.istore 6, 2) := by decide +kernel
theorem dX11_changed_67 : decode cX11_changed 67 = .ok (.iconst (-1), 1) := by decide +kernel
theorem dX11_changed_68 : decode cX11_changed 68 = .ok (.istore 7, 2) := by decide +kernel
theorem dX11_changed_70 : decode cX11_changed 70 = .ok (.iconst 0, 1) := by decide +kernel
theorem dX11_changed_71 : decode cX11_changed 71 = .ok (.istore 8, 2) := by decide +kernel
theorem dX11_changed_73 : decode cX11_changed 73 = .ok (.iload 8, 2) := by decide +kernel
theorem dX11_changed_75 : decode cX11_changed 75 = .ok (.aload_n 0, 1) := by decide +kernel
theorem dX11_changed_76 : decode cX11_changed 76 = .ok (.iload 4, 2) := by decide +kernel
theorem dX11_changed_78 : decode cX11_changed 78 = .ok (.invokevirtual 205, 3) := by decide +kernel
theorem dX11_changed_81 : decode cX11_changed 81 = .ok (.if_icmp .ge 70, 3) := by decide +kernel
theorem dX11_changed_84 : decode cX11_changed 84 = .ok (.aload_n 0, 1) := by decide +kernel
theorem dX11_changed_85 : decode cX11_changed 85 = .ok (.iload_n 1, 1) := by decide +kernel
theorem dX11_changed_86 : decode cX11_changed 86 = .ok (.iload 8, 2) := by decide +kernel
theorem dX11_changed_88 : decode cX11_changed 88 = .ok (.invokevirtual 319, 3) := by decide +kernel
theorem dX11_changed_91 : decode cX11_changed 91 = .ok (.aload_n 0, 1) := by decide +kernel
theorem dX11_changed_92 : decode cX11_changed 92 = .ok (.iload_n 2, 1) := by decide +kernel
theorem dX11_changed_93 : decode cX11_changed 93 = .ok (.iload 8, 2) := by decide +kernel
theorem dX11_changed_95 : decode cX11_changed 95 = .ok (.invokevirtual 319, 3) := by decide +kernel
theorem dX11_changed_98 : decode cX11_changed 98 = .ok (.if_icmp .ne 6, 3) := by decide +kernel
theorem dX11_changed_101 : decode cX11_changed 101 = .ok (.goto 44, 3) := by decide +kernel
theorem dX11_changed_104 : decode cX11_changed 104 = .ok (.iinc 5 1, 3) := by decide +kernel
theorem dX11_changed_107 : decode cX11_changed 107 = .ok (.iload 6, 2) := by decide +kernel
theorem dX11_changed_109 : decode cX11_changed 109 = .ok (.aload_n 0, 1) := by decide +kernel
theorem dX11_changed_110 : decode cX11_changed 110 = .ok (.getfield 41, 3) := by decide +kernel
theorem dX11_changed_113 : decode cX11_changed 113 = .ok (.sipush 400, 3) := by decide +kernel
theorem dX11_changed_116 : decode cX11_changed 116 = .ok (.iload 4, 2) := by decide +kernel
theorem dX11_changed_118 : decode cX11_changed 118 = .ok (.imul, 1) := by decide +kernel
theorem dX11_changed_119 : decode cX11_changed 119 = .ok (.iload 8, 2) := by decide +kernel
theorem dX11_changed_121 : decode cX11_changed 121 = .ok (.iadd, 1) := by decide +kernel
theorem dX11_changed_122 : decode cX11_changed 122 = .ok (.iaload, 1) := by decide +kernel
theorem dX11_changed_123 : decode cX11_changed 123 = .ok (.iconst (-1), 1) := by decide +kernel
theorem dX11_changed_124 : decode cX11_changed 124 = .ok (.if_icmp .ne 7, 3) := by decide +kernel
theorem dX11_changed_127 : decode cX11_changed 127 = .ok (.iconst 1, 1) := by decide +kernel
theorem dX11_changed_128 : decode cX11_changed 128 = .ok (.goto 4, 3) := by decide +kernel
theorem dX11_changed_131 : decode cX11_changed 131 = .ok (.iconst 0, 1) := by decide +kernel
theorem dX11_changed_132 : decode cX11_changed 132 = .ok (.iadd, 1) := by decide +kernel
theorem dX11_changed_133 : decode cX11_changed 133 = .ok (.istore 6, 2) := by decide +kernel
theorem dX11_changed_135 : decode cX11_changed 135 = .ok (.iload 7, 2) := by decide +kernel
theorem dX11_changed_137 : decode cX11_changed 137 = .ok (.iconst (-1), 1) := by decide +kernel
theorem dX11_changed_138 : decode cX11_changed 138 = .ok (.if_icmp .ne 7, 3) := by decide +kernel
theorem dX11_changed_141 : decode cX11_changed 141 = .ok (.iload 8, 2) := by decide +kernel
theorem dX11_changed_143 : decode cX11_changed 143 = .ok (.istore 7, 2) := by decide +kernel
theorem dX11_changed_145 : decode cX11_changed 145 = .ok (.iinc 8 1, 3) := by decide +kernel
theorem dX11_changed_148 : decode cX11_changed 148 = .ok (.goto (-75), 3) := by decide +kernel
theorem dX11_changed_151 : decode cX11_changed 151 = .ok (.iload_n 3, 1) := by decide +kernel
theorem dX11_changed_152 : decode cX11_changed 152 = .ok (.ifCond .ne 8, 3) := by decide +kernel
theorem dX11_changed_155 : decode cX11_changed 155 = .ok (.iload 5, 2) := by decide +kernel
theorem dX11_changed_157 : decode cX11_changed 157 = .ok (.goto 15, 3) := by decide +kernel
theorem dX11_changed_160 : decode cX11_changed 160 = .ok (.iload_n 3, 1) := by decide +kernel
theorem dX11_changed_161 : decode cX11_changed 161 = .ok (.iconst 1, 1) := by decide +kernel
theorem dX11_changed_162 : decode cX11_changed 162 = .ok (.if_icmp .ne 8, 3) := by decide +kernel
theorem dX11_changed_165 : decode cX11_changed 165 = .ok (.iload 6, 2) := by decide +kernel
theorem dX11_changed_167 : decode cX11_changed 167 = .ok (.goto 5, 3) := by decide +kernel
theorem dX11_changed_170 : decode cX11_changed 170 = .ok (.iload 7, 2) := by decide +kernel
theorem dX11_changed_172 : decode cX11_changed 172 = .ok (.ireturn, 1) := by decide +kernel
theorem dX11_count_0 : decode cX11_count 0 = .ok (.aload_n 0, 1) := by decide +kernel
theorem dX11_count_1 : decode cX11_count 1 = .ok (.iconst 0, 1) := by decide +kernel
theorem dX11_count_2 : decode cX11_count 2 = .ok (.putfield 96, 3) := by decide +kernel
theorem dX11_count_5 : decode cX11_count 5 = .ok (.iload_n 1, 1) := by decide +kernel
theorem dX11_count_6 : decode cX11_count 6 = .ok (.tableswitch 50 0 3 #[30, 35, 40, 45], 30) := by decide +kernel
theorem dX11_count_36 : decode cX11_count 36 = .ok (.aload_n 0, 1) := by decide +kernel
theorem dX11_count_37 : decode cX11_count 37 = .ok (.getfield 99, 3) := by decide +kernel
theorem dX11_count_40 : decode cX11_count 40 = .ok (.ireturn, 1) := by decide +kernel
theorem dX11_count_41 : decode cX11_count 41 = .ok (.aload_n 0, 1) := by decide +kernel
theorem dX11_count_42 : decode cX11_count 42 = .ok (.getfield 234, 3) := by decide +kernel
theorem dX11_count_45 : decode cX11_count 45 = .ok (.ireturn, 1) := by decide +kernel
theorem dX11_count_46 : decode cX11_count 46 = .ok (.aload_n 0, 1) := by decide +kernel
theorem dX11_count_47 : decode cX11_count 47 = .ok (.getfield 102, 3) := by decide +kernel
theorem dX11_count_50 : decode cX11_count 50 = .ok (.ireturn, 1) := by decide +kernel
theorem dX11_count_51 : decode cX11_count 51 = .ok (.aload_n 0, 1) := by decide +kernel
theorem dX11_count_52 : decode cX11_count 52 = .ok (.invokevirtual 313, 3) := by decide +kernel
theorem dX11_count_55 : decode cX11_count 55 = .ok (.ireturn, 1) := by decide +kernel
theorem dX11_count_56 : decode cX11_count 56 = .ok (.aload_n 0, 1) := by decide +kernel
theorem dX11_count_57 : decode cX11_count 57 = .ok (.invokevirtual 215, 3) := by decide +kernel
theorem dX11_count_60 : decode cX11_count 60 = .ok (.ireturn, 1) := by decide +kernel
