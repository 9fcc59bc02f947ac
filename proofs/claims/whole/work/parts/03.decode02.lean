theorem dX11_stuff_133 : decode cX11_stuff 133 = .ok (.goto 19, 3) := by decide +kernel
theorem dX11_stuff_136 : decode cX11_stuff 136 = .ok (.iload_n 2, 1) := by decide +kernel
theorem dX11_stuff_137 : decode cX11_stuff 137 = .ok (.iconst 3, 1) := by decide +kernel
theorem dX11_stuff_138 : decode cX11_stuff 138 = .ok (.if_icmp .ne 10, 3) := by decide +kernel
theorem dX11_stuff_141 : decode cX11_stuff 141 = .ok (.aload_n 0, 1) := by decide +kernel
theorem dX11_stuff_142 : decode cX11_stuff 142 = .ok (.getfield 36, 3) := by decide +kernel
theorem dX11_stuff_145 : decode cX11_stuff 145 = .ok (.goto 7, 3) := by decide +kernel
theorem dX11_stuff_148 : decode cX11_stuff 148 = .ok (.aload_n 0, 1) := by decide +kernel
theorem dX11_stuff_149 : decode cX11_stuff 149 = .ok (.getfield 161, 3) := by decide +kernel
theorem dX11_stuff_152 : decode cX11_stuff 152 = .ok (.istore 4, 2) := by decide +kernel
theorem dX11_stuff_154 : decode cX11_stuff 154 = .ok (.iload_n 2, 1) := by decide +kernel
theorem dX11_stuff_155 : decode cX11_stuff 155 = .ok (.ifCond .ne 13, 3) := by decide +kernel
theorem dX11_stuff_158 : decode cX11_stuff 158 = .ok (.aload_n 0, 1) := by decide +kernel
theorem dX11_stuff_159 : decode cX11_stuff 159 = .ok (.getfield 27, 3) := by decide +kernel
theorem dX11_stuff_162 : decode cX11_stuff 162 = .ok (.iload_n 1, 1) := by decide +kernel
theorem dX11_stuff_163 : decode cX11_stuff 163 = .ok (.iload_n 3, 1) := by decide +kernel
theorem dX11_stuff_164 : decode cX11_stuff 164 = .ok (.iastore, 1) := by decide +kernel
theorem dX11_stuff_165 : decode cX11_stuff 165 = .ok (.goto 51, 3) := by decide +kernel
theorem dX11_stuff_168 : decode cX11_stuff 168 = .ok (.iload_n 2, 1) := by decide +kernel
theorem dX11_stuff_169 : decode cX11_stuff 169 = .ok (.iconst 1, 1) := by decide +kernel
theorem dX11_stuff_170 : decode cX11_stuff 170 = .ok (.if_icmp .ne 13, 3) := by decide +kernel
theorem dX11_stuff_173 : decode cX11_stuff 173 = .ok (.aload_n 0, 1) := by decide +kernel
theorem dX11_stuff_174 : decode cX11_stuff 174 = .ok (.getfield 30, 3) := by decide +kernel
theorem dX11_stuff_177 : decode cX11_stuff 177 = .ok (.iload_n 1, 1) := by decide +kernel
theorem dX11_stuff_178 : decode cX11_stuff 178 = .ok (.iload_n 3, 1) := by decide +kernel
theorem dX11_stuff_179 : decode cX11_stuff 179 = .ok (.iastore, 1) := by decide +kernel
theorem dX11_stuff_180 : decode cX11_stuff 180 = .ok (.goto 36, 3) := by decide +kernel
theorem dX11_stuff_183 : decode cX11_stuff 183 = .ok (.iload_n 2, 1) := by decide +kernel
theorem dX11_stuff_184 : decode cX11_stuff 184 = .ok (.iconst 2, 1) := by decide +kernel
theorem dX11_stuff_185 : decode cX11_stuff 185 = .ok (.if_icmp .ne 13, 3) := by decide +kernel
theorem dX11_stuff_188 : decode cX11_stuff 188 = .ok (.aload_n 0, 1) := by decide +kernel
theorem dX11_stuff_189 : decode cX11_stuff 189 = .ok (.getfield 33, 3) := by decide +kernel
theorem dX11_stuff_192 : decode cX11_stuff 192 = .ok (.iload_n 1, 1) := by decide +kernel
theorem dX11_stuff_193 : decode cX11_stuff 193 = .ok (.iload_n 3, 1) := by decide +kernel
theorem dX11_stuff_194 : decode cX11_stuff 194 = .ok (.iastore, 1) := by decide +kernel
theorem dX11_stuff_195 : decode cX11_stuff 195 = .ok (.goto 21, 3) := by decide +kernel
theorem dX11_stuff_198 : decode cX11_stuff 198 = .ok (.iload_n 2, 1) := by decide +kernel
theorem dX11_stuff_199 : decode cX11_stuff 199 = .ok (.iconst 3, 1) := by decide +kernel
theorem dX11_stuff_200 : decode cX11_stuff 200 = .ok (.if_icmp .ne 11, 3) := by decide +kernel
theorem dX11_stuff_203 : decode cX11_stuff 203 = .ok (.aload_n 0, 1) := by decide +kernel
theorem dX11_stuff_204 : decode cX11_stuff 204 = .ok (.iload_n 3, 1) := by decide +kernel
theorem dX11_stuff_205 : decode cX11_stuff 205 = .ok (.putfield 36, 3) := by decide +kernel
theorem dX11_stuff_208 : decode cX11_stuff 208 = .ok (.goto 8, 3) := by decide +kernel
theorem dX11_stuff_211 : decode cX11_stuff 211 = .ok (.aload_n 0, 1) := by decide +kernel
theorem dX11_stuff_212 : decode cX11_stuff 212 = .ok (.iload_n 3, 1) := by decide +kernel
theorem dX11_stuff_213 : decode cX11_stuff 213 = .ok (.putfield 161, 3) := by decide +kernel
theorem dX11_stuff_216 : decode cX11_stuff 216 = .ok (.iload 4, 2) := by decide +kernel
theorem dX11_stuff_218 : decode cX11_stuff 218 = .ok (.ireturn, 1) := by decide +kernel
theorem dX11_ship_0 : decode cX11_ship 0 = .ok (.aload_n 0, 1) := by decide +kernel
theorem dX11_ship_1 : decode cX11_ship 1 = .ok (.iconst 0, 1) := by decide +kernel
theorem dX11_ship_2 : decode cX11_ship 2 = .ok (.putfield 1, 3) := by decide +kernel
theorem dX11_ship_5 : decode cX11_ship 5 = .ok (.iload_n 1, 1) := by decide +kernel
theorem dX11_ship_6 : decode cX11_ship 6 = .ok (.invokestatic 164, 3) := by decide +kernel
theorem dX11_ship_9 : decode cX11_ship 9 = .ok (.ifCond .eq 33, 3) := by decide +kernel
theorem dX11_ship_12 : decode cX11_ship 12 = .ok (.iload_n 2, 1) := by decide +kernel
theorem dX11_ship_13 : decode cX11_ship 13 = .ok (.invokestatic 150, 3) := by decide +kernel
theorem dX11_ship_16 : decode cX11_ship 16 = .ok (.ifCond .eq 26, 3) := by decide +kernel
theorem dX11_ship_19 : decode cX11_ship 19 = .ok (.iload_n 3, 1) := by decide +kernel
theorem dX11_ship_20 : decode cX11_ship 20 = .ok (.i2l, 1) := by decide +kernel
theorem dX11_ship_21 : decode cX11_ship 21 = .ok (.lconst 1, 1) := by decide +kernel
theorem dX11_ship_22 : decode cX11_ship 22 = .ok (.ldc2_w 167, 3) := by decide +kernel
theorem dX11_ship_25 : decode cX11_ship 25 = .ok (.invokestatic 126, 3) := by decide +kernel
theorem dX11_ship_28 : decode cX11_ship 28 = .ok (.ifCond .eq 14, 3) := by decide +kernel
theorem dX11_ship_31 : decode cX11_ship 31 = .ok (.iload 4, 2) := by decide +kernel
theorem dX11_ship_33 : decode cX11_ship 33 = .ok (.i2l, 1) := by decide +kernel
theorem dX11_ship_34 : decode cX11_ship 34 = .ok (.lconst 0, 1) := by decide +kernel
theorem dX11_ship_35 : decode cX11_ship 35 = .ok (.lconst 1, 1) := by decide +kernel
theorem dX11_ship_36 : decode cX11_ship 36 = .ok (.invokestatic 126, 3) := by decide +kernel
theorem dX11_ship_39 : decode cX11_ship 39 = .ok (.ifCond .ne 6, 3) := by decide +kernel
theorem dX11_ship_42 : decode cX11_ship 42 = .ok (.ldc 136, 2) := by decide +kernel
theorem dX11_ship_44 : decode cX11_ship 44 = .ok (.ireturn, 1) := by decide +kernel
theorem dX11_ship_45 : decode cX11_ship 45 = .ok (.aload_n 0, 1) := by decide +kernel
theorem dX11_ship_46 : decode cX11_ship 46 = .ok (.getfield 169, 3) := by decide +kernel
theorem dX11_ship_49 : decode cX11_ship 49 = .ok (.bipush 30, 2) := by decide +kernel
theorem dX11_ship_51 : decode cX11_ship 51 = .ok (.if_icmp .ne 6, 3) := by decide +kernel
theorem dX11_ship_54 : decode cX11_ship 54 = .ok (.ldc 172, 2) := by decide +kernel
theorem dX11_ship_56 : decode cX11_ship 56 = .ok (.ireturn, 1) := by decide +kernel
theorem dX11_ship_57 : decode cX11_ship 57 = .ok (.aload_n 0, 1) := by decide +kernel
theorem dX11_ship_58 : decode cX11_ship 58 = .ok (.getfield 39, 3) := by decide +kernel
theorem dX11_ship_61 : decode cX11_ship 61 = .ok (.aload_n 0, 1) := by decide +kernel
theorem dX11_ship_62 : decode cX11_ship 62 = .ok (.getfield 169, 3) := by decide +kernel
theorem dX11_ship_65 : decode cX11_ship 65 = .ok (.iload_n 1, 1) := by decide +kernel
theorem dX11_ship_66 : decode cX11_ship 66 = .ok (.iastore, 1) := by decide +kernel
theorem dX11_ship_67 : decode cX11_ship 67 = .ok (.aload_n 0, 1) := by decide +kernel
theorem dX11_ship_68 : decode cX11_ship 68 = .ok (.getfield 42, 3) := by decide +kernel
theorem dX11_ship_71 : decode cX11_ship 71 = .ok (.aload_n 0, 1) := by decide +kernel
theorem dX11_ship_72 : decode cX11_ship 72 = .ok (.getfield 169, 3) := by decide +kernel
theorem dX11_ship_75 : decode cX11_ship 75 = .ok (.iload_n 2, 1) := by decide +kernel
theorem dX11_ship_76 : decode cX11_ship 76 = .ok (.iastore, 1) := by decide +kernel
theorem dX11_ship_77 : decode cX11_ship 77 = .ok (.aload_n 0, 1) := by decide +kernel
theorem dX11_ship_78 : decode cX11_ship 78 = .ok (.getfield 45, 3) := by decide +kernel
theorem dX11_ship_81 : decode cX11_ship 81 = .ok (.aload_n 0, 1) := by decide +kernel
theorem dX11_ship_82 : decode cX11_ship 82 = .ok (.getfield 169, 3) := by decide +kernel
theorem dX11_ship_85 : decode cX11_ship 85 = .ok (.iload 4, 2) := by decide +kernel
theorem dX11_ship_87 : decode cX11_ship 87 = .ok (.iload_n 3, 1) := by decide +kernel
theorem dX11_ship_88 : decode cX11_ship 88 = .ok (.imul, 1) := by decide +kernel
theorem dX11_ship_89 : decode cX11_ship 89 = .ok (.iastore, 1) := by decide +kernel
theorem dX11_ship_90 : decode cX11_ship 90 = .ok (.aload_n 0, 1) := by decide +kernel
theorem dX11_ship_91 : decode cX11_ship 91 = .ok (.dup, 1) := by decide +kernel
theorem dX11_ship_92 : decode cX11_ship 92 = .ok (.getfield 169, 3) := by decide +kernel
theorem dX11_ship_95 : decode cX11_ship 95 = .ok (.iconst 1, 1) := by decide +kernel
theorem dX11_ship_96 : decode cX11_ship 96 = .ok (.iadd, 1) := by decide +kernel
theorem dX11_ship_97 : decode cX11_ship 97 = .ok (.putfield 169, 3) := by decide +kernel
theorem dX11_ship_100 : decode cX11_ship 100 = .ok (.aload_n 0, 1) := by decide +kernel
theorem dX11_ship_101 : decode cX11_ship 101 = .ok (.getfield 169, 3) := by decide +kernel
theorem dX11_ship_104 : decode cX11_ship 104 = .ok (.ireturn, 1) := by decide +kernel
theorem dX11_mill_0 : decode cX11_mill 0 = .ok (.aload_n 0, 1) := by decide +kernel
theorem dX11_mill_1 : decode cX11_mill 1 = .ok (.iconst 0, 1) := by decide +kernel
theorem dX11_mill_2 : decode cX11_mill 2 = .ok (.putfield 1, 3) := by decide +kernel
theorem dX11_mill_5 : decode cX11_mill 5 = .ok (.iload_n 1, 1) := by decide +kernel
theorem dX11_mill_6 : decode cX11_mill 6 = .ok (.i2l, 1) := by decide +kernel
theorem dX11_mill_7 : decode cX11_mill 7 = .ok (.lconst 1, 1) := by decide +kernel
theorem dX11_mill_8 : decode cX11_mill 8 = .ok (.ldc2_w 173, 3) := by decide +kernel
theorem dX11_mill_11 : decode cX11_mill 11 = .ok (.invokestatic 126, 3) := by decide +kernel
theorem dX11_mill_14 : decode cX11_mill 14 = .ok (.ifCond .eq 40, 3) := by decide +kernel
theorem dX11_mill_17 : decode cX11_mill 17 = .ok (.iload_n 2, 1) := by decide +kernel
theorem dX11_mill_18 : decode cX11_mill 18 = .ok (.i2l, 1) := by decide +kernel
theorem dX11_mill_19 : decode cX11_mill 19 = .ok (.lconst 1, 1) := by decide +kernel
theorem dX11_mill_20 : decode cX11_mill 20 = .ok (.ldc2_w 175, 3) := by decide +kernel
theorem dX11_mill_23 : decode cX11_mill 23 = .ok (.invokestatic 126, 3) := by decide +kernel
theorem dX11_mill_26 : decode cX11_mill 26 = .ok (.ifCond .eq 28, 3) := by decide +kernel
theorem dX11_mill_29 : decode cX11_mill 29 = .ok (.iload_n 3, 1) := by decide +kernel
theorem dX11_mill_30 : decode cX11_mill 30 = .ok (.i2l, 1) := by decide +kernel
theorem dX11_mill_31 : decode cX11_mill 31 = .ok (.lconst 0, 1) := by decide +kernel
theorem dX11_mill_32 : decode cX11_mill 32 = .ok (.ldc2_w 153, 3) := by decide +kernel
theorem dX11_mill_35 : decode cX11_mill 35 = .ok (.invokestatic 126, 3) := by decide +kernel
theorem dX11_mill_38 : decode cX11_mill 38 = .ok (.ifCond .eq 16, 3) := by decide +kernel
theorem dX11_mill_41 : decode cX11_mill 41 = .ok (.iload 4, 2) := by decide +kernel
theorem dX11_mill_43 : decode cX11_mill 43 = .ok (.i2l, 1) := by decide +kernel
theorem dX11_mill_44 : decode cX11_mill 44 = .ok (.lconst 0, 1) := by decide +kernel
theorem dX11_mill_45 : decode cX11_mill 45 = .ok (.ldc2_w 157, 3) := by decide +kernel
theorem dX11_mill_48 : decode cX11_mill 48 = .ok (.invokestatic 126, 3) := by decide +kernel
theorem dX11_mill_51 : decode cX11_mill 51 = .ok (.ifCond .ne 6, 3) := by decide +kernel
theorem dX11_mill_54 : decode cX11_mill 54 = .ok (.ldc 136, 2) := by decide +kernel
theorem dX11_mill_56 : decode cX11_mill 56 = .ok (.ireturn, 1) := by decide +kernel
theorem dX11_mill_57 : decode cX11_mill 57 = .ok (.aload_n 0, 1) := by decide +kernel
theorem dX11_mill_58 : decode cX11_mill 58 = .ok (.getfield 145, 3) := by decide +kernel
theorem dX11_mill_61 : decode cX11_mill 61 = .ok (.bipush 6, 2) := by decide +kernel
theorem dX11_mill_63 : decode cX11_mill 63 = .ok (.if_icmp .ne 6, 3) := by decide +kernel
theorem dX11_mill_66 : decode cX11_mill 66 = .ok (.ldc 172, 2) := by decide +kernel
theorem dX11_mill_68 : decode cX11_mill 68 = .ok (.ireturn, 1) := by decide +kernel
theorem dX11_mill_69 : decode cX11_mill 69 = .ok (.aload_n 0, 1) := by decide +kernel
theorem dX11_mill_70 : decode cX11_mill 70 = .ok (.getfield 48, 3) := by decide +kernel
theorem dX11_mill_73 : decode cX11_mill 73 = .ok (.aload_n 0, 1) := by decide +kernel
theorem dX11_mill_74 : decode cX11_mill 74 = .ok (.getfield 145, 3) := by decide +kernel
theorem dX11_mill_77 : decode cX11_mill 77 = .ok (.iload_n 1, 1) := by decide +kernel
theorem dX11_mill_78 : decode cX11_mill 78 = .ok (.iastore, 1) := by decide +kernel
theorem dX11_mill_79 : decode cX11_mill 79 = .ok (.aload_n 0, 1) := by decide +kernel
theorem dX11_mill_80 : decode cX11_mill 80 = .ok (.getfield 51, 3) := by decide +kernel
theorem dX11_mill_83 : decode cX11_mill 83 = .ok (.aload_n 0, 1) := by decide +kernel
theorem dX11_mill_84 : decode cX11_mill 84 = .ok (.getfield 145, 3) := by decide +kernel
theorem dX11_mill_87 : decode cX11_mill 87 = .ok (.iload_n 2, 1) := by decide +kernel
theorem dX11_mill_88 : decode cX11_mill 88 = .ok (.iastore, 1) := by decide +kernel
theorem dX11_mill_89 : decode cX11_mill 89 = .ok (.aload_n 0, 1) := by decide +kernel
theorem dX11_mill_90 : decode cX11_mill 90 = .ok (.getfield 54, 3) := by decide +kernel
theorem dX11_mill_93 : decode cX11_mill 93 = .ok (.aload_n 0, 1) := by decide +kernel
theorem dX11_mill_94 : decode cX11_mill 94 = .ok (.getfield 145, 3) := by decide +kernel
theorem dX11_mill_97 : decode cX11_mill 97 = .ok (.iload_n 3, 1) := by decide +kernel
theorem dX11_mill_98 : decode cX11_mill 98 = .ok (.iastore, 1) := by decide +kernel
theorem dX11_mill_99 : decode cX11_mill 99 = .ok (.aload_n 0, 1) := by decide +kernel
theorem dX11_mill_100 : decode cX11_mill 100 = .ok (.getfield 57, 3) := by decide +kernel
theorem dX11_mill_103 : decode cX11_mill 103 = .ok (.aload_n 0, 1) := by decide +kernel
theorem dX11_mill_104 : decode cX11_mill 104 = .ok (.getfield 145, 3) := by decide +kernel
theorem dX11_mill_107 : decode cX11_mill 107 = .ok (.iload 4, 2) := by decide +kernel
theorem dX11_mill_109 : decode cX11_mill 109 = .ok (.iastore, 1) := by decide +kernel
theorem dX11_mill_110 : decode cX11_mill 110 = .ok (.aload_n 0, 1) := by decide +kernel
theorem dX11_mill_111 : decode cX11_mill 111 = .ok (.dup, 1) := by decide +kernel
theorem dX11_mill_112 : decode cX11_mill 112 = .ok (.getfield 145, 3) := by decide +kernel
theorem dX11_mill_115 : decode cX11_mill 115 = .ok (.iconst 1, 1) := by decide +kernel
theorem dX11_mill_116 : decode cX11_mill 116 = .ok (.iadd, 1) := by decide +kernel
theorem dX11_mill_117 : decode cX11_mill 117 = .ok (.putfield 145, 3) := by decide +kernel
theorem dX11_mill_120 : decode cX11_mill 120 = .ok (.aload_n 0, 1) := by decide +kernel
theorem dX11_mill_121 : decode cX11_mill 121 = .ok (.getfield 145, 3) := by decide +kernel
theorem dX11_mill_124 : decode cX11_mill 124 = .ok (.iconst 1, 1) := by decide +kernel
theorem dX11_mill_125 : decode cX11_mill 125 = .ok (.isub, 1) := by decide +kernel
theorem dX11_mill_126 : decode cX11_mill 126 = .ok (.ireturn, 1) := by decide +kernel
theorem dX11_stock_0 : decode cX11_stock 0 = .ok (.aload_n 0, 1) := by decide +kernel
theorem dX11_stock_1 : decode cX11_stock 1 = .ok (.iconst 0, 1) := by decide +kernel
theorem dX11_stock_2 : decode cX11_stock 2 = .ok (.putfield 1, 3) := by decide +kernel
theorem dX11_stock_5 : decode cX11_stock 5 = .ok (.aload_n 0, 1) := by decide +kernel
theorem dX11_stock_6 : decode cX11_stock 6 = .ok (.iload_n 1, 1) := by decide +kernel
theorem dX11_stock_7 : decode cX11_stock 7 = .ok (.invokevirtual 177, 3) := by decide +kernel
theorem dX11_stock_10 : decode cX11_stock 10 = .ok (.ifCond .eq 22, 3) := by decide +kernel
theorem dX11_stock_13 : decode cX11_stock 13 = .ok (.iload_n 2, 1) := by decide +kernel
theorem dX11_stock_14 : decode cX11_stock 14 = .ok (.invokestatic 150, 3) := by decide +kernel
theorem dX11_stock_17 : decode cX11_stock 17 = .ok (.ifCond .eq 15, 3) := by decide +kernel
theorem dX11_stock_20 : decode cX11_stock 20 = .ok (.iload_n 3, 1) := by decide +kernel
theorem dX11_stock_21 : decode cX11_stock 21 = .ok (.i2l, 1) := by decide +kernel
theorem dX11_stock_22 : decode cX11_stock 22 = .ok (.lconst 0, 1) := by decide +kernel
theorem dX11_stock_23 : decode cX11_stock 23 = .ok (.ldc2_w 155, 3) := by decide +kernel
theorem dX11_stock_26 : decode cX11_stock 26 = .ok (.invokestatic 126, 3) := by decide +kernel
theorem dX11_stock_29 : decode cX11_stock 29 = .ok (.ifCond .ne 6, 3) := by decide +kernel
theorem dX11_stock_32 : decode cX11_stock 32 = .ok (.ldc 136, 2) := by decide +kernel
theorem dX11_stock_34 : decode cX11_stock 34 = .ok (.ireturn, 1) := by decide +kernel
theorem dX11_stock_35 : decode cX11_stock 35 = .ok (.aload_n 0, 1) := by decide +kernel
theorem dX11_stock_36 : decode cX11_stock 36 = .ok (.getfield 60, 3) := by decide +kernel
theorem dX11_stock_39 : decode cX11_stock 39 = .ok (.iconst 4, 1) := by decide +kernel
theorem dX11_stock_40 : decode cX11_stock 40 = .ok (.iload_n 1, 1) := by decide +kernel
theorem dX11_stock_41 : decode cX11_stock 41 = .ok (.imul, 1) := by decide +kernel
theorem dX11_stock_42 : decode cX11_stock 42 = .ok (.iload_n 2, 1) := by decide +kernel
theorem dX11_stock_43 : decode cX11_stock 43 = .ok (.iadd, 1) := by decide +kernel
theorem dX11_stock_44 : decode cX11_stock 44 = .ok (.iaload, 1) := by decide +kernel
theorem dX11_stock_45 : decode cX11_stock 45 = .ok (.istore 4, 2) := by decide +kernel
theorem dX11_stock_47 : decode cX11_stock 47 = .ok (.aload_n 0, 1) := by decide +kernel
theorem dX11_stock_48 : decode cX11_stock 48 = .ok (.getfield 60, 3) := by decide +kernel
theorem dX11_stock_51 : decode cX11_stock 51 = .ok (.iconst 4, 1) := by decide +kernel
theorem dX11_stock_52 : decode cX11_stock 52 = .ok (.iload_n 1, 1) := by decide +kernel
theorem dX11_stock_53 : decode cX11_stock 53 = .ok (.imul, 1) := by decide +kernel
theorem dX11_stock_54 : decode cX11_stock 54 = .ok (.iload_n 2, 1) := by decide +kernel
theorem dX11_stock_55 : decode cX11_stock 55 = .ok (.iadd, 1) := by decide +kernel
theorem dX11_stock_56 : decode cX11_stock 56 = .ok (.iload_n 3, 1) := by decide +kernel
theorem dX11_stock_57 : decode cX11_stock 57 = .ok (.iastore, 1) := by decide +kernel
theorem dX11_stock_58 : decode cX11_stock 58 = .ok (.iload 4, 2) := by decide +kernel
theorem dX11_stock_60 : decode cX11_stock 60 = .ok (.ireturn, 1) := by decide +kernel
theorem dX11_told_0 : decode cX11_told 0 = .ok (.aload_n 0, 1) := by decide +kernel
theorem dX11_told_1 : decode cX11_told 1 = .ok (.iconst 0, 1) := by decide +kernel
theorem dX11_told_2 : decode cX11_told 2 = .ok (.putfield 1, 3) := by decide +kernel
theorem dX11_told_5 : decode cX11_told 5 = .ok (.aload_n 0, 1) := by decide +kernel
theorem dX11_told_6 : decode cX11_told 6 = .ok (.iload_n 1, 1) := by decide +kernel
theorem dX11_told_7 : decode cX11_told 7 = .ok (.invokevirtual 177, 3) := by decide +kernel
theorem dX11_told_10 : decode cX11_told 10 = .ok (.ifCond .eq 15, 3) := by decide +kernel
theorem dX11_told_13 : decode cX11_told 13 = .ok (.iload_n 2, 1) := by decide +kernel
theorem dX11_told_14 : decode cX11_told 14 = .ok (.i2l, 1) := by decide +kernel
theorem dX11_told_15 : decode cX11_told 15 = .ok (.lconst 0, 1) := by decide +kernel
theorem dX11_told_16 : decode cX11_told 16 = .ok (.ldc2_w 180, 3) := by decide +kernel
theorem dX11_told_19 : decode cX11_told 19 = .ok (.invokestatic 126, 3) := by decide +kernel
theorem dX11_told_22 : decode cX11_told 22 = .ok (.ifCond .ne 6, 3) := by decide +kernel
theorem dX11_told_25 : decode cX11_told 25 = .ok (.ldc 136, 2) := by decide +kernel
theorem dX11_told_27 : decode cX11_told 27 = .ok (.ireturn, 1) := by decide +kernel
theorem dX11_told_28 : decode cX11_told 28 = .ok (.iload_n 2, 1) := by decide +kernel
theorem dX11_told_29 : decode cX11_told 29 = .ok (.bipush 9, 2) := by decide +kernel
theorem dX11_told_31 : decode cX11_told 31 = .ok (.if_icmp .ne 48, 3) := by decide +kernel
theorem dX11_told_34 : decode cX11_told 34 = .ok (.iconst 0, 1) := by decide +kernel
theorem dX11_told_35 : decode cX11_told 35 = .ok (.istore_n 3, 1) := by decide +kernel
theorem dX11_told_36 : decode cX11_told 36 = .ok (.iconst 0, 1) := by decide +kernel
theorem dX11_told_37 : decode cX11_told 37 = .ok (.istore 4, 2) := by decide +kernel
theorem dX11_told_39 : decode cX11_told 39 = .ok (.iload 4, 2) := by decide +kernel
theorem dX11_told_41 : decode cX11_told 41 = .ok (.bipush 100, 2) := by decide +kernel
theorem dX11_told_43 : decode cX11_told 43 = .ok (.if_icmp .ge 34, 3) := by decide +kernel
theorem dX11_told_46 : decode cX11_told 46 = .ok (.iload_n 3, 1) := by decide +kernel
theorem dX11_told_47 : decode cX11_told 47 = .ok (.aload_n 0, 1) := by decide +kernel
theorem dX11_told_48 : decode cX11_told 48 = .ok (.getfield 66, 3) := by decide +kernel
theorem dX11_told_51 : decode cX11_told 51 = .ok (.bipush 100, 2) := by decide +kernel
theorem dX11_told_53 : decode cX11_told 53 = .ok (.iload_n 1, 1) := by decide +kernel
theorem dX11_told_54 : decode cX11_told 54 = .ok (.imul, 1) := by decide +kernel
theorem dX11_told_55 : decode cX11_told 55 = .ok (.iload 4, 2) := by decide +kernel
theorem dX11_told_57 : decode cX11_told 57 = .ok (.iadd, 1) := by decide +kernel
theorem dX11_told_58 : decode cX11_told 58 = .ok (.iaload, 1) := by decide +kernel
theorem dX11_told_59 : decode cX11_told 59 = .ok (.ldc 69, 2) := by decide +kernel
theorem dX11_told_61 : decode cX11_told 61 = .ok (.if_icmp .eq 7, 3) := by decide +kernel
theorem dX11_told_64 : decode cX11_told 64 = .ok (.iconst 1, 1) := by decide +kernel
theorem dX11_told_65 : decode cX11_told 65 = .ok (.goto 4, 3) := by decide +kernel
theorem dX11_told_68 : decode cX11_told 68 = .ok (.iconst 0, 1) := by decide +kernel
theorem dX11_told_69 : decode cX11_told 69 = .ok (.iadd, 1) := by decide +kernel
theorem dX11_told_70 : decode cX11_told 70 = .ok (.istore_n 3, 1) := by decide +kernel
theorem dX11_told_71 : decode cX11_told 71 = .ok (.iinc 4 1, 3) := by decide +kernel
theorem dX11_told_74 : decode cX11_told 74 = .ok (.goto (-35), 3) := by decide +kernel
theorem dX11_told_77 : decode cX11_told 77 = .ok (.iload_n 3, 1) := by decide +kernel
theorem dX11_told_78 : decode cX11_told 78 = .ok (.ireturn, 1) := by decide +kernel
theorem dX11_told_79 : decode cX11_told 79 = .ok (.iload_n 2, 1) := by decide +kernel
theorem dX11_told_80 : decode cX11_told 80 = .ok (.ifCond .ne 12, 3) := by decide +kernel
theorem dX11_told_83 : decode cX11_told 83 = .ok (.aload_n 0, 1) := by decide +kernel
theorem dX11_told_84 : decode cX11_told 84 = .ok (.getfield 48, 3) := by decide +kernel
theorem dX11_told_87 : decode cX11_told 87 = .ok (.iload_n 1, 1) := by decide +kernel
theorem dX11_told_88 : decode cX11_told 88 = .ok (.iaload, 1) := by decide +kernel
theorem dX11_told_89 : decode cX11_told 89 = .ok (.goto 72, 3) := by decide +kernel
theorem dX11_told_92 : decode cX11_told 92 = .ok (.iload_n 2, 1) := by decide +kernel
theorem dX11_told_93 : decode cX11_told 93 = .ok (.iconst 1, 1) := by decide +kernel
theorem dX11_told_94 : decode cX11_told 94 = .ok (.if_icmp .ne 12, 3) := by decide +kernel
theorem dX11_told_97 : decode cX11_told 97 = .ok (.aload_n 0, 1) := by decide +kernel
theorem dX11_told_98 : decode cX11_told 98 = .ok (.getfield 51, 3) := by decide +kernel
theorem dX11_told_101 : decode cX11_told 101 = .ok (.iload_n 1, 1) := by decide +kernel
theorem dX11_told_102 : decode cX11_told 102 = .ok (.iaload, 1) := by decide +kernel
theorem dX11_told_103 : decode cX11_told 103 = .ok (.goto 58, 3) := by decide +kernel
theorem dX11_told_106 : decode cX11_told 106 = .ok (.iload_n 2, 1) := by decide +kernel
theorem dX11_told_107 : decode cX11_told 107 = .ok (.iconst 2, 1) := by decide +kernel
theorem dX11_told_108 : decode cX11_told 108 = .ok (.if_icmp .ne 12, 3) := by decide +kernel
theorem dX11_told_111 : decode cX11_told 111 = .ok (.aload_n 0, 1) := by decide +kernel
theorem dX11_told_112 : decode cX11_told 112 = .ok (.getfield 54, 3) := by decide +kernel
theorem dX11_told_115 : decode cX11_told 115 = .ok (.iload_n 1, 1) := by decide +kernel
theorem dX11_told_116 : decode cX11_told 116 = .ok (.iaload, 1) := by decide +kernel
theorem dX11_told_117 : decode cX11_told 117 = .ok (.goto 44, 3) := by decide +kernel
theorem dX11_told_120 : decode cX11_told 120 = .ok (.iload_n 2, 1) := by decide +kernel
theorem dX11_told_121 : decode cX11_told 121 = .ok (.iconst 3, 1) := by decide +kernel
theorem dX11_told_122 : decode cX11_told 122 = .ok (.if_icmp .ne 12, 3) := by decide +kernel
theorem dX11_told_125 : decode cX11_told 125 = .ok (.aload_n 0, 1) := by decide +kernel
theorem dX11_told_126 : decode cX11_told 126 = .ok (.getfield 57, 3) := by decide +kernel
theorem dX11_told_129 : decode cX11_told 129 = .ok (.iload_n 1, 1) := by decide +kernel
theorem dX11_told_130 : decode cX11_told 130 = .ok (.iaload, 1) := by decide +kernel
theorem dX11_told_131 : decode cX11_told 131 = .ok (.goto 30, 3) := by decide +kernel
theorem dX11_told_134 : decode cX11_told 134 = .ok (.iload_n 2, 1) := by decide +kernel
theorem dX11_told_135 : decode cX11_told 135 = .ok (.bipush 8, 2) := by decide +kernel
theorem dX11_told_137 : decode cX11_told 137 = .ok (.if_icmp .ne 12, 3) := by decide +kernel
theorem dX11_told_140 : decode cX11_told 140 = .ok (.aload_n 0, 1) := by decide +kernel
theorem dX11_told_141 : decode cX11_told 141 = .ok (.getfield 63, 3) := by decide +kernel
theorem dX11_told_144 : decode cX11_told 144 = .ok (.iload_n 1, 1) := by decide +kernel
theorem dX11_told_145 : decode cX11_told 145 = .ok (.iaload, 1) := by decide +kernel
theorem dX11_told_146 : decode cX11_told 146 = .ok (.goto 15, 3) := by decide +kernel
theorem dX11_told_149 : decode cX11_told 149 = .ok (.aload_n 0, 1) := by decide +kernel
theorem dX11_told_150 : decode cX11_told 150 = .ok (.getfield 60, 3) := by decide +kernel
theorem dX11_told_153 : decode cX11_told 153 = .ok (.iconst 4, 1) := by decide +kernel
theorem dX11_told_154 : decode cX11_told 154 = .ok (.iload_n 1, 1) := by decide +kernel
theorem dX11_told_155 : decode cX11_told 155 = .ok (.imul, 1) := by decide +kernel
theorem dX11_told_156 : decode cX11_told 156 = .ok (.iload_n 2, 1) := by decide +kernel
theorem dX11_told_157 : decode cX11_told 157 = .ok (.iadd, 1) := by decide +kernel
theorem dX11_told_158 : decode cX11_told 158 = .ok (.iconst 4, 1) := by decide +kernel
theorem dX11_told_159 : decode cX11_told 159 = .ok (.isub, 1) := by decide +kernel
theorem dX11_told_160 : decode cX11_told 160 = .ok (.iaload, 1) := by decide +kernel
theorem dX11_told_161 : decode cX11_told 161 = .ok (.ireturn, 1) := by decide +kernel
theorem dX11_balesOf_0 : decode cX11_balesOf 0 = .ok (.aload_n 0, 1) := by decide +kernel
theorem dX11_balesOf_1 : decode cX11_balesOf 1 = .ok (.getfield 33, 3) := by decide +kernel
theorem dX11_balesOf_4 : decode cX11_balesOf 4 = .ok (.iload_n 1, 1) := by decide +kernel
theorem dX11_balesOf_5 : decode cX11_balesOf 5 = .ok (.iaload, 1) := by decide +kernel
theorem dX11_balesOf_6 : decode cX11_balesOf 6 = .ok (.istore_n 2, 1) := by decide +kernel
theorem dX11_balesOf_7 : decode cX11_balesOf 7 = .ok (.iconst 0, 1) := by decide +kernel
theorem dX11_balesOf_8 : decode cX11_balesOf 8 = .ok (.istore_n 3, 1) := by decide +kernel
theorem dX11_balesOf_9 : decode cX11_balesOf 9 = .ok (.iload_n 3, 1) := by decide +kernel
theorem dX11_balesOf_10 : decode cX11_balesOf 10 = .ok (.aload_n 0, 1) := by decide +kernel
theorem dX11_balesOf_11 : decode cX11_balesOf 11 = .ok (.getfield 145, 3) := by decide +kernel
theorem dX11_balesOf_14 : decode cX11_balesOf 14 = .ok (.if_icmp .ge 22, 3) := by decide +kernel
theorem dX11_balesOf_17 : decode cX11_balesOf 17 = .ok (.iload_n 2, 1) := by decide +kernel
theorem dX11_balesOf_18 : decode cX11_balesOf 18 = .ok (.aload_n 0, 1) := by decide +kernel
theorem dX11_balesOf_19 : decode cX11_balesOf 19 = .ok (.getfield 60, 3) := by decide +kernel
theorem dX11_balesOf_22 : decode cX11_balesOf 22 = .ok (.iconst 4, 1) := by decide +kernel
theorem dX11_balesOf_23 : decode cX11_balesOf 23 = .ok (.iload_n 3, 1) := by decide +kernel
theorem dX11_balesOf_24 : decode cX11_balesOf 24 = .ok (.imul, 1) := by decide +kernel
theorem dX11_balesOf_25 : decode cX11_balesOf 25 = .ok (.iload_n 1, 1) := by decide +kernel
theorem dX11_balesOf_26 : decode cX11_balesOf 26 = .ok (.iadd, 1) := by decide +kernel
theorem dX11_balesOf_27 : decode cX11_balesOf 27 = .ok (.iaload, 1) := by decide +kernel
theorem dX11_balesOf_28 : decode cX11_balesOf 28 = .ok (.iadd, 1) := by decide +kernel
theorem dX11_balesOf_29 : decode cX11_balesOf 29 = .ok (.istore_n 2, 1) := by decide +kernel
theorem dX11_balesOf_30 : decode cX11_balesOf 30 = .ok (.iinc 3 1, 3) := by decide +kernel
theorem dX11_balesOf_33 : decode cX11_balesOf 33 = .ok (.goto (-24), 3) := by decide +kernel
theorem dX11_balesOf_36 : decode cX11_balesOf 36 = .ok (.iload_n 2, 1) := by decide +kernel
theorem dX11_balesOf_37 : decode cX11_balesOf 37 = .ok (.ireturn, 1) := by decide +kernel
theorem dX11_priceOf_0 : decode cX11_priceOf 0 = .ok (.aload_n 0, 1) := by decide +kernel
theorem dX11_priceOf_1 : decode cX11_priceOf 1 = .ok (.getfield 161, 3) := by decide +kernel
theorem dX11_priceOf_4 : decode cX11_priceOf 4 = .ok (.istore_n 2, 1) := by decide +kernel
theorem dX11_priceOf_5 : decode cX11_priceOf 5 = .ok (.iconst 0, 1) := by decide +kernel
theorem dX11_priceOf_6 : decode cX11_priceOf 6 = .ok (.istore_n 3, 1) := by decide +kernel
theorem dX11_priceOf_7 : decode cX11_priceOf 7 = .ok (.iload_n 3, 1) := by decide +kernel
theorem dX11_priceOf_8 : decode cX11_priceOf 8 = .ok (.aload_n 0, 1) := by decide +kernel
theorem dX11_priceOf_9 : decode cX11_priceOf 9 = .ok (.getfield 145, 3) := by decide +kernel
theorem dX11_priceOf_12 : decode cX11_priceOf 12 = .ok (.if_icmp .ge 38, 3) := by decide +kernel
theorem dX11_priceOf_15 : decode cX11_priceOf 15 = .ok (.iload_n 2, 1) := by decide +kernel
theorem dX11_priceOf_16 : decode cX11_priceOf 16 = .ok (.aload_n 0, 1) := by decide +kernel
theorem dX11_priceOf_17 : decode cX11_priceOf 17 = .ok (.getfield 51, 3) := by decide +kernel
theorem dX11_priceOf_20 : decode cX11_priceOf 20 = .ok (.iload_n 3, 1) := by decide +kernel
theorem dX11_priceOf_21 : decode cX11_priceOf 21 = .ok (.iaload, 1) := by decide +kernel
theorem dX11_priceOf_22 : decode cX11_priceOf 22 = .ok (.iload_n 1, 1) := by decide +kernel
theorem dX11_priceOf_23 : decode cX11_priceOf 23 = .ok (.ishr, 1) := by decide +kernel
theorem dX11_priceOf_24 : decode cX11_priceOf 24 = .ok (.iconst 1, 1) := by decide +kernel
theorem dX11_priceOf_25 : decode cX11_priceOf 25 = .ok (.iand, 1) := by decide +kernel
theorem dX11_priceOf_26 : decode cX11_priceOf 26 = .ok (.iconst 1, 1) := by decide +kernel
theorem dX11_priceOf_27 : decode cX11_priceOf 27 = .ok (.if_icmp .ne 14, 3) := by decide +kernel
theorem dX11_priceOf_30 : decode cX11_priceOf 30 = .ok (.iconst 4, 1) := by decide +kernel
theorem dX11_priceOf_31 : decode cX11_priceOf 31 = .ok (.aload_n 0, 1) := by decide +kernel
theorem dX11_priceOf_32 : decode cX11_priceOf 32 = .ok (.getfield 48, 3) := by decide +kernel
theorem dX11_priceOf_35 : decode cX11_priceOf 35 = .ok (.iload_n 3, 1) := by decide +kernel
theorem dX11_priceOf_36 : decode cX11_priceOf 36 = .ok (.iaload, 1) := by decide +kernel
theorem dX11_priceOf_37 : decode cX11_priceOf 37 = .ok (.imul, 1) := by decide +kernel
theorem dX11_priceOf_38 : decode cX11_priceOf 38 = .ok (.goto 4, 3) := by decide +kernel
theorem dX11_priceOf_41 : decode cX11_priceOf 41 = .ok (.iconst 0, 1) := by decide +kernel
theorem dX11_priceOf_42 : decode cX11_priceOf 42 = .ok (.iadd, 1) := by decide +kernel
theorem dX11_priceOf_43 : decode cX11_priceOf 43 = .ok (.istore_n 2, 1) := by decide +kernel
theorem dX11_priceOf_44 : decode cX11_priceOf 44 = .ok (.iinc 3 1, 3) := by decide +kernel
theorem dX11_priceOf_47 : decode cX11_priceOf 47 = .ok (.goto (-40), 3) := by decide +kernel
theorem dX11_priceOf_50 : decode cX11_priceOf 50 = .ok (.aload_n 0, 1) := by decide +kernel
theorem dX11_priceOf_51 : decode cX11_priceOf 51 = .ok (.getfield 27, 3) := by decide +kernel
theorem dX11_priceOf_54 : decode cX11_priceOf 54 = .ok (.iload_n 1, 1) := by decide +kernel
theorem dX11_priceOf_55 : decode cX11_priceOf 55 = .ok (.iaload, 1) := by decide +kernel
theorem dX11_priceOf_56 : decode cX11_priceOf 56 = .ok (.iload_n 2, 1) := by decide +kernel
theorem dX11_priceOf_57 : decode cX11_priceOf 57 = .ok (.imul, 1) := by decide +kernel
theorem dX11_priceOf_58 : decode cX11_priceOf 58 = .ok (.iconst 1, 1) := by decide +kernel
theorem dX11_priceOf_59 : decode cX11_priceOf 59 = .ok (.aload_n 0, 1) := by decide +kernel
theorem dX11_priceOf_60 : decode cX11_priceOf 60 = .ok (.iload_n 1, 1) := by decide +kernel
theorem dX11_priceOf_61 : decode cX11_priceOf 61 = .ok (.invokevirtual 182, 3) := by decide +kernel
theorem dX11_priceOf_64 : decode cX11_priceOf 64 = .ok (.iadd, 1) := by decide +kernel
theorem dX11_priceOf_65 : decode cX11_priceOf 65 = .ok (.idiv, 1) := by decide +kernel
theorem dX11_priceOf_66 : decode cX11_priceOf 66 = .ok (.istore_n 3, 1) := by decide +kernel
theorem dX11_priceOf_67 : decode cX11_priceOf 67 = .ok (.iload_n 3, 1) := by decide +kernel
theorem dX11_priceOf_68 : decode cX11_priceOf 68 = .ok (.iconst 1, 1) := by decide +kernel
theorem dX11_priceOf_69 : decode cX11_priceOf 69 = .ok (.if_icmp .ge 7, 3) := by decide +kernel
theorem dX11_priceOf_72 : decode cX11_priceOf 72 = .ok (.iconst 1, 1) := by decide +kernel
theorem dX11_priceOf_73 : decode cX11_priceOf 73 = .ok (.goto 17, 3) := by decide +kernel
theorem dX11_priceOf_76 : decode cX11_priceOf 76 = .ok (.iload_n 3, 1) := by decide +kernel
theorem dX11_priceOf_77 : decode cX11_priceOf 77 = .ok (.sipush 5000, 3) := by decide +kernel
theorem dX11_priceOf_80 : decode cX11_priceOf 80 = .ok (.if_icmp .le 9, 3) := by decide +kernel
theorem dX11_priceOf_83 : decode cX11_priceOf 83 = .ok (.sipush 5000, 3) := by decide +kernel
theorem dX11_priceOf_86 : decode cX11_priceOf 86 = .ok (.goto 4, 3) := by decide +kernel
theorem dX11_priceOf_89 : decode cX11_priceOf 89 = .ok (.iload_n 3, 1) := by decide +kernel
theorem dX11_priceOf_90 : decode cX11_priceOf 90 = .ok (.ireturn, 1) := by decide +kernel
theorem dX11_earnCoin_0 : decode cX11_earnCoin 0 = .ok (.aload_n 0, 1) := by decide +kernel
theorem dX11_earnCoin_1 : decode cX11_earnCoin 1 = .ok (.getfield 63, 3) := by decide +kernel
theorem dX11_earnCoin_4 : decode cX11_earnCoin 4 = .ok (.iload_n 1, 1) := by decide +kernel
theorem dX11_earnCoin_5 : decode cX11_earnCoin 5 = .ok (.iaload, 1) := by decide +kernel
theorem dX11_earnCoin_6 : decode cX11_earnCoin 6 = .ok (.i2l, 1) := by decide +kernel
theorem dX11_earnCoin_7 : decode cX11_earnCoin 7 = .ok (.iload_n 2, 1) := by decide +kernel
theorem dX11_earnCoin_8 : decode cX11_earnCoin 8 = .ok (.i2l, 1) := by decide +kernel
theorem dX11_earnCoin_9 : decode cX11_earnCoin 9 = .ok (.ladd, 1) := by decide +kernel
theorem dX11_earnCoin_10 : decode cX11_earnCoin 10 = .ok (.lstore_n 3, 1) := by decide +kernel
theorem dX11_earnCoin_11 : decode cX11_earnCoin 11 = .ok (.aload_n 0, 1) := by decide +kernel
theorem dX11_earnCoin_12 : decode cX11_earnCoin 12 = .ok (.getfield 63, 3) := by decide +kernel
theorem dX11_earnCoin_15 : decode cX11_earnCoin 15 = .ok (.iload_n 1, 1) := by decide +kernel
theorem dX11_earnCoin_16 : decode cX11_earnCoin 16 = .ok (.lload_n 3, 1) := by decide +kernel
theorem dX11_earnCoin_17 : decode cX11_earnCoin 17 = .ok (.ldc2_w 185, 3) := by decide +kernel
theorem dX11_earnCoin_20 : decode cX11_earnCoin 20 = .ok (.lcmp, 1) := by decide +kernel
theorem dX11_earnCoin_21 : decode cX11_earnCoin 21 = .ok (.ifCond .le 8, 3) := by decide +kernel
theorem dX11_earnCoin_24 : decode cX11_earnCoin 24 = .ok (.ldc 187, 2) := by decide +kernel
theorem dX11_earnCoin_26 : decode cX11_earnCoin 26 = .ok (.goto 5, 3) := by decide +kernel
theorem dX11_earnCoin_29 : decode cX11_earnCoin 29 = .ok (.lload_n 3, 1) := by decide +kernel
theorem dX11_earnCoin_30 : decode cX11_earnCoin 30 = .ok (.l2i, 1) := by decide +kernel
theorem dX11_earnCoin_31 : decode cX11_earnCoin 31 = .ok (.iastore, 1) := by decide +kernel
theorem dX11_earnCoin_32 : decode cX11_earnCoin 32 = .ok (.return_, 1) := by decide +kernel
theorem dX11_work_0 : decode cX11_work 0 = .ok (.ldc 69, 2) := by decide +kernel
theorem dX11_work_2 : decode cX11_work 2 = .ok (.istore_n 2, 1) := by decide +kernel
theorem dX11_work_3 : decode cX11_work 3 = .ok (.iconst 0, 1) := by decide +kernel
theorem dX11_work_4 : decode cX11_work 4 = .ok (.istore_n 3, 1) := by decide +kernel
theorem dX11_work_5 : decode cX11_work 5 = .ok (.iload_n 3, 1) := by decide +kernel
theorem dX11_work_6 : decode cX11_work 6 = .ok (.iconst 4, 1) := by decide +kernel
theorem dX11_work_7 : decode cX11_work 7 = .ok (.if_icmp .ge 88, 3) := by decide +kernel
theorem dX11_work_10 : decode cX11_work 10 = .ok (.aload_n 0, 1) := by decide +kernel
theorem dX11_work_11 : decode cX11_work 11 = .ok (.getfield 51, 3) := by decide +kernel
theorem dX11_work_14 : decode cX11_work 14 = .ok (.iload_n 1, 1) := by decide +kernel
theorem dX11_work_15 : decode cX11_work 15 = .ok (.iaload, 1) := by decide +kernel
theorem dX11_work_16 : decode cX11_work 16 = .ok (.iload_n 3, 1) := by decide +kernel
theorem dX11_work_17 : decode cX11_work 17 = .ok (.ishr, 1) := by decide +kernel
theorem dX11_work_18 : decode cX11_work 18 = .ok (.iconst 1, 1) := by decide +kernel
theorem dX11_work_19 : decode cX11_work 19 = .ok (.iand, 1) := by decide +kernel
theorem dX11_work_20 : decode cX11_work 20 = .ok (.iconst 1, 1) := by decide +kernel
theorem dX11_work_21 : decode cX11_work 21 = .ok (.if_icmp .ne 33, 3) := by decide +kernel
theorem dX11_work_24 : decode cX11_work 24 = .ok (.aload_n 0, 1) := by decide +kernel
theorem dX11_work_25 : decode cX11_work 25 = .ok (.getfield 60, 3) := by decide +kernel
theorem dX11_work_28 : decode cX11_work 28 = .ok (.iconst 4, 1) := by decide +kernel
theorem dX11_work_29 : decode cX11_work 29 = .ok (.iload_n 1, 1) := by decide +kernel
theorem dX11_work_30 : decode cX11_work 30 = .ok (.imul, 1) := by decide +kernel
theorem dX11_work_31 : decode cX11_work 31 = .ok (.iload_n 3, 1) := by decide +kernel
theorem dX11_work_32 : decode cX11_work 32 = .ok (.iadd, 1) := by decide +kernel
theorem dX11_work_33 : decode cX11_work 33 = .ok (.iaload, 1) := by decide +kernel
theorem dX11_work_34 : decode cX11_work 34 = .ok (.aload_n 0, 1) := by decide +kernel
theorem dX11_work_35 : decode cX11_work 35 = .ok (.getfield 33, 3) := by decide +kernel
theorem dX11_work_38 : decode cX11_work 38 = .ok (.iload_n 3, 1) := by decide +kernel
theorem dX11_work_39 : decode cX11_work 39 = .ok (.iaload, 1) := by decide +kernel
theorem dX11_work_40 : decode cX11_work 40 = .ok (.iadd, 1) := by decide +kernel
theorem dX11_work_41 : decode cX11_work 41 = .ok (.aload_n 0, 1) := by decide +kernel
theorem dX11_work_42 : decode cX11_work 42 = .ok (.getfield 48, 3) := by decide +kernel
theorem dX11_work_45 : decode cX11_work 45 = .ok (.iload_n 1, 1) := by decide +kernel
theorem dX11_work_46 : decode cX11_work 46 = .ok (.iaload, 1) := by decide +kernel
theorem dX11_work_47 : decode cX11_work 47 = .ok (.if_icmp .lt 7, 3) := by decide +kernel
theorem dX11_work_50 : decode cX11_work 50 = .ok (.iconst 1, 1) := by decide +kernel
theorem dX11_work_51 : decode cX11_work 51 = .ok (.goto 4, 3) := by decide +kernel
theorem dX11_work_54 : decode cX11_work 54 = .ok (.iconst 0, 1) := by decide +kernel
theorem dX11_work_55 : decode cX11_work 55 = .ok (.istore 4, 2) := by decide +kernel
theorem dX11_work_57 : decode cX11_work 57 = .ok (.iload 4, 2) := by decide +kernel
theorem dX11_work_59 : decode cX11_work 59 = .ok (.ifCond .eq 28, 3) := by decide +kernel
theorem dX11_work_62 : decode cX11_work 62 = .ok (.iload_n 2, 1) := by decide +kernel
theorem dX11_work_63 : decode cX11_work 63 = .ok (.ldc 69, 2) := by decide +kernel
theorem dX11_work_65 : decode cX11_work 65 = .ok (.if_icmp .eq 18, 3) := by decide +kernel
theorem dX11_work_68 : decode cX11_work 68 = .ok (.aload_n 0, 1) := by decide +kernel
theorem dX11_work_69 : decode cX11_work 69 = .ok (.getfield 70, 3) := by decide +kernel
theorem dX11_work_72 : decode cX11_work 72 = .ok (.iload_n 3, 1) := by decide +kernel
theorem dX11_work_73 : decode cX11_work 73 = .ok (.iaload, 1) := by decide +kernel
theorem dX11_work_74 : decode cX11_work 74 = .ok (.aload_n 0, 1) := by decide +kernel
theorem dX11_work_75 : decode cX11_work 75 = .ok (.getfield 70, 3) := by decide +kernel
theorem dX11_work_78 : decode cX11_work 78 = .ok (.iload_n 2, 1) := by decide +kernel
theorem dX11_work_79 : decode cX11_work 79 = .ok (.iaload, 1) := by decide +kernel
theorem dX11_work_80 : decode cX11_work 80 = .ok (.if_icmp .ge 7, 3) := by decide +kernel
theorem dX11_work_83 : decode cX11_work 83 = .ok (.iload_n 3, 1) := by decide +kernel
theorem dX11_work_84 : decode cX11_work 84 = .ok (.goto 4, 3) := by decide +kernel
theorem dX11_work_87 : decode cX11_work 87 = .ok (.iload_n 2, 1) := by decide +kernel
theorem dX11_work_88 : decode cX11_work 88 = .ok (.istore_n 2, 1) := by decide +kernel
theorem dX11_work_89 : decode cX11_work 89 = .ok (.iinc 3 1, 3) := by decide +kernel
theorem dX11_work_92 : decode cX11_work 92 = .ok (.goto (-87), 3) := by decide +kernel
theorem dX11_work_95 : decode cX11_work 95 = .ok (.iload_n 2, 1) := by decide +kernel
theorem dX11_work_96 : decode cX11_work 96 = .ok (.ldc 69, 2) := by decide +kernel
theorem dX11_work_98 : decode cX11_work 98 = .ok (.if_icmp .eq 143, 3) := by decide +kernel
theorem dX11_work_101 : decode cX11_work 101 = .ok (.aload_n 0, 1) := by decide +kernel
theorem dX11_work_102 : decode cX11_work 102 = .ok (.getfield 36, 3) := by decide +kernel
theorem dX11_work_105 : decode cX11_work 105 = .ok (.aload_n 0, 1) := by decide +kernel
theorem dX11_work_106 : decode cX11_work 106 = .ok (.getfield 70, 3) := by decide +kernel
theorem dX11_work_109 : decode cX11_work 109 = .ok (.iload_n 2, 1) := by decide +kernel
theorem dX11_work_110 : decode cX11_work 110 = .ok (.iaload, 1) := by decide +kernel
theorem dX11_work_111 : decode cX11_work 111 = .ok (.isub, 1) := by decide +kernel
theorem dX11_work_112 : decode cX11_work 112 = .ok (.aload_n 0, 1) := by decide +kernel
theorem dX11_work_113 : decode cX11_work 113 = .ok (.getfield 54, 3) := by decide +kernel
theorem dX11_work_116 : decode cX11_work 116 = .ok (.iload_n 1, 1) := by decide +kernel
theorem dX11_work_117 : decode cX11_work 117 = .ok (.iaload, 1) := by decide +kernel
theorem dX11_work_118 : decode cX11_work 118 = .ok (.if_icmp .lt 123, 3) := by decide +kernel
theorem dX11_work_121 : decode cX11_work 121 = .ok (.aload_n 0, 1) := by decide +kernel
theorem dX11_work_122 : decode cX11_work 122 = .ok (.getfield 60, 3) := by decide +kernel
theorem dX11_work_125 : decode cX11_work 125 = .ok (.iconst 4, 1) := by decide +kernel
theorem dX11_work_126 : decode cX11_work 126 = .ok (.iload_n 1, 1) := by decide +kernel
theorem dX11_work_127 : decode cX11_work 127 = .ok (.imul, 1) := by decide +kernel
theorem dX11_work_128 : decode cX11_work 128 = .ok (.iload_n 2, 1) := by decide +kernel
theorem dX11_work_129 : decode cX11_work 129 = .ok (.iadd, 1) := by decide +kernel
theorem dX11_work_130 : decode cX11_work 130 = .ok (.iaload, 1) := by decide +kernel
theorem dX11_work_131 : decode cX11_work 131 = .ok (.aload_n 0, 1) := by decide +kernel
theorem dX11_work_132 : decode cX11_work 132 = .ok (.getfield 48, 3) := by decide +kernel
theorem dX11_work_135 : decode cX11_work 135 = .ok (.iload_n 1, 1) := by decide +kernel
theorem dX11_work_136 : decode cX11_work 136 = .ok (.iaload, 1) := by decide +kernel
theorem dX11_work_137 : decode cX11_work 137 = .ok (.if_icmp .ge 16, 3) := by decide +kernel
theorem dX11_work_140 : decode cX11_work 140 = .ok (.aload_n 0, 1) := by decide +kernel
theorem dX11_work_141 : decode cX11_work 141 = .ok (.getfield 60, 3) := by decide +kernel
theorem dX11_work_144 : decode cX11_work 144 = .ok (.iconst 4, 1) := by decide +kernel
theorem dX11_work_145 : decode cX11_work 145 = .ok (.iload_n 1, 1) := by decide +kernel
theorem dX11_work_146 : decode cX11_work 146 = .ok (.imul, 1) := by decide +kernel
theorem dX11_work_147 : decode cX11_work 147 = .ok (.iload_n 2, 1) := by decide +kernel
theorem dX11_work_148 : decode cX11_work 148 = .ok (.iadd, 1) := by decide +kernel
theorem dX11_work_149 : decode cX11_work 149 = .ok (.iaload, 1) := by decide +kernel
theorem dX11_work_150 : decode cX11_work 150 = .ok (.goto 9, 3) := by decide +kernel
theorem dX11_work_153 : decode cX11_work 153 = .ok (.aload_n 0, 1) := by decide +kernel
theorem dX11_work_154 : decode cX11_work 154 = .ok (.getfield 48, 3) := by decide +kernel
theorem dX11_work_157 : decode cX11_work 157 = .ok (.iload_n 1, 1) := by decide +kernel
theorem dX11_work_158 : decode cX11_work 158 = .ok (.iaload, 1) := by decide +kernel
theorem dX11_work_159 : decode cX11_work 159 = .ok (.istore_n 3, 1) := by decide +kernel
theorem dX11_work_160 : decode cX11_work 160 = .ok (.aload_n 0, 1) := by decide +kernel
theorem dX11_work_161 : decode cX11_work 161 = .ok (.getfield 60, 3) := by decide +kernel
theorem dX11_work_164 : decode cX11_work 164 = .ok (.iconst 4, 1) := by decide +kernel
theorem dX11_work_165 : decode cX11_work 165 = .ok (.iload_n 1, 1) := by decide +kernel
theorem dX11_work_166 : decode cX11_work 166 = .ok (.imul, 1) := by decide +kernel
theorem dX11_work_167 : decode cX11_work 167 = .ok (.iload_n 2, 1) := by decide +kernel
theorem dX11_work_168 : decode cX11_work 168 = .ok (.iadd, 1) := by decide +kernel
theorem dX11_work_169 : decode cX11_work 169 = .ok (.dup2, 1) := by decide +kernel
theorem dX11_work_170 : decode cX11_work 170 = .ok (.iaload, 1) := by decide +kernel
theorem dX11_work_171 : decode cX11_work 171 = .ok (.iload_n 3, 1) := by decide +kernel
theorem dX11_work_172 : decode cX11_work 172 = .ok (.isub, 1) := by decide +kernel
theorem dX11_work_173 : decode cX11_work 173 = .ok (.iastore, 1) := by decide +kernel
theorem dX11_work_174 : decode cX11_work 174 = .ok (.aload_n 0, 1) := by decide +kernel
theorem dX11_work_175 : decode cX11_work 175 = .ok (.getfield 33, 3) := by decide +kernel
theorem dX11_work_178 : decode cX11_work 178 = .ok (.iload_n 2, 1) := by decide +kernel
theorem dX11_work_179 : decode cX11_work 179 = .ok (.dup2, 1) := by decide +kernel
theorem dX11_work_180 : decode cX11_work 180 = .ok (.iaload, 1) := by decide +kernel
theorem dX11_work_181 : decode cX11_work 181 = .ok (.aload_n 0, 1) := by decide +kernel
theorem dX11_work_182 : decode cX11_work 182 = .ok (.getfield 48, 3) := by decide +kernel
theorem dX11_work_185 : decode cX11_work 185 = .ok (.iload_n 1, 1) := by decide +kernel
theorem dX11_work_186 : decode cX11_work 186 = .ok (.iaload, 1) := by decide +kernel
theorem dX11_work_187 : decode cX11_work 187 = .ok (.iload_n 3, 1) := by decide +kernel
theorem dX11_work_188 : decode cX11_work 188 = .ok (.isub, 1) := by decide +kernel
theorem dX11_work_189 : decode cX11_work 189 = .ok (.isub, 1) := by decide +kernel
theorem dX11_work_190 : decode cX11_work 190 = .ok (.iastore, 1) := by decide +kernel
theorem dX11_work_191 : decode cX11_work 191 = .ok (.aload_n 0, 1) := by decide +kernel
theorem dX11_work_192 : decode cX11_work 192 = .ok (.getfield 66, 3) := by decide +kernel
theorem dX11_work_195 : decode cX11_work 195 = .ok (.bipush 100, 2) := by decide +kernel
theorem dX11_work_197 : decode cX11_work 197 = .ok (.iload_n 1, 1) := by decide +kernel
theorem dX11_work_198 : decode cX11_work 198 = .ok (.imul, 1) := by decide +kernel
theorem dX11_work_199 : decode cX11_work 199 = .ok (.aload_n 0, 1) := by decide +kernel
theorem dX11_work_200 : decode cX11_work 200 = .ok (.getfield 188, 3) := by decide +kernel
theorem dX11_work_203 : decode cX11_work 203 = .ok (.iadd, 1) := by decide +kernel
theorem dX11_work_204 : decode cX11_work 204 = .ok (.iload_n 2, 1) := by decide +kernel
theorem dX11_work_205 : decode cX11_work 205 = .ok (.iastore, 1) := by decide +kernel
theorem dX11_work_206 : decode cX11_work 206 = .ok (.aload_n 0, 1) := by decide +kernel
theorem dX11_work_207 : decode cX11_work 207 = .ok (.iload_n 1, 1) := by decide +kernel
theorem dX11_work_208 : decode cX11_work 208 = .ok (.aload_n 0, 1) := by decide +kernel
theorem dX11_work_209 : decode cX11_work 209 = .ok (.getfield 48, 3) := by decide +kernel
theorem dX11_work_212 : decode cX11_work 212 = .ok (.iload_n 1, 1) := by decide +kernel
theorem dX11_work_213 : decode cX11_work 213 = .ok (.iaload, 1) := by decide +kernel
theorem dX11_work_214 : decode cX11_work 214 = .ok (.aload_n 0, 1) := by decide +kernel
theorem dX11_work_215 : decode cX11_work 215 = .ok (.getfield 36, 3) := by decide +kernel
theorem dX11_work_218 : decode cX11_work 218 = .ok (.imul, 1) := by decide +kernel
theorem dX11_work_219 : decode cX11_work 219 = .ok (.aload_n 0, 1) := by decide +kernel
theorem dX11_work_220 : decode cX11_work 220 = .ok (.getfield 48, 3) := by decide +kernel
theorem dX11_work_223 : decode cX11_work 223 = .ok (.iload_n 1, 1) := by decide +kernel
theorem dX11_work_224 : decode cX11_work 224 = .ok (.iaload, 1) := by decide +kernel
theorem dX11_work_225 : decode cX11_work 225 = .ok (.iload_n 3, 1) := by decide +kernel
theorem dX11_work_226 : decode cX11_work 226 = .ok (.isub, 1) := by decide +kernel
theorem dX11_work_227 : decode cX11_work 227 = .ok (.aload_n 0, 1) := by decide +kernel
theorem dX11_work_228 : decode cX11_work 228 = .ok (.getfield 70, 3) := by decide +kernel
theorem dX11_work_231 : decode cX11_work 231 = .ok (.iload_n 2, 1) := by decide +kernel
theorem dX11_work_232 : decode cX11_work 232 = .ok (.iaload, 1) := by decide +kernel
theorem dX11_work_233 : decode cX11_work 233 = .ok (.imul, 1) := by decide +kernel
theorem dX11_work_234 : decode cX11_work 234 = .ok (.isub, 1) := by decide +kernel
theorem dX11_work_235 : decode cX11_work 235 = .ok (.invokevirtual 191, 3) := by decide +kernel
theorem dX11_work_238 : decode cX11_work 238 = .ok (.goto 92, 3) := by decide +kernel
theorem dX11_work_241 : decode cX11_work 241 = .ok (.iconst 0, 1) := by decide +kernel
theorem dX11_work_242 : decode cX11_work 242 = .ok (.istore_n 3, 1) := by decide +kernel
theorem dX11_work_243 : decode cX11_work 243 = .ok (.iload_n 3, 1) := by decide +kernel
theorem dX11_work_244 : decode cX11_work 244 = .ok (.iconst 4, 1) := by decide +kernel
theorem dX11_work_245 : decode cX11_work 245 = .ok (.if_icmp .ge 85, 3) := by decide +kernel
theorem dX11_work_248 : decode cX11_work 248 = .ok (.aload_n 0, 1) := by decide +kernel
theorem dX11_work_249 : decode cX11_work 249 = .ok (.getfield 57, 3) := by decide +kernel
theorem dX11_work_252 : decode cX11_work 252 = .ok (.iload_n 1, 1) := by decide +kernel
theorem dX11_work_253 : decode cX11_work 253 = .ok (.iaload, 1) := by decide +kernel
theorem dX11_work_254 : decode cX11_work 254 = .ok (.ifCond .le 70, 3) := by decide +kernel
theorem dX11_work_257 : decode cX11_work 257 = .ok (.aload_n 0, 1) := by decide +kernel
theorem dX11_work_258 : decode cX11_work 258 = .ok (.getfield 70, 3) := by decide +kernel
theorem dX11_work_261 : decode cX11_work 261 = .ok (.iload_n 3, 1) := by decide +kernel
theorem dX11_work_262 : decode cX11_work 262 = .ok (.iaload, 1) := by decide +kernel
theorem dX11_work_263 : decode cX11_work 263 = .ok (.aload_n 0, 1) := by decide +kernel
theorem dX11_work_264 : decode cX11_work 264 = .ok (.getfield 57, 3) := by decide +kernel
theorem dX11_work_267 : decode cX11_work 267 = .ok (.iload_n 1, 1) := by decide +kernel
theorem dX11_work_268 : decode cX11_work 268 = .ok (.iaload, 1) := by decide +kernel
theorem dX11_work_269 : decode cX11_work 269 = .ok (.if_icmp .lt 55, 3) := by decide +kernel
theorem dX11_work_272 : decode cX11_work 272 = .ok (.aload_n 0, 1) := by decide +kernel
theorem dX11_work_273 : decode cX11_work 273 = .ok (.iload_n 1, 1) := by decide +kernel
theorem dX11_work_274 : decode cX11_work 274 = .ok (.aload_n 0, 1) := by decide +kernel
theorem dX11_work_275 : decode cX11_work 275 = .ok (.getfield 60, 3) := by decide +kernel
theorem dX11_work_278 : decode cX11_work 278 = .ok (.iconst 4, 1) := by decide +kernel
theorem dX11_work_279 : decode cX11_work 279 = .ok (.iload_n 1, 1) := by decide +kernel
theorem dX11_work_280 : decode cX11_work 280 = .ok (.imul, 1) := by decide +kernel
theorem dX11_work_281 : decode cX11_work 281 = .ok (.iload_n 3, 1) := by decide +kernel
theorem dX11_work_282 : decode cX11_work 282 = .ok (.iadd, 1) := by decide +kernel
theorem dX11_work_283 : decode cX11_work 283 = .ok (.iaload, 1) := by decide +kernel
theorem dX11_work_284 : decode cX11_work 284 = .ok (.aload_n 0, 1) := by decide +kernel
theorem dX11_work_285 : decode cX11_work 285 = .ok (.getfield 70, 3) := by decide +kernel
theorem dX11_work_288 : decode cX11_work 288 = .ok (.iload_n 3, 1) := by decide +kernel
theorem dX11_work_289 : decode cX11_work 289 = .ok (.iaload, 1) := by decide +kernel
theorem dX11_work_290 : decode cX11_work 290 = .ok (.imul, 1) := by decide +kernel
theorem dX11_work_291 : decode cX11_work 291 = .ok (.invokevirtual 191, 3) := by decide +kernel
theorem dX11_work_294 : decode cX11_work 294 = .ok (.aload_n 0, 1) := by decide +kernel
theorem dX11_work_295 : decode cX11_work 295 = .ok (.getfield 33, 3) := by decide +kernel
theorem dX11_work_298 : decode cX11_work 298 = .ok (.iload_n 3, 1) := by decide +kernel
theorem dX11_work_299 : decode cX11_work 299 = .ok (.dup2, 1) := by decide +kernel
theorem dX11_work_300 : decode cX11_work 300 = .ok (.iaload, 1) := by decide +kernel
theorem dX11_work_301 : decode cX11_work 301 = .ok (.aload_n 0, 1) := by decide +kernel
theorem dX11_work_302 : decode cX11_work 302 = .ok (.getfield 60, 3) := by decide +kernel
theorem dX11_work_305 : decode cX11_work 305 = .ok (.iconst 4, 1) := by decide +kernel
theorem dX11_work_306 : decode cX11_work 306 = .ok (.iload_n 1, 1) := by decide +kernel
theorem dX11_work_307 : decode cX11_work 307 = .ok (.imul, 1) := by decide +kernel
theorem dX11_work_308 : decode cX11_work 308 = .ok (.iload_n 3, 1) := by decide +kernel
theorem dX11_work_309 : decode cX11_work 309 = .ok (.iadd, 1) := by decide +kernel
theorem dX11_work_310 : decode cX11_work 310 = .ok (.iaload, 1) := by decide +kernel
theorem dX11_work_311 : decode cX11_work 311 = .ok (.iadd, 1) := by decide +kernel
theorem dX11_work_312 : decode cX11_work 312 = .ok (.iastore, 1) := by decide +kernel
theorem dX11_work_313 : decode cX11_work 313 = .ok (.aload_n 0, 1) := by decide +kernel
theorem dX11_work_314 : decode cX11_work 314 = .ok (.getfield 60, 3) := by decide +kernel
theorem dX11_work_317 : decode cX11_work 317 = .ok (.iconst 4, 1) := by decide +kernel
theorem dX11_work_318 : decode cX11_work 318 = .ok (.iload_n 1, 1) := by decide +kernel
theorem dX11_work_319 : decode cX11_work 319 = .ok (.imul, 1) := by decide +kernel
theorem dX11_work_320 : decode cX11_work 320 = .ok (.iload_n 3, 1) := by decide +kernel
theorem dX11_work_321 : decode cX11_work 321 = .ok (.iadd, 1) := by decide +kernel
theorem dX11_work_322 : decode cX11_work 322 = .ok (.iconst 0, 1) := by decide +kernel
theorem dX11_work_323 : decode cX11_work 323 = .ok (.iastore, 1) := by decide +kernel
theorem dX11_work_324 : decode cX11_work 324 = .ok (.iinc 3 1, 3) := by decide +kernel
theorem dX11_work_327 : decode cX11_work 327 = .ok (.goto (-84), 3) := by decide +kernel
theorem dX11_work_330 : decode cX11_work 330 = .ok (.return_, 1) := by decide +kernel
theorem dX11_stepOnce_0 : decode cX11_stepOnce 0 = .ok (.iconst 0, 1) := by decide +kernel
theorem dX11_stepOnce_1 : decode cX11_stepOnce 1 = .ok (.istore_n 1, 1) := by decide +kernel
theorem dX11_stepOnce_2 : decode cX11_stepOnce 2 = .ok (.iload_n 1, 1) := by decide +kernel
theorem dX11_stepOnce_3 : decode cX11_stepOnce 3 = .ok (.aload_n 0, 1) := by decide +kernel
theorem dX11_stepOnce_4 : decode cX11_stepOnce 4 = .ok (.getfield 169, 3) := by decide +kernel
theorem dX11_stepOnce_7 : decode cX11_stepOnce 7 = .ok (.if_icmp .ge 46, 3) := by decide +kernel
theorem dX11_stepOnce_10 : decode cX11_stepOnce 10 = .ok (.aload_n 0, 1) := by decide +kernel
theorem dX11_stepOnce_11 : decode cX11_stepOnce 11 = .ok (.getfield 33, 3) := by decide +kernel
theorem dX11_stepOnce_14 : decode cX11_stepOnce 14 = .ok (.aload_n 0, 1) := by decide +kernel
theorem dX11_stepOnce_15 : decode cX11_stepOnce 15 = .ok (.getfield 42, 3) := by decide +kernel
theorem dX11_stepOnce_18 : decode cX11_stepOnce 18 = .ok (.iload_n 1, 1) := by decide +kernel
theorem dX11_stepOnce_19 : decode cX11_stepOnce 19 = .ok (.iaload, 1) := by decide +kernel
theorem dX11_stepOnce_20 : decode cX11_stepOnce 20 = .ok (.dup2, 1) := by decide +kernel
theorem dX11_stepOnce_21 : decode cX11_stepOnce 21 = .ok (.iaload, 1) := by decide +kernel
theorem dX11_stepOnce_22 : decode cX11_stepOnce 22 = .ok (.aload_n 0, 1) := by decide +kernel
theorem dX11_stepOnce_23 : decode cX11_stepOnce 23 = .ok (.getfield 39, 3) := by decide +kernel
theorem dX11_stepOnce_26 : decode cX11_stepOnce 26 = .ok (.iload_n 1, 1) := by decide +kernel
theorem dX11_stepOnce_27 : decode cX11_stepOnce 27 = .ok (.iaload, 1) := by decide +kernel
theorem dX11_stepOnce_28 : decode cX11_stepOnce 28 = .ok (.aload_n 0, 1) := by decide +kernel
theorem dX11_stepOnce_29 : decode cX11_stepOnce 29 = .ok (.getfield 188, 3) := by decide +kernel
theorem dX11_stepOnce_32 : decode cX11_stepOnce 32 = .ok (.if_icmp .ne 12, 3) := by decide +kernel
theorem dX11_stepOnce_35 : decode cX11_stepOnce 35 = .ok (.aload_n 0, 1) := by decide +kernel
theorem dX11_stepOnce_36 : decode cX11_stepOnce 36 = .ok (.getfield 45, 3) := by decide +kernel
theorem dX11_stepOnce_39 : decode cX11_stepOnce 39 = .ok (.iload_n 1, 1) := by decide +kernel
theorem dX11_stepOnce_40 : decode cX11_stepOnce 40 = .ok (.iaload, 1) := by decide +kernel
theorem dX11_stepOnce_41 : decode cX11_stepOnce 41 = .ok (.goto 4, 3) := by decide +kernel
theorem dX11_stepOnce_44 : decode cX11_stepOnce 44 = .ok (.iconst 0, 1) := by decide +kernel
theorem dX11_stepOnce_45 : decode cX11_stepOnce 45 = .ok (.iadd, 1) := by decide +kernel
theorem dX11_stepOnce_46 : decode cX11_stepOnce 46 = .ok (.iastore, 1) := by decide +kernel
theorem dX11_stepOnce_47 : decode cX11_stepOnce 47 = .ok (.iinc 1 1, 3) := by decide +kernel
theorem dX11_stepOnce_50 : decode cX11_stepOnce 50 = .ok (.goto (-48), 3) := by decide +kernel
theorem dX11_stepOnce_53 : decode cX11_stepOnce 53 = .ok (.iconst 0, 1) := by decide +kernel
theorem dX11_stepOnce_54 : decode cX11_stepOnce 54 = .ok (.istore_n 1, 1) := by decide +kernel
theorem dX11_stepOnce_55 : decode cX11_stepOnce 55 = .ok (.iload_n 1, 1) := by decide +kernel
theorem dX11_stepOnce_56 : decode cX11_stepOnce 56 = .ok (.iconst 4, 1) := by decide +kernel
theorem dX11_stepOnce_57 : decode cX11_stepOnce 57 = .ok (.if_icmp .ge 20, 3) := by decide +kernel
theorem dX11_stepOnce_60 : decode cX11_stepOnce 60 = .ok (.aload_n 0, 1) := by decide +kernel
theorem dX11_stepOnce_61 : decode cX11_stepOnce 61 = .ok (.getfield 70, 3) := by decide +kernel
theorem dX11_stepOnce_64 : decode cX11_stepOnce 64 = .ok (.iload_n 1, 1) := by decide +kernel
theorem dX11_stepOnce_65 : decode cX11_stepOnce 65 = .ok (.aload_n 0, 1) := by decide +kernel
theorem dX11_stepOnce_66 : decode cX11_stepOnce 66 = .ok (.iload_n 1, 1) := by decide +kernel
theorem dX11_stepOnce_67 : decode cX11_stepOnce 67 = .ok (.invokevirtual 195, 3) := by decide +kernel
theorem dX11_stepOnce_70 : decode cX11_stepOnce 70 = .ok (.iastore, 1) := by decide +kernel
theorem dX11_stepOnce_71 : decode cX11_stepOnce 71 = .ok (.iinc 1 1, 3) := by decide +kernel
theorem dX11_stepOnce_74 : decode cX11_stepOnce 74 = .ok (.goto (-19), 3) := by decide +kernel
theorem dX11_stepOnce_77 : decode cX11_stepOnce 77 = .ok (.iconst 0, 1) := by decide +kernel
theorem dX11_stepOnce_78 : decode cX11_stepOnce 78 = .ok (.istore_n 1, 1) := by decide +kernel
theorem dX11_stepOnce_79 : decode cX11_stepOnce 79 = .ok (.iload_n 1, 1) := by decide +kernel
theorem dX11_stepOnce_80 : decode cX11_stepOnce 80 = .ok (.aload_n 0, 1) := by decide +kernel
theorem dX11_stepOnce_81 : decode cX11_stepOnce 81 = .ok (.getfield 145, 3) := by decide +kernel
theorem dX11_stepOnce_84 : decode cX11_stepOnce 84 = .ok (.if_icmp .ge 14, 3) := by decide +kernel
theorem dX11_stepOnce_87 : decode cX11_stepOnce 87 = .ok (.aload_n 0, 1) := by decide +kernel
theorem dX11_stepOnce_88 : decode cX11_stepOnce 88 = .ok (.iload_n 1, 1) := by decide +kernel
theorem dX11_stepOnce_89 : decode cX11_stepOnce 89 = .ok (.invokevirtual 198, 3) := by decide +kernel
theorem dX11_stepOnce_92 : decode cX11_stepOnce 92 = .ok (.iinc 1 1, 3) := by decide +kernel
theorem dX11_stepOnce_95 : decode cX11_stepOnce 95 = .ok (.goto (-16), 3) := by decide +kernel
theorem dX11_stepOnce_98 : decode cX11_stepOnce 98 = .ok (.iconst 0, 1) := by decide +kernel
theorem dX11_stepOnce_99 : decode cX11_stepOnce 99 = .ok (.istore_n 1, 1) := by decide +kernel
theorem dX11_stepOnce_100 : decode cX11_stepOnce 100 = .ok (.iload_n 1, 1) := by decide +kernel
theorem dX11_stepOnce_101 : decode cX11_stepOnce 101 = .ok (.aload_n 0, 1) := by decide +kernel
theorem dX11_stepOnce_102 : decode cX11_stepOnce 102 = .ok (.getfield 202, 3) := by decide +kernel
theorem dX11_stepOnce_105 : decode cX11_stepOnce 105 = .ok (.if_icmp .ge 14, 3) := by decide +kernel
theorem dX11_stepOnce_108 : decode cX11_stepOnce 108 = .ok (.aload_n 0, 1) := by decide +kernel
theorem dX11_stepOnce_109 : decode cX11_stepOnce 109 = .ok (.iload_n 1, 1) := by decide +kernel
theorem dX11_stepOnce_110 : decode cX11_stepOnce 110 = .ok (.invokevirtual 205, 3) := by decide +kernel
theorem dX11_stepOnce_113 : decode cX11_stepOnce 113 = .ok (.iinc 1 1, 3) := by decide +kernel
theorem dX11_stepOnce_116 : decode cX11_stepOnce 116 = .ok (.goto (-16), 3) := by decide +kernel
theorem dX11_stepOnce_119 : decode cX11_stepOnce 119 = .ok (.aload_n 0, 1) := by decide +kernel
theorem dX11_stepOnce_120 : decode cX11_stepOnce 120 = .ok (.dup, 1) := by decide +kernel
theorem dX11_stepOnce_121 : decode cX11_stepOnce 121 = .ok (.getfield 188, 3) := by decide +kernel
theorem dX11_stepOnce_124 : decode cX11_stepOnce 124 = .ok (.iconst 1, 1) := by decide +kernel
theorem dX11_stepOnce_125 : decode cX11_stepOnce 125 = .ok (.iadd, 1) := by decide +kernel
theorem dX11_stepOnce_126 : decode cX11_stepOnce 126 = .ok (.putfield 188, 3) := by decide +kernel
theorem dX11_stepOnce_129 : decode cX11_stepOnce 129 = .ok (.return_, 1) := by decide +kernel
theorem dX11_step_0 : decode cX11_step 0 = .ok (.aload_n 0, 1) := by decide +kernel
theorem dX11_step_1 : decode cX11_step 1 = .ok (.iconst 0, 1) := by decide +kernel
theorem dX11_step_2 : decode cX11_step 2 = .ok (.putfield 1, 3) := by decide +kernel
theorem dX11_step_5 : decode cX11_step 5 = .ok (.iload_n 1, 1) := by decide +kernel
theorem dX11_step_6 : decode cX11_step 6 = .ok (.i2l, 1) := by decide +kernel
theorem dX11_step_7 : decode cX11_step 7 = .ok (.lconst 1, 1) := by decide +kernel
theorem dX11_step_8 : decode cX11_step 8 = .ok (.ldc2_w 208, 3) := by decide +kernel
theorem dX11_step_11 : decode cX11_step 11 = .ok (.invokestatic 126, 3) := by decide +kernel
theorem dX11_step_14 : decode cX11_step 14 = .ok (.ifCond .ne 6, 3) := by decide +kernel
theorem dX11_step_17 : decode cX11_step 17 = .ok (.ldc 136, 2) := by decide +kernel
theorem dX11_step_19 : decode cX11_step 19 = .ok (.ireturn, 1) := by decide +kernel
theorem dX11_step_20 : decode cX11_step 20 = .ok (.iconst 0, 1) := by decide +kernel
theorem dX11_step_21 : decode cX11_step 21 = .ok (.istore_n 2, 1) := by decide +kernel
theorem dX11_step_22 : decode cX11_step 22 = .ok (.iload_n 2, 1) := by decide +kernel
theorem dX11_step_23 : decode cX11_step 23 = .ok (.iload_n 1, 1) := by decide +kernel
theorem dX11_step_24 : decode cX11_step 24 = .ok (.if_icmp .ge 22, 3) := by decide +kernel
theorem dX11_step_27 : decode cX11_step 27 = .ok (.aload_n 0, 1) := by decide +kernel
theorem dX11_step_28 : decode cX11_step 28 = .ok (.getfield 188, 3) := by decide +kernel
theorem dX11_step_31 : decode cX11_step 31 = .ok (.bipush 100, 2) := by decide +kernel
theorem dX11_step_33 : decode cX11_step 33 = .ok (.if_icmp .ge 13, 3) := by decide +kernel
theorem dX11_step_36 : decode cX11_step 36 = .ok (.aload_n 0, 1) := by decide +kernel
theorem dX11_step_37 : decode cX11_step 37 = .ok (.invokevirtual 210, 3) := by decide +kernel
theorem dX11_step_40 : decode cX11_step 40 = .ok (.iinc 2 1, 3) := by decide +kernel
theorem dX11_step_43 : decode cX11_step 43 = .ok (.goto (-21), 3) := by decide +kernel
theorem dX11_step_46 : decode cX11_step 46 = .ok (.iload_n 2, 1) := by decide +kernel
theorem dX11_step_47 : decode cX11_step 47 = .ok (.ireturn, 1) := by decide +kernel
theorem dX11_ran_0 : decode cX11_ran 0 = .ok (.aload_n 0, 1) := by decide +kernel
theorem dX11_ran_1 : decode cX11_ran 1 = .ok (.iconst 0, 1) := by decide +kernel
theorem dX11_ran_2 : decode cX11_ran 2 = .ok (.putfield 1, 3) := by decide +kernel
theorem dX11_ran_5 : decode cX11_ran 5 = .ok (.iload_n 1, 1) := by decide +kernel
theorem dX11_ran_6 : decode cX11_ran 6 = .ok (.i2l, 1) := by decide +kernel
theorem dX11_ran_7 : decode cX11_ran 7 = .ok (.lconst 0, 1) := by decide +kernel
theorem dX11_ran_8 : decode cX11_ran 8 = .ok (.ldc2_w 213, 3) := by decide +kernel
theorem dX11_ran_11 : decode cX11_ran 11 = .ok (.invokestatic 126, 3) := by decide +kernel
theorem dX11_ran_14 : decode cX11_ran 14 = .ok (.ifCond .eq 10, 3) := by decide +kernel
theorem dX11_ran_17 : decode cX11_ran 17 = .ok (.iload_n 2, 1) := by decide +kernel
theorem dX11_ran_18 : decode cX11_ran 18 = .ok (.invokestatic 164, 3) := by decide +kernel
theorem dX11_ran_21 : decode cX11_ran 21 = .ok (.ifCond .ne 8, 3) := by decide +kernel
theorem dX11_ran_24 : decode cX11_ran 24 = .ok (.ldc 136, 2) := by decide +kernel
theorem dX11_ran_26 : decode cX11_ran 26 = .ok (.goto 14, 3) := by decide +kernel
theorem dX11_ran_29 : decode cX11_ran 29 = .ok (.aload_n 0, 1) := by decide +kernel
theorem dX11_ran_30 : decode cX11_ran 30 = .ok (.getfield 66, 3) := by decide +kernel
theorem dX11_ran_33 : decode cX11_ran 33 = .ok (.bipush 100, 2) := by decide +kernel
theorem dX11_ran_35 : decode cX11_ran 35 = .ok (.iload_n 1, 1) := by decide +kernel
theorem dX11_ran_36 : decode cX11_ran 36 = .ok (.imul, 1) := by decide +kernel
theorem dX11_ran_37 : decode cX11_ran 37 = .ok (.iload_n 2, 1) := by decide +kernel
theorem dX11_ran_38 : decode cX11_ran 38 = .ok (.iadd, 1) := by decide +kernel
theorem dX11_ran_39 : decode cX11_ran 39 = .ok (.iaload, 1) := by decide +kernel
theorem dX11_ran_40 : decode cX11_ran 40 = .ok (.ireturn, 1) := by decide +kernel
theorem dX11_price_0 : decode cX11_price 0 = .ok (.aload_n 0, 1) := by decide +kernel
theorem dX11_price_1 : decode cX11_price 1 = .ok (.iconst 0, 1) := by decide +kernel
theorem dX11_price_2 : decode cX11_price 2 = .ok (.putfield 1, 3) := by decide +kernel
theorem dX11_price_5 : decode cX11_price 5 = .ok (.iload_n 1, 1) := by decide +kernel
theorem dX11_price_6 : decode cX11_price 6 = .ok (.invokestatic 150, 3) := by decide +kernel
theorem dX11_price_9 : decode cX11_price 9 = .ok (.ifCond .eq 13, 3) := by decide +kernel
theorem dX11_price_12 : decode cX11_price 12 = .ok (.iload_n 2, 1) := by decide +kernel
theorem dX11_price_13 : decode cX11_price 13 = .ok (.i2l, 1) := by decide +kernel
theorem dX11_price_14 : decode cX11_price 14 = .ok (.lconst 0, 1) := by decide +kernel
theorem dX11_price_15 : decode cX11_price 15 = .ok (.lconst 1, 1) := by decide +kernel
theorem dX11_price_16 : decode cX11_price 16 = .ok (.invokestatic 126, 3) := by decide +kernel
theorem dX11_price_19 : decode cX11_price 19 = .ok (.ifCond .ne 8, 3) := by decide +kernel
theorem dX11_price_22 : decode cX11_price 22 = .ok (.ldc 136, 2) := by decide +kernel
theorem dX11_price_24 : decode cX11_price 24 = .ok (.goto 21, 3) := by decide +kernel
theorem dX11_price_27 : decode cX11_price 27 = .ok (.iload_n 2, 1) := by decide +kernel
theorem dX11_price_28 : decode cX11_price 28 = .ok (.ifCond .ne 11, 3) := by decide +kernel
theorem dX11_price_31 : decode cX11_price 31 = .ok (.aload_n 0, 1) := by decide +kernel
theorem dX11_price_32 : decode cX11_price 32 = .ok (.iload_n 1, 1) := by decide +kernel
theorem dX11_price_33 : decode cX11_price 33 = .ok (.invokevirtual 195, 3) := by decide +kernel
theorem dX11_price_36 : decode cX11_price 36 = .ok (.goto 9, 3) := by decide +kernel
theorem dX11_price_39 : decode cX11_price 39 = .ok (.aload_n 0, 1) := by decide +kernel
theorem dX11_price_40 : decode cX11_price 40 = .ok (.getfield 70, 3) := by decide +kernel
theorem dX11_price_43 : decode cX11_price 43 = .ok (.iload_n 1, 1) := by decide +kernel
theorem dX11_price_44 : decode cX11_price 44 = .ok (.iaload, 1) := by decide +kernel
theorem dX11_price_45 : decode cX11_price 45 = .ok (.ireturn, 1) := by decide +kernel
theorem dX11_feed_0 : decode cX11_feed 0 = .ok (.aload_n 0, 1) := by decide +kernel
theorem dX11_feed_1 : decode cX11_feed 1 = .ok (.iconst 0, 1) := by decide +kernel
theorem dX11_feed_2 : decode cX11_feed 2 = .ok (.putfield 1, 3) := by decide +kernel
theorem dX11_feed_5 : decode cX11_feed 5 = .ok (.iload_n 3, 1) := by decide +kernel
theorem dX11_feed_6 : decode cX11_feed 6 = .ok (.i2l, 1) := by decide +kernel
theorem dX11_feed_7 : decode cX11_feed 7 = .ok (.lconst 1, 1) := by decide +kernel
theorem dX11_feed_8 : decode cX11_feed 8 = .ok (.ldc2_w 215, 3) := by decide +kernel
theorem dX11_feed_11 : decode cX11_feed 11 = .ok (.invokestatic 126, 3) := by decide +kernel
theorem dX11_feed_14 : decode cX11_feed 14 = .ok (.ifCond .ne 6, 3) := by decide +kernel
theorem dX11_feed_17 : decode cX11_feed 17 = .ok (.ldc 136, 2) := by decide +kernel
theorem dX11_feed_19 : decode cX11_feed 19 = .ok (.ireturn, 1) := by decide +kernel
theorem dX11_feed_20 : decode cX11_feed 20 = .ok (.aload_n 0, 1) := by decide +kernel
theorem dX11_feed_21 : decode cX11_feed 21 = .ok (.getfield 217, 3) := by decide +kernel
theorem dX11_feed_24 : decode cX11_feed 24 = .ok (.iload_n 3, 1) := by decide +kernel
theorem dX11_feed_25 : decode cX11_feed 25 = .ok (.iadd, 1) := by decide +kernel
theorem dX11_feed_26 : decode cX11_feed 26 = .ok (.sipush 400, 3) := by decide +kernel
theorem dX11_feed_29 : decode cX11_feed 29 = .ok (.if_icmp .le 6, 3) := by decide +kernel
theorem dX11_feed_32 : decode cX11_feed 32 = .ok (.ldc 172, 2) := by decide +kernel
theorem dX11_feed_34 : decode cX11_feed 34 = .ok (.ireturn, 1) := by decide +kernel
theorem dX11_feed_35 : decode cX11_feed 35 = .ok (.iload_n 3, 1) := by decide +kernel
theorem dX11_feed_36 : decode cX11_feed 36 = .ok (.iconst 1, 1) := by decide +kernel
theorem dX11_feed_37 : decode cX11_feed 37 = .ok (.isub, 1) := by decide +kernel
theorem dX11_feed_38 : decode cX11_feed 38 = .ok (.istore 4, 2) := by decide +kernel
theorem dX11_feed_40 : decode cX11_feed 40 = .ok (.iload 4, 2) := by decide +kernel
theorem dX11_feed_42 : decode cX11_feed 42 = .ok (.ifCond .lt 40, 3) := by decide +kernel
theorem dX11_feed_45 : decode cX11_feed 45 = .ok (.aload_n 0, 1) := by decide +kernel
theorem dX11_feed_46 : decode cX11_feed 46 = .ok (.getfield 85, 3) := by decide +kernel
theorem dX11_feed_49 : decode cX11_feed 49 = .ok (.aload_n 0, 1) := by decide +kernel
theorem dX11_feed_50 : decode cX11_feed 50 = .ok (.getfield 217, 3) := by decide +kernel
theorem dX11_feed_53 : decode cX11_feed 53 = .ok (.lload_n 1, 1) := by decide +kernel
theorem dX11_feed_54 : decode cX11_feed 54 = .ok (.bipush 8, 2) := by decide +kernel
theorem dX11_feed_56 : decode cX11_feed 56 = .ok (.iload 4, 2) := by decide +kernel
theorem dX11_feed_58 : decode cX11_feed 58 = .ok (.imul, 1) := by decide +kernel
theorem dX11_feed_59 : decode cX11_feed 59 = .ok (.lshr, 1) := by decide +kernel
theorem dX11_feed_60 : decode cX11_feed 60 = .ok (.ldc2_w 220, 3) := by decide +kernel
theorem dX11_feed_63 : decode cX11_feed 63 = .ok (.land, 1) := by decide +kernel
theorem dX11_feed_64 : decode cX11_feed 64 = .ok (.l2i, 1) := by decide +kernel
theorem dX11_feed_65 : decode cX11_feed 65 = .ok (.iastore, 1) := by decide +kernel
theorem dX11_feed_66 : decode cX11_feed 66 = .ok (.aload_n 0, 1) := by decide +kernel
theorem dX11_feed_67 : decode cX11_feed 67 = .ok (.dup, 1) := by decide +kernel
theorem dX11_feed_68 : decode cX11_feed 68 = .ok (.getfield 217, 3) := by decide +kernel
theorem dX11_feed_71 : decode cX11_feed 71 = .ok (.iconst 1, 1) := by decide +kernel
theorem dX11_feed_72 : decode cX11_feed 72 = .ok (.iadd, 1) := by decide +kernel
theorem dX11_feed_73 : decode cX11_feed 73 = .ok (.putfield 217, 3) := by decide +kernel
theorem dX11_feed_76 : decode cX11_feed 76 = .ok (.iinc 4 (-1), 3) := by decide +kernel
theorem dX11_feed_79 : decode cX11_feed 79 = .ok (.goto (-39), 3) := by decide +kernel
theorem dX11_feed_82 : decode cX11_feed 82 = .ok (.aload_n 0, 1) := by decide +kernel
theorem dX11_feed_83 : decode cX11_feed 83 = .ok (.getfield 217, 3) := by decide +kernel
theorem dX11_feed_86 : decode cX11_feed 86 = .ok (.ireturn, 1) := by decide +kernel
theorem dX11_byteAt_0 : decode cX11_byteAt 0 = .ok (.iload_n 1, 1) := by decide +kernel
theorem dX11_byteAt_1 : decode cX11_byteAt 1 = .ok (.aload_n 0, 1) := by decide +kernel
theorem dX11_byteAt_2 : decode cX11_byteAt 2 = .ok (.getfield 222, 3) := by decide +kernel
theorem dX11_byteAt_5 : decode cX11_byteAt 5 = .ok (.if_icmp .ge 12, 3) := by decide +kernel
theorem dX11_byteAt_8 : decode cX11_byteAt 8 = .ok (.aload_n 0, 1) := by decide +kernel
theorem dX11_byteAt_9 : decode cX11_byteAt 9 = .ok (.getfield 85, 3) := by decide +kernel
theorem dX11_byteAt_12 : decode cX11_byteAt 12 = .ok (.iload_n 1, 1) := by decide +kernel
theorem dX11_byteAt_13 : decode cX11_byteAt 13 = .ok (.iaload, 1) := by decide +kernel
theorem dX11_byteAt_14 : decode cX11_byteAt 14 = .ok (.goto 5, 3) := by decide +kernel
theorem dX11_byteAt_17 : decode cX11_byteAt 17 = .ok (.ldc 69, 2) := by decide +kernel
theorem dX11_byteAt_19 : decode cX11_byteAt 19 = .ok (.ireturn, 1) := by decide +kernel
theorem dX11_isLetter_0 : decode cX11_isLetter 0 = .ok (.iload_n 0, 1) := by decide +kernel
theorem dX11_isLetter_1 : decode cX11_isLetter 1 = .ok (.bipush 97, 2) := by decide +kernel
theorem dX11_isLetter_3 : decode cX11_isLetter 3 = .ok (.if_icmp .lt 13, 3) := by decide +kernel
theorem dX11_isLetter_6 : decode cX11_isLetter 6 = .ok (.iload_n 0, 1) := by decide +kernel
theorem dX11_isLetter_7 : decode cX11_isLetter 7 = .ok (.bipush 122, 2) := by decide +kernel
theorem dX11_isLetter_9 : decode cX11_isLetter 9 = .ok (.if_icmp .gt 7, 3) := by decide +kernel
theorem dX11_isLetter_12 : decode cX11_isLetter 12 = .ok (.iconst 1, 1) := by decide +kernel
theorem dX11_isLetter_13 : decode cX11_isLetter 13 = .ok (.goto 4, 3) := by decide +kernel
theorem dX11_isLetter_16 : decode cX11_isLetter 16 = .ok (.iconst 0, 1) := by decide +kernel
theorem dX11_isLetter_17 : decode cX11_isLetter 17 = .ok (.ireturn, 1) := by decide +kernel
theorem dX11_isFigure_0 : decode cX11_isFigure 0 = .ok (.iload_n 0, 1) := by decide +kernel
theorem dX11_isFigure_1 : decode cX11_isFigure 1 = .ok (.bipush 48, 2) := by decide +kernel
theorem dX11_isFigure_3 : decode cX11_isFigure 3 = .ok (.if_icmp .lt 13, 3) := by decide +kernel
theorem dX11_isFigure_6 : decode cX11_isFigure 6 = .ok (.iload_n 0, 1) := by decide +kernel
theorem dX11_isFigure_7 : decode cX11_isFigure 7 = .ok (.bipush 57, 2) := by decide +kernel
theorem dX11_isFigure_9 : decode cX11_isFigure 9 = .ok (.if_icmp .gt 7, 3) := by decide +kernel
theorem dX11_isFigure_12 : decode cX11_isFigure 12 = .ok (.iconst 1, 1) := by decide +kernel
theorem dX11_isFigure_13 : decode cX11_isFigure 13 = .ok (.goto 4, 3) := by decide +kernel
theorem dX11_isFigure_16 : decode cX11_isFigure 16 = .ok (.iconst 0, 1) := by decide +kernel
theorem dX11_isFigure_17 : decode cX11_isFigure 17 = .ok (.ireturn, 1) := by decide +kernel
theorem dX11_next_0 : decode cX11_next 0 = .ok (.aload_n 0, 1) := by decide +kernel
theorem dX11_next_1 : decode cX11_next 1 = .ok (.aload_n 0, 1) := by decide +kernel
theorem dX11_next_2 : decode cX11_next 2 = .ok (.getfield 225, 3) := by decide +kernel
theorem dX11_next_5 : decode cX11_next 5 = .ok (.invokevirtual 228, 3) := by decide +kernel
theorem dX11_next_8 : decode cX11_next 8 = .ok (.bipush 32, 2) := by decide +kernel
theorem dX11_next_10 : decode cX11_next 10 = .ok (.if_icmp .eq 16, 3) := by decide +kernel
theorem dX11_next_13 : decode cX11_next 13 = .ok (.aload_n 0, 1) := by decide +kernel
theorem dX11_next_14 : decode cX11_next 14 = .ok (.aload_n 0, 1) := by decide +kernel
theorem dX11_next_15 : decode cX11_next 15 = .ok (.getfield 225, 3) := by decide +kernel
theorem dX11_next_18 : decode cX11_next 18 = .ok (.invokevirtual 228, 3) := by decide +kernel
theorem dX11_next_21 : decode cX11_next 21 = .ok (.bipush 10, 2) := by decide +kernel
theorem dX11_next_23 : decode cX11_next 23 = .ok (.if_icmp .ne 16, 3) := by decide +kernel
theorem dX11_next_26 : decode cX11_next 26 = .ok (.aload_n 0, 1) := by decide +kernel
theorem dX11_next_27 : decode cX11_next 27 = .ok (.dup, 1) := by decide +kernel
theorem dX11_next_28 : decode cX11_next 28 = .ok (.getfield 225, 3) := by decide +kernel
theorem dX11_next_31 : decode cX11_next 31 = .ok (.iconst 1, 1) := by decide +kernel
theorem dX11_next_32 : decode cX11_next 32 = .ok (.iadd, 1) := by decide +kernel
theorem dX11_next_33 : decode cX11_next 33 = .ok (.putfield 225, 3) := by decide +kernel
theorem dX11_next_36 : decode cX11_next 36 = .ok (.goto (-36), 3) := by decide +kernel
theorem dX11_next_39 : decode cX11_next 39 = .ok (.aload_n 0, 1) := by decide +kernel
theorem dX11_next_40 : decode cX11_next 40 = .ok (.aload_n 0, 1) := by decide +kernel
theorem dX11_next_41 : decode cX11_next 41 = .ok (.getfield 225, 3) := by decide +kernel
theorem dX11_next_44 : decode cX11_next 44 = .ok (.putfield 231, 3) := by decide +kernel
theorem dX11_next_47 : decode cX11_next 47 = .ok (.aload_n 0, 1) := by decide +kernel
theorem dX11_next_48 : decode cX11_next 48 = .ok (.aload_n 0, 1) := by decide +kernel
theorem dX11_next_49 : decode cX11_next 49 = .ok (.getfield 225, 3) := by decide +kernel
theorem dX11_next_52 : decode cX11_next 52 = .ok (.invokevirtual 228, 3) := by decide +kernel
theorem dX11_next_55 : decode cX11_next 55 = .ok (.istore_n 1, 1) := by decide +kernel
theorem dX11_next_56 : decode cX11_next 56 = .ok (.iload_n 1, 1) := by decide +kernel
theorem dX11_next_57 : decode cX11_next 57 = .ok (.ldc 69, 2) := by decide +kernel
theorem dX11_next_59 : decode cX11_next 59 = .ok (.if_icmp .ne 11, 3) := by decide +kernel
theorem dX11_next_62 : decode cX11_next 62 = .ok (.aload_n 0, 1) := by decide +kernel
theorem dX11_next_63 : decode cX11_next 63 = .ok (.iconst 1, 1) := by decide +kernel
theorem dX11_next_64 : decode cX11_next 64 = .ok (.putfield 234, 3) := by decide +kernel
theorem dX11_next_67 : decode cX11_next 67 = .ok (.goto 129, 3) := by decide +kernel
theorem dX11_next_70 : decode cX11_next 70 = .ok (.iload_n 1, 1) := by decide +kernel
theorem dX11_next_71 : decode cX11_next 71 = .ok (.invokestatic 237, 3) := by decide +kernel
theorem dX11_next_74 : decode cX11_next 74 = .ok (.ifCond .eq 38, 3) := by decide +kernel
theorem dX11_next_77 : decode cX11_next 77 = .ok (.aload_n 0, 1) := by decide +kernel
theorem dX11_next_78 : decode cX11_next 78 = .ok (.aload_n 0, 1) := by decide +kernel
theorem dX11_next_79 : decode cX11_next 79 = .ok (.getfield 225, 3) := by decide +kernel
theorem dX11_next_82 : decode cX11_next 82 = .ok (.invokevirtual 228, 3) := by decide +kernel
theorem dX11_next_85 : decode cX11_next 85 = .ok (.invokestatic 237, 3) := by decide +kernel
theorem dX11_next_88 : decode cX11_next 88 = .ok (.ifCond .eq 16, 3) := by decide +kernel
theorem dX11_next_91 : decode cX11_next 91 = .ok (.aload_n 0, 1) := by decide +kernel
theorem dX11_next_92 : decode cX11_next 92 = .ok (.dup, 1) := by decide +kernel
theorem dX11_next_93 : decode cX11_next 93 = .ok (.getfield 225, 3) := by decide +kernel
theorem dX11_next_96 : decode cX11_next 96 = .ok (.iconst 1, 1) := by decide +kernel
theorem dX11_next_97 : decode cX11_next 97 = .ok (.iadd, 1) := by decide +kernel
theorem dX11_next_98 : decode cX11_next 98 = .ok (.putfield 225, 3) := by decide +kernel
theorem dX11_next_101 : decode cX11_next 101 = .ok (.goto (-24), 3) := by decide +kernel
theorem dX11_next_104 : decode cX11_next 104 = .ok (.aload_n 0, 1) := by decide +kernel
theorem dX11_next_105 : decode cX11_next 105 = .ok (.iconst 2, 1) := by decide +kernel
theorem dX11_next_106 : decode cX11_next 106 = .ok (.putfield 234, 3) := by decide +kernel
theorem dX11_next_109 : decode cX11_next 109 = .ok (.goto 87, 3) := by decide +kernel
theorem dX11_next_112 : decode cX11_next 112 = .ok (.iload_n 1, 1) := by decide +kernel
theorem dX11_next_113 : decode cX11_next 113 = .ok (.invokestatic 240, 3) := by decide +kernel
theorem dX11_next_116 : decode cX11_next 116 = .ok (.ifCond .eq 55, 3) := by decide +kernel
theorem dX11_next_119 : decode cX11_next 119 = .ok (.aload_n 0, 1) := by decide +kernel
theorem dX11_next_120 : decode cX11_next 120 = .ok (.aload_n 0, 1) := by decide +kernel
theorem dX11_next_121 : decode cX11_next 121 = .ok (.getfield 225, 3) := by decide +kernel
theorem dX11_next_124 : decode cX11_next 124 = .ok (.invokevirtual 228, 3) := by decide +kernel
theorem dX11_next_127 : decode cX11_next 127 = .ok (.invokestatic 240, 3) := by decide +kernel
theorem dX11_next_130 : decode cX11_next 130 = .ok (.ifCond .eq 16, 3) := by decide +kernel
theorem dX11_next_133 : decode cX11_next 133 = .ok (.aload_n 0, 1) := by decide +kernel
theorem dX11_next_134 : decode cX11_next 134 = .ok (.dup, 1) := by decide +kernel
theorem dX11_next_135 : decode cX11_next 135 = .ok (.getfield 225, 3) := by decide +kernel
theorem dX11_next_138 : decode cX11_next 138 = .ok (.iconst 1, 1) := by decide +kernel
theorem dX11_next_139 : decode cX11_next 139 = .ok (.iadd, 1) := by decide +kernel
theorem dX11_next_140 : decode cX11_next 140 = .ok (.putfield 225, 3) := by decide +kernel
theorem dX11_next_143 : decode cX11_next 143 = .ok (.goto (-24), 3) := by decide +kernel
theorem dX11_next_146 : decode cX11_next 146 = .ok (.aload_n 0, 1) := by decide +kernel
theorem dX11_next_147 : decode cX11_next 147 = .ok (.aload_n 0, 1) := by decide +kernel
theorem dX11_next_148 : decode cX11_next 148 = .ok (.getfield 225, 3) := by decide +kernel
theorem dX11_next_151 : decode cX11_next 151 = .ok (.aload_n 0, 1) := by decide +kernel
theorem dX11_next_152 : decode cX11_next 152 = .ok (.getfield 231, 3) := by decide +kernel
theorem dX11_next_155 : decode cX11_next 155 = .ok (.isub, 1) := by decide +kernel
theorem dX11_next_156 : decode cX11_next 156 = .ok (.iconst 4, 1) := by decide +kernel
theorem dX11_next_157 : decode cX11_next 157 = .ok (.if_icmp .le 7, 3) := by decide +kernel
theorem dX11_next_160 : decode cX11_next 160 = .ok (.iconst 0, 1) := by decide +kernel
theorem dX11_next_161 : decode cX11_next 161 = .ok (.goto 4, 3) := by decide +kernel
theorem dX11_next_164 : decode cX11_next 164 = .ok (.iconst 3, 1) := by decide +kernel
theorem dX11_next_165 : decode cX11_next 165 = .ok (.putfield 234, 3) := by decide +kernel
theorem dX11_next_168 : decode cX11_next 168 = .ok (.goto 28, 3) := by decide +kernel
theorem dX11_next_171 : decode cX11_next 171 = .ok (.aload_n 0, 1) := by decide +kernel
theorem dX11_next_172 : decode cX11_next 172 = .ok (.dup, 1) := by decide +kernel
theorem dX11_next_173 : decode cX11_next 173 = .ok (.getfield 225, 3) := by decide +kernel
theorem dX11_next_176 : decode cX11_next 176 = .ok (.iconst 1, 1) := by decide +kernel
theorem dX11_next_177 : decode cX11_next 177 = .ok (.iadd, 1) := by decide +kernel
theorem dX11_next_178 : decode cX11_next 178 = .ok (.putfield 225, 3) := by decide +kernel
theorem dX11_next_181 : decode cX11_next 181 = .ok (.aload_n 0, 1) := by decide +kernel
theorem dX11_next_182 : decode cX11_next 182 = .ok (.iload_n 1, 1) := by decide +kernel
theorem dX11_next_183 : decode cX11_next 183 = .ok (.bipush 59, 2) := by decide +kernel
theorem dX11_next_185 : decode cX11_next 185 = .ok (.if_icmp .ne 7, 3) := by decide +kernel
theorem dX11_next_188 : decode cX11_next 188 = .ok (.iconst 4, 1) := by decide +kernel
theorem dX11_next_189 : decode cX11_next 189 = .ok (.goto 4, 3) := by decide +kernel
theorem dX11_next_192 : decode cX11_next 192 = .ok (.iconst 0, 1) := by decide +kernel
theorem dX11_next_193 : decode cX11_next 193 = .ok (.putfield 234, 3) := by decide +kernel
theorem dX11_next_196 : decode cX11_next 196 = .ok (.aload_n 0, 1) := by decide +kernel
theorem dX11_next_197 : decode cX11_next 197 = .ok (.aload_n 0, 1) := by decide +kernel
theorem dX11_next_198 : decode cX11_next 198 = .ok (.getfield 225, 3) := by decide +kernel
theorem dX11_next_201 : decode cX11_next 201 = .ok (.putfield 243, 3) := by decide +kernel
theorem dX11_next_204 : decode cX11_next 204 = .ok (.return_, 1) := by decide +kernel
theorem dX11_bad_0 : decode cX11_bad 0 = .ok (.aload_n 0, 1) := by decide +kernel
theorem dX11_bad_1 : decode cX11_bad 1 = .ok (.getfield 246, 3) := by decide +kernel
theorem dX11_bad_4 : decode cX11_bad 4 = .ok (.ifCond .ne 16, 3) := by decide +kernel
theorem dX11_bad_7 : decode cX11_bad 7 = .ok (.aload_n 0, 1) := by decide +kernel
theorem dX11_bad_8 : decode cX11_bad 8 = .ok (.iload_n 1, 1) := by decide +kernel
theorem dX11_bad_9 : decode cX11_bad 9 = .ok (.putfield 246, 3) := by decide +kernel
theorem dX11_bad_12 : decode cX11_bad 12 = .ok (.aload_n 0, 1) := by decide +kernel
theorem dX11_bad_13 : decode cX11_bad 13 = .ok (.aload_n 0, 1) := by decide +kernel
theorem dX11_bad_14 : decode cX11_bad 14 = .ok (.getfield 231, 3) := by decide +kernel
theorem dX11_bad_17 : decode cX11_bad 17 = .ok (.putfield 249, 3) := by decide +kernel
theorem dX11_bad_20 : decode cX11_bad 20 = .ok (.return_, 1) := by decide +kernel
theorem dX11_must_0 : decode cX11_must 0 = .ok (.iload_n 1, 1) := by decide +kernel
theorem dX11_must_1 : decode cX11_must 1 = .ok (.ifCond .ne 8, 3) := by decide +kernel
theorem dX11_must_4 : decode cX11_must 4 = .ok (.aload_n 0, 1) := by decide +kernel
theorem dX11_must_5 : decode cX11_must 5 = .ok (.iconst 1, 1) := by decide +kernel
theorem dX11_must_6 : decode cX11_must 6 = .ok (.invokevirtual 252, 3) := by decide +kernel
theorem dX11_must_9 : decode cX11_must 9 = .ok (.aload_n 0, 1) := by decide +kernel
theorem dX11_must_10 : decode cX11_must 10 = .ok (.getfield 246, 3) := by decide +kernel
theorem dX11_must_13 : decode cX11_must 13 = .ok (.ifCond .ne 7, 3) := by decide +kernel
theorem dX11_must_16 : decode cX11_must 16 = .ok (.aload_n 0, 1) := by decide +kernel
theorem dX11_must_17 : decode cX11_must 17 = .ok (.invokevirtual 255, 3) := by decide +kernel
theorem dX11_must_20 : decode cX11_must 20 = .ok (.return_, 1) := by decide +kernel
theorem dX11_word_0 : decode cX11_word 0 = .ok (.lconst 0, 1) := by decide +kernel
theorem dX11_word_1 : decode cX11_word 1 = .ok (.lstore_n 1, 1) := by decide +kernel
theorem dX11_word_2 : decode cX11_word 2 = .ok (.aload_n 0, 1) := by decide +kernel
theorem dX11_word_3 : decode cX11_word 3 = .ok (.getfield 231, 3) := by decide +kernel
theorem dX11_word_6 : decode cX11_word 6 = .ok (.istore_n 3, 1) := by decide +kernel
theorem dX11_word_7 : decode cX11_word 7 = .ok (.iload_n 3, 1) := by decide +kernel
theorem dX11_word_8 : decode cX11_word 8 = .ok (.aload_n 0, 1) := by decide +kernel
theorem dX11_word_9 : decode cX11_word 9 = .ok (.getfield 243, 3) := by decide +kernel
theorem dX11_word_12 : decode cX11_word 12 = .ok (.if_icmp .ge 44, 3) := by decide +kernel
theorem dX11_word_15 : decode cX11_word 15 = .ok (.aload_n 0, 1) := by decide +kernel
theorem dX11_word_16 : decode cX11_word 16 = .ok (.getfield 234, 3) := by decide +kernel
theorem dX11_word_19 : decode cX11_word 19 = .ok (.iconst 2, 1) := by decide +kernel
theorem dX11_word_20 : decode cX11_word 20 = .ok (.if_icmp .ne 36, 3) := by decide +kernel
theorem dX11_word_23 : decode cX11_word 23 = .ok (.aload_n 0, 1) := by decide +kernel
theorem dX11_word_24 : decode cX11_word 24 = .ok (.getfield 243, 3) := by decide +kernel
theorem dX11_word_27 : decode cX11_word 27 = .ok (.aload_n 0, 1) := by decide +kernel
theorem dX11_word_28 : decode cX11_word 28 = .ok (.getfield 231, 3) := by decide +kernel
theorem dX11_word_31 : decode cX11_word 31 = .ok (.isub, 1) := by decide +kernel
theorem dX11_word_32 : decode cX11_word 32 = .ok (.bipush 8, 2) := by decide +kernel
theorem dX11_word_34 : decode cX11_word 34 = .ok (.if_icmp .ge 22, 3) := by decide +kernel
theorem dX11_word_37 : decode cX11_word 37 = .ok (.lload_n 1, 1) := by decide +kernel
theorem dX11_word_38 : decode cX11_word 38 = .ok (.bipush 8, 2) := by decide +kernel
theorem dX11_word_40 : decode cX11_word 40 = .ok (.lshl, 1) := by decide +kernel
theorem dX11_word_41 : decode cX11_word 41 = .ok (.aload_n 0, 1) := by decide +kernel
theorem dX11_word_42 : decode cX11_word 42 = .ok (.getfield 85, 3) := by decide +kernel
theorem dX11_word_45 : decode cX11_word 45 = .ok (.iload_n 3, 1) := by decide +kernel
theorem dX11_word_46 : decode cX11_word 46 = .ok (.iaload, 1) := by decide +kernel
theorem dX11_word_47 : decode cX11_word 47 = .ok (.i2l, 1) := by decide +kernel
theorem dX11_word_48 : decode cX11_word 48 = .ok (.lor, 1) := by decide +kernel
theorem dX11_word_49 : decode cX11_word 49 = .ok (.lstore_n 1, 1) := by decide +kernel
theorem dX11_word_50 : decode cX11_word 50 = .ok (.iinc 3 1, 3) := by decide +kernel
theorem dX11_word_53 : decode cX11_word 53 = .ok (.goto (-46), 3) := by decide +kernel
theorem dX11_word_56 : decode cX11_word 56 = .ok (.lload_n 1, 1) := by decide +kernel
theorem dX11_word_57 : decode cX11_word 57 = .ok (.lreturn, 1) := by decide +kernel
theorem dX11_numberTo_0 : decode cX11_numberTo 0 = .ok (.aload_n 0, 1) := by decide +kernel
theorem dX11_numberTo_1 : decode cX11_numberTo 1 = .ok (.getfield 246, 3) := by decide +kernel
theorem dX11_numberTo_4 : decode cX11_numberTo 4 = .ok (.ifCond .le 5, 3) := by decide +kernel
theorem dX11_numberTo_7 : decode cX11_numberTo 7 = .ok (.iconst 0, 1) := by decide +kernel
theorem dX11_numberTo_8 : decode cX11_numberTo 8 = .ok (.ireturn, 1) := by decide +kernel
theorem dX11_numberTo_9 : decode cX11_numberTo 9 = .ok (.iconst 0, 1) := by decide +kernel
theorem dX11_numberTo_10 : decode cX11_numberTo 10 = .ok (.istore_n 2, 1) := by decide +kernel
theorem dX11_numberTo_11 : decode cX11_numberTo 11 = .ok (.aload_n 0, 1) := by decide +kernel
theorem dX11_numberTo_12 : decode cX11_numberTo 12 = .ok (.getfield 231, 3) := by decide +kernel
theorem dX11_numberTo_15 : decode cX11_numberTo 15 = .ok (.istore_n 3, 1) := by decide +kernel
theorem dX11_numberTo_16 : decode cX11_numberTo 16 = .ok (.iload_n 3, 1) := by decide +kernel
theorem dX11_numberTo_17 : decode cX11_numberTo 17 = .ok (.aload_n 0, 1) := by decide +kernel
theorem dX11_numberTo_18 : decode cX11_numberTo 18 = .ok (.getfield 243, 3) := by decide +kernel
theorem dX11_numberTo_21 : decode cX11_numberTo 21 = .ok (.if_icmp .ge 32, 3) := by decide +kernel
theorem dX11_numberTo_24 : decode cX11_numberTo 24 = .ok (.aload_n 0, 1) := by decide +kernel
theorem dX11_numberTo_25 : decode cX11_numberTo 25 = .ok (.getfield 234, 3) := by decide +kernel
theorem dX11_numberTo_28 : decode cX11_numberTo 28 = .ok (.iconst 3, 1) := by decide +kernel
theorem dX11_numberTo_29 : decode cX11_numberTo 29 = .ok (.if_icmp .ne 24, 3) := by decide +kernel
theorem dX11_numberTo_32 : decode cX11_numberTo 32 = .ok (.bipush 10, 2) := by decide +kernel
theorem dX11_numberTo_34 : decode cX11_numberTo 34 = .ok (.iload_n 2, 1) := by decide +kernel
theorem dX11_numberTo_35 : decode cX11_numberTo 35 = .ok (.imul, 1) := by decide +kernel
theorem dX11_numberTo_36 : decode cX11_numberTo 36 = .ok (.aload_n 0, 1) := by decide +kernel
theorem dX11_numberTo_37 : decode cX11_numberTo 37 = .ok (.getfield 85, 3) := by decide +kernel
theorem dX11_numberTo_40 : decode cX11_numberTo 40 = .ok (.iload_n 3, 1) := by decide +kernel
theorem dX11_numberTo_41 : decode cX11_numberTo 41 = .ok (.iaload, 1) := by decide +kernel
theorem dX11_numberTo_42 : decode cX11_numberTo 42 = .ok (.iadd, 1) := by decide +kernel
theorem dX11_numberTo_43 : decode cX11_numberTo 43 = .ok (.bipush 48, 2) := by decide +kernel
theorem dX11_numberTo_45 : decode cX11_numberTo 45 = .ok (.isub, 1) := by decide +kernel
theorem dX11_numberTo_46 : decode cX11_numberTo 46 = .ok (.istore_n 2, 1) := by decide +kernel
theorem dX11_numberTo_47 : decode cX11_numberTo 47 = .ok (.iinc 3 1, 3) := by decide +kernel
theorem dX11_numberTo_50 : decode cX11_numberTo 50 = .ok (.goto (-34), 3) := by decide +kernel
theorem dX11_numberTo_53 : decode cX11_numberTo 53 = .ok (.aload_n 0, 1) := by decide +kernel
theorem dX11_numberTo_54 : decode cX11_numberTo 54 = .ok (.getfield 234, 3) := by decide +kernel
theorem dX11_numberTo_57 : decode cX11_numberTo 57 = .ok (.iconst 3, 1) := by decide +kernel
theorem dX11_numberTo_58 : decode cX11_numberTo 58 = .ok (.if_icmp .ne 13, 3) := by decide +kernel
theorem dX11_numberTo_61 : decode cX11_numberTo 61 = .ok (.iload_n 2, 1) := by decide +kernel
theorem dX11_numberTo_62 : decode cX11_numberTo 62 = .ok (.iload_n 1, 1) := by decide +kernel
theorem dX11_numberTo_63 : decode cX11_numberTo 63 = .ok (.if_icmp .le 8, 3) := by decide +kernel
theorem dX11_numberTo_66 : decode cX11_numberTo 66 = .ok (.aload_n 0, 1) := by decide +kernel
theorem dX11_numberTo_67 : decode cX11_numberTo 67 = .ok (.iconst 2, 1) := by decide +kernel
theorem dX11_numberTo_68 : decode cX11_numberTo 68 = .ok (.invokevirtual 252, 3) := by decide +kernel
theorem dX11_numberTo_71 : decode cX11_numberTo 71 = .ok (.aload_n 0, 1) := by decide +kernel
theorem dX11_numberTo_72 : decode cX11_numberTo 72 = .ok (.aload_n 0, 1) := by decide +kernel
theorem dX11_numberTo_73 : decode cX11_numberTo 73 = .ok (.getfield 234, 3) := by decide +kernel
theorem dX11_numberTo_76 : decode cX11_numberTo 76 = .ok (.iconst 3, 1) := by decide +kernel
theorem dX11_numberTo_77 : decode cX11_numberTo 77 = .ok (.if_icmp .ne 7, 3) := by decide +kernel
theorem dX11_numberTo_80 : decode cX11_numberTo 80 = .ok (.iconst 1, 1) := by decide +kernel
theorem dX11_numberTo_81 : decode cX11_numberTo 81 = .ok (.goto 4, 3) := by decide +kernel
theorem dX11_numberTo_84 : decode cX11_numberTo 84 = .ok (.iconst 0, 1) := by decide +kernel
theorem dX11_numberTo_85 : decode cX11_numberTo 85 = .ok (.invokevirtual 258, 3) := by decide +kernel
theorem dX11_numberTo_88 : decode cX11_numberTo 88 = .ok (.iload_n 2, 1) := by decide +kernel
theorem dX11_numberTo_89 : decode cX11_numberTo 89 = .ok (.ireturn, 1) := by decide +kernel
theorem dX11_ruleOfWord_0 : decode cX11_ruleOfWord 0 = .ok (.aload_n 0, 1) := by decide +kernel
theorem dX11_ruleOfWord_1 : decode cX11_ruleOfWord 1 = .ok (.invokevirtual 262, 3) := by decide +kernel
theorem dX11_ruleOfWord_4 : decode cX11_ruleOfWord 4 = .ok (.lstore_n 1, 1) := by decide +kernel
theorem dX11_ruleOfWord_5 : decode cX11_ruleOfWord 5 = .ok (.lload_n 1, 1) := by decide +kernel
theorem dX11_ruleOfWord_6 : decode cX11_ruleOfWord 6 = .ok (.ldc2_w 266, 3) := by decide +kernel
theorem dX11_ruleOfWord_9 : decode cX11_ruleOfWord 9 = .ok (.lcmp, 1) := by decide +kernel
theorem dX11_ruleOfWord_10 : decode cX11_ruleOfWord 10 = .ok (.ifCond .ne 7, 3) := by decide +kernel
theorem dX11_ruleOfWord_13 : decode cX11_ruleOfWord 13 = .ok (.iconst 0, 1) := by decide +kernel
theorem dX11_ruleOfWord_14 : decode cX11_ruleOfWord 14 = .ok (.goto 53, 3) := by decide +kernel
theorem dX11_ruleOfWord_17 : decode cX11_ruleOfWord 17 = .ok (.lload_n 1, 1) := by decide +kernel
theorem dX11_ruleOfWord_18 : decode cX11_ruleOfWord 18 = .ok (.ldc2_w 268, 3) := by decide +kernel
theorem dX11_ruleOfWord_21 : decode cX11_ruleOfWord 21 = .ok (.lcmp, 1) := by decide +kernel
theorem dX11_ruleOfWord_22 : decode cX11_ruleOfWord 22 = .ok (.ifCond .ne 7, 3) := by decide +kernel
theorem dX11_ruleOfWord_25 : decode cX11_ruleOfWord 25 = .ok (.iconst 1, 1) := by decide +kernel
theorem dX11_ruleOfWord_26 : decode cX11_ruleOfWord 26 = .ok (.goto 41, 3) := by decide +kernel
theorem dX11_ruleOfWord_29 : decode cX11_ruleOfWord 29 = .ok (.lload_n 1, 1) := by decide +kernel
theorem dX11_ruleOfWord_30 : decode cX11_ruleOfWord 30 = .ok (.ldc2_w 270, 3) := by decide +kernel
theorem dX11_ruleOfWord_33 : decode cX11_ruleOfWord 33 = .ok (.lcmp, 1) := by decide +kernel
theorem dX11_ruleOfWord_34 : decode cX11_ruleOfWord 34 = .ok (.ifCond .ne 7, 3) := by decide +kernel
theorem dX11_ruleOfWord_37 : decode cX11_ruleOfWord 37 = .ok (.iconst 2, 1) := by decide +kernel
theorem dX11_ruleOfWord_38 : decode cX11_ruleOfWord 38 = .ok (.goto 29, 3) := by decide +kernel
theorem dX11_ruleOfWord_41 : decode cX11_ruleOfWord 41 = .ok (.lload_n 1, 1) := by decide +kernel
theorem dX11_ruleOfWord_42 : decode cX11_ruleOfWord 42 = .ok (.ldc2_w 272, 3) := by decide +kernel
theorem dX11_ruleOfWord_45 : decode cX11_ruleOfWord 45 = .ok (.lcmp, 1) := by decide +kernel
theorem dX11_ruleOfWord_46 : decode cX11_ruleOfWord 46 = .ok (.ifCond .ne 7, 3) := by decide +kernel
theorem dX11_ruleOfWord_49 : decode cX11_ruleOfWord 49 = .ok (.iconst 3, 1) := by decide +kernel
theorem dX11_ruleOfWord_50 : decode cX11_ruleOfWord 50 = .ok (.goto 17, 3) := by decide +kernel
theorem dX11_ruleOfWord_53 : decode cX11_ruleOfWord 53 = .ok (.lload_n 1, 1) := by decide +kernel
theorem dX11_ruleOfWord_54 : decode cX11_ruleOfWord 54 = .ok (.ldc2_w 274, 3) := by decide +kernel
theorem dX11_ruleOfWord_57 : decode cX11_ruleOfWord 57 = .ok (.lcmp, 1) := by decide +kernel
theorem dX11_ruleOfWord_58 : decode cX11_ruleOfWord 58 = .ok (.ifCond .ne 7, 3) := by decide +kernel
theorem dX11_ruleOfWord_61 : decode cX11_ruleOfWord 61 = .ok (.iconst 4, 1) := by decide +kernel
theorem dX11_ruleOfWord_62 : decode cX11_ruleOfWord 62 = .ok (.goto 5, 3) := by decide +kernel
theorem dX11_ruleOfWord_65 : decode cX11_ruleOfWord 65 = .ok (.ldc 69, 2) := by decide +kernel
theorem dX11_ruleOfWord_67 : decode cX11_ruleOfWord 67 = .ok (.ireturn, 1) := by decide +kernel
theorem dX11_readRule_0 : decode cX11_readRule 0 = .ok (.aload_n 0, 1) := by decide +kernel
theorem dX11_readRule_1 : decode cX11_readRule 1 = .ok (.invokevirtual 276, 3) := by decide +kernel
theorem dX11_readRule_4 : decode cX11_readRule 4 = .ok (.istore_n 2, 1) := by decide +kernel
theorem dX11_readRule_5 : decode cX11_readRule 5 = .ok (.iload_n 2, 1) := by decide +kernel
theorem dX11_readRule_6 : decode cX11_readRule 6 = .ok (.ldc 69, 2) := by decide +kernel
theorem dX11_readRule_8 : decode cX11_readRule 8 = .ok (.if_icmp .eq 17, 3) := by decide +kernel
theorem dX11_readRule_11 : decode cX11_readRule 11 = .ok (.aload_n 0, 1) := by decide +kernel
theorem dX11_readRule_12 : decode cX11_readRule 12 = .ok (.getfield 280, 3) := by decide +kernel
theorem dX11_readRule_15 : decode cX11_readRule 15 = .ok (.bipush 30, 2) := by decide +kernel
theorem dX11_readRule_17 : decode cX11_readRule 17 = .ok (.if_icmp .ne 8, 3) := by decide +kernel
theorem dX11_readRule_20 : decode cX11_readRule 20 = .ok (.aload_n 0, 1) := by decide +kernel
theorem dX11_readRule_21 : decode cX11_readRule 21 = .ok (.iconst 3, 1) := by decide +kernel
theorem dX11_readRule_22 : decode cX11_readRule 22 = .ok (.invokevirtual 252, 3) := by decide +kernel
theorem dX11_readRule_25 : decode cX11_readRule 25 = .ok (.aload_n 0, 1) := by decide +kernel
theorem dX11_readRule_26 : decode cX11_readRule 26 = .ok (.iload_n 2, 1) := by decide +kernel
theorem dX11_readRule_27 : decode cX11_readRule 27 = .ok (.ldc 69, 2) := by decide +kernel
theorem dX11_readRule_29 : decode cX11_readRule 29 = .ok (.if_icmp .eq 7, 3) := by decide +kernel
theorem dX11_readRule_32 : decode cX11_readRule 32 = .ok (.iconst 1, 1) := by decide +kernel
theorem dX11_readRule_33 : decode cX11_readRule 33 = .ok (.goto 4, 3) := by decide +kernel
theorem dX11_readRule_36 : decode cX11_readRule 36 = .ok (.iconst 0, 1) := by decide +kernel
theorem dX11_readRule_37 : decode cX11_readRule 37 = .ok (.invokevirtual 258, 3) := by decide +kernel
theorem dX11_readRule_40 : decode cX11_readRule 40 = .ok (.aload_n 0, 1) := by decide +kernel
theorem dX11_readRule_41 : decode cX11_readRule 41 = .ok (.getfield 246, 3) := by decide +kernel
theorem dX11_readRule_44 : decode cX11_readRule 44 = .ok (.ifCond .le 4, 3) := by decide +kernel
theorem dX11_readRule_47 : decode cX11_readRule 47 = .ok (.return_, 1) := by decide +kernel
theorem dX11_readRule_48 : decode cX11_readRule 48 = .ok (.aload_n 0, 1) := by decide +kernel
theorem dX11_readRule_49 : decode cX11_readRule 49 = .ok (.getfield 73, 3) := by decide +kernel
theorem dX11_readRule_52 : decode cX11_readRule 52 = .ok (.aload_n 0, 1) := by decide +kernel
theorem dX11_readRule_53 : decode cX11_readRule 53 = .ok (.getfield 280, 3) := by decide +kernel
theorem dX11_readRule_56 : decode cX11_readRule 56 = .ok (.iload_n 1, 1) := by decide +kernel
theorem dX11_readRule_57 : decode cX11_readRule 57 = .ok (.iastore, 1) := by decide +kernel
theorem dX11_readRule_58 : decode cX11_readRule 58 = .ok (.aload_n 0, 1) := by decide +kernel
theorem dX11_readRule_59 : decode cX11_readRule 59 = .ok (.getfield 76, 3) := by decide +kernel
theorem dX11_readRule_62 : decode cX11_readRule 62 = .ok (.aload_n 0, 1) := by decide +kernel
theorem dX11_readRule_63 : decode cX11_readRule 63 = .ok (.getfield 280, 3) := by decide +kernel
theorem dX11_readRule_66 : decode cX11_readRule 66 = .ok (.iload_n 2, 1) := by decide +kernel
theorem dX11_readRule_67 : decode cX11_readRule 67 = .ok (.iastore, 1) := by decide +kernel
theorem dX11_readRule_68 : decode cX11_readRule 68 = .ok (.aload_n 0, 1) := by decide +kernel
theorem dX11_readRule_69 : decode cX11_readRule 69 = .ok (.getfield 79, 3) := by decide +kernel
theorem dX11_readRule_72 : decode cX11_readRule 72 = .ok (.aload_n 0, 1) := by decide +kernel
theorem dX11_readRule_73 : decode cX11_readRule 73 = .ok (.getfield 280, 3) := by decide +kernel
theorem dX11_readRule_76 : decode cX11_readRule 76 = .ok (.iload_n 2, 1) := by decide +kernel
theorem dX11_readRule_77 : decode cX11_readRule 77 = .ok (.ifCond .eq 8, 3) := by decide +kernel
theorem dX11_readRule_80 : decode cX11_readRule 80 = .ok (.iload_n 2, 1) := by decide +kernel
theorem dX11_readRule_81 : decode cX11_readRule 81 = .ok (.iconst 4, 1) := by decide +kernel
theorem dX11_readRule_82 : decode cX11_readRule 82 = .ok (.if_icmp .ne 11, 3) := by decide +kernel
theorem dX11_readRule_85 : decode cX11_readRule 85 = .ok (.aload_n 0, 1) := by decide +kernel
theorem dX11_readRule_86 : decode cX11_readRule 86 = .ok (.iconst 3, 1) := by decide +kernel
theorem dX11_readRule_87 : decode cX11_readRule 87 = .ok (.invokevirtual 283, 3) := by decide +kernel
theorem dX11_readRule_90 : decode cX11_readRule 90 = .ok (.goto 4, 3) := by decide +kernel
theorem dX11_readRule_93 : decode cX11_readRule 93 = .ok (.iconst 0, 1) := by decide +kernel
theorem dX11_readRule_94 : decode cX11_readRule 94 = .ok (.iastore, 1) := by decide +kernel
theorem dX11_readRule_95 : decode cX11_readRule 95 = .ok (.aload_n 0, 1) := by decide +kernel
theorem dX11_readRule_96 : decode cX11_readRule 96 = .ok (.getfield 82, 3) := by decide +kernel
theorem dX11_readRule_99 : decode cX11_readRule 99 = .ok (.aload_n 0, 1) := by decide +kernel
theorem dX11_readRule_100 : decode cX11_readRule 100 = .ok (.getfield 280, 3) := by decide +kernel
theorem dX11_readRule_103 : decode cX11_readRule 103 = .ok (.iload_n 2, 1) := by decide +kernel
theorem dX11_readRule_104 : decode cX11_readRule 104 = .ok (.iconst 4, 1) := by decide +kernel
theorem dX11_readRule_105 : decode cX11_readRule 105 = .ok (.if_icmp .ne 7, 3) := by decide +kernel
theorem dX11_readRule_108 : decode cX11_readRule 108 = .ok (.iconst 0, 1) := by decide +kernel
theorem dX11_readRule_109 : decode cX11_readRule 109 = .ok (.goto 20, 3) := by decide +kernel
theorem dX11_readRule_112 : decode cX11_readRule 112 = .ok (.aload_n 0, 1) := by decide +kernel
theorem dX11_readRule_113 : decode cX11_readRule 113 = .ok (.iload_n 2, 1) := by decide +kernel
theorem dX11_readRule_114 : decode cX11_readRule 114 = .ok (.iconst 2, 1) := by decide +kernel
theorem dX11_readRule_115 : decode cX11_readRule 115 = .ok (.if_icmp .ne 9, 3) := by decide +kernel
theorem dX11_readRule_118 : decode cX11_readRule 118 = .ok (.sipush 9999, 3) := by decide +kernel
theorem dX11_readRule_121 : decode cX11_readRule 121 = .ok (.goto 5, 3) := by decide +kernel
theorem dX11_readRule_124 : decode cX11_readRule 124 = .ok (.bipush 99, 2) := by decide +kernel
theorem dX11_readRule_126 : decode cX11_readRule 126 = .ok (.invokevirtual 283, 3) := by decide +kernel
theorem dX11_readRule_129 : decode cX11_readRule 129 = .ok (.iastore, 1) := by decide +kernel
theorem dX11_readRule_130 : decode cX11_readRule 130 = .ok (.aload_n 0, 1) := by decide +kernel
theorem dX11_readRule_131 : decode cX11_readRule 131 = .ok (.dup, 1) := by decide +kernel
theorem dX11_readRule_132 : decode cX11_readRule 132 = .ok (.getfield 280, 3) := by decide +kernel
theorem dX11_readRule_135 : decode cX11_readRule 135 = .ok (.iconst 1, 1) := by decide +kernel
theorem dX11_readRule_136 : decode cX11_readRule 136 = .ok (.iadd, 1) := by decide +kernel
theorem dX11_readRule_137 : decode cX11_readRule 137 = .ok (.putfield 280, 3) := by decide +kernel
theorem dX11_readRule_140 : decode cX11_readRule 140 = .ok (.return_, 1) := by decide +kernel
theorem dX11_lists_0 : decode cX11_lists 0 = .ok (.aload_n 0, 1) := by decide +kernel
theorem dX11_lists_1 : decode cX11_lists 1 = .ok (.iconst 0, 1) := by decide +kernel
theorem dX11_lists_2 : decode cX11_lists 2 = .ok (.putfield 1, 3) := by decide +kernel
theorem dX11_lists_5 : decode cX11_lists 5 = .ok (.aload_n 0, 1) := by decide +kernel
theorem dX11_lists_6 : decode cX11_lists 6 = .ok (.aload_n 0, 1) := by decide +kernel
theorem dX11_lists_7 : decode cX11_lists 7 = .ok (.getfield 217, 3) := by decide +kernel
theorem dX11_lists_10 : decode cX11_lists 10 = .ok (.putfield 222, 3) := by decide +kernel
theorem dX11_lists_13 : decode cX11_lists 13 = .ok (.aload_n 0, 1) := by decide +kernel
theorem dX11_lists_14 : decode cX11_lists 14 = .ok (.iconst 0, 1) := by decide +kernel
theorem dX11_lists_15 : decode cX11_lists 15 = .ok (.putfield 217, 3) := by decide +kernel
theorem dX11_lists_18 : decode cX11_lists 18 = .ok (.aload_n 0, 1) := by decide +kernel
theorem dX11_lists_19 : decode cX11_lists 19 = .ok (.iconst 0, 1) := by decide +kernel
theorem dX11_lists_20 : decode cX11_lists 20 = .ok (.putfield 225, 3) := by decide +kernel
theorem dX11_lists_23 : decode cX11_lists 23 = .ok (.aload_n 0, 1) := by decide +kernel
theorem dX11_lists_24 : decode cX11_lists 24 = .ok (.iconst 0, 1) := by decide +kernel
theorem dX11_lists_25 : decode cX11_lists 25 = .ok (.putfield 246, 3) := by decide +kernel
theorem dX11_lists_28 : decode cX11_lists 28 = .ok (.aload_n 0, 1) := by decide +kernel
theorem dX11_lists_29 : decode cX11_lists 29 = .ok (.aload_n 0, 1) := by decide +kernel
theorem dX11_lists_30 : decode cX11_lists 30 = .ok (.getfield 286, 3) := by decide +kernel
theorem dX11_lists_33 : decode cX11_lists 33 = .ok (.putfield 280, 3) := by decide +kernel
theorem dX11_lists_36 : decode cX11_lists 36 = .ok (.aload_n 0, 1) := by decide +kernel
theorem dX11_lists_37 : decode cX11_lists 37 = .ok (.invokevirtual 255, 3) := by decide +kernel
theorem dX11_lists_40 : decode cX11_lists 40 = .ok (.aload_n 0, 1) := by decide +kernel
theorem dX11_lists_41 : decode cX11_lists 41 = .ok (.getfield 246, 3) := by decide +kernel
theorem dX11_lists_44 : decode cX11_lists 44 = .ok (.ifCond .ne 112, 3) := by decide +kernel
theorem dX11_lists_47 : decode cX11_lists 47 = .ok (.aload_n 0, 1) := by decide +kernel
theorem dX11_lists_48 : decode cX11_lists 48 = .ok (.getfield 234, 3) := by decide +kernel
theorem dX11_lists_51 : decode cX11_lists 51 = .ok (.iconst 1, 1) := by decide +kernel
theorem dX11_lists_52 : decode cX11_lists 52 = .ok (.if_icmp .eq 104, 3) := by decide +kernel
theorem dX11_lists_55 : decode cX11_lists 55 = .ok (.aload_n 0, 1) := by decide +kernel
theorem dX11_lists_56 : decode cX11_lists 56 = .ok (.aload_n 0, 1) := by decide +kernel
theorem dX11_lists_57 : decode cX11_lists 57 = .ok (.invokevirtual 262, 3) := by decide +kernel
theorem dX11_lists_60 : decode cX11_lists 60 = .ok (.ldc2_w 289, 3) := by decide +kernel
theorem dX11_lists_63 : decode cX11_lists 63 = .ok (.lcmp, 1) := by decide +kernel
theorem dX11_lists_64 : decode cX11_lists 64 = .ok (.ifCond .ne 7, 3) := by decide +kernel
theorem dX11_lists_67 : decode cX11_lists 67 = .ok (.iconst 1, 1) := by decide +kernel
theorem dX11_lists_68 : decode cX11_lists 68 = .ok (.goto 4, 3) := by decide +kernel
theorem dX11_lists_71 : decode cX11_lists 71 = .ok (.iconst 0, 1) := by decide +kernel
theorem dX11_lists_72 : decode cX11_lists 72 = .ok (.invokevirtual 258, 3) := by decide +kernel
theorem dX11_lists_75 : decode cX11_lists 75 = .ok (.aload_n 0, 1) := by decide +kernel
theorem dX11_lists_76 : decode cX11_lists 76 = .ok (.bipush 99, 2) := by decide +kernel
theorem dX11_lists_78 : decode cX11_lists 78 = .ok (.invokevirtual 283, 3) := by decide +kernel
theorem dX11_lists_81 : decode cX11_lists 81 = .ok (.istore_n 1, 1) := by decide +kernel
theorem dX11_lists_82 : decode cX11_lists 82 = .ok (.aload_n 0, 1) := by decide +kernel
theorem dX11_lists_83 : decode cX11_lists 83 = .ok (.getfield 246, 3) := by decide +kernel
theorem dX11_lists_86 : decode cX11_lists 86 = .ok (.ifCond .ne 7, 3) := by decide +kernel
theorem dX11_lists_89 : decode cX11_lists 89 = .ok (.iconst 1, 1) := by decide +kernel
theorem dX11_lists_90 : decode cX11_lists 90 = .ok (.goto 4, 3) := by decide +kernel
theorem dX11_lists_93 : decode cX11_lists 93 = .ok (.iconst 0, 1) := by decide +kernel
theorem dX11_lists_94 : decode cX11_lists 94 = .ok (.istore_n 2, 1) := by decide +kernel
theorem dX11_lists_95 : decode cX11_lists 95 = .ok (.iload_n 2, 1) := by decide +kernel
theorem dX11_lists_96 : decode cX11_lists 96 = .ok (.ifCond .eq 33, 3) := by decide +kernel
theorem dX11_lists_99 : decode cX11_lists 99 = .ok (.aload_n 0, 1) := by decide +kernel
theorem dX11_lists_100 : decode cX11_lists 100 = .ok (.iload_n 1, 1) := by decide +kernel
theorem dX11_lists_101 : decode cX11_lists 101 = .ok (.invokevirtual 291, 3) := by decide +kernel
theorem dX11_lists_104 : decode cX11_lists 104 = .ok (.aload_n 0, 1) := by decide +kernel
theorem dX11_lists_105 : decode cX11_lists 105 = .ok (.getfield 246, 3) := by decide +kernel
theorem dX11_lists_108 : decode cX11_lists 108 = .ok (.ifCond .ne 16, 3) := by decide +kernel
theorem dX11_lists_111 : decode cX11_lists 111 = .ok (.aload_n 0, 1) := by decide +kernel
theorem dX11_lists_112 : decode cX11_lists 112 = .ok (.invokevirtual 276, 3) := by decide +kernel
theorem dX11_lists_115 : decode cX11_lists 115 = .ok (.ldc 69, 2) := by decide +kernel
theorem dX11_lists_117 : decode cX11_lists 117 = .ok (.if_icmp .eq 7, 3) := by decide +kernel
theorem dX11_lists_120 : decode cX11_lists 120 = .ok (.iconst 1, 1) := by decide +kernel
theorem dX11_lists_121 : decode cX11_lists 121 = .ok (.goto 4, 3) := by decide +kernel
theorem dX11_lists_124 : decode cX11_lists 124 = .ok (.iconst 0, 1) := by decide +kernel
theorem dX11_lists_125 : decode cX11_lists 125 = .ok (.istore_n 2, 1) := by decide +kernel
theorem dX11_lists_126 : decode cX11_lists 126 = .ok (.goto (-31), 3) := by decide +kernel
theorem dX11_lists_129 : decode cX11_lists 129 = .ok (.aload_n 0, 1) := by decide +kernel
theorem dX11_lists_130 : decode cX11_lists 130 = .ok (.getfield 246, 3) := by decide +kernel
theorem dX11_lists_133 : decode cX11_lists 133 = .ok (.ifCond .ne 20, 3) := by decide +kernel
theorem dX11_lists_136 : decode cX11_lists 136 = .ok (.aload_n 0, 1) := by decide +kernel
theorem dX11_lists_137 : decode cX11_lists 137 = .ok (.aload_n 0, 1) := by decide +kernel
theorem dX11_lists_138 : decode cX11_lists 138 = .ok (.getfield 234, 3) := by decide +kernel
theorem dX11_lists_141 : decode cX11_lists 141 = .ok (.iconst 4, 1) := by decide +kernel
theorem dX11_lists_142 : decode cX11_lists 142 = .ok (.if_icmp .ne 7, 3) := by decide +kernel
theorem dX11_lists_145 : decode cX11_lists 145 = .ok (.iconst 1, 1) := by decide +kernel
theorem dX11_lists_146 : decode cX11_lists 146 = .ok (.goto 4, 3) := by decide +kernel
theorem dX11_lists_149 : decode cX11_lists 149 = .ok (.iconst 0, 1) := by decide +kernel
theorem dX11_lists_150 : decode cX11_lists 150 = .ok (.invokevirtual 258, 3) := by decide +kernel
theorem dX11_lists_153 : decode cX11_lists 153 = .ok (.goto (-113), 3) := by decide +kernel
theorem dX11_lists_156 : decode cX11_lists 156 = .ok (.aload_n 0, 1) := by decide +kernel
theorem dX11_lists_157 : decode cX11_lists 157 = .ok (.getfield 246, 3) := by decide +kernel
theorem dX11_lists_160 : decode cX11_lists 160 = .ok (.ifCond .le 20, 3) := by decide +kernel
theorem dX11_lists_163 : decode cX11_lists 163 = .ok (.aload_n 0, 1) := by decide +kernel
theorem dX11_lists_164 : decode cX11_lists 164 = .ok (.aload_n 0, 1) := by decide +kernel
theorem dX11_lists_165 : decode cX11_lists 165 = .ok (.getfield 246, 3) := by decide +kernel
theorem dX11_lists_168 : decode cX11_lists 168 = .ok (.putfield 294, 3) := by decide +kernel
theorem dX11_lists_171 : decode cX11_lists 171 = .ok (.ldc_w 297, 3) := by decide +kernel
theorem dX11_lists_174 : decode cX11_lists 174 = .ok (.aload_n 0, 1) := by decide +kernel
theorem dX11_lists_175 : decode cX11_lists 175 = .ok (.getfield 249, 3) := by decide +kernel
theorem dX11_lists_178 : decode cX11_lists 178 = .ok (.isub, 1) := by decide +kernel
theorem dX11_lists_179 : decode cX11_lists 179 = .ok (.ireturn, 1) := by decide +kernel
theorem dX11_lists_180 : decode cX11_lists 180 = .ok (.aload_n 0, 1) := by decide +kernel
theorem dX11_lists_181 : decode cX11_lists 181 = .ok (.aload_n 0, 1) := by decide +kernel
theorem dX11_lists_182 : decode cX11_lists 182 = .ok (.getfield 280, 3) := by decide +kernel
theorem dX11_lists_185 : decode cX11_lists 185 = .ok (.putfield 286, 3) := by decide +kernel
theorem dX11_lists_188 : decode cX11_lists 188 = .ok (.aload_n 0, 1) := by decide +kernel
theorem dX11_lists_189 : decode cX11_lists 189 = .ok (.getfield 286, 3) := by decide +kernel
theorem dX11_lists_192 : decode cX11_lists 192 = .ok (.ireturn, 1) := by decide +kernel
theorem dX11_fault_0 : decode cX11_fault 0 = .ok (.aload_n 0, 1) := by decide +kernel
theorem dX11_fault_1 : decode cX11_fault 1 = .ok (.iconst 0, 1) := by decide +kernel
theorem dX11_fault_2 : decode cX11_fault 2 = .ok (.putfield 1, 3) := by decide +kernel
theorem dX11_fault_5 : decode cX11_fault 5 = .ok (.aload_n 0, 1) := by decide +kernel
theorem dX11_fault_6 : decode cX11_fault 6 = .ok (.getfield 294, 3) := by decide +kernel
theorem dX11_fault_9 : decode cX11_fault 9 = .ok (.ireturn, 1) := by decide +kernel
theorem dX11_numberFor_0 : decode cX11_numberFor 0 = .ok (.ldc 69, 2) := by decide +kernel
theorem dX11_numberFor_2 : decode cX11_numberFor 2 = .ok (.istore 4, 2) := by decide +kernel
theorem dX11_numberFor_4 : decode cX11_numberFor 4 = .ok (.iconst 0, 1) := by decide +kernel
theorem dX11_numberFor_5 : decode cX11_numberFor 5 = .ok (.istore 5, 2) := by decide +kernel
theorem dX11_numberFor_7 : decode cX11_numberFor 7 = .ok (.iload 5, 2) := by decide +kernel
theorem dX11_numberFor_9 : decode cX11_numberFor 9 = .ok (.aload_n 0, 1) := by decide +kernel
theorem dX11_numberFor_10 : decode cX11_numberFor 10 = .ok (.getfield 286, 3) := by decide +kernel
theorem dX11_numberFor_13 : decode cX11_numberFor 13 = .ok (.if_icmp .ge 87, 3) := by decide +kernel
theorem dX11_numberFor_16 : decode cX11_numberFor 16 = .ok (.aload_n 0, 1) := by decide +kernel
theorem dX11_numberFor_17 : decode cX11_numberFor 17 = .ok (.getfield 76, 3) := by decide +kernel
theorem dX11_numberFor_20 : decode cX11_numberFor 20 = .ok (.iload 5, 2) := by decide +kernel
theorem dX11_numberFor_22 : decode cX11_numberFor 22 = .ok (.iaload, 1) := by decide +kernel
theorem dX11_numberFor_23 : decode cX11_numberFor 23 = .ok (.iload_n 2, 1) := by decide +kernel
theorem dX11_numberFor_24 : decode cX11_numberFor 24 = .ok (.if_icmp .ne 29, 3) := by decide +kernel
theorem dX11_numberFor_27 : decode cX11_numberFor 27 = .ok (.aload_n 0, 1) := by decide +kernel
theorem dX11_numberFor_28 : decode cX11_numberFor 28 = .ok (.getfield 79, 3) := by decide +kernel
theorem dX11_numberFor_31 : decode cX11_numberFor 31 = .ok (.iload 5, 2) := by decide +kernel
theorem dX11_numberFor_33 : decode cX11_numberFor 33 = .ok (.iaload, 1) := by decide +kernel
theorem dX11_numberFor_34 : decode cX11_numberFor 34 = .ok (.iload_n 3, 1) := by decide +kernel
theorem dX11_numberFor_35 : decode cX11_numberFor 35 = .ok (.if_icmp .ne 18, 3) := by decide +kernel
theorem dX11_numberFor_38 : decode cX11_numberFor 38 = .ok (.aload_n 0, 1) := by decide +kernel
theorem dX11_numberFor_39 : decode cX11_numberFor 39 = .ok (.getfield 73, 3) := by decide +kernel
theorem dX11_numberFor_42 : decode cX11_numberFor 42 = .ok (.iload 5, 2) := by decide +kernel
theorem dX11_numberFor_44 : decode cX11_numberFor 44 = .ok (.iaload, 1) := by decide +kernel
theorem dX11_numberFor_45 : decode cX11_numberFor 45 = .ok (.iload_n 1, 1) := by decide +kernel
theorem dX11_numberFor_46 : decode cX11_numberFor 46 = .ok (.if_icmp .gt 7, 3) := by decide +kernel
theorem dX11_numberFor_49 : decode cX11_numberFor 49 = .ok (.iconst 1, 1) := by decide +kernel
theorem dX11_numberFor_50 : decode cX11_numberFor 50 = .ok (.goto 4, 3) := by decide +kernel
theorem dX11_numberFor_53 : decode cX11_numberFor 53 = .ok (.iconst 0, 1) := by decide +kernel
theorem dX11_numberFor_54 : decode cX11_numberFor 54 = .ok (.istore 6, 2) := by decide +kernel
theorem dX11_numberFor_56 : decode cX11_numberFor 56 = .ok (.iload 6, 2) := by decide +kernel
theorem dX11_numberFor_58 : decode cX11_numberFor 58 = .ok (.ifCond .eq 32, 3) := by decide +kernel
theorem dX11_numberFor_61 : decode cX11_numberFor 61 = .ok (.iload 4, 2) := by decide +kernel
theorem dX11_numberFor_63 : decode cX11_numberFor 63 = .ok (.ldc 69, 2) := by decide +kernel
theorem dX11_numberFor_65 : decode cX11_numberFor 65 = .ok (.if_icmp .eq 20, 3) := by decide +kernel
theorem dX11_numberFor_68 : decode cX11_numberFor 68 = .ok (.aload_n 0, 1) := by decide +kernel
theorem dX11_numberFor_69 : decode cX11_numberFor 69 = .ok (.getfield 73, 3) := by decide +kernel
theorem dX11_numberFor_72 : decode cX11_numberFor 72 = .ok (.iload 5, 2) := by decide +kernel
theorem dX11_numberFor_74 : decode cX11_numberFor 74 = .ok (.iaload, 1) := by decide +kernel
theorem dX11_numberFor_75 : decode cX11_numberFor 75 = .ok (.aload_n 0, 1) := by decide +kernel
theorem dX11_numberFor_76 : decode cX11_numberFor 76 = .ok (.getfield 73, 3) := by decide +kernel
theorem dX11_numberFor_79 : decode cX11_numberFor 79 = .ok (.iload 4, 2) := by decide +kernel
theorem dX11_numberFor_81 : decode cX11_numberFor 81 = .ok (.iaload, 1) := by decide +kernel
theorem dX11_numberFor_82 : decode cX11_numberFor 82 = .ok (.if_icmp .lt 8, 3) := by decide +kernel
theorem dX11_numberFor_85 : decode cX11_numberFor 85 = .ok (.iload 5, 2) := by decide +kernel
theorem dX11_numberFor_87 : decode cX11_numberFor 87 = .ok (.goto 5, 3) := by decide +kernel
theorem dX11_numberFor_90 : decode cX11_numberFor 90 = .ok (.iload 4, 2) := by decide +kernel
theorem dX11_numberFor_92 : decode cX11_numberFor 92 = .ok (.istore 4, 2) := by decide +kernel
theorem dX11_numberFor_94 : decode cX11_numberFor 94 = .ok (.iinc 5 1, 3) := by decide +kernel
theorem dX11_numberFor_97 : decode cX11_numberFor 97 = .ok (.goto (-90), 3) := by decide +kernel
theorem dX11_numberFor_100 : decode cX11_numberFor 100 = .ok (.iload 4, 2) := by decide +kernel
theorem dX11_numberFor_102 : decode cX11_numberFor 102 = .ok (.ldc 69, 2) := by decide +kernel
theorem dX11_numberFor_104 : decode cX11_numberFor 104 = .ok (.if_icmp .ne 7, 3) := by decide +kernel
theorem dX11_numberFor_107 : decode cX11_numberFor 107 = .ok (.iconst 0, 1) := by decide +kernel
theorem dX11_numberFor_108 : decode cX11_numberFor 108 = .ok (.goto 10, 3) := by decide +kernel
theorem dX11_numberFor_111 : decode cX11_numberFor 111 = .ok (.aload_n 0, 1) := by decide +kernel
theorem dX11_numberFor_112 : decode cX11_numberFor 112 = .ok (.getfield 82, 3) := by decide +kernel
theorem dX11_numberFor_115 : decode cX11_numberFor 115 = .ok (.iload 4, 2) := by decide +kernel
theorem dX11_numberFor_117 : decode cX11_numberFor 117 = .ok (.iaload, 1) := by decide +kernel
theorem dX11_numberFor_118 : decode cX11_numberFor 118 = .ok (.ireturn, 1) := by decide +kernel
theorem dX11_earnOn_0 : decode cX11_earnOn 0 = .ok (.sipush 3000, 3) := by decide +kernel
theorem dX11_earnOn_3 : decode cX11_earnOn 3 = .ok (.bipush 50, 2) := by decide +kernel
theorem dX11_earnOn_5 : decode cX11_earnOn 5 = .ok (.aload_n 0, 1) := by decide +kernel
theorem dX11_earnOn_6 : decode cX11_earnOn 6 = .ok (.getfield 30, 3) := by decide +kernel
theorem dX11_earnOn_9 : decode cX11_earnOn 9 = .ok (.iload_n 1, 1) := by decide +kernel
theorem dX11_earnOn_10 : decode cX11_earnOn 10 = .ok (.iaload, 1) := by decide +kernel
theorem dX11_earnOn_11 : decode cX11_earnOn 11 = .ok (.iadd, 1) := by decide +kernel
theorem dX11_earnOn_12 : decode cX11_earnOn 12 = .ok (.idiv, 1) := by decide +kernel
theorem dX11_earnOn_13 : decode cX11_earnOn 13 = .ok (.aload_n 0, 1) := by decide +kernel
theorem dX11_earnOn_14 : decode cX11_earnOn 14 = .ok (.iload_n 2, 1) := by decide +kernel
theorem dX11_earnOn_15 : decode cX11_earnOn 15 = .ok (.iconst 0, 1) := by decide +kernel
theorem dX11_earnOn_16 : decode cX11_earnOn 16 = .ok (.iload_n 1, 1) := by decide +kernel
theorem dX11_earnOn_17 : decode cX11_earnOn 17 = .ok (.invokevirtual 298, 3) := by decide +kernel
theorem dX11_earnOn_20 : decode cX11_earnOn 20 = .ok (.imul, 1) := by decide +kernel
theorem dX11_earnOn_21 : decode cX11_earnOn 21 = .ok (.ireturn, 1) := by decide +kernel
theorem dX11_findFirst_0 : decode cX11_findFirst 0 = .ok (.iconst 0, 1) := by decide +kernel
theorem dX11_findFirst_1 : decode cX11_findFirst 1 = .ok (.istore_n 2, 1) := by decide +kernel
theorem dX11_findFirst_2 : decode cX11_findFirst 2 = .ok (.aload_n 0, 1) := by decide +kernel
theorem dX11_findFirst_3 : decode cX11_findFirst 3 = .ok (.iconst 0, 1) := by decide +kernel
theorem dX11_findFirst_4 : decode cX11_findFirst 4 = .ok (.putfield 302, 3) := by decide +kernel
theorem dX11_findFirst_7 : decode cX11_findFirst 7 = .ok (.iconst 0, 1) := by decide +kernel
theorem dX11_findFirst_8 : decode cX11_findFirst 8 = .ok (.istore_n 3, 1) := by decide +kernel
theorem dX11_findFirst_9 : decode cX11_findFirst 9 = .ok (.iload_n 3, 1) := by decide +kernel
theorem dX11_findFirst_10 : decode cX11_findFirst 10 = .ok (.iload_n 1, 1) := by decide +kernel
theorem dX11_findFirst_11 : decode cX11_findFirst 11 = .ok (.if_icmp .gt 101, 3) := by decide +kernel
theorem dX11_findFirst_14 : decode cX11_findFirst 14 = .ok (.iconst 0, 1) := by decide +kernel
theorem dX11_findFirst_15 : decode cX11_findFirst 15 = .ok (.istore 4, 2) := by decide +kernel
theorem dX11_findFirst_17 : decode cX11_findFirst 17 = .ok (.iload 4, 2) := by decide +kernel
theorem dX11_findFirst_19 : decode cX11_findFirst 19 = .ok (.aload_n 0, 1) := by decide +kernel
theorem dX11_findFirst_20 : decode cX11_findFirst 20 = .ok (.getfield 286, 3) := by decide +kernel
theorem dX11_findFirst_23 : decode cX11_findFirst 23 = .ok (.if_icmp .ge 83, 3) := by decide +kernel
theorem dX11_findFirst_26 : decode cX11_findFirst 26 = .ok (.aload_n 0, 1) := by decide +kernel
theorem dX11_findFirst_27 : decode cX11_findFirst 27 = .ok (.getfield 76, 3) := by decide +kernel
theorem dX11_findFirst_30 : decode cX11_findFirst 30 = .ok (.iload 4, 2) := by decide +kernel
theorem dX11_findFirst_32 : decode cX11_findFirst 32 = .ok (.iaload, 1) := by decide +kernel
theorem dX11_findFirst_33 : decode cX11_findFirst 33 = .ok (.iconst 4, 1) := by decide +kernel
theorem dX11_findFirst_34 : decode cX11_findFirst 34 = .ok (.if_icmp .ne 66, 3) := by decide +kernel
theorem dX11_findFirst_37 : decode cX11_findFirst 37 = .ok (.aload_n 0, 1) := by decide +kernel
theorem dX11_findFirst_38 : decode cX11_findFirst 38 = .ok (.getfield 73, 3) := by decide +kernel
theorem dX11_findFirst_41 : decode cX11_findFirst 41 = .ok (.iload 4, 2) := by decide +kernel
theorem dX11_findFirst_43 : decode cX11_findFirst 43 = .ok (.iaload, 1) := by decide +kernel
theorem dX11_findFirst_44 : decode cX11_findFirst 44 = .ok (.iload_n 3, 1) := by decide +kernel
theorem dX11_findFirst_45 : decode cX11_findFirst 45 = .ok (.if_icmp .ne 55, 3) := by decide +kernel
theorem dX11_findFirst_48 : decode cX11_findFirst 48 = .ok (.iload_n 2, 1) := by decide +kernel
theorem dX11_findFirst_49 : decode cX11_findFirst 49 = .ok (.aload_n 0, 1) := by decide +kernel
theorem dX11_findFirst_50 : decode cX11_findFirst 50 = .ok (.getfield 79, 3) := by decide +kernel
theorem dX11_findFirst_53 : decode cX11_findFirst 53 = .ok (.iload 4, 2) := by decide +kernel
theorem dX11_findFirst_55 : decode cX11_findFirst 55 = .ok (.iaload, 1) := by decide +kernel
theorem dX11_findFirst_56 : decode cX11_findFirst 56 = .ok (.ishr, 1) := by decide +kernel
theorem dX11_findFirst_57 : decode cX11_findFirst 57 = .ok (.iconst 1, 1) := by decide +kernel
theorem dX11_findFirst_58 : decode cX11_findFirst 58 = .ok (.iand, 1) := by decide +kernel
theorem dX11_findFirst_59 : decode cX11_findFirst 59 = .ok (.ifCond .ne 41, 3) := by decide +kernel
theorem dX11_findFirst_62 : decode cX11_findFirst 62 = .ok (.iload_n 2, 1) := by decide +kernel
theorem dX11_findFirst_63 : decode cX11_findFirst 63 = .ok (.iconst 1, 1) := by decide +kernel
theorem dX11_findFirst_64 : decode cX11_findFirst 64 = .ok (.aload_n 0, 1) := by decide +kernel
theorem dX11_findFirst_65 : decode cX11_findFirst 65 = .ok (.getfield 79, 3) := by decide +kernel
theorem dX11_findFirst_68 : decode cX11_findFirst 68 = .ok (.iload 4, 2) := by decide +kernel
theorem dX11_findFirst_70 : decode cX11_findFirst 70 = .ok (.iaload, 1) := by decide +kernel
theorem dX11_findFirst_71 : decode cX11_findFirst 71 = .ok (.ishl, 1) := by decide +kernel
theorem dX11_findFirst_72 : decode cX11_findFirst 72 = .ok (.ior, 1) := by decide +kernel
theorem dX11_findFirst_73 : decode cX11_findFirst 73 = .ok (.istore_n 2, 1) := by decide +kernel
theorem dX11_findFirst_74 : decode cX11_findFirst 74 = .ok (.aload_n 0, 1) := by decide +kernel
theorem dX11_findFirst_75 : decode cX11_findFirst 75 = .ok (.getfield 88, 3) := by decide +kernel
theorem dX11_findFirst_78 : decode cX11_findFirst 78 = .ok (.aload_n 0, 1) := by decide +kernel
theorem dX11_findFirst_79 : decode cX11_findFirst 79 = .ok (.getfield 302, 3) := by decide +kernel
theorem dX11_findFirst_82 : decode cX11_findFirst 82 = .ok (.aload_n 0, 1) := by decide +kernel
theorem dX11_findFirst_83 : decode cX11_findFirst 83 = .ok (.getfield 79, 3) := by decide +kernel
theorem dX11_findFirst_86 : decode cX11_findFirst 86 = .ok (.iload 4, 2) := by decide +kernel
theorem dX11_findFirst_88 : decode cX11_findFirst 88 = .ok (.iaload, 1) := by decide +kernel
theorem dX11_findFirst_89 : decode cX11_findFirst 89 = .ok (.iastore, 1) := by decide +kernel
theorem dX11_findFirst_90 : decode cX11_findFirst 90 = .ok (.aload_n 0, 1) := by decide +kernel
theorem dX11_findFirst_91 : decode cX11_findFirst 91 = .ok (.dup, 1) := by decide +kernel
theorem dX11_findFirst_92 : decode cX11_findFirst 92 = .ok (.getfield 302, 3) := by decide +kernel
theorem dX11_findFirst_95 : decode cX11_findFirst 95 = .ok (.iconst 1, 1) := by decide +kernel
theorem dX11_findFirst_96 : decode cX11_findFirst 96 = .ok (.iadd, 1) := by decide +kernel
theorem dX11_findFirst_97 : decode cX11_findFirst 97 = .ok (.putfield 302, 3) := by decide +kernel
theorem dX11_findFirst_100 : decode cX11_findFirst 100 = .ok (.iinc 4 1, 3) := by decide +kernel
theorem dX11_findFirst_103 : decode cX11_findFirst 103 = .ok (.goto (-86), 3) := by decide +kernel
theorem dX11_findFirst_106 : decode cX11_findFirst 106 = .ok (.iinc 3 1, 3) := by decide +kernel
theorem dX11_findFirst_109 : decode cX11_findFirst 109 = .ok (.goto (-100), 3) := by decide +kernel
theorem dX11_findFirst_112 : decode cX11_findFirst 112 = .ok (.iload_n 2, 1) := by decide +kernel
theorem dX11_findFirst_113 : decode cX11_findFirst 113 = .ok (.ireturn, 1) := by decide +kernel
theorem dX11_holds_0 : decode cX11_holds 0 = .ok (.aload_n 0, 1) := by decide +kernel
theorem dX11_holds_1 : decode cX11_holds 1 = .ok (.iconst 0, 1) := by decide +kernel
theorem dX11_holds_2 : decode cX11_holds 2 = .ok (.putfield 1, 3) := by decide +kernel
theorem dX11_holds_5 : decode cX11_holds 5 = .ok (.iload_n 1, 1) := by decide +kernel
theorem dX11_holds_6 : decode cX11_holds 6 = .ok (.invokestatic 164, 3) := by decide +kernel
theorem dX11_holds_9 : decode cX11_holds 9 = .ok (.ifCond .ne 6, 3) := by decide +kernel
theorem dX11_holds_12 : decode cX11_holds 12 = .ok (.ldc 136, 2) := by decide +kernel
theorem dX11_holds_14 : decode cX11_holds 14 = .ok (.ireturn, 1) := by decide +kernel
theorem dX11_holds_15 : decode cX11_holds 15 = .ok (.iload_n 2, 1) := by decide +kernel
theorem dX11_holds_16 : decode cX11_holds 16 = .ok (.i2l, 1) := by decide +kernel
theorem dX11_holds_17 : decode cX11_holds 17 = .ok (.lconst 0, 1) := by decide +kernel
theorem dX11_holds_18 : decode cX11_holds 18 = .ok (.ldc2_w 141, 3) := by decide +kernel
theorem dX11_holds_21 : decode cX11_holds 21 = .ok (.invokestatic 126, 3) := by decide +kernel
theorem dX11_holds_24 : decode cX11_holds 24 = .ok (.ifCond .eq 13, 3) := by decide +kernel
theorem dX11_holds_27 : decode cX11_holds 27 = .ok (.aload_n 0, 1) := by decide +kernel
theorem dX11_holds_28 : decode cX11_holds 28 = .ok (.iload_n 1, 1) := by decide +kernel
theorem dX11_holds_29 : decode cX11_holds 29 = .ok (.iconst 0, 1) := by decide +kernel
theorem dX11_holds_30 : decode cX11_holds 30 = .ok (.iload_n 2, 1) := by decide +kernel
theorem dX11_holds_31 : decode cX11_holds 31 = .ok (.invokevirtual 298, 3) := by decide +kernel
theorem dX11_holds_34 : decode cX11_holds 34 = .ok (.goto 91, 3) := by decide +kernel
theorem dX11_holds_37 : decode cX11_holds 37 = .ok (.iload_n 2, 1) := by decide +kernel
theorem dX11_holds_38 : decode cX11_holds 38 = .ok (.iconst 4, 1) := by decide +kernel
theorem dX11_holds_39 : decode cX11_holds 39 = .ok (.if_icmp .ne 13, 3) := by decide +kernel
theorem dX11_holds_42 : decode cX11_holds 42 = .ok (.aload_n 0, 1) := by decide +kernel
theorem dX11_holds_43 : decode cX11_holds 43 = .ok (.iload_n 1, 1) := by decide +kernel
theorem dX11_holds_44 : decode cX11_holds 44 = .ok (.iconst 1, 1) := by decide +kernel
theorem dX11_holds_45 : decode cX11_holds 45 = .ok (.iconst 0, 1) := by decide +kernel
theorem dX11_holds_46 : decode cX11_holds 46 = .ok (.invokevirtual 298, 3) := by decide +kernel
theorem dX11_holds_49 : decode cX11_holds 49 = .ok (.goto 76, 3) := by decide +kernel
theorem dX11_holds_52 : decode cX11_holds 52 = .ok (.iload_n 2, 1) := by decide +kernel
theorem dX11_holds_53 : decode cX11_holds 53 = .ok (.iconst 5, 1) := by decide +kernel
theorem dX11_holds_54 : decode cX11_holds 54 = .ok (.if_icmp .ne 13, 3) := by decide +kernel
theorem dX11_holds_57 : decode cX11_holds 57 = .ok (.aload_n 0, 1) := by decide +kernel
theorem dX11_holds_58 : decode cX11_holds 58 = .ok (.iload_n 1, 1) := by decide +kernel
theorem dX11_holds_59 : decode cX11_holds 59 = .ok (.iconst 2, 1) := by decide +kernel
theorem dX11_holds_60 : decode cX11_holds 60 = .ok (.iconst 0, 1) := by decide +kernel
theorem dX11_holds_61 : decode cX11_holds 61 = .ok (.invokevirtual 298, 3) := by decide +kernel
theorem dX11_holds_64 : decode cX11_holds 64 = .ok (.goto 61, 3) := by decide +kernel
theorem dX11_holds_67 : decode cX11_holds 67 = .ok (.iload_n 2, 1) := by decide +kernel
theorem dX11_holds_68 : decode cX11_holds 68 = .ok (.bipush 6, 2) := by decide +kernel
theorem dX11_holds_70 : decode cX11_holds 70 = .ok (.if_icmp .ne 13, 3) := by decide +kernel
theorem dX11_holds_73 : decode cX11_holds 73 = .ok (.aload_n 0, 1) := by decide +kernel
theorem dX11_holds_74 : decode cX11_holds 74 = .ok (.iload_n 1, 1) := by decide +kernel
theorem dX11_holds_75 : decode cX11_holds 75 = .ok (.iconst 3, 1) := by decide +kernel
theorem dX11_holds_76 : decode cX11_holds 76 = .ok (.iconst 0, 1) := by decide +kernel
theorem dX11_holds_77 : decode cX11_holds 77 = .ok (.invokevirtual 298, 3) := by decide +kernel
theorem dX11_holds_80 : decode cX11_holds 80 = .ok (.goto 45, 3) := by decide +kernel
theorem dX11_holds_83 : decode cX11_holds 83 = .ok (.iload_n 2, 1) := by decide +kernel
theorem dX11_holds_84 : decode cX11_holds 84 = .ok (.bipush 7, 2) := by decide +kernel
theorem dX11_holds_86 : decode cX11_holds 86 = .ok (.if_icmp .ne 11, 3) := by decide +kernel
theorem dX11_holds_89 : decode cX11_holds 89 = .ok (.aload_n 0, 1) := by decide +kernel
theorem dX11_holds_90 : decode cX11_holds 90 = .ok (.iload_n 1, 1) := by decide +kernel
theorem dX11_holds_91 : decode cX11_holds 91 = .ok (.invokevirtual 305, 3) := by decide +kernel
theorem dX11_holds_94 : decode cX11_holds 94 = .ok (.goto 31, 3) := by decide +kernel
theorem dX11_holds_97 : decode cX11_holds 97 = .ok (.iload_n 2, 1) := by decide +kernel
theorem dX11_holds_98 : decode cX11_holds 98 = .ok (.i2l, 1) := by decide +kernel
theorem dX11_holds_99 : decode cX11_holds 99 = .ok (.ldc2_w 308, 3) := by decide +kernel
theorem dX11_holds_102 : decode cX11_holds 102 = .ok (.ldc2_w 310, 3) := by decide +kernel
theorem dX11_holds_105 : decode cX11_holds 105 = .ok (.invokestatic 126, 3) := by decide +kernel
theorem dX11_holds_108 : decode cX11_holds 108 = .ok (.ifCond .eq 15, 3) := by decide +kernel
theorem dX11_holds_111 : decode cX11_holds 111 = .ok (.aload_n 0, 1) := by decide +kernel
theorem dX11_holds_112 : decode cX11_holds 112 = .ok (.iload_n 2, 1) := by decide +kernel
theorem dX11_holds_113 : decode cX11_holds 113 = .ok (.bipush 10, 2) := by decide +kernel
theorem dX11_holds_115 : decode cX11_holds 115 = .ok (.isub, 1) := by decide +kernel
theorem dX11_holds_116 : decode cX11_holds 116 = .ok (.iload_n 1, 1) := by decide +kernel
theorem dX11_holds_117 : decode cX11_holds 117 = .ok (.invokevirtual 312, 3) := by decide +kernel
theorem dX11_holds_120 : decode cX11_holds 120 = .ok (.goto 5, 3) := by decide +kernel
theorem dX11_holds_123 : decode cX11_holds 123 = .ok (.ldc 136, 2) := by decide +kernel
theorem dX11_holds_125 : decode cX11_holds 125 = .ok (.ireturn, 1) := by decide +kernel
theorem dX11_first_0 : decode cX11_first 0 = .ok (.aload_n 0, 1) := by decide +kernel
theorem dX11_first_1 : decode cX11_first 1 = .ok (.iconst 0, 1) := by decide +kernel
theorem dX11_first_2 : decode cX11_first 2 = .ok (.putfield 1, 3) := by decide +kernel
theorem dX11_first_5 : decode cX11_first 5 = .ok (.iload_n 1, 1) := by decide +kernel
theorem dX11_first_6 : decode cX11_first 6 = .ok (.invokestatic 164, 3) := by decide +kernel
theorem dX11_first_9 : decode cX11_first 9 = .ok (.ifCond .ne 6, 3) := by decide +kernel
theorem dX11_first_12 : decode cX11_first 12 = .ok (.ldc 136, 2) := by decide +kernel
theorem dX11_first_14 : decode cX11_first 14 = .ok (.ireturn, 1) := by decide +kernel
theorem dX11_first_15 : decode cX11_first 15 = .ok (.aload_n 0, 1) := by decide +kernel
theorem dX11_first_16 : decode cX11_first 16 = .ok (.iload_n 1, 1) := by decide +kernel
theorem dX11_first_17 : decode cX11_first 17 = .ok (.invokevirtual 305, 3) := by decide +kernel
theorem dX11_first_20 : decode cX11_first 20 = .ok (.istore_n 3, 1) := by decide +kernel
theorem dX11_first_21 : decode cX11_first 21 = .ok (.iload_n 2, 1) := by decide +kernel
theorem dX11_first_22 : decode cX11_first 22 = .ok (.i2l, 1) := by decide +kernel
theorem dX11_first_23 : decode cX11_first 23 = .ok (.lconst 0, 1) := by decide +kernel
theorem dX11_first_24 : decode cX11_first 24 = .ok (.aload_n 0, 1) := by decide +kernel
theorem dX11_first_25 : decode cX11_first 25 = .ok (.getfield 302, 3) := by decide +kernel
theorem dX11_first_28 : decode cX11_first 28 = .ok (.iconst 1, 1) := by decide +kernel
theorem dX11_first_29 : decode cX11_first 29 = .ok (.isub, 1) := by decide +kernel
theorem dX11_first_30 : decode cX11_first 30 = .ok (.i2l, 1) := by decide +kernel
theorem dX11_first_31 : decode cX11_first 31 = .ok (.invokestatic 126, 3) := by decide +kernel
theorem dX11_first_34 : decode cX11_first 34 = .ok (.ifCond .eq 12, 3) := by decide +kernel
theorem dX11_first_37 : decode cX11_first 37 = .ok (.aload_n 0, 1) := by decide +kernel
theorem dX11_first_38 : decode cX11_first 38 = .ok (.getfield 88, 3) := by decide +kernel
theorem dX11_first_41 : decode cX11_first 41 = .ok (.iload_n 2, 1) := by decide +kernel
theorem dX11_first_42 : decode cX11_first 42 = .ok (.iaload, 1) := by decide +kernel
theorem dX11_first_43 : decode cX11_first 43 = .ok (.goto 5, 3) := by decide +kernel
theorem dX11_first_46 : decode cX11_first 46 = .ok (.ldc 69, 2) := by decide +kernel
theorem dX11_first_48 : decode cX11_first 48 = .ok (.ireturn, 1) := by decide +kernel
theorem dX11_home_0 : decode cX11_home 0 = .ok (.aload_n 0, 1) := by decide +kernel
theorem dX11_home_1 : decode cX11_home 1 = .ok (.iconst 0, 1) := by decide +kernel
theorem dX11_home_2 : decode cX11_home 2 = .ok (.putfield 1, 3) := by decide +kernel
theorem dX11_home_5 : decode cX11_home 5 = .ok (.iload_n 1, 1) := by decide +kernel
theorem dX11_home_6 : decode cX11_home 6 = .ok (.invokestatic 130, 3) := by decide +kernel
theorem dX11_home_9 : decode cX11_home 9 = .ok (.ifCond .ne 6, 3) := by decide +kernel
theorem dX11_home_12 : decode cX11_home 12 = .ok (.ldc 136, 2) := by decide +kernel
theorem dX11_home_14 : decode cX11_home 14 = .ok (.ireturn, 1) := by decide +kernel
theorem dX11_home_15 : decode cX11_home 15 = .ok (.aload_n 0, 1) := by decide +kernel
theorem dX11_home_16 : decode cX11_home 16 = .ok (.getfield 202, 3) := by decide +kernel
theorem dX11_home_19 : decode cX11_home 19 = .ok (.bipush 12, 2) := by decide +kernel
theorem dX11_home_21 : decode cX11_home 21 = .ok (.if_icmp .ne 6, 3) := by decide +kernel
theorem dX11_home_24 : decode cX11_home 24 = .ok (.ldc 172, 2) := by decide +kernel
theorem dX11_home_26 : decode cX11_home 26 = .ok (.ireturn, 1) := by decide +kernel
theorem dX11_home_27 : decode cX11_home 27 = .ok (.aload_n 0, 1) := by decide +kernel
theorem dX11_home_28 : decode cX11_home 28 = .ok (.iload_n 1, 1) := by decide +kernel
theorem dX11_home_29 : decode cX11_home 29 = .ok (.iload_n 2, 1) := by decide +kernel
theorem dX11_home_30 : decode cX11_home 30 = .ok (.bipush 9, 2) := by decide +kernel
theorem dX11_home_32 : decode cX11_home 32 = .ok (.invokevirtual 316, 3) := by decide +kernel
theorem dX11_home_35 : decode cX11_home 35 = .ok (.istore_n 3, 1) := by decide +kernel
theorem dX11_home_36 : decode cX11_home 36 = .ok (.iload_n 3, 1) := by decide +kernel
theorem dX11_home_37 : decode cX11_home 37 = .ok (.ifCond .ge 5, 3) := by decide +kernel
theorem dX11_home_40 : decode cX11_home 40 = .ok (.iload_n 3, 1) := by decide +kernel
theorem dX11_home_41 : decode cX11_home 41 = .ok (.ireturn, 1) := by decide +kernel
theorem dX11_home_42 : decode cX11_home 42 = .ok (.bipush 80, 2) := by decide +kernel
theorem dX11_home_44 : decode cX11_home 44 = .ok (.iload_n 1, 1) := by decide +kernel
theorem dX11_home_45 : decode cX11_home 45 = .ok (.imul, 1) := by decide +kernel
theorem dX11_home_46 : decode cX11_home 46 = .ok (.iload_n 2, 1) := by decide +kernel
theorem dX11_home_47 : decode cX11_home 47 = .ok (.iadd, 1) := by decide +kernel
theorem dX11_home_48 : decode cX11_home 48 = .ok (.istore 4, 2) := by decide +kernel
theorem dX11_home_50 : decode cX11_home 50 = .ok (.aload_n 0, 1) := by decide +kernel
theorem dX11_home_51 : decode cX11_home 51 = .ok (.getfield 24, 3) := by decide +kernel
theorem dX11_home_54 : decode cX11_home 54 = .ok (.iload 4, 2) := by decide +kernel
theorem dX11_home_56 : decode cX11_home 56 = .ok (.iaload, 1) := by decide +kernel
theorem dX11_home_57 : decode cX11_home 57 = .ok (.i2l, 1) := by decide +kernel
theorem dX11_home_58 : decode cX11_home 58 = .ok (.lconst 0, 1) := by decide +kernel
theorem dX11_home_59 : decode cX11_home 59 = .ok (.ldc2_w 213, 3) := by decide +kernel
theorem dX11_home_62 : decode cX11_home 62 = .ok (.invokestatic 126, 3) := by decide +kernel
theorem dX11_home_65 : decode cX11_home 65 = .ok (.ifCond .eq 94, 3) := by decide +kernel
theorem dX11_home_68 : decode cX11_home 68 = .ok (.aload_n 0, 1) := by decide +kernel
theorem dX11_home_69 : decode cX11_home 69 = .ok (.getfield 24, 3) := by decide +kernel
theorem dX11_home_72 : decode cX11_home 72 = .ok (.iload 4, 2) := by decide +kernel
theorem dX11_home_74 : decode cX11_home 74 = .ok (.iconst 1, 1) := by decide +kernel
theorem dX11_home_75 : decode cX11_home 75 = .ok (.iadd, 1) := by decide +kernel
theorem dX11_home_76 : decode cX11_home 76 = .ok (.iaload, 1) := by decide +kernel
theorem dX11_home_77 : decode cX11_home 77 = .ok (.i2l, 1) := by decide +kernel
theorem dX11_home_78 : decode cX11_home 78 = .ok (.lconst 1, 1) := by decide +kernel
theorem dX11_home_79 : decode cX11_home 79 = .ok (.ldc2_w 319, 3) := by decide +kernel
theorem dX11_home_82 : decode cX11_home 82 = .ok (.invokestatic 126, 3) := by decide +kernel
theorem dX11_home_85 : decode cX11_home 85 = .ok (.ifCond .eq 74, 3) := by decide +kernel
theorem dX11_home_88 : decode cX11_home 88 = .ok (.aload_n 0, 1) := by decide +kernel
theorem dX11_home_89 : decode cX11_home 89 = .ok (.getfield 24, 3) := by decide +kernel
theorem dX11_home_92 : decode cX11_home 92 = .ok (.iload 4, 2) := by decide +kernel
theorem dX11_home_94 : decode cX11_home 94 = .ok (.iconst 2, 1) := by decide +kernel
theorem dX11_home_95 : decode cX11_home 95 = .ok (.iadd, 1) := by decide +kernel
theorem dX11_home_96 : decode cX11_home 96 = .ok (.iaload, 1) := by decide +kernel
theorem dX11_home_97 : decode cX11_home 97 = .ok (.i2l, 1) := by decide +kernel
theorem dX11_home_98 : decode cX11_home 98 = .ok (.lconst 0, 1) := by decide +kernel
theorem dX11_home_99 : decode cX11_home 99 = .ok (.aload_n 0, 1) := by decide +kernel
theorem dX11_home_100 : decode cX11_home 100 = .ok (.getfield 24, 3) := by decide +kernel
theorem dX11_home_103 : decode cX11_home 103 = .ok (.iload 4, 2) := by decide +kernel
theorem dX11_home_105 : decode cX11_home 105 = .ok (.iconst 1, 1) := by decide +kernel
theorem dX11_home_106 : decode cX11_home 106 = .ok (.iadd, 1) := by decide +kernel
theorem dX11_home_107 : decode cX11_home 107 = .ok (.iaload, 1) := by decide +kernel
theorem dX11_home_108 : decode cX11_home 108 = .ok (.i2l, 1) := by decide +kernel
theorem dX11_home_109 : decode cX11_home 109 = .ok (.invokestatic 126, 3) := by decide +kernel
theorem dX11_home_112 : decode cX11_home 112 = .ok (.ifCond .eq 47, 3) := by decide +kernel
theorem dX11_home_115 : decode cX11_home 115 = .ok (.aload_n 0, 1) := by decide +kernel
theorem dX11_home_116 : decode cX11_home 116 = .ok (.getfield 24, 3) := by decide +kernel
theorem dX11_home_119 : decode cX11_home 119 = .ok (.iload 4, 2) := by decide +kernel
theorem dX11_home_121 : decode cX11_home 121 = .ok (.iconst 3, 1) := by decide +kernel
theorem dX11_home_122 : decode cX11_home 122 = .ok (.iadd, 1) := by decide +kernel
theorem dX11_home_123 : decode cX11_home 123 = .ok (.iaload, 1) := by decide +kernel
theorem dX11_home_124 : decode cX11_home 124 = .ok (.i2l, 1) := by decide +kernel
theorem dX11_home_125 : decode cX11_home 125 = .ok (.lconst 0, 1) := by decide +kernel
theorem dX11_home_126 : decode cX11_home 126 = .ok (.ldc2_w 155, 3) := by decide +kernel
theorem dX11_home_129 : decode cX11_home 129 = .ok (.invokestatic 126, 3) := by decide +kernel
theorem dX11_home_132 : decode cX11_home 132 = .ok (.ifCond .eq 27, 3) := by decide +kernel
theorem dX11_home_135 : decode cX11_home 135 = .ok (.aload_n 0, 1) := by decide +kernel
theorem dX11_home_136 : decode cX11_home 136 = .ok (.getfield 24, 3) := by decide +kernel
theorem dX11_home_139 : decode cX11_home 139 = .ok (.iload 4, 2) := by decide +kernel
theorem dX11_home_141 : decode cX11_home 141 = .ok (.iconst 4, 1) := by decide +kernel
theorem dX11_home_142 : decode cX11_home 142 = .ok (.iadd, 1) := by decide +kernel
theorem dX11_home_143 : decode cX11_home 143 = .ok (.iaload, 1) := by decide +kernel
theorem dX11_home_144 : decode cX11_home 144 = .ok (.i2l, 1) := by decide +kernel
theorem dX11_home_145 : decode cX11_home 145 = .ok (.lconst 0, 1) := by decide +kernel
theorem dX11_home_146 : decode cX11_home 146 = .ok (.ldc2_w 143, 3) := by decide +kernel
theorem dX11_home_149 : decode cX11_home 149 = .ok (.invokestatic 126, 3) := by decide +kernel
theorem dX11_home_152 : decode cX11_home 152 = .ok (.ifCond .eq 7, 3) := by decide +kernel
theorem dX11_home_155 : decode cX11_home 155 = .ok (.iconst 1, 1) := by decide +kernel
theorem dX11_home_156 : decode cX11_home 156 = .ok (.goto 4, 3) := by decide +kernel
theorem dX11_home_159 : decode cX11_home 159 = .ok (.iconst 0, 1) := by decide +kernel
theorem dX11_home_160 : decode cX11_home 160 = .ok (.istore 5, 2) := by decide +kernel
theorem dX11_home_162 : decode cX11_home 162 = .ok (.iconst 5, 1) := by decide +kernel
theorem dX11_home_163 : decode cX11_home 163 = .ok (.istore 6, 2) := by decide +kernel
theorem dX11_home_165 : decode cX11_home 165 = .ok (.iload 6, 2) := by decide +kernel
theorem dX11_home_167 : decode cX11_home 167 = .ok (.bipush 9, 2) := by decide +kernel
theorem dX11_home_169 : decode cX11_home 169 = .ok (.if_icmp .ge 42, 3) := by decide +kernel
theorem dX11_home_172 : decode cX11_home 172 = .ok (.iload 5, 2) := by decide +kernel
theorem dX11_home_174 : decode cX11_home 174 = .ok (.ifCond .eq 28, 3) := by decide +kernel
theorem dX11_home_177 : decode cX11_home 177 = .ok (.aload_n 0, 1) := by decide +kernel
theorem dX11_home_178 : decode cX11_home 178 = .ok (.getfield 24, 3) := by decide +kernel
theorem dX11_home_181 : decode cX11_home 181 = .ok (.iload 4, 2) := by decide +kernel
theorem dX11_home_183 : decode cX11_home 183 = .ok (.iload 6, 2) := by decide +kernel
theorem dX11_home_185 : decode cX11_home 185 = .ok (.iadd, 1) := by decide +kernel
theorem dX11_home_186 : decode cX11_home 186 = .ok (.iaload, 1) := by decide +kernel
theorem dX11_home_187 : decode cX11_home 187 = .ok (.i2l, 1) := by decide +kernel
theorem dX11_home_188 : decode cX11_home 188 = .ok (.lconst 0, 1) := by decide +kernel
theorem dX11_home_189 : decode cX11_home 189 = .ok (.ldc2_w 321, 3) := by decide +kernel
theorem dX11_home_192 : decode cX11_home 192 = .ok (.invokestatic 126, 3) := by decide +kernel
theorem dX11_home_195 : decode cX11_home 195 = .ok (.ifCond .eq 7, 3) := by decide +kernel
theorem dX11_home_198 : decode cX11_home 198 = .ok (.iconst 1, 1) := by decide +kernel
theorem dX11_home_199 : decode cX11_home 199 = .ok (.goto 4, 3) := by decide +kernel
theorem dX11_home_202 : decode cX11_home 202 = .ok (.iconst 0, 1) := by decide +kernel
theorem dX11_home_203 : decode cX11_home 203 = .ok (.istore 5, 2) := by decide +kernel
theorem dX11_home_205 : decode cX11_home 205 = .ok (.iinc 6 1, 3) := by decide +kernel
theorem dX11_home_208 : decode cX11_home 208 = .ok (.goto (-43), 3) := by decide +kernel
theorem dX11_home_211 : decode cX11_home 211 = .ok (.iload 5, 2) := by decide +kernel
theorem dX11_home_213 : decode cX11_home 213 = .ok (.ifCond .ne 6, 3) := by decide +kernel
theorem dX11_home_216 : decode cX11_home 216 = .ok (.ldc 136, 2) := by decide +kernel
theorem dX11_home_218 : decode cX11_home 218 = .ok (.ireturn, 1) := by decide +kernel
theorem dX11_home_219 : decode cX11_home 219 = .ok (.aload_n 0, 1) := by decide +kernel
theorem dX11_home_220 : decode cX11_home 220 = .ok (.iconst 0, 1) := by decide +kernel
theorem dX11_home_221 : decode cX11_home 221 = .ok (.putfield 7, 3) := by decide +kernel
theorem dX11_home_224 : decode cX11_home 224 = .ok (.iconst 0, 1) := by decide +kernel
theorem dX11_home_225 : decode cX11_home 225 = .ok (.istore 6, 2) := by decide +kernel
theorem dX11_home_227 : decode cX11_home 227 = .ok (.iload 6, 2) := by decide +kernel
theorem dX11_home_229 : decode cX11_home 229 = .ok (.bipush 11, 2) := by decide +kernel
theorem dX11_home_231 : decode cX11_home 231 = .ok (.if_icmp .ge 45, 3) := by decide +kernel
theorem dX11_home_234 : decode cX11_home 234 = .ok (.aload_n 0, 1) := by decide +kernel
theorem dX11_home_235 : decode cX11_home 235 = .ok (.getfield 91, 3) := by decide +kernel
theorem dX11_home_238 : decode cX11_home 238 = .ok (.bipush 11, 2) := by decide +kernel
theorem dX11_home_240 : decode cX11_home 240 = .ok (.aload_n 0, 1) := by decide +kernel
theorem dX11_home_241 : decode cX11_home 241 = .ok (.getfield 202, 3) := by decide +kernel
theorem dX11_home_244 : decode cX11_home 244 = .ok (.imul, 1) := by decide +kernel
theorem dX11_home_245 : decode cX11_home 245 = .ok (.iload 6, 2) := by decide +kernel
theorem dX11_home_247 : decode cX11_home 247 = .ok (.iadd, 1) := by decide +kernel
theorem dX11_home_248 : decode cX11_home 248 = .ok (.iload 6, 2) := by decide +kernel
theorem dX11_home_250 : decode cX11_home 250 = .ok (.bipush 9, 2) := by decide +kernel
theorem dX11_home_252 : decode cX11_home 252 = .ok (.if_icmp .ge 16, 3) := by decide +kernel
theorem dX11_home_255 : decode cX11_home 255 = .ok (.aload_n 0, 1) := by decide +kernel
theorem dX11_home_256 : decode cX11_home 256 = .ok (.getfield 24, 3) := by decide +kernel
theorem dX11_home_259 : decode cX11_home 259 = .ok (.iload 4, 2) := by decide +kernel
theorem dX11_home_261 : decode cX11_home 261 = .ok (.iload 6, 2) := by decide +kernel
theorem dX11_home_263 : decode cX11_home 263 = .ok (.iadd, 1) := by decide +kernel
theorem dX11_home_264 : decode cX11_home 264 = .ok (.iaload, 1) := by decide +kernel
theorem dX11_home_265 : decode cX11_home 265 = .ok (.goto 4, 3) := by decide +kernel
theorem dX11_home_268 : decode cX11_home 268 = .ok (.iconst 0, 1) := by decide +kernel
theorem dX11_home_269 : decode cX11_home 269 = .ok (.iastore, 1) := by decide +kernel
theorem dX11_home_270 : decode cX11_home 270 = .ok (.iinc 6 1, 3) := by decide +kernel
theorem dX11_home_273 : decode cX11_home 273 = .ok (.goto (-46), 3) := by decide +kernel
theorem dX11_home_276 : decode cX11_home 276 = .ok (.aload_n 0, 1) := by decide +kernel
theorem dX11_home_277 : decode cX11_home 277 = .ok (.dup, 1) := by decide +kernel
theorem dX11_home_278 : decode cX11_home 278 = .ok (.getfield 202, 3) := by decide +kernel
theorem dX11_home_281 : decode cX11_home 281 = .ok (.iconst 1, 1) := by decide +kernel
theorem dX11_home_282 : decode cX11_home 282 = .ok (.iadd, 1) := by decide +kernel
theorem dX11_home_283 : decode cX11_home 283 = .ok (.putfield 202, 3) := by decide +kernel
theorem dX11_home_286 : decode cX11_home 286 = .ok (.aload_n 0, 1) := by decide +kernel
theorem dX11_home_287 : decode cX11_home 287 = .ok (.getfield 202, 3) := by decide +kernel
theorem dX11_home_290 : decode cX11_home 290 = .ok (.iconst 1, 1) := by decide +kernel
theorem dX11_home_291 : decode cX11_home 291 = .ok (.isub, 1) := by decide +kernel
theorem dX11_home_292 : decode cX11_home 292 = .ok (.ireturn, 1) := by decide +kernel
theorem dX11_house_0 : decode cX11_house 0 = .ok (.aload_n 0, 1) := by decide +kernel
theorem dX11_house_1 : decode cX11_house 1 = .ok (.iconst 0, 1) := by decide +kernel
theorem dX11_house_2 : decode cX11_house 2 = .ok (.putfield 1, 3) := by decide +kernel
theorem dX11_house_5 : decode cX11_house 5 = .ok (.iload_n 1, 1) := by decide +kernel
theorem dX11_house_6 : decode cX11_house 6 = .ok (.i2l, 1) := by decide +kernel
theorem dX11_house_7 : decode cX11_house 7 = .ok (.lconst 0, 1) := by decide +kernel
theorem dX11_house_8 : decode cX11_house 8 = .ok (.aload_n 0, 1) := by decide +kernel
theorem dX11_house_9 : decode cX11_house 9 = .ok (.getfield 202, 3) := by decide +kernel
theorem dX11_house_12 : decode cX11_house 12 = .ok (.iconst 1, 1) := by decide +kernel
theorem dX11_house_13 : decode cX11_house 13 = .ok (.isub, 1) := by decide +kernel
theorem dX11_house_14 : decode cX11_house 14 = .ok (.i2l, 1) := by decide +kernel
theorem dX11_house_15 : decode cX11_house 15 = .ok (.invokestatic 126, 3) := by decide +kernel
theorem dX11_house_18 : decode cX11_house 18 = .ok (.ifCond .eq 15, 3) := by decide +kernel
theorem dX11_house_21 : decode cX11_house 21 = .ok (.iload_n 2, 1) := by decide +kernel
theorem dX11_house_22 : decode cX11_house 22 = .ok (.i2l, 1) := by decide +kernel
theorem dX11_house_23 : decode cX11_house 23 = .ok (.lconst 0, 1) := by decide +kernel
theorem dX11_house_24 : decode cX11_house 24 = .ok (.ldc2_w 308, 3) := by decide +kernel
theorem dX11_house_27 : decode cX11_house 27 = .ok (.invokestatic 126, 3) := by decide +kernel
theorem dX11_house_30 : decode cX11_house 30 = .ok (.ifCond .ne 8, 3) := by decide +kernel
theorem dX11_house_33 : decode cX11_house 33 = .ok (.ldc 136, 2) := by decide +kernel
theorem dX11_house_35 : decode cX11_house 35 = .ok (.goto 14, 3) := by decide +kernel
theorem dX11_house_38 : decode cX11_house 38 = .ok (.aload_n 0, 1) := by decide +kernel
theorem dX11_house_39 : decode cX11_house 39 = .ok (.getfield 91, 3) := by decide +kernel
theorem dX11_house_42 : decode cX11_house 42 = .ok (.bipush 11, 2) := by decide +kernel
theorem dX11_house_44 : decode cX11_house 44 = .ok (.iload_n 1, 1) := by decide +kernel
theorem dX11_house_45 : decode cX11_house 45 = .ok (.imul, 1) := by decide +kernel
theorem dX11_house_46 : decode cX11_house 46 = .ok (.iload_n 2, 1) := by decide +kernel
theorem dX11_house_47 : decode cX11_house 47 = .ok (.iadd, 1) := by decide +kernel
theorem dX11_house_48 : decode cX11_house 48 = .ok (.iaload, 1) := by decide +kernel
theorem dX11_house_49 : decode cX11_house 49 = .ok (.ireturn, 1) := by decide +kernel
theorem dX11_sell_0 : decode cX11_sell 0 = .ok (.bipush 11, 2) := by decide +kernel
theorem dX11_sell_2 : decode cX11_sell 2 = .ok (.iload_n 1, 1) := by decide +kernel
theorem dX11_sell_3 : decode cX11_sell 3 = .ok (.imul, 1) := by decide +kernel
theorem dX11_sell_4 : decode cX11_sell 4 = .ok (.istore_n 3, 1) := by decide +kernel
theorem dX11_sell_5 : decode cX11_sell 5 = .ok (.aload_n 0, 1) := by decide +kernel
theorem dX11_sell_6 : decode cX11_sell 6 = .ok (.getfield 91, 3) := by decide +kernel
theorem dX11_sell_9 : decode cX11_sell 9 = .ok (.iload_n 3, 1) := by decide +kernel
theorem dX11_sell_10 : decode cX11_sell 10 = .ok (.iconst 3, 1) := by decide +kernel
theorem dX11_sell_11 : decode cX11_sell 11 = .ok (.iadd, 1) := by decide +kernel
theorem dX11_sell_12 : decode cX11_sell 12 = .ok (.iaload, 1) := by decide +kernel
theorem dX11_sell_13 : decode cX11_sell 13 = .ok (.ifCond .ge 35, 3) := by decide +kernel
theorem dX11_sell_16 : decode cX11_sell 16 = .ok (.aload_n 0, 1) := by decide +kernel
theorem dX11_sell_17 : decode cX11_sell 17 = .ok (.getfield 91, 3) := by decide +kernel
theorem dX11_sell_20 : decode cX11_sell 20 = .ok (.iload_n 3, 1) := by decide +kernel
theorem dX11_sell_21 : decode cX11_sell 21 = .ok (.iconst 3, 1) := by decide +kernel
theorem dX11_sell_22 : decode cX11_sell 22 = .ok (.iadd, 1) := by decide +kernel
theorem dX11_sell_23 : decode cX11_sell 23 = .ok (.dup2, 1) := by decide +kernel
theorem dX11_sell_24 : decode cX11_sell 24 = .ok (.iaload, 1) := by decide +kernel
theorem dX11_sell_25 : decode cX11_sell 25 = .ok (.aload_n 0, 1) := by decide +kernel
theorem dX11_sell_26 : decode cX11_sell 26 = .ok (.getfield 91, 3) := by decide +kernel
theorem dX11_sell_29 : decode cX11_sell 29 = .ok (.iload_n 3, 1) := by decide +kernel
theorem dX11_sell_30 : decode cX11_sell 30 = .ok (.iconst 5, 1) := by decide +kernel
theorem dX11_sell_31 : decode cX11_sell 31 = .ok (.iadd, 1) := by decide +kernel
theorem dX11_sell_32 : decode cX11_sell 32 = .ok (.iload_n 2, 1) := by decide +kernel
theorem dX11_sell_33 : decode cX11_sell 33 = .ok (.iadd, 1) := by decide +kernel
theorem dX11_sell_34 : decode cX11_sell 34 = .ok (.iaload, 1) := by decide +kernel
theorem dX11_sell_35 : decode cX11_sell 35 = .ok (.iadd, 1) := by decide +kernel
theorem dX11_sell_36 : decode cX11_sell 36 = .ok (.iastore, 1) := by decide +kernel
theorem dX11_sell_37 : decode cX11_sell 37 = .ok (.aload_n 0, 1) := by decide +kernel
theorem dX11_sell_38 : decode cX11_sell 38 = .ok (.getfield 91, 3) := by decide +kernel
theorem dX11_sell_41 : decode cX11_sell 41 = .ok (.iload_n 3, 1) := by decide +kernel
theorem dX11_sell_42 : decode cX11_sell 42 = .ok (.iconst 5, 1) := by decide +kernel
theorem dX11_sell_43 : decode cX11_sell 43 = .ok (.iadd, 1) := by decide +kernel
theorem dX11_sell_44 : decode cX11_sell 44 = .ok (.iload_n 2, 1) := by decide +kernel
theorem dX11_sell_45 : decode cX11_sell 45 = .ok (.iadd, 1) := by decide +kernel
theorem dX11_sell_46 : decode cX11_sell 46 = .ok (.iconst 0, 1) := by decide +kernel
theorem dX11_sell_47 : decode cX11_sell 47 = .ok (.iastore, 1) := by decide +kernel
theorem dX11_sell_48 : decode cX11_sell 48 = .ok (.return_, 1) := by decide +kernel
theorem dX11_live_0 : decode cX11_live 0 = .ok (.bipush 11, 2) := by decide +kernel
theorem dX11_live_2 : decode cX11_live 2 = .ok (.iload_n 1, 1) := by decide +kernel
theorem dX11_live_3 : decode cX11_live 3 = .ok (.imul, 1) := by decide +kernel
theorem dX11_live_4 : decode cX11_live 4 = .ok (.istore_n 2, 1) := by decide +kernel
theorem dX11_live_5 : decode cX11_live 5 = .ok (.aload_n 0, 1) := by decide +kernel
theorem dX11_live_6 : decode cX11_live 6 = .ok (.aload_n 0, 1) := by decide +kernel
theorem dX11_live_7 : decode cX11_live 7 = .ok (.getfield 188, 3) := by decide +kernel
theorem dX11_live_10 : decode cX11_live 10 = .ok (.invokevirtual 305, 3) := by decide +kernel
theorem dX11_live_13 : decode cX11_live 13 = .ok (.istore_n 3, 1) := by decide +kernel
theorem dX11_live_14 : decode cX11_live 14 = .ok (.aload_n 0, 1) := by decide +kernel
theorem dX11_live_15 : decode cX11_live 15 = .ok (.getfield 91, 3) := by decide +kernel
theorem dX11_live_18 : decode cX11_live 18 = .ok (.iload_n 2, 1) := by decide +kernel
theorem dX11_live_19 : decode cX11_live 19 = .ok (.iaload, 1) := by decide +kernel
theorem dX11_live_20 : decode cX11_live 20 = .ok (.aload_n 0, 1) := by decide +kernel
theorem dX11_live_21 : decode cX11_live 21 = .ok (.getfield 145, 3) := by decide +kernel
theorem dX11_live_24 : decode cX11_live 24 = .ok (.if_icmp .ge 25, 3) := by decide +kernel
theorem dX11_live_27 : decode cX11_live 27 = .ok (.aload_n 0, 1) := by decide +kernel
theorem dX11_live_28 : decode cX11_live 28 = .ok (.getfield 66, 3) := by decide +kernel
theorem dX11_live_31 : decode cX11_live 31 = .ok (.bipush 100, 2) := by decide +kernel
theorem dX11_live_33 : decode cX11_live 33 = .ok (.aload_n 0, 1) := by decide +kernel
theorem dX11_live_34 : decode cX11_live 34 = .ok (.getfield 91, 3) := by decide +kernel
theorem dX11_live_37 : decode cX11_live 37 = .ok (.iload_n 2, 1) := by decide +kernel
theorem dX11_live_38 : decode cX11_live 38 = .ok (.iaload, 1) := by decide +kernel
theorem dX11_live_39 : decode cX11_live 39 = .ok (.imul, 1) := by decide +kernel
theorem dX11_live_40 : decode cX11_live 40 = .ok (.aload_n 0, 1) := by decide +kernel
theorem dX11_live_41 : decode cX11_live 41 = .ok (.getfield 188, 3) := by decide +kernel
theorem dX11_live_44 : decode cX11_live 44 = .ok (.iadd, 1) := by decide +kernel
theorem dX11_live_45 : decode cX11_live 45 = .ok (.iaload, 1) := by decide +kernel
theorem dX11_live_46 : decode cX11_live 46 = .ok (.goto 5, 3) := by decide +kernel
theorem dX11_live_49 : decode cX11_live 49 = .ok (.ldc 69, 2) := by decide +kernel
theorem dX11_live_51 : decode cX11_live 51 = .ok (.istore 4, 2) := by decide +kernel
theorem dX11_live_53 : decode cX11_live 53 = .ok (.aload_n 0, 1) := by decide +kernel
theorem dX11_live_54 : decode cX11_live 54 = .ok (.getfield 91, 3) := by decide +kernel
theorem dX11_live_57 : decode cX11_live 57 = .ok (.iload_n 2, 1) := by decide +kernel
theorem dX11_live_58 : decode cX11_live 58 = .ok (.iconst 3, 1) := by decide +kernel
theorem dX11_live_59 : decode cX11_live 59 = .ok (.iadd, 1) := by decide +kernel
theorem dX11_live_60 : decode cX11_live 60 = .ok (.dup2, 1) := by decide +kernel
theorem dX11_live_61 : decode cX11_live 61 = .ok (.iaload, 1) := by decide +kernel
theorem dX11_live_62 : decode cX11_live 62 = .ok (.iload 4, 2) := by decide +kernel
theorem dX11_live_64 : decode cX11_live 64 = .ok (.ldc 69, 2) := by decide +kernel
theorem dX11_live_66 : decode cX11_live 66 = .ok (.if_icmp .ne 7, 3) := by decide +kernel
theorem dX11_live_69 : decode cX11_live 69 = .ok (.iconst 0, 1) := by decide +kernel
theorem dX11_live_70 : decode cX11_live 70 = .ok (.goto 22, 3) := by decide +kernel
theorem dX11_live_73 : decode cX11_live 73 = .ok (.aload_n 0, 1) := by decide +kernel
theorem dX11_live_74 : decode cX11_live 74 = .ok (.getfield 91, 3) := by decide +kernel
theorem dX11_live_77 : decode cX11_live 77 = .ok (.iload_n 2, 1) := by decide +kernel
theorem dX11_live_78 : decode cX11_live 78 = .ok (.iconst 2, 1) := by decide +kernel
theorem dX11_live_79 : decode cX11_live 79 = .ok (.iadd, 1) := by decide +kernel
theorem dX11_live_80 : decode cX11_live 80 = .ok (.iaload, 1) := by decide +kernel
theorem dX11_live_81 : decode cX11_live 81 = .ok (.aload_n 0, 1) := by decide +kernel
theorem dX11_live_82 : decode cX11_live 82 = .ok (.iload 4, 2) := by decide +kernel
theorem dX11_live_84 : decode cX11_live 84 = .ok (.aload_n 0, 1) := by decide +kernel
theorem dX11_live_85 : decode cX11_live 85 = .ok (.getfield 188, 3) := by decide +kernel
theorem dX11_live_88 : decode cX11_live 88 = .ok (.invokevirtual 312, 3) := by decide +kernel
theorem dX11_live_91 : decode cX11_live 91 = .ok (.imul, 1) := by decide +kernel
theorem dX11_live_92 : decode cX11_live 92 = .ok (.aload_n 0, 1) := by decide +kernel
theorem dX11_live_93 : decode cX11_live 93 = .ok (.getfield 91, 3) := by decide +kernel
theorem dX11_live_96 : decode cX11_live 96 = .ok (.iload_n 2, 1) := by decide +kernel
theorem dX11_live_97 : decode cX11_live 97 = .ok (.iconst 1, 1) := by decide +kernel
theorem dX11_live_98 : decode cX11_live 98 = .ok (.iadd, 1) := by decide +kernel
theorem dX11_live_99 : decode cX11_live 99 = .ok (.iaload, 1) := by decide +kernel
theorem dX11_live_100 : decode cX11_live 100 = .ok (.aload_n 0, 1) := by decide +kernel
theorem dX11_live_101 : decode cX11_live 101 = .ok (.aload_n 0, 1) := by decide +kernel
theorem dX11_live_102 : decode cX11_live 102 = .ok (.getfield 188, 3) := by decide +kernel
theorem dX11_live_105 : decode cX11_live 105 = .ok (.iconst 3, 1) := by decide +kernel
theorem dX11_live_106 : decode cX11_live 106 = .ok (.iconst 0, 1) := by decide +kernel
theorem dX11_live_107 : decode cX11_live 107 = .ok (.invokevirtual 298, 3) := by decide +kernel
theorem dX11_live_110 : decode cX11_live 110 = .ok (.imul, 1) := by decide +kernel
theorem dX11_live_111 : decode cX11_live 111 = .ok (.isub, 1) := by decide +kernel
theorem dX11_live_112 : decode cX11_live 112 = .ok (.aload_n 0, 1) := by decide +kernel
theorem dX11_live_113 : decode cX11_live 113 = .ok (.getfield 91, 3) := by decide +kernel
theorem dX11_live_116 : decode cX11_live 116 = .ok (.iload_n 2, 1) := by decide +kernel
theorem dX11_live_117 : decode cX11_live 117 = .ok (.iconst 4, 1) := by decide +kernel
theorem dX11_live_118 : decode cX11_live 118 = .ok (.iadd, 1) := by decide +kernel
theorem dX11_live_119 : decode cX11_live 119 = .ok (.iaload, 1) := by decide +kernel
theorem dX11_live_120 : decode cX11_live 120 = .ok (.isub, 1) := by decide +kernel
theorem dX11_live_121 : decode cX11_live 121 = .ok (.iadd, 1) := by decide +kernel
theorem dX11_live_122 : decode cX11_live 122 = .ok (.iastore, 1) := by decide +kernel
theorem dX11_live_123 : decode cX11_live 123 = .ok (.iload 4, 2) := by decide +kernel
theorem dX11_live_125 : decode cX11_live 125 = .ok (.ldc 69, 2) := by decide +kernel
theorem dX11_live_127 : decode cX11_live 127 = .ok (.if_icmp .ne 125, 3) := by decide +kernel
theorem dX11_live_130 : decode cX11_live 130 = .ok (.aload_n 0, 1) := by decide +kernel
theorem dX11_live_131 : decode cX11_live 131 = .ok (.getfield 91, 3) := by decide +kernel
theorem dX11_live_134 : decode cX11_live 134 = .ok (.iload_n 2, 1) := by decide +kernel
theorem dX11_live_135 : decode cX11_live 135 = .ok (.iconst 3, 1) := by decide +kernel
theorem dX11_live_136 : decode cX11_live 136 = .ok (.iadd, 1) := by decide +kernel
theorem dX11_live_137 : decode cX11_live 137 = .ok (.iaload, 1) := by decide +kernel
theorem dX11_live_138 : decode cX11_live 138 = .ok (.istore 5, 2) := by decide +kernel
theorem dX11_live_140 : decode cX11_live 140 = .ok (.iconst 0, 1) := by decide +kernel
theorem dX11_live_141 : decode cX11_live 141 = .ok (.istore 6, 2) := by decide +kernel
theorem dX11_live_143 : decode cX11_live 143 = .ok (.iload 6, 2) := by decide +kernel
theorem dX11_live_145 : decode cX11_live 145 = .ok (.iconst 4, 1) := by decide +kernel
theorem dX11_live_146 : decode cX11_live 146 = .ok (.if_icmp .ge 39, 3) := by decide +kernel
theorem dX11_live_149 : decode cX11_live 149 = .ok (.iload 5, 2) := by decide +kernel
theorem dX11_live_151 : decode cX11_live 151 = .ok (.iload_n 3, 1) := by decide +kernel
theorem dX11_live_152 : decode cX11_live 152 = .ok (.iload 6, 2) := by decide +kernel
theorem dX11_live_154 : decode cX11_live 154 = .ok (.ishr, 1) := by decide +kernel
theorem dX11_live_155 : decode cX11_live 155 = .ok (.iconst 1, 1) := by decide +kernel
theorem dX11_live_156 : decode cX11_live 156 = .ok (.iand, 1) := by decide +kernel
theorem dX11_live_157 : decode cX11_live 157 = .ok (.iconst 1, 1) := by decide +kernel
theorem dX11_live_158 : decode cX11_live 158 = .ok (.if_icmp .ne 17, 3) := by decide +kernel
theorem dX11_live_161 : decode cX11_live 161 = .ok (.aload_n 0, 1) := by decide +kernel
theorem dX11_live_162 : decode cX11_live 162 = .ok (.getfield 91, 3) := by decide +kernel
theorem dX11_live_165 : decode cX11_live 165 = .ok (.iload_n 2, 1) := by decide +kernel
theorem dX11_live_166 : decode cX11_live 166 = .ok (.iconst 5, 1) := by decide +kernel
theorem dX11_live_167 : decode cX11_live 167 = .ok (.iadd, 1) := by decide +kernel
theorem dX11_live_168 : decode cX11_live 168 = .ok (.iload 6, 2) := by decide +kernel
theorem dX11_live_170 : decode cX11_live 170 = .ok (.iadd, 1) := by decide +kernel
theorem dX11_live_171 : decode cX11_live 171 = .ok (.iaload, 1) := by decide +kernel
theorem dX11_live_172 : decode cX11_live 172 = .ok (.goto 4, 3) := by decide +kernel
theorem dX11_live_175 : decode cX11_live 175 = .ok (.iconst 0, 1) := by decide +kernel
theorem dX11_live_176 : decode cX11_live 176 = .ok (.iadd, 1) := by decide +kernel
theorem dX11_live_177 : decode cX11_live 177 = .ok (.istore 5, 2) := by decide +kernel
theorem dX11_live_179 : decode cX11_live 179 = .ok (.iinc 6 1, 3) := by decide +kernel
theorem dX11_live_182 : decode cX11_live 182 = .ok (.goto (-39), 3) := by decide +kernel
theorem dX11_live_185 : decode cX11_live 185 = .ok (.iload 5, 2) := by decide +kernel
theorem dX11_live_187 : decode cX11_live 187 = .ok (.aload_n 0, 1) := by decide +kernel
theorem dX11_live_188 : decode cX11_live 188 = .ok (.aload_n 0, 1) := by decide +kernel
theorem dX11_live_189 : decode cX11_live 189 = .ok (.getfield 188, 3) := by decide +kernel
theorem dX11_live_192 : decode cX11_live 192 = .ok (.iconst 2, 1) := by decide +kernel
theorem dX11_live_193 : decode cX11_live 193 = .ok (.iconst 0, 1) := by decide +kernel
theorem dX11_live_194 : decode cX11_live 194 = .ok (.invokevirtual 298, 3) := by decide +kernel
theorem dX11_live_197 : decode cX11_live 197 = .ok (.if_icmp .gt 25, 3) := by decide +kernel
theorem dX11_live_200 : decode cX11_live 200 = .ok (.aload_n 0, 1) := by decide +kernel
theorem dX11_live_201 : decode cX11_live 201 = .ok (.aload_n 0, 1) := by decide +kernel
theorem dX11_live_202 : decode cX11_live 202 = .ok (.getfield 188, 3) := by decide +kernel
theorem dX11_live_205 : decode cX11_live 205 = .ok (.iconst 1, 1) := by decide +kernel
theorem dX11_live_206 : decode cX11_live 206 = .ok (.iconst 0, 1) := by decide +kernel
theorem dX11_live_207 : decode cX11_live 207 = .ok (.invokevirtual 298, 3) := by decide +kernel
theorem dX11_live_210 : decode cX11_live 210 = .ok (.aload_n 0, 1) := by decide +kernel
theorem dX11_live_211 : decode cX11_live 211 = .ok (.getfield 91, 3) := by decide +kernel
theorem dX11_live_214 : decode cX11_live 214 = .ok (.iload_n 2, 1) := by decide +kernel
theorem dX11_live_215 : decode cX11_live 215 = .ok (.iconst 1, 1) := by decide +kernel
theorem dX11_live_216 : decode cX11_live 216 = .ok (.iadd, 1) := by decide +kernel
theorem dX11_live_217 : decode cX11_live 217 = .ok (.iaload, 1) := by decide +kernel
theorem dX11_live_218 : decode cX11_live 218 = .ok (.imul, 1) := by decide +kernel
theorem dX11_live_219 : decode cX11_live 219 = .ok (.goto 4, 3) := by decide +kernel
theorem dX11_live_222 : decode cX11_live 222 = .ok (.iconst 0, 1) := by decide +kernel
theorem dX11_live_223 : decode cX11_live 223 = .ok (.istore 6, 2) := by decide +kernel
theorem dX11_live_225 : decode cX11_live 225 = .ok (.aload_n 0, 1) := by decide +kernel
theorem dX11_live_226 : decode cX11_live 226 = .ok (.getfield 91, 3) := by decide +kernel
theorem dX11_live_229 : decode cX11_live 229 = .ok (.iload_n 2, 1) := by decide +kernel
theorem dX11_live_230 : decode cX11_live 230 = .ok (.iconst 3, 1) := by decide +kernel
theorem dX11_live_231 : decode cX11_live 231 = .ok (.iadd, 1) := by decide +kernel
theorem dX11_live_232 : decode cX11_live 232 = .ok (.dup2, 1) := by decide +kernel
theorem dX11_live_233 : decode cX11_live 233 = .ok (.iaload, 1) := by decide +kernel
theorem dX11_live_234 : decode cX11_live 234 = .ok (.iload 6, 2) := by decide +kernel
theorem dX11_live_236 : decode cX11_live 236 = .ok (.iadd, 1) := by decide +kernel
theorem dX11_live_237 : decode cX11_live 237 = .ok (.iastore, 1) := by decide +kernel
theorem dX11_live_238 : decode cX11_live 238 = .ok (.aload_n 0, 1) := by decide +kernel
theorem dX11_live_239 : decode cX11_live 239 = .ok (.getfield 91, 3) := by decide +kernel
theorem dX11_live_242 : decode cX11_live 242 = .ok (.iload_n 2, 1) := by decide +kernel
theorem dX11_live_243 : decode cX11_live 243 = .ok (.bipush 10, 2) := by decide +kernel
theorem dX11_live_245 : decode cX11_live 245 = .ok (.iadd, 1) := by decide +kernel
theorem dX11_live_246 : decode cX11_live 246 = .ok (.dup2, 1) := by decide +kernel
theorem dX11_live_247 : decode cX11_live 247 = .ok (.iaload, 1) := by decide +kernel
theorem dX11_live_248 : decode cX11_live 248 = .ok (.iload 6, 2) := by decide +kernel
theorem dX11_live_250 : decode cX11_live 250 = .ok (.iadd, 1) := by decide +kernel
theorem dX11_live_251 : decode cX11_live 251 = .ok (.iastore, 1) := by decide +kernel
theorem dX11_live_252 : decode cX11_live 252 = .ok (.iconst 0, 1) := by decide +kernel
theorem dX11_live_253 : decode cX11_live 253 = .ok (.istore 5, 2) := by decide +kernel
theorem dX11_live_255 : decode cX11_live 255 = .ok (.iload 5, 2) := by decide +kernel
theorem dX11_live_257 : decode cX11_live 257 = .ok (.aload_n 0, 1) := by decide +kernel
theorem dX11_live_258 : decode cX11_live 258 = .ok (.getfield 302, 3) := by decide +kernel
theorem dX11_live_261 : decode cX11_live 261 = .ok (.if_icmp .ge 21, 3) := by decide +kernel
theorem dX11_live_264 : decode cX11_live 264 = .ok (.aload_n 0, 1) := by decide +kernel
theorem dX11_live_265 : decode cX11_live 265 = .ok (.iload_n 1, 1) := by decide +kernel
theorem dX11_live_266 : decode cX11_live 266 = .ok (.aload_n 0, 1) := by decide +kernel
theorem dX11_live_267 : decode cX11_live 267 = .ok (.getfield 88, 3) := by decide +kernel
theorem dX11_live_270 : decode cX11_live 270 = .ok (.iload 5, 2) := by decide +kernel
theorem dX11_live_272 : decode cX11_live 272 = .ok (.iaload, 1) := by decide +kernel
theorem dX11_live_273 : decode cX11_live 273 = .ok (.invokevirtual 323, 3) := by decide +kernel
theorem dX11_live_276 : decode cX11_live 276 = .ok (.iinc 5 1, 3) := by decide +kernel
theorem dX11_live_279 : decode cX11_live 279 = .ok (.goto (-24), 3) := by decide +kernel
theorem dX11_live_282 : decode cX11_live 282 = .ok (.iconst 0, 1) := by decide +kernel
theorem dX11_live_283 : decode cX11_live 283 = .ok (.istore 5, 2) := by decide +kernel
theorem dX11_live_285 : decode cX11_live 285 = .ok (.iload 5, 2) := by decide +kernel
theorem dX11_live_287 : decode cX11_live 287 = .ok (.iconst 4, 1) := by decide +kernel
theorem dX11_live_288 : decode cX11_live 288 = .ok (.if_icmp .ge 16, 3) := by decide +kernel
theorem dX11_live_291 : decode cX11_live 291 = .ok (.aload_n 0, 1) := by decide +kernel
theorem dX11_live_292 : decode cX11_live 292 = .ok (.iload_n 1, 1) := by decide +kernel
theorem dX11_live_293 : decode cX11_live 293 = .ok (.iload 5, 2) := by decide +kernel
theorem dX11_live_295 : decode cX11_live 295 = .ok (.invokevirtual 323, 3) := by decide +kernel
theorem dX11_live_298 : decode cX11_live 298 = .ok (.iinc 5 1, 3) := by decide +kernel
theorem dX11_live_301 : decode cX11_live 301 = .ok (.goto (-16), 3) := by decide +kernel
theorem dX11_live_304 : decode cX11_live 304 = .ok (.aload_n 0, 1) := by decide +kernel
theorem dX11_live_305 : decode cX11_live 305 = .ok (.getfield 91, 3) := by decide +kernel
theorem dX11_live_308 : decode cX11_live 308 = .ok (.iload_n 2, 1) := by decide +kernel
theorem dX11_live_309 : decode cX11_live 309 = .ok (.iconst 3, 1) := by decide +kernel
theorem dX11_live_310 : decode cX11_live 310 = .ok (.iadd, 1) := by decide +kernel
theorem dX11_live_311 : decode cX11_live 311 = .ok (.iaload, 1) := by decide +kernel
theorem dX11_live_312 : decode cX11_live 312 = .ok (.ifCond .ge 25, 3) := by decide +kernel
theorem dX11_live_315 : decode cX11_live 315 = .ok (.aload_n 0, 1) := by decide +kernel
theorem dX11_live_316 : decode cX11_live 316 = .ok (.getfield 91, 3) := by decide +kernel
theorem dX11_live_319 : decode cX11_live 319 = .ok (.iload_n 2, 1) := by decide +kernel
theorem dX11_live_320 : decode cX11_live 320 = .ok (.iconst 3, 1) := by decide +kernel
theorem dX11_live_321 : decode cX11_live 321 = .ok (.iadd, 1) := by decide +kernel
theorem dX11_live_322 : decode cX11_live 322 = .ok (.iconst 0, 1) := by decide +kernel
theorem dX11_live_323 : decode cX11_live 323 = .ok (.iastore, 1) := by decide +kernel
theorem dX11_live_324 : decode cX11_live 324 = .ok (.aload_n 0, 1) := by decide +kernel
theorem dX11_live_325 : decode cX11_live 325 = .ok (.getfield 91, 3) := by decide +kernel
theorem dX11_live_328 : decode cX11_live 328 = .ok (.iload_n 2, 1) := by decide +kernel
theorem dX11_live_329 : decode cX11_live 329 = .ok (.bipush 9, 2) := by decide +kernel
theorem dX11_live_331 : decode cX11_live 331 = .ok (.iadd, 1) := by decide +kernel
theorem dX11_live_332 : decode cX11_live 332 = .ok (.dup2, 1) := by decide +kernel
theorem dX11_live_333 : decode cX11_live 333 = .ok (.iaload, 1) := by decide +kernel
theorem dX11_live_334 : decode cX11_live 334 = .ok (.iconst 1, 1) := by decide +kernel
theorem dX11_live_335 : decode cX11_live 335 = .ok (.iadd, 1) := by decide +kernel
theorem dX11_live_336 : decode cX11_live 336 = .ok (.iastore, 1) := by decide +kernel
theorem dX11_live_337 : decode cX11_live 337 = .ok (.return_, 1) := by decide +kernel
theorem dX11_paid_0 : decode cX11_paid 0 = .ok (.aload_n 0, 1) := by decide +kernel
theorem dX11_paid_1 : decode cX11_paid 1 = .ok (.iconst 0, 1) := by decide +kernel
theorem dX11_paid_2 : decode cX11_paid 2 = .ok (.putfield 1, 3) := by decide +kernel
theorem dX11_paid_5 : decode cX11_paid 5 = .ok (.iload_n 1, 1) := by decide +kernel
theorem dX11_paid_6 : decode cX11_paid 6 = .ok (.invokestatic 130, 3) := by decide +kernel
theorem dX11_paid_9 : decode cX11_paid 9 = .ok (.ifCond .eq 27, 3) := by decide +kernel
theorem dX11_paid_12 : decode cX11_paid 12 = .ok (.iload_n 3, 1) := by decide +kernel
theorem dX11_paid_13 : decode cX11_paid 13 = .ok (.i2l, 1) := by decide +kernel
theorem dX11_paid_14 : decode cX11_paid 14 = .ok (.lconst 1, 1) := by decide +kernel
theorem dX11_paid_15 : decode cX11_paid 15 = .ok (.ldc2_w 215, 3) := by decide +kernel
theorem dX11_paid_18 : decode cX11_paid 18 = .ok (.invokestatic 126, 3) := by decide +kernel
theorem dX11_paid_21 : decode cX11_paid 21 = .ok (.ifCond .eq 15, 3) := by decide +kernel
theorem dX11_paid_24 : decode cX11_paid 24 = .ok (.iload 4, 2) := by decide +kernel
theorem dX11_paid_26 : decode cX11_paid 26 = .ok (.i2l, 1) := by decide +kernel
theorem dX11_paid_27 : decode cX11_paid 27 = .ok (.lconst 0, 1) := by decide +kernel
theorem dX11_paid_28 : decode cX11_paid 28 = .ok (.iload_n 3, 1) := by decide +kernel
theorem dX11_paid_29 : decode cX11_paid 29 = .ok (.i2l, 1) := by decide +kernel
theorem dX11_paid_30 : decode cX11_paid 30 = .ok (.invokestatic 126, 3) := by decide +kernel
theorem dX11_paid_33 : decode cX11_paid 33 = .ok (.ifCond .ne 6, 3) := by decide +kernel
theorem dX11_paid_36 : decode cX11_paid 36 = .ok (.ldc 136, 2) := by decide +kernel
theorem dX11_paid_38 : decode cX11_paid 38 = .ok (.ireturn, 1) := by decide +kernel
theorem dX11_paid_39 : decode cX11_paid 39 = .ok (.aload_n 0, 1) := by decide +kernel
theorem dX11_paid_40 : decode cX11_paid 40 = .ok (.iload_n 1, 1) := by decide +kernel
theorem dX11_paid_41 : decode cX11_paid 41 = .ok (.iload_n 2, 1) := by decide +kernel
theorem dX11_paid_42 : decode cX11_paid 42 = .ok (.iload_n 3, 1) := by decide +kernel
theorem dX11_paid_43 : decode cX11_paid 43 = .ok (.iload_n 3, 1) := by decide +kernel
theorem dX11_paid_44 : decode cX11_paid 44 = .ok (.iload_n 3, 1) := by decide +kernel
theorem dX11_paid_45 : decode cX11_paid 45 = .ok (.imul, 1) := by decide +kernel
theorem dX11_paid_46 : decode cX11_paid 46 = .ok (.iadd, 1) := by decide +kernel
theorem dX11_paid_47 : decode cX11_paid 47 = .ok (.invokevirtual 316, 3) := by decide +kernel
theorem dX11_paid_50 : decode cX11_paid 50 = .ok (.istore 5, 2) := by decide +kernel
theorem dX11_paid_52 : decode cX11_paid 52 = .ok (.iload 5, 2) := by decide +kernel
theorem dX11_paid_54 : decode cX11_paid 54 = .ok (.ifCond .ge 6, 3) := by decide +kernel
theorem dX11_paid_57 : decode cX11_paid 57 = .ok (.iload 5, 2) := by decide +kernel
theorem dX11_paid_59 : decode cX11_paid 59 = .ok (.ireturn, 1) := by decide +kernel
theorem dX11_paid_60 : decode cX11_paid 60 = .ok (.bipush 80, 2) := by decide +kernel
theorem dX11_paid_62 : decode cX11_paid 62 = .ok (.iload_n 1, 1) := by decide +kernel
theorem dX11_paid_63 : decode cX11_paid 63 = .ok (.imul, 1) := by decide +kernel
theorem dX11_paid_64 : decode cX11_paid 64 = .ok (.iload_n 2, 1) := by decide +kernel
theorem dX11_paid_65 : decode cX11_paid 65 = .ok (.iadd, 1) := by decide +kernel
theorem dX11_paid_66 : decode cX11_paid 66 = .ok (.istore 6, 2) := by decide +kernel
theorem dX11_paid_68 : decode cX11_paid 68 = .ok (.iconst 0, 1) := by decide +kernel
theorem dX11_paid_69 : decode cX11_paid 69 = .ok (.istore 7, 2) := by decide +kernel
theorem dX11_paid_71 : decode cX11_paid 71 = .ok (.iload 7, 2) := by decide +kernel
theorem dX11_paid_73 : decode cX11_paid 73 = .ok (.iload_n 3, 1) := by decide +kernel
theorem dX11_paid_74 : decode cX11_paid 74 = .ok (.iload_n 3, 1) := by decide +kernel
theorem dX11_paid_75 : decode cX11_paid 75 = .ok (.iload_n 3, 1) := by decide +kernel
theorem dX11_paid_76 : decode cX11_paid 76 = .ok (.imul, 1) := by decide +kernel
theorem dX11_paid_77 : decode cX11_paid 77 = .ok (.iadd, 1) := by decide +kernel
theorem dX11_paid_78 : decode cX11_paid 78 = .ok (.if_icmp .ge 70, 3) := by decide +kernel
theorem dX11_paid_81 : decode cX11_paid 81 = .ok (.iload 7, 2) := by decide +kernel
theorem dX11_paid_83 : decode cX11_paid 83 = .ok (.iload_n 3, 1) := by decide +kernel
theorem dX11_paid_84 : decode cX11_paid 84 = .ok (.if_icmp .lt 22, 3) := by decide +kernel
theorem dX11_paid_87 : decode cX11_paid 87 = .ok (.iload 7, 2) := by decide +kernel
theorem dX11_paid_89 : decode cX11_paid 89 = .ok (.iload_n 3, 1) := by decide +kernel
theorem dX11_paid_90 : decode cX11_paid 90 = .ok (.isub, 1) := by decide +kernel
theorem dX11_paid_91 : decode cX11_paid 91 = .ok (.iload_n 3, 1) := by decide +kernel
theorem dX11_paid_92 : decode cX11_paid 92 = .ok (.idiv, 1) := by decide +kernel
theorem dX11_paid_93 : decode cX11_paid 93 = .ok (.iload 7, 2) := by decide +kernel
theorem dX11_paid_95 : decode cX11_paid 95 = .ok (.iload_n 3, 1) := by decide +kernel
theorem dX11_paid_96 : decode cX11_paid 96 = .ok (.isub, 1) := by decide +kernel
theorem dX11_paid_97 : decode cX11_paid 97 = .ok (.iload_n 3, 1) := by decide +kernel
theorem dX11_paid_98 : decode cX11_paid 98 = .ok (.irem, 1) := by decide +kernel
theorem dX11_paid_99 : decode cX11_paid 99 = .ok (.if_icmp .ne 7, 3) := by decide +kernel
theorem dX11_paid_102 : decode cX11_paid 102 = .ok (.iconst 1, 1) := by decide +kernel
theorem dX11_paid_103 : decode cX11_paid 103 = .ok (.goto 4, 3) := by decide +kernel
theorem dX11_paid_106 : decode cX11_paid 106 = .ok (.iconst 0, 1) := by decide +kernel
theorem dX11_paid_107 : decode cX11_paid 107 = .ok (.istore 8, 2) := by decide +kernel
theorem dX11_paid_109 : decode cX11_paid 109 = .ok (.aload_n 0, 1) := by decide +kernel
theorem dX11_paid_110 : decode cX11_paid 110 = .ok (.getfield 24, 3) := by decide +kernel
theorem dX11_paid_113 : decode cX11_paid 113 = .ok (.iload 6, 2) := by decide +kernel
theorem dX11_paid_115 : decode cX11_paid 115 = .ok (.iload 7, 2) := by decide +kernel
theorem dX11_paid_117 : decode cX11_paid 117 = .ok (.iadd, 1) := by decide +kernel
theorem dX11_paid_118 : decode cX11_paid 118 = .ok (.iaload, 1) := by decide +kernel
theorem dX11_paid_119 : decode cX11_paid 119 = .ok (.i2l, 1) := by decide +kernel
theorem dX11_paid_120 : decode cX11_paid 120 = .ok (.lconst 0, 1) := by decide +kernel
theorem dX11_paid_121 : decode cX11_paid 121 = .ok (.iload 8, 2) := by decide +kernel
theorem dX11_paid_123 : decode cX11_paid 123 = .ok (.ifCond .eq 7, 3) := by decide +kernel
theorem dX11_paid_126 : decode cX11_paid 126 = .ok (.lconst 0, 1) := by decide +kernel
theorem dX11_paid_127 : decode cX11_paid 127 = .ok (.goto 6, 3) := by decide +kernel
theorem dX11_paid_130 : decode cX11_paid 130 = .ok (.ldc2_w 153, 3) := by decide +kernel
theorem dX11_paid_133 : decode cX11_paid 133 = .ok (.invokestatic 126, 3) := by decide +kernel
theorem dX11_paid_136 : decode cX11_paid 136 = .ok (.ifCond .ne 6, 3) := by decide +kernel
theorem dX11_paid_139 : decode cX11_paid 139 = .ok (.ldc 136, 2) := by decide +kernel
theorem dX11_paid_141 : decode cX11_paid 141 = .ok (.ireturn, 1) := by decide +kernel
theorem dX11_paid_142 : decode cX11_paid 142 = .ok (.iinc 7 1, 3) := by decide +kernel
theorem dX11_paid_145 : decode cX11_paid 145 = .ok (.goto (-74), 3) := by decide +kernel
theorem dX11_paid_148 : decode cX11_paid 148 = .ok (.aload_n 0, 1) := by decide +kernel
theorem dX11_paid_149 : decode cX11_paid 149 = .ok (.iconst 0, 1) := by decide +kernel
theorem dX11_paid_150 : decode cX11_paid 150 = .ok (.putfield 7, 3) := by decide +kernel
theorem dX11_paid_153 : decode cX11_paid 153 = .ok (.iconst 0, 1) := by decide +kernel
theorem dX11_paid_154 : decode cX11_paid 154 = .ok (.istore 7, 2) := by decide +kernel
theorem dX11_paid_156 : decode cX11_paid 156 = .ok (.iload 7, 2) := by decide +kernel
theorem dX11_paid_158 : decode cX11_paid 158 = .ok (.iload_n 3, 1) := by decide +kernel
theorem dX11_paid_159 : decode cX11_paid 159 = .ok (.if_icmp .ge 73, 3) := by decide +kernel
theorem dX11_paid_162 : decode cX11_paid 162 = .ok (.aload_n 0, 1) := by decide +kernel
theorem dX11_paid_163 : decode cX11_paid 163 = .ok (.getfield 100, 3) := by decide +kernel
theorem dX11_paid_166 : decode cX11_paid 166 = .ok (.iload 7, 2) := by decide +kernel
theorem dX11_paid_168 : decode cX11_paid 168 = .ok (.iconst 0, 1) := by decide +kernel
theorem dX11_paid_169 : decode cX11_paid 169 = .ok (.iastore, 1) := by decide +kernel
theorem dX11_paid_170 : decode cX11_paid 170 = .ok (.iconst 0, 1) := by decide +kernel
theorem dX11_paid_171 : decode cX11_paid 171 = .ok (.istore 8, 2) := by decide +kernel
theorem dX11_paid_173 : decode cX11_paid 173 = .ok (.iload 8, 2) := by decide +kernel
theorem dX11_paid_175 : decode cX11_paid 175 = .ok (.iload_n 3, 1) := by decide +kernel
theorem dX11_paid_176 : decode cX11_paid 176 = .ok (.if_icmp .ge 36, 3) := by decide +kernel
theorem dX11_paid_179 : decode cX11_paid 179 = .ok (.aload_n 0, 1) := by decide +kernel
theorem dX11_paid_180 : decode cX11_paid 180 = .ok (.getfield 100, 3) := by decide +kernel
theorem dX11_paid_183 : decode cX11_paid 183 = .ok (.iload 7, 2) := by decide +kernel
theorem dX11_paid_185 : decode cX11_paid 185 = .ok (.dup2, 1) := by decide +kernel
theorem dX11_paid_186 : decode cX11_paid 186 = .ok (.iaload, 1) := by decide +kernel
theorem dX11_paid_187 : decode cX11_paid 187 = .ok (.aload_n 0, 1) := by decide +kernel
theorem dX11_paid_188 : decode cX11_paid 188 = .ok (.getfield 24, 3) := by decide +kernel
theorem dX11_paid_191 : decode cX11_paid 191 = .ok (.iload 6, 2) := by decide +kernel
theorem dX11_paid_193 : decode cX11_paid 193 = .ok (.iload_n 3, 1) := by decide +kernel
theorem dX11_paid_194 : decode cX11_paid 194 = .ok (.iadd, 1) := by decide +kernel
theorem dX11_paid_195 : decode cX11_paid 195 = .ok (.iload_n 3, 1) := by decide +kernel
theorem dX11_paid_196 : decode cX11_paid 196 = .ok (.iload 7, 2) := by decide +kernel
theorem dX11_paid_198 : decode cX11_paid 198 = .ok (.imul, 1) := by decide +kernel
theorem dX11_paid_199 : decode cX11_paid 199 = .ok (.iadd, 1) := by decide +kernel
theorem dX11_paid_200 : decode cX11_paid 200 = .ok (.iload 8, 2) := by decide +kernel
theorem dX11_paid_202 : decode cX11_paid 202 = .ok (.iadd, 1) := by decide +kernel
theorem dX11_paid_203 : decode cX11_paid 203 = .ok (.iaload, 1) := by decide +kernel
theorem dX11_paid_204 : decode cX11_paid 204 = .ok (.iadd, 1) := by decide +kernel
theorem dX11_paid_205 : decode cX11_paid 205 = .ok (.iastore, 1) := by decide +kernel
theorem dX11_paid_206 : decode cX11_paid 206 = .ok (.iinc 8 1, 3) := by decide +kernel
theorem dX11_paid_209 : decode cX11_paid 209 = .ok (.goto (-36), 3) := by decide +kernel
theorem dX11_paid_212 : decode cX11_paid 212 = .ok (.aload_n 0, 1) := by decide +kernel
theorem dX11_paid_213 : decode cX11_paid 213 = .ok (.getfield 94, 3) := by decide +kernel
theorem dX11_paid_216 : decode cX11_paid 216 = .ok (.iload 7, 2) := by decide +kernel
