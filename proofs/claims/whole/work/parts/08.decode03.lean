theorem dX11_works_255 : decode cX11_works 255 = .ok (.iload 10, 2) := by decide +kernel
theorem dX11_works_257 : decode cX11_works 257 = .ok (.if_icmp .ne 22, 3) := by decide +kernel
theorem dX11_works_260 : decode cX11_works 260 = .ok (.iload 12, 2) := by decide +kernel
theorem dX11_works_262 : decode cX11_works 262 = .ok (.iload 9, 2) := by decide +kernel
theorem dX11_works_264 : decode cX11_works 264 = .ok (.if_icmp .ge 15, 3) := by decide +kernel
theorem dX11_works_267 : decode cX11_works 267 = .ok (.iload 11, 2) := by decide +kernel
theorem dX11_works_269 : decode cX11_works 269 = .ok (.istore 8, 2) := by decide +kernel
theorem dX11_works_271 : decode cX11_works 271 = .ok (.iload 12, 2) := by decide +kernel
theorem dX11_works_273 : decode cX11_works 273 = .ok (.istore 9, 2) := by decide +kernel
theorem dX11_works_275 : decode cX11_works 275 = .ok (.iload 13, 2) := by decide +kernel
theorem dX11_works_277 : decode cX11_works 277 = .ok (.istore 10, 2) := by decide +kernel
theorem dX11_works_279 : decode cX11_works 279 = .ok (.iinc 11 1, 3) := by decide +kernel
theorem dX11_works_282 : decode cX11_works 282 = .ok (.goto (-119), 3) := by decide +kernel
theorem dX11_works_285 : decode cX11_works 285 = .ok (.iload 5, 2) := by decide +kernel
theorem dX11_works_287 : decode cX11_works 287 = .ok (.ifCond .ne 8, 3) := by decide +kernel
theorem dX11_works_290 : decode cX11_works 290 = .ok (.iload 8, 2) := by decide +kernel
theorem dX11_works_292 : decode cX11_works 292 = .ok (.goto 16, 3) := by decide +kernel
theorem dX11_works_295 : decode cX11_works 295 = .ok (.iload 5, 2) := by decide +kernel
theorem dX11_works_297 : decode cX11_works 297 = .ok (.iconst 1, 1) := by decide +kernel
theorem dX11_works_298 : decode cX11_works 298 = .ok (.if_icmp .ne 8, 3) := by decide +kernel
theorem dX11_works_301 : decode cX11_works 301 = .ok (.iload 9, 2) := by decide +kernel
theorem dX11_works_303 : decode cX11_works 303 = .ok (.goto 5, 3) := by decide +kernel
theorem dX11_works_306 : decode cX11_works 306 = .ok (.iload 10, 2) := by decide +kernel
theorem dX11_works_308 : decode cX11_works 308 = .ok (.ireturn, 1) := by decide +kernel
theorem dX11_news_0 : decode cX11_news 0 = .ok (.aload_n 0, 1) := by decide +kernel
theorem dX11_news_1 : decode cX11_news 1 = .ok (.iconst 0, 1) := by decide +kernel
theorem dX11_news_2 : decode cX11_news 2 = .ok (.putfield 1, 3) := by decide +kernel
theorem dX11_news_5 : decode cX11_news 5 = .ok (.iload_n 1, 1) := by decide +kernel
theorem dX11_news_6 : decode cX11_news 6 = .ok (.i2l, 1) := by decide +kernel
theorem dX11_news_7 : decode cX11_news 7 = .ok (.lconst 0, 1) := by decide +kernel
theorem dX11_news_8 : decode cX11_news 8 = .ok (.ldc2_w 180, 3) := by decide +kernel
theorem dX11_news_11 : decode cX11_news 11 = .ok (.invokestatic 126, 3) := by decide +kernel
theorem dX11_news_14 : decode cX11_news 14 = .ok (.ifCond .eq 35, 3) := by decide +kernel
theorem dX11_news_17 : decode cX11_news 17 = .ok (.iload_n 2, 1) := by decide +kernel
theorem dX11_news_18 : decode cX11_news 18 = .ok (.invokestatic 164, 3) := by decide +kernel
theorem dX11_news_21 : decode cX11_news 21 = .ok (.ifCond .eq 28, 3) := by decide +kernel
theorem dX11_news_24 : decode cX11_news 24 = .ok (.iload_n 3, 1) := by decide +kernel
theorem dX11_news_25 : decode cX11_news 25 = .ok (.i2l, 1) := by decide +kernel
theorem dX11_news_26 : decode cX11_news 26 = .ok (.lconst 0, 1) := by decide +kernel
theorem dX11_news_27 : decode cX11_news 27 = .ok (.ldc2_w 141, 3) := by decide +kernel
theorem dX11_news_30 : decode cX11_news 30 = .ok (.invokestatic 126, 3) := by decide +kernel
theorem dX11_news_33 : decode cX11_news 33 = .ok (.ifCond .eq 16, 3) := by decide +kernel
theorem dX11_news_36 : decode cX11_news 36 = .ok (.iload 4, 2) := by decide +kernel
theorem dX11_news_38 : decode cX11_news 38 = .ok (.i2l, 1) := by decide +kernel
theorem dX11_news_39 : decode cX11_news 39 = .ok (.lconst 0, 1) := by decide +kernel
theorem dX11_news_40 : decode cX11_news 40 = .ok (.ldc2_w 332, 3) := by decide +kernel
theorem dX11_news_43 : decode cX11_news 43 = .ok (.invokestatic 126, 3) := by decide +kernel
theorem dX11_news_46 : decode cX11_news 46 = .ok (.ifCond .ne 6, 3) := by decide +kernel
theorem dX11_news_49 : decode cX11_news 49 = .ok (.ldc 136, 2) := by decide +kernel
theorem dX11_news_51 : decode cX11_news 51 = .ok (.ireturn, 1) := by decide +kernel
theorem dX11_news_52 : decode cX11_news 52 = .ok (.aload_n 0, 1) := by decide +kernel
theorem dX11_news_53 : decode cX11_news 53 = .ok (.getfield 334, 3) := by decide +kernel
theorem dX11_news_56 : decode cX11_news 56 = .ok (.bipush 20, 2) := by decide +kernel
theorem dX11_news_58 : decode cX11_news 58 = .ok (.if_icmp .ne 6, 3) := by decide +kernel
theorem dX11_news_61 : decode cX11_news 61 = .ok (.ldc 172, 2) := by decide +kernel
theorem dX11_news_63 : decode cX11_news 63 = .ok (.ireturn, 1) := by decide +kernel
theorem dX11_news_64 : decode cX11_news 64 = .ok (.aload_n 0, 1) := by decide +kernel
theorem dX11_news_65 : decode cX11_news 65 = .ok (.getfield 112, 3) := by decide +kernel
theorem dX11_news_68 : decode cX11_news 68 = .ok (.aload_n 0, 1) := by decide +kernel
theorem dX11_news_69 : decode cX11_news 69 = .ok (.getfield 334, 3) := by decide +kernel
theorem dX11_news_72 : decode cX11_news 72 = .ok (.iload_n 1, 1) := by decide +kernel
theorem dX11_news_73 : decode cX11_news 73 = .ok (.iastore, 1) := by decide +kernel
theorem dX11_news_74 : decode cX11_news 74 = .ok (.aload_n 0, 1) := by decide +kernel
theorem dX11_news_75 : decode cX11_news 75 = .ok (.getfield 115, 3) := by decide +kernel
theorem dX11_news_78 : decode cX11_news 78 = .ok (.aload_n 0, 1) := by decide +kernel
theorem dX11_news_79 : decode cX11_news 79 = .ok (.getfield 334, 3) := by decide +kernel
theorem dX11_news_82 : decode cX11_news 82 = .ok (.iload_n 2, 1) := by decide +kernel
theorem dX11_news_83 : decode cX11_news 83 = .ok (.iload 4, 2) := by decide +kernel
theorem dX11_news_85 : decode cX11_news 85 = .ok (.iadd, 1) := by decide +kernel
theorem dX11_news_86 : decode cX11_news 86 = .ok (.iastore, 1) := by decide +kernel
theorem dX11_news_87 : decode cX11_news 87 = .ok (.aload_n 0, 1) := by decide +kernel
theorem dX11_news_88 : decode cX11_news 88 = .ok (.getfield 118, 3) := by decide +kernel
theorem dX11_news_91 : decode cX11_news 91 = .ok (.aload_n 0, 1) := by decide +kernel
theorem dX11_news_92 : decode cX11_news 92 = .ok (.getfield 334, 3) := by decide +kernel
theorem dX11_news_95 : decode cX11_news 95 = .ok (.iload_n 3, 1) := by decide +kernel
theorem dX11_news_96 : decode cX11_news 96 = .ok (.iastore, 1) := by decide +kernel
theorem dX11_news_97 : decode cX11_news 97 = .ok (.aload_n 0, 1) := by decide +kernel
theorem dX11_news_98 : decode cX11_news 98 = .ok (.dup, 1) := by decide +kernel
theorem dX11_news_99 : decode cX11_news 99 = .ok (.getfield 334, 3) := by decide +kernel
theorem dX11_news_102 : decode cX11_news 102 = .ok (.iconst 1, 1) := by decide +kernel
theorem dX11_news_103 : decode cX11_news 103 = .ok (.iadd, 1) := by decide +kernel
theorem dX11_news_104 : decode cX11_news 104 = .ok (.putfield 334, 3) := by decide +kernel
theorem dX11_news_107 : decode cX11_news 107 = .ok (.aload_n 0, 1) := by decide +kernel
theorem dX11_news_108 : decode cX11_news 108 = .ok (.getfield 334, 3) := by decide +kernel
theorem dX11_news_111 : decode cX11_news 111 = .ok (.ireturn, 1) := by decide +kernel
theorem dX11_known_0 : decode cX11_known 0 = .ok (.aload_n 0, 1) := by decide +kernel
theorem dX11_known_1 : decode cX11_known 1 = .ok (.iconst 0, 1) := by decide +kernel
theorem dX11_known_2 : decode cX11_known 2 = .ok (.putfield 1, 3) := by decide +kernel
theorem dX11_known_5 : decode cX11_known 5 = .ok (.iload_n 1, 1) := by decide +kernel
theorem dX11_known_6 : decode cX11_known 6 = .ok (.i2l, 1) := by decide +kernel
theorem dX11_known_7 : decode cX11_known 7 = .ok (.lconst 0, 1) := by decide +kernel
theorem dX11_known_8 : decode cX11_known 8 = .ok (.ldc2_w 141, 3) := by decide +kernel
theorem dX11_known_11 : decode cX11_known 11 = .ok (.invokestatic 126, 3) := by decide +kernel
theorem dX11_known_14 : decode cX11_known 14 = .ok (.ifCond .eq 10, 3) := by decide +kernel
theorem dX11_known_17 : decode cX11_known 17 = .ok (.iload_n 2, 1) := by decide +kernel
theorem dX11_known_18 : decode cX11_known 18 = .ok (.invokestatic 164, 3) := by decide +kernel
theorem dX11_known_21 : decode cX11_known 21 = .ok (.ifCond .ne 6, 3) := by decide +kernel
theorem dX11_known_24 : decode cX11_known 24 = .ok (.ldc 136, 2) := by decide +kernel
theorem dX11_known_26 : decode cX11_known 26 = .ok (.ireturn, 1) := by decide +kernel
theorem dX11_known_27 : decode cX11_known 27 = .ok (.iconst 0, 1) := by decide +kernel
theorem dX11_known_28 : decode cX11_known 28 = .ok (.istore_n 3, 1) := by decide +kernel
theorem dX11_known_29 : decode cX11_known 29 = .ok (.iconst 0, 1) := by decide +kernel
theorem dX11_known_30 : decode cX11_known 30 = .ok (.istore 4, 2) := by decide +kernel
theorem dX11_known_32 : decode cX11_known 32 = .ok (.iload 4, 2) := by decide +kernel
theorem dX11_known_34 : decode cX11_known 34 = .ok (.aload_n 0, 1) := by decide +kernel
theorem dX11_known_35 : decode cX11_known 35 = .ok (.getfield 334, 3) := by decide +kernel
theorem dX11_known_38 : decode cX11_known 38 = .ok (.if_icmp .ge 47, 3) := by decide +kernel
theorem dX11_known_41 : decode cX11_known 41 = .ok (.iload_n 3, 1) := by decide +kernel
theorem dX11_known_42 : decode cX11_known 42 = .ok (.aload_n 0, 1) := by decide +kernel
theorem dX11_known_43 : decode cX11_known 43 = .ok (.getfield 118, 3) := by decide +kernel
theorem dX11_known_46 : decode cX11_known 46 = .ok (.iload 4, 2) := by decide +kernel
theorem dX11_known_48 : decode cX11_known 48 = .ok (.iaload, 1) := by decide +kernel
theorem dX11_known_49 : decode cX11_known 49 = .ok (.iload_n 1, 1) := by decide +kernel
theorem dX11_known_50 : decode cX11_known 50 = .ok (.if_icmp .ne 26, 3) := by decide +kernel
theorem dX11_known_53 : decode cX11_known 53 = .ok (.aload_n 0, 1) := by decide +kernel
theorem dX11_known_54 : decode cX11_known 54 = .ok (.getfield 115, 3) := by decide +kernel
theorem dX11_known_57 : decode cX11_known 57 = .ok (.iload 4, 2) := by decide +kernel
theorem dX11_known_59 : decode cX11_known 59 = .ok (.iaload, 1) := by decide +kernel
theorem dX11_known_60 : decode cX11_known 60 = .ok (.iload_n 2, 1) := by decide +kernel
theorem dX11_known_61 : decode cX11_known 61 = .ok (.if_icmp .gt 15, 3) := by decide +kernel
theorem dX11_known_64 : decode cX11_known 64 = .ok (.iconst 1, 1) := by decide +kernel
theorem dX11_known_65 : decode cX11_known 65 = .ok (.aload_n 0, 1) := by decide +kernel
theorem dX11_known_66 : decode cX11_known 66 = .ok (.getfield 112, 3) := by decide +kernel
theorem dX11_known_69 : decode cX11_known 69 = .ok (.iload 4, 2) := by decide +kernel
theorem dX11_known_71 : decode cX11_known 71 = .ok (.iaload, 1) := by decide +kernel
theorem dX11_known_72 : decode cX11_known 72 = .ok (.ishl, 1) := by decide +kernel
theorem dX11_known_73 : decode cX11_known 73 = .ok (.goto 4, 3) := by decide +kernel
theorem dX11_known_76 : decode cX11_known 76 = .ok (.iconst 0, 1) := by decide +kernel
theorem dX11_known_77 : decode cX11_known 77 = .ok (.ior, 1) := by decide +kernel
theorem dX11_known_78 : decode cX11_known 78 = .ok (.istore_n 3, 1) := by decide +kernel
theorem dX11_known_79 : decode cX11_known 79 = .ok (.iinc 4 1, 3) := by decide +kernel
theorem dX11_known_82 : decode cX11_known 82 = .ok (.goto (-50), 3) := by decide +kernel
theorem dX11_known_85 : decode cX11_known 85 = .ok (.iload_n 3, 1) := by decide +kernel
theorem dX11_known_86 : decode cX11_known 86 = .ok (.ireturn, 1) := by decide +kernel
theorem dX11_isOf_0 : decode cX11_isOf 0 = .ok (.iload_n 1, 1) := by decide +kernel
theorem dX11_isOf_1 : decode cX11_isOf 1 = .ok (.ifCond .eq 43, 3) := by decide +kernel
theorem dX11_isOf_4 : decode cX11_isOf 4 = .ok (.iload_n 0, 1) := by decide +kernel
theorem dX11_isOf_5 : decode cX11_isOf 5 = .ok (.iload_n 1, 1) := by decide +kernel
theorem dX11_isOf_6 : decode cX11_isOf 6 = .ok (.if_icmp .eq 38, 3) := by decide +kernel
theorem dX11_isOf_9 : decode cX11_isOf 9 = .ok (.iload_n 1, 1) := by decide +kernel
theorem dX11_isOf_10 : decode cX11_isOf 10 = .ok (.iconst 1, 1) := by decide +kernel
theorem dX11_isOf_11 : decode cX11_isOf 11 = .ok (.if_icmp .ne 13, 3) := by decide +kernel
theorem dX11_isOf_14 : decode cX11_isOf 14 = .ok (.iload_n 0, 1) := by decide +kernel
theorem dX11_isOf_15 : decode cX11_isOf 15 = .ok (.iconst 2, 1) := by decide +kernel
theorem dX11_isOf_16 : decode cX11_isOf 16 = .ok (.if_icmp .eq 28, 3) := by decide +kernel
theorem dX11_isOf_19 : decode cX11_isOf 19 = .ok (.iload_n 0, 1) := by decide +kernel
theorem dX11_isOf_20 : decode cX11_isOf 20 = .ok (.iconst 3, 1) := by decide +kernel
theorem dX11_isOf_21 : decode cX11_isOf 21 = .ok (.if_icmp .eq 23, 3) := by decide +kernel
theorem dX11_isOf_24 : decode cX11_isOf 24 = .ok (.iload_n 1, 1) := by decide +kernel
theorem dX11_isOf_25 : decode cX11_isOf 25 = .ok (.iconst 2, 1) := by decide +kernel
theorem dX11_isOf_26 : decode cX11_isOf 26 = .ok (.if_icmp .ne 8, 3) := by decide +kernel
theorem dX11_isOf_29 : decode cX11_isOf 29 = .ok (.iload_n 0, 1) := by decide +kernel
theorem dX11_isOf_30 : decode cX11_isOf 30 = .ok (.iconst 3, 1) := by decide +kernel
theorem dX11_isOf_31 : decode cX11_isOf 31 = .ok (.if_icmp .eq 13, 3) := by decide +kernel
theorem dX11_isOf_34 : decode cX11_isOf 34 = .ok (.iload_n 1, 1) := by decide +kernel
theorem dX11_isOf_35 : decode cX11_isOf 35 = .ok (.iconst 4, 1) := by decide +kernel
theorem dX11_isOf_36 : decode cX11_isOf 36 = .ok (.if_icmp .ne 12, 3) := by decide +kernel
theorem dX11_isOf_39 : decode cX11_isOf 39 = .ok (.iload_n 0, 1) := by decide +kernel
theorem dX11_isOf_40 : decode cX11_isOf 40 = .ok (.iconst 5, 1) := by decide +kernel
theorem dX11_isOf_41 : decode cX11_isOf 41 = .ok (.if_icmp .ne 7, 3) := by decide +kernel
theorem dX11_isOf_44 : decode cX11_isOf 44 = .ok (.iconst 1, 1) := by decide +kernel
theorem dX11_isOf_45 : decode cX11_isOf 45 = .ok (.goto 4, 3) := by decide +kernel
theorem dX11_isOf_48 : decode cX11_isOf 48 = .ok (.iconst 0, 1) := by decide +kernel
theorem dX11_isOf_49 : decode cX11_isOf 49 = .ok (.ireturn, 1) := by decide +kernel
theorem dX11_kind_0 : decode cX11_kind 0 = .ok (.aload_n 0, 1) := by decide +kernel
theorem dX11_kind_1 : decode cX11_kind 1 = .ok (.iconst 0, 1) := by decide +kernel
theorem dX11_kind_2 : decode cX11_kind 2 = .ok (.putfield 1, 3) := by decide +kernel
theorem dX11_kind_5 : decode cX11_kind 5 = .ok (.aload_n 0, 1) := by decide +kernel
theorem dX11_kind_6 : decode cX11_kind 6 = .ok (.iload_n 1, 1) := by decide +kernel
theorem dX11_kind_7 : decode cX11_kind 7 = .ok (.invokevirtual 329, 3) := by decide +kernel
theorem dX11_kind_10 : decode cX11_kind 10 = .ok (.ifCond .eq 12, 3) := by decide +kernel
theorem dX11_kind_13 : decode cX11_kind 13 = .ok (.aload_n 0, 1) := by decide +kernel
theorem dX11_kind_14 : decode cX11_kind 14 = .ok (.getfield 103, 3) := by decide +kernel
theorem dX11_kind_17 : decode cX11_kind 17 = .ok (.iload_n 1, 1) := by decide +kernel
theorem dX11_kind_18 : decode cX11_kind 18 = .ok (.iaload, 1) := by decide +kernel
theorem dX11_kind_19 : decode cX11_kind 19 = .ok (.goto 5, 3) := by decide +kernel
theorem dX11_kind_22 : decode cX11_kind 22 = .ok (.ldc 136, 2) := by decide +kernel
theorem dX11_kind_24 : decode cX11_kind 24 = .ok (.ireturn, 1) := by decide +kernel
theorem dX11_as_0 : decode cX11_as 0 = .ok (.aload_n 0, 1) := by decide +kernel
theorem dX11_as_1 : decode cX11_as 1 = .ok (.iconst 0, 1) := by decide +kernel
theorem dX11_as_2 : decode cX11_as 2 = .ok (.putfield 1, 3) := by decide +kernel
theorem dX11_as_5 : decode cX11_as 5 = .ok (.aload_n 0, 1) := by decide +kernel
theorem dX11_as_6 : decode cX11_as 6 = .ok (.iload_n 1, 1) := by decide +kernel
theorem dX11_as_7 : decode cX11_as 7 = .ok (.invokevirtual 329, 3) := by decide +kernel
theorem dX11_as_10 : decode cX11_as 10 = .ok (.ifCond .eq 15, 3) := by decide +kernel
theorem dX11_as_13 : decode cX11_as 13 = .ok (.iload_n 2, 1) := by decide +kernel
theorem dX11_as_14 : decode cX11_as 14 = .ok (.i2l, 1) := by decide +kernel
theorem dX11_as_15 : decode cX11_as 15 = .ok (.lconst 0, 1) := by decide +kernel
theorem dX11_as_16 : decode cX11_as 16 = .ok (.ldc2_w 213, 3) := by decide +kernel
theorem dX11_as_19 : decode cX11_as 19 = .ok (.invokestatic 126, 3) := by decide +kernel
theorem dX11_as_22 : decode cX11_as 22 = .ok (.ifCond .ne 6, 3) := by decide +kernel
theorem dX11_as_25 : decode cX11_as 25 = .ok (.ldc 136, 2) := by decide +kernel
theorem dX11_as_27 : decode cX11_as 27 = .ok (.ireturn, 1) := by decide +kernel
theorem dX11_as_28 : decode cX11_as 28 = .ok (.aload_n 0, 1) := by decide +kernel
theorem dX11_as_29 : decode cX11_as 29 = .ok (.iconst 0, 1) := by decide +kernel
theorem dX11_as_30 : decode cX11_as 30 = .ok (.putfield 7, 3) := by decide +kernel
theorem dX11_as_33 : decode cX11_as 33 = .ok (.aload_n 0, 1) := by decide +kernel
theorem dX11_as_34 : decode cX11_as 34 = .ok (.getfield 103, 3) := by decide +kernel
theorem dX11_as_37 : decode cX11_as 37 = .ok (.iload_n 1, 1) := by decide +kernel
theorem dX11_as_38 : decode cX11_as 38 = .ok (.iaload, 1) := by decide +kernel
theorem dX11_as_39 : decode cX11_as 39 = .ok (.iload_n 2, 1) := by decide +kernel
theorem dX11_as_40 : decode cX11_as 40 = .ok (.invokestatic 337, 3) := by decide +kernel
theorem dX11_as_43 : decode cX11_as 43 = .ok (.ifCond .eq 12, 3) := by decide +kernel
theorem dX11_as_46 : decode cX11_as 46 = .ok (.aload_n 0, 1) := by decide +kernel
theorem dX11_as_47 : decode cX11_as 47 = .ok (.getfield 106, 3) := by decide +kernel
theorem dX11_as_50 : decode cX11_as 50 = .ok (.iload_n 1, 1) := by decide +kernel
theorem dX11_as_51 : decode cX11_as 51 = .ok (.iaload, 1) := by decide +kernel
theorem dX11_as_52 : decode cX11_as 52 = .ok (.goto 8, 3) := by decide +kernel
theorem dX11_as_55 : decode cX11_as 55 = .ok (.aload_n 0, 1) := by decide +kernel
theorem dX11_as_56 : decode cX11_as 56 = .ok (.iconst 3, 1) := by decide +kernel
theorem dX11_as_57 : decode cX11_as 57 = .ok (.invokevirtual 137, 3) := by decide +kernel
theorem dX11_as_60 : decode cX11_as 60 = .ok (.ireturn, 1) := by decide +kernel
theorem dX11_began_0 : decode cX11_began 0 = .ok (.aload_n 0, 1) := by decide +kernel
theorem dX11_began_1 : decode cX11_began 1 = .ok (.getfield 341, 3) := by decide +kernel
theorem dX11_began_4 : decode cX11_began 4 = .ok (.bipush 16, 2) := by decide +kernel
theorem dX11_began_6 : decode cX11_began 6 = .ok (.if_icmp .ge 23, 3) := by decide +kernel
theorem dX11_began_9 : decode cX11_began 9 = .ok (.aload_n 0, 1) := by decide +kernel
theorem dX11_began_10 : decode cX11_began 10 = .ok (.getfield 121, 3) := by decide +kernel
theorem dX11_began_13 : decode cX11_began 13 = .ok (.aload_n 0, 1) := by decide +kernel
theorem dX11_began_14 : decode cX11_began 14 = .ok (.getfield 341, 3) := by decide +kernel
theorem dX11_began_17 : decode cX11_began 17 = .ok (.iload_n 1, 1) := by decide +kernel
theorem dX11_began_18 : decode cX11_began 18 = .ok (.iastore, 1) := by decide +kernel
theorem dX11_began_19 : decode cX11_began 19 = .ok (.aload_n 0, 1) := by decide +kernel
theorem dX11_began_20 : decode cX11_began 20 = .ok (.dup, 1) := by decide +kernel
theorem dX11_began_21 : decode cX11_began 21 = .ok (.getfield 341, 3) := by decide +kernel
theorem dX11_began_24 : decode cX11_began 24 = .ok (.iconst 1, 1) := by decide +kernel
theorem dX11_began_25 : decode cX11_began 25 = .ok (.iadd, 1) := by decide +kernel
theorem dX11_began_26 : decode cX11_began 26 = .ok (.putfield 341, 3) := by decide +kernel
theorem dX11_began_29 : decode cX11_began 29 = .ok (.return_, 1) := by decide +kernel
theorem dX11_loanSize_0 : decode cX11_loanSize 0 = .ok (.aload_n 0, 1) := by decide +kernel
theorem dX11_loanSize_1 : decode cX11_loanSize 1 = .ok (.bipush 14, 2) := by decide +kernel
theorem dX11_loanSize_3 : decode cX11_loanSize 3 = .ok (.invokevirtual 344, 3) := by decide +kernel
theorem dX11_loanSize_6 : decode cX11_loanSize 6 = .ok (.aload_n 0, 1) := by decide +kernel
theorem dX11_loanSize_7 : decode cX11_loanSize 7 = .ok (.bipush 10, 2) := by decide +kernel
theorem dX11_loanSize_9 : decode cX11_loanSize 9 = .ok (.invokevirtual 344, 3) := by decide +kernel
theorem dX11_loanSize_12 : decode cX11_loanSize 12 = .ok (.aload_n 0, 1) := by decide +kernel
theorem dX11_loanSize_13 : decode cX11_loanSize 13 = .ok (.getfield 106, 3) := by decide +kernel
theorem dX11_loanSize_16 : decode cX11_loanSize 16 = .ok (.iload_n 1, 1) := by decide +kernel
theorem dX11_loanSize_17 : decode cX11_loanSize 17 = .ok (.iaload, 1) := by decide +kernel
theorem dX11_loanSize_18 : decode cX11_loanSize 18 = .ok (.iconst 2, 1) := by decide +kernel
theorem dX11_loanSize_19 : decode cX11_loanSize 19 = .ok (.idiv, 1) := by decide +kernel
theorem dX11_loanSize_20 : decode cX11_loanSize 20 = .ok (.ireturn, 1) := by decide +kernel
theorem dX11_markOf_0 : decode cX11_markOf 0 = .ok (.aload_n 0, 1) := by decide +kernel
theorem dX11_markOf_1 : decode cX11_markOf 1 = .ok (.getfield 103, 3) := by decide +kernel
theorem dX11_markOf_4 : decode cX11_markOf 4 = .ok (.iload_n 1, 1) := by decide +kernel
theorem dX11_markOf_5 : decode cX11_markOf 5 = .ok (.iaload, 1) := by decide +kernel
theorem dX11_markOf_6 : decode cX11_markOf 6 = .ok (.istore_n 2, 1) := by decide +kernel
theorem dX11_markOf_7 : decode cX11_markOf 7 = .ok (.iload_n 2, 1) := by decide +kernel
theorem dX11_markOf_8 : decode cX11_markOf 8 = .ok (.iconst 5, 1) := by decide +kernel
theorem dX11_markOf_9 : decode cX11_markOf 9 = .ok (.if_icmp .ne 9, 3) := by decide +kernel
theorem dX11_markOf_12 : decode cX11_markOf 12 = .ok (.aload_n 0, 1) := by decide +kernel
theorem dX11_markOf_13 : decode cX11_markOf 13 = .ok (.bipush 23, 2) := by decide +kernel
theorem dX11_markOf_15 : decode cX11_markOf 15 = .ok (.invokevirtual 344, 3) := by decide +kernel
theorem dX11_markOf_18 : decode cX11_markOf 18 = .ok (.iload_n 2, 1) := by decide +kernel
theorem dX11_markOf_19 : decode cX11_markOf 19 = .ok (.iconst 4, 1) := by decide +kernel
theorem dX11_markOf_20 : decode cX11_markOf 20 = .ok (.invokestatic 337, 3) := by decide +kernel
theorem dX11_markOf_23 : decode cX11_markOf 23 = .ok (.ifCond .eq 9, 3) := by decide +kernel
theorem dX11_markOf_26 : decode cX11_markOf 26 = .ok (.aload_n 0, 1) := by decide +kernel
theorem dX11_markOf_27 : decode cX11_markOf 27 = .ok (.bipush 22, 2) := by decide +kernel
theorem dX11_markOf_29 : decode cX11_markOf 29 = .ok (.invokevirtual 344, 3) := by decide +kernel
theorem dX11_markOf_32 : decode cX11_markOf 32 = .ok (.iload_n 2, 1) := by decide +kernel
theorem dX11_markOf_33 : decode cX11_markOf 33 = .ok (.iconst 2, 1) := by decide +kernel
theorem dX11_markOf_34 : decode cX11_markOf 34 = .ok (.invokestatic 337, 3) := by decide +kernel
theorem dX11_markOf_37 : decode cX11_markOf 37 = .ok (.ifCond .eq 9, 3) := by decide +kernel
theorem dX11_markOf_40 : decode cX11_markOf 40 = .ok (.aload_n 0, 1) := by decide +kernel
theorem dX11_markOf_41 : decode cX11_markOf 41 = .ok (.bipush 21, 2) := by decide +kernel
theorem dX11_markOf_43 : decode cX11_markOf 43 = .ok (.invokevirtual 344, 3) := by decide +kernel
theorem dX11_markOf_46 : decode cX11_markOf 46 = .ok (.aload_n 0, 1) := by decide +kernel
theorem dX11_markOf_47 : decode cX11_markOf 47 = .ok (.bipush 20, 2) := by decide +kernel
theorem dX11_markOf_49 : decode cX11_markOf 49 = .ok (.invokevirtual 344, 3) := by decide +kernel
theorem dX11_markOf_52 : decode cX11_markOf 52 = .ok (.aload_n 0, 1) := by decide +kernel
theorem dX11_markOf_53 : decode cX11_markOf 53 = .ok (.getfield 188, 3) := by decide +kernel
theorem dX11_markOf_56 : decode cX11_markOf 56 = .ok (.iload_n 2, 1) := by decide +kernel
theorem dX11_markOf_57 : decode cX11_markOf 57 = .ok (.iconst 2, 1) := by decide +kernel
theorem dX11_markOf_58 : decode cX11_markOf 58 = .ok (.invokestatic 337, 3) := by decide +kernel
theorem dX11_markOf_61 : decode cX11_markOf 61 = .ok (.ifCond .eq 8, 3) := by decide +kernel
theorem dX11_markOf_64 : decode cX11_markOf 64 = .ok (.bipush 100, 2) := by decide +kernel
theorem dX11_markOf_66 : decode cX11_markOf 66 = .ok (.goto 25, 3) := by decide +kernel
theorem dX11_markOf_69 : decode cX11_markOf 69 = .ok (.iload_n 2, 1) := by decide +kernel
theorem dX11_markOf_70 : decode cX11_markOf 70 = .ok (.iconst 4, 1) := by decide +kernel
theorem dX11_markOf_71 : decode cX11_markOf 71 = .ok (.invokestatic 337, 3) := by decide +kernel
theorem dX11_markOf_74 : decode cX11_markOf 74 = .ok (.ifCond .eq 16, 3) := by decide +kernel
theorem dX11_markOf_77 : decode cX11_markOf 77 = .ok (.aload_n 0, 1) := by decide +kernel
theorem dX11_markOf_78 : decode cX11_markOf 78 = .ok (.aload_n 0, 1) := by decide +kernel
theorem dX11_markOf_79 : decode cX11_markOf 79 = .ok (.getfield 188, 3) := by decide +kernel
theorem dX11_markOf_82 : decode cX11_markOf 82 = .ok (.iconst 1, 1) := by decide +kernel
theorem dX11_markOf_83 : decode cX11_markOf 83 = .ok (.iconst 0, 1) := by decide +kernel
theorem dX11_markOf_84 : decode cX11_markOf 84 = .ok (.invokevirtual 298, 3) := by decide +kernel
theorem dX11_markOf_87 : decode cX11_markOf 87 = .ok (.goto 4, 3) := by decide +kernel
theorem dX11_markOf_90 : decode cX11_markOf 90 = .ok (.iconst 0, 1) := by decide +kernel
theorem dX11_markOf_91 : decode cX11_markOf 91 = .ok (.iadd, 1) := by decide +kernel
theorem dX11_markOf_92 : decode cX11_markOf 92 = .ok (.istore_n 3, 1) := by decide +kernel
theorem dX11_markOf_93 : decode cX11_markOf 93 = .ok (.iload_n 2, 1) := by decide +kernel
theorem dX11_markOf_94 : decode cX11_markOf 94 = .ok (.iconst 5, 1) := by decide +kernel
theorem dX11_markOf_95 : decode cX11_markOf 95 = .ok (.if_icmp .ne 13, 3) := by decide +kernel
theorem dX11_markOf_98 : decode cX11_markOf 98 = .ok (.iload_n 3, 1) := by decide +kernel
theorem dX11_markOf_99 : decode cX11_markOf 99 = .ok (.aload_n 0, 1) := by decide +kernel
theorem dX11_markOf_100 : decode cX11_markOf 100 = .ok (.iload_n 1, 1) := by decide +kernel
theorem dX11_markOf_101 : decode cX11_markOf 101 = .ok (.invokevirtual 347, 3) := by decide +kernel
theorem dX11_markOf_104 : decode cX11_markOf 104 = .ok (.iadd, 1) := by decide +kernel
theorem dX11_markOf_105 : decode cX11_markOf 105 = .ok (.goto 4, 3) := by decide +kernel
theorem dX11_markOf_108 : decode cX11_markOf 108 = .ok (.iload_n 3, 1) := by decide +kernel
theorem dX11_markOf_109 : decode cX11_markOf 109 = .ok (.ireturn, 1) := by decide +kernel
theorem dX11_sizeBy_0 : decode cX11_sizeBy 0 = .ok (.aload_n 0, 1) := by decide +kernel
theorem dX11_sizeBy_1 : decode cX11_sizeBy 1 = .ok (.getfield 103, 3) := by decide +kernel
theorem dX11_sizeBy_4 : decode cX11_sizeBy 4 = .ok (.iload_n 1, 1) := by decide +kernel
theorem dX11_sizeBy_5 : decode cX11_sizeBy 5 = .ok (.iaload, 1) := by decide +kernel
theorem dX11_sizeBy_6 : decode cX11_sizeBy 6 = .ok (.istore_n 2, 1) := by decide +kernel
theorem dX11_sizeBy_7 : decode cX11_sizeBy 7 = .ok (.iload_n 2, 1) := by decide +kernel
theorem dX11_sizeBy_8 : decode cX11_sizeBy 8 = .ok (.iconst 5, 1) := by decide +kernel
theorem dX11_sizeBy_9 : decode cX11_sizeBy 9 = .ok (.if_icmp .ne 9, 3) := by decide +kernel
theorem dX11_sizeBy_12 : decode cX11_sizeBy 12 = .ok (.aload_n 0, 1) := by decide +kernel
theorem dX11_sizeBy_13 : decode cX11_sizeBy 13 = .ok (.iload_n 1, 1) := by decide +kernel
theorem dX11_sizeBy_14 : decode cX11_sizeBy 14 = .ok (.invokevirtual 347, 3) := by decide +kernel
theorem dX11_sizeBy_17 : decode cX11_sizeBy 17 = .ok (.ireturn, 1) := by decide +kernel
theorem dX11_sizeBy_18 : decode cX11_sizeBy 18 = .ok (.iload_n 2, 1) := by decide +kernel
theorem dX11_sizeBy_19 : decode cX11_sizeBy 19 = .ok (.iconst 3, 1) := by decide +kernel
theorem dX11_sizeBy_20 : decode cX11_sizeBy 20 = .ok (.if_icmp .ne 9, 3) := by decide +kernel
theorem dX11_sizeBy_23 : decode cX11_sizeBy 23 = .ok (.aload_n 0, 1) := by decide +kernel
theorem dX11_sizeBy_24 : decode cX11_sizeBy 24 = .ok (.bipush 13, 2) := by decide +kernel
theorem dX11_sizeBy_26 : decode cX11_sizeBy 26 = .ok (.invokevirtual 344, 3) := by decide +kernel
theorem dX11_sizeBy_29 : decode cX11_sizeBy 29 = .ok (.iload_n 2, 1) := by decide +kernel
theorem dX11_sizeBy_30 : decode cX11_sizeBy 30 = .ok (.iconst 2, 1) := by decide +kernel
theorem dX11_sizeBy_31 : decode cX11_sizeBy 31 = .ok (.invokestatic 337, 3) := by decide +kernel
theorem dX11_sizeBy_34 : decode cX11_sizeBy 34 = .ok (.ifCond .eq 9, 3) := by decide +kernel
theorem dX11_sizeBy_37 : decode cX11_sizeBy 37 = .ok (.aload_n 0, 1) := by decide +kernel
theorem dX11_sizeBy_38 : decode cX11_sizeBy 38 = .ok (.bipush 12, 2) := by decide +kernel
theorem dX11_sizeBy_40 : decode cX11_sizeBy 40 = .ok (.invokevirtual 344, 3) := by decide +kernel
theorem dX11_sizeBy_43 : decode cX11_sizeBy 43 = .ok (.iload_n 2, 1) := by decide +kernel
theorem dX11_sizeBy_44 : decode cX11_sizeBy 44 = .ok (.iconst 1, 1) := by decide +kernel
theorem dX11_sizeBy_45 : decode cX11_sizeBy 45 = .ok (.invokestatic 337, 3) := by decide +kernel
theorem dX11_sizeBy_48 : decode cX11_sizeBy 48 = .ok (.ifCond .eq 9, 3) := by decide +kernel
theorem dX11_sizeBy_51 : decode cX11_sizeBy 51 = .ok (.aload_n 0, 1) := by decide +kernel
theorem dX11_sizeBy_52 : decode cX11_sizeBy 52 = .ok (.bipush 11, 2) := by decide +kernel
theorem dX11_sizeBy_54 : decode cX11_sizeBy 54 = .ok (.invokevirtual 344, 3) := by decide +kernel
theorem dX11_sizeBy_57 : decode cX11_sizeBy 57 = .ok (.aload_n 0, 1) := by decide +kernel
theorem dX11_sizeBy_58 : decode cX11_sizeBy 58 = .ok (.bipush 10, 2) := by decide +kernel
theorem dX11_sizeBy_60 : decode cX11_sizeBy 60 = .ok (.invokevirtual 344, 3) := by decide +kernel
theorem dX11_sizeBy_63 : decode cX11_sizeBy 63 = .ok (.aload_n 0, 1) := by decide +kernel
theorem dX11_sizeBy_64 : decode cX11_sizeBy 64 = .ok (.getfield 106, 3) := by decide +kernel
theorem dX11_sizeBy_67 : decode cX11_sizeBy 67 = .ok (.iload_n 1, 1) := by decide +kernel
theorem dX11_sizeBy_68 : decode cX11_sizeBy 68 = .ok (.iaload, 1) := by decide +kernel
theorem dX11_sizeBy_69 : decode cX11_sizeBy 69 = .ok (.iload_n 2, 1) := by decide +kernel
theorem dX11_sizeBy_70 : decode cX11_sizeBy 70 = .ok (.iconst 1, 1) := by decide +kernel
theorem dX11_sizeBy_71 : decode cX11_sizeBy 71 = .ok (.invokestatic 337, 3) := by decide +kernel
theorem dX11_sizeBy_74 : decode cX11_sizeBy 74 = .ok (.ifCond .eq 11, 3) := by decide +kernel
theorem dX11_sizeBy_77 : decode cX11_sizeBy 77 = .ok (.aload_n 0, 1) := by decide +kernel
theorem dX11_sizeBy_78 : decode cX11_sizeBy 78 = .ok (.iload_n 1, 1) := by decide +kernel
theorem dX11_sizeBy_79 : decode cX11_sizeBy 79 = .ok (.invokevirtual 350, 3) := by decide +kernel
theorem dX11_sizeBy_82 : decode cX11_sizeBy 82 = .ok (.goto 4, 3) := by decide +kernel
theorem dX11_sizeBy_85 : decode cX11_sizeBy 85 = .ok (.iconst 0, 1) := by decide +kernel
theorem dX11_sizeBy_86 : decode cX11_sizeBy 86 = .ok (.iadd, 1) := by decide +kernel
theorem dX11_sizeBy_87 : decode cX11_sizeBy 87 = .ok (.istore_n 3, 1) := by decide +kernel
theorem dX11_sizeBy_88 : decode cX11_sizeBy 88 = .ok (.iload_n 3, 1) := by decide +kernel
theorem dX11_sizeBy_89 : decode cX11_sizeBy 89 = .ok (.iload_n 2, 1) := by decide +kernel
theorem dX11_sizeBy_90 : decode cX11_sizeBy 90 = .ok (.iconst 2, 1) := by decide +kernel
theorem dX11_sizeBy_91 : decode cX11_sizeBy 91 = .ok (.invokestatic 337, 3) := by decide +kernel
theorem dX11_sizeBy_94 : decode cX11_sizeBy 94 = .ok (.ifCond .eq 17, 3) := by decide +kernel
theorem dX11_sizeBy_97 : decode cX11_sizeBy 97 = .ok (.aload_n 0, 1) := by decide +kernel
theorem dX11_sizeBy_98 : decode cX11_sizeBy 98 = .ok (.getfield 106, 3) := by decide +kernel
theorem dX11_sizeBy_101 : decode cX11_sizeBy 101 = .ok (.aload_n 0, 1) := by decide +kernel
theorem dX11_sizeBy_102 : decode cX11_sizeBy 102 = .ok (.getfield 109, 3) := by decide +kernel
theorem dX11_sizeBy_105 : decode cX11_sizeBy 105 = .ok (.iload_n 1, 1) := by decide +kernel
theorem dX11_sizeBy_106 : decode cX11_sizeBy 106 = .ok (.iaload, 1) := by decide +kernel
theorem dX11_sizeBy_107 : decode cX11_sizeBy 107 = .ok (.iaload, 1) := by decide +kernel
theorem dX11_sizeBy_108 : decode cX11_sizeBy 108 = .ok (.goto 4, 3) := by decide +kernel
theorem dX11_sizeBy_111 : decode cX11_sizeBy 111 = .ok (.iconst 0, 1) := by decide +kernel
theorem dX11_sizeBy_112 : decode cX11_sizeBy 112 = .ok (.iadd, 1) := by decide +kernel
theorem dX11_sizeBy_113 : decode cX11_sizeBy 113 = .ok (.istore_n 3, 1) := by decide +kernel
theorem dX11_sizeBy_114 : decode cX11_sizeBy 114 = .ok (.iload_n 2, 1) := by decide +kernel
theorem dX11_sizeBy_115 : decode cX11_sizeBy 115 = .ok (.iconst 3, 1) := by decide +kernel
theorem dX11_sizeBy_116 : decode cX11_sizeBy 116 = .ok (.if_icmp .ne 9, 3) := by decide +kernel
theorem dX11_sizeBy_119 : decode cX11_sizeBy 119 = .ok (.iconst 2, 1) := by decide +kernel
theorem dX11_sizeBy_120 : decode cX11_sizeBy 120 = .ok (.iload_n 3, 1) := by decide +kernel
theorem dX11_sizeBy_121 : decode cX11_sizeBy 121 = .ok (.imul, 1) := by decide +kernel
theorem dX11_sizeBy_122 : decode cX11_sizeBy 122 = .ok (.goto 4, 3) := by decide +kernel
theorem dX11_sizeBy_125 : decode cX11_sizeBy 125 = .ok (.iload_n 3, 1) := by decide +kernel
theorem dX11_sizeBy_126 : decode cX11_sizeBy 126 = .ok (.ireturn, 1) := by decide +kernel
theorem dX11_ask_0 : decode cX11_ask 0 = .ok (.aload_n 0, 1) := by decide +kernel
theorem dX11_ask_1 : decode cX11_ask 1 = .ok (.iconst 0, 1) := by decide +kernel
theorem dX11_ask_2 : decode cX11_ask 2 = .ok (.putfield 1, 3) := by decide +kernel
theorem dX11_ask_5 : decode cX11_ask 5 = .ok (.aload_n 0, 1) := by decide +kernel
theorem dX11_ask_6 : decode cX11_ask 6 = .ok (.iload_n 1, 1) := by decide +kernel
theorem dX11_ask_7 : decode cX11_ask 7 = .ok (.invokevirtual 329, 3) := by decide +kernel
theorem dX11_ask_10 : decode cX11_ask 10 = .ok (.ifCond .eq 13, 3) := by decide +kernel
theorem dX11_ask_13 : decode cX11_ask 13 = .ok (.iload_n 2, 1) := by decide +kernel
theorem dX11_ask_14 : decode cX11_ask 14 = .ok (.i2l, 1) := by decide +kernel
theorem dX11_ask_15 : decode cX11_ask 15 = .ok (.lconst 0, 1) := by decide +kernel
theorem dX11_ask_16 : decode cX11_ask 16 = .ok (.lconst 1, 1) := by decide +kernel
theorem dX11_ask_17 : decode cX11_ask 17 = .ok (.invokestatic 126, 3) := by decide +kernel
theorem dX11_ask_20 : decode cX11_ask 20 = .ok (.ifCond .ne 6, 3) := by decide +kernel
theorem dX11_ask_23 : decode cX11_ask 23 = .ok (.ldc 136, 2) := by decide +kernel
theorem dX11_ask_25 : decode cX11_ask 25 = .ok (.ireturn, 1) := by decide +kernel
theorem dX11_ask_26 : decode cX11_ask 26 = .ok (.aload_n 0, 1) := by decide +kernel
theorem dX11_ask_27 : decode cX11_ask 27 = .ok (.iconst 0, 1) := by decide +kernel
theorem dX11_ask_28 : decode cX11_ask 28 = .ok (.putfield 341, 3) := by decide +kernel
theorem dX11_ask_31 : decode cX11_ask 31 = .ok (.iload_n 2, 1) := by decide +kernel
theorem dX11_ask_32 : decode cX11_ask 32 = .ok (.ifCond .ne 11, 3) := by decide +kernel
theorem dX11_ask_35 : decode cX11_ask 35 = .ok (.aload_n 0, 1) := by decide +kernel
theorem dX11_ask_36 : decode cX11_ask 36 = .ok (.iload_n 1, 1) := by decide +kernel
theorem dX11_ask_37 : decode cX11_ask 37 = .ok (.invokevirtual 353, 3) := by decide +kernel
theorem dX11_ask_40 : decode cX11_ask 40 = .ok (.goto 8, 3) := by decide +kernel
theorem dX11_ask_43 : decode cX11_ask 43 = .ok (.aload_n 0, 1) := by decide +kernel
theorem dX11_ask_44 : decode cX11_ask 44 = .ok (.iload_n 1, 1) := by decide +kernel
theorem dX11_ask_45 : decode cX11_ask 45 = .ok (.invokevirtual 350, 3) := by decide +kernel
theorem dX11_ask_48 : decode cX11_ask 48 = .ok (.ireturn, 1) := by decide +kernel
theorem dX11_trace_0 : decode cX11_trace 0 = .ok (.aload_n 0, 1) := by decide +kernel
theorem dX11_trace_1 : decode cX11_trace 1 = .ok (.iconst 0, 1) := by decide +kernel
theorem dX11_trace_2 : decode cX11_trace 2 = .ok (.putfield 1, 3) := by decide +kernel
theorem dX11_trace_5 : decode cX11_trace 5 = .ok (.iload_n 1, 1) := by decide +kernel
theorem dX11_trace_6 : decode cX11_trace 6 = .ok (.i2l, 1) := by decide +kernel
theorem dX11_trace_7 : decode cX11_trace 7 = .ok (.lconst 0, 1) := by decide +kernel
theorem dX11_trace_8 : decode cX11_trace 8 = .ok (.aload_n 0, 1) := by decide +kernel
theorem dX11_trace_9 : decode cX11_trace 9 = .ok (.getfield 341, 3) := by decide +kernel
theorem dX11_trace_12 : decode cX11_trace 12 = .ok (.iconst 1, 1) := by decide +kernel
theorem dX11_trace_13 : decode cX11_trace 13 = .ok (.isub, 1) := by decide +kernel
theorem dX11_trace_14 : decode cX11_trace 14 = .ok (.i2l, 1) := by decide +kernel
theorem dX11_trace_15 : decode cX11_trace 15 = .ok (.invokestatic 126, 3) := by decide +kernel
theorem dX11_trace_18 : decode cX11_trace 18 = .ok (.ifCond .eq 12, 3) := by decide +kernel
theorem dX11_trace_21 : decode cX11_trace 21 = .ok (.aload_n 0, 1) := by decide +kernel
theorem dX11_trace_22 : decode cX11_trace 22 = .ok (.getfield 121, 3) := by decide +kernel
theorem dX11_trace_25 : decode cX11_trace 25 = .ok (.iload_n 1, 1) := by decide +kernel
theorem dX11_trace_26 : decode cX11_trace 26 = .ok (.iaload, 1) := by decide +kernel
theorem dX11_trace_27 : decode cX11_trace 27 = .ok (.goto 5, 3) := by decide +kernel
theorem dX11_trace_30 : decode cX11_trace 30 = .ok (.ldc 69, 2) := by decide +kernel
theorem dX11_trace_32 : decode cX11_trace 32 = .ok (.ireturn, 1) := by decide +kernel
theorem dX11_count_0 : decode cX11_count 0 = .ok (.aload_n 0, 1) := by decide +kernel
theorem dX11_count_1 : decode cX11_count 1 = .ok (.iconst 0, 1) := by decide +kernel
theorem dX11_count_2 : decode cX11_count 2 = .ok (.putfield 1, 3) := by decide +kernel
theorem dX11_count_5 : decode cX11_count 5 = .ok (.iconst 0, 1) := by decide +kernel
theorem dX11_count_6 : decode cX11_count 6 = .ok (.istore_n 2, 1) := by decide +kernel
theorem dX11_count_7 : decode cX11_count 7 = .ok (.iload_n 1, 1) := by decide +kernel
theorem dX11_count_8 : decode cX11_count 8 = .ok (.tableswitch 186 0 9 #[56, 89, 94, 99, 104, 109, 114, 153, 158, 163], 56) := by decide +kernel
theorem dX11_count_64 : decode cX11_count 64 = .ok (.iconst 0, 1) := by decide +kernel
theorem dX11_count_65 : decode cX11_count 65 = .ok (.istore_n 3, 1) := by decide +kernel
theorem dX11_count_66 : decode cX11_count 66 = .ok (.iload_n 3, 1) := by decide +kernel
theorem dX11_count_67 : decode cX11_count 67 = .ok (.bipush 8, 2) := by decide +kernel
theorem dX11_count_69 : decode cX11_count 69 = .ok (.if_icmp .ge 26, 3) := by decide +kernel
theorem dX11_count_72 : decode cX11_count 72 = .ok (.iload_n 2, 1) := by decide +kernel
theorem dX11_count_73 : decode cX11_count 73 = .ok (.aload_n 0, 1) := by decide +kernel
theorem dX11_count_74 : decode cX11_count 74 = .ok (.getfield 17, 3) := by decide +kernel
theorem dX11_count_77 : decode cX11_count 77 = .ok (.iload_n 3, 1) := by decide +kernel
theorem dX11_count_78 : decode cX11_count 78 = .ok (.iaload, 1) := by decide +kernel
theorem dX11_count_79 : decode cX11_count 79 = .ok (.ifCond .lt 7, 3) := by decide +kernel
theorem dX11_count_82 : decode cX11_count 82 = .ok (.iconst 1, 1) := by decide +kernel
theorem dX11_count_83 : decode cX11_count 83 = .ok (.goto 4, 3) := by decide +kernel
theorem dX11_count_86 : decode cX11_count 86 = .ok (.iconst 0, 1) := by decide +kernel
theorem dX11_count_87 : decode cX11_count 87 = .ok (.iadd, 1) := by decide +kernel
theorem dX11_count_88 : decode cX11_count 88 = .ok (.istore_n 2, 1) := by decide +kernel
theorem dX11_count_89 : decode cX11_count 89 = .ok (.iinc 3 1, 3) := by decide +kernel
theorem dX11_count_92 : decode cX11_count 92 = .ok (.goto (-26), 3) := by decide +kernel
theorem dX11_count_95 : decode cX11_count 95 = .ok (.iload_n 2, 1) := by decide +kernel
theorem dX11_count_96 : decode cX11_count 96 = .ok (.ireturn, 1) := by decide +kernel
theorem dX11_count_97 : decode cX11_count 97 = .ok (.aload_n 0, 1) := by decide +kernel
theorem dX11_count_98 : decode cX11_count 98 = .ok (.getfield 145, 3) := by decide +kernel
theorem dX11_count_101 : decode cX11_count 101 = .ok (.ireturn, 1) := by decide +kernel
theorem dX11_count_102 : decode cX11_count 102 = .ok (.aload_n 0, 1) := by decide +kernel
theorem dX11_count_103 : decode cX11_count 103 = .ok (.getfield 202, 3) := by decide +kernel
theorem dX11_count_106 : decode cX11_count 106 = .ok (.ireturn, 1) := by decide +kernel
theorem dX11_count_107 : decode cX11_count 107 = .ok (.aload_n 0, 1) := by decide +kernel
theorem dX11_count_108 : decode cX11_count 108 = .ok (.getfield 169, 3) := by decide +kernel
theorem dX11_count_111 : decode cX11_count 111 = .ok (.ireturn, 1) := by decide +kernel
theorem dX11_count_112 : decode cX11_count 112 = .ok (.aload_n 0, 1) := by decide +kernel
theorem dX11_count_113 : decode cX11_count 113 = .ok (.getfield 286, 3) := by decide +kernel
theorem dX11_count_116 : decode cX11_count 116 = .ok (.ireturn, 1) := by decide +kernel
theorem dX11_count_117 : decode cX11_count 117 = .ok (.aload_n 0, 1) := by decide +kernel
theorem dX11_count_118 : decode cX11_count 118 = .ok (.getfield 326, 3) := by decide +kernel
theorem dX11_count_121 : decode cX11_count 121 = .ok (.ireturn, 1) := by decide +kernel
theorem dX11_count_122 : decode cX11_count 122 = .ok (.iconst 0, 1) := by decide +kernel
theorem dX11_count_123 : decode cX11_count 123 = .ok (.istore_n 3, 1) := by decide +kernel
theorem dX11_count_124 : decode cX11_count 124 = .ok (.iload_n 3, 1) := by decide +kernel
theorem dX11_count_125 : decode cX11_count 125 = .ok (.aload_n 0, 1) := by decide +kernel
theorem dX11_count_126 : decode cX11_count 126 = .ok (.getfield 326, 3) := by decide +kernel
theorem dX11_count_129 : decode cX11_count 129 = .ok (.if_icmp .ge 30, 3) := by decide +kernel
theorem dX11_count_132 : decode cX11_count 132 = .ok (.iload_n 2, 1) := by decide +kernel
theorem dX11_count_133 : decode cX11_count 133 = .ok (.aload_n 0, 1) := by decide +kernel
theorem dX11_count_134 : decode cX11_count 134 = .ok (.getfield 103, 3) := by decide +kernel
theorem dX11_count_137 : decode cX11_count 137 = .ok (.iload_n 3, 1) := by decide +kernel
theorem dX11_count_138 : decode cX11_count 138 = .ok (.iaload, 1) := by decide +kernel
theorem dX11_count_139 : decode cX11_count 139 = .ok (.iconst 2, 1) := by decide +kernel
theorem dX11_count_140 : decode cX11_count 140 = .ok (.invokestatic 337, 3) := by decide +kernel
theorem dX11_count_143 : decode cX11_count 143 = .ok (.ifCond .eq 7, 3) := by decide +kernel
theorem dX11_count_146 : decode cX11_count 146 = .ok (.iconst 1, 1) := by decide +kernel
theorem dX11_count_147 : decode cX11_count 147 = .ok (.goto 4, 3) := by decide +kernel
theorem dX11_count_150 : decode cX11_count 150 = .ok (.iconst 0, 1) := by decide +kernel
theorem dX11_count_151 : decode cX11_count 151 = .ok (.iadd, 1) := by decide +kernel
theorem dX11_count_152 : decode cX11_count 152 = .ok (.istore_n 2, 1) := by decide +kernel
theorem dX11_count_153 : decode cX11_count 153 = .ok (.iinc 3 1, 3) := by decide +kernel
theorem dX11_count_156 : decode cX11_count 156 = .ok (.goto (-32), 3) := by decide +kernel
theorem dX11_count_159 : decode cX11_count 159 = .ok (.iload_n 2, 1) := by decide +kernel
theorem dX11_count_160 : decode cX11_count 160 = .ok (.ireturn, 1) := by decide +kernel
theorem dX11_count_161 : decode cX11_count 161 = .ok (.aload_n 0, 1) := by decide +kernel
theorem dX11_count_162 : decode cX11_count 162 = .ok (.getfield 188, 3) := by decide +kernel
theorem dX11_count_165 : decode cX11_count 165 = .ok (.ireturn, 1) := by decide +kernel
theorem dX11_count_166 : decode cX11_count 166 = .ok (.aload_n 0, 1) := by decide +kernel
theorem dX11_count_167 : decode cX11_count 167 = .ok (.getfield 217, 3) := by decide +kernel
theorem dX11_count_170 : decode cX11_count 170 = .ok (.ireturn, 1) := by decide +kernel
theorem dX11_count_171 : decode cX11_count 171 = .ok (.iconst 0, 1) := by decide +kernel
theorem dX11_count_172 : decode cX11_count 172 = .ok (.istore_n 3, 1) := by decide +kernel
theorem dX11_count_173 : decode cX11_count 173 = .ok (.iload_n 3, 1) := by decide +kernel
theorem dX11_count_174 : decode cX11_count 174 = .ok (.iconst 4, 1) := by decide +kernel
theorem dX11_count_175 : decode cX11_count 175 = .ok (.if_icmp .ge 17, 3) := by decide +kernel
theorem dX11_count_178 : decode cX11_count 178 = .ok (.iload_n 2, 1) := by decide +kernel
theorem dX11_count_179 : decode cX11_count 179 = .ok (.aload_n 0, 1) := by decide +kernel
theorem dX11_count_180 : decode cX11_count 180 = .ok (.iload_n 3, 1) := by decide +kernel
theorem dX11_count_181 : decode cX11_count 181 = .ok (.invokevirtual 182, 3) := by decide +kernel
theorem dX11_count_184 : decode cX11_count 184 = .ok (.iadd, 1) := by decide +kernel
theorem dX11_count_185 : decode cX11_count 185 = .ok (.istore_n 2, 1) := by decide +kernel
theorem dX11_count_186 : decode cX11_count 186 = .ok (.iinc 3 1, 3) := by decide +kernel
theorem dX11_count_189 : decode cX11_count 189 = .ok (.goto (-16), 3) := by decide +kernel
theorem dX11_count_192 : decode cX11_count 192 = .ok (.iload_n 2, 1) := by decide +kernel
theorem dX11_count_193 : decode cX11_count 193 = .ok (.ireturn, 1) := by decide +kernel
theorem dX11_count_194 : decode cX11_count 194 = .ok (.ldc 136, 2) := by decide +kernel
theorem dX11_count_196 : decode cX11_count 196 = .ok (.ireturn, 1) := by decide +kernel
theorem dX11_status_0 : decode cX11_status 0 = .ok (.aload_n 0, 1) := by decide +kernel
theorem dX11_status_1 : decode cX11_status 1 = .ok (.iconst 0, 1) := by decide +kernel
theorem dX11_status_2 : decode cX11_status 2 = .ok (.putfield 1, 3) := by decide +kernel
theorem dX11_status_5 : decode cX11_status 5 = .ok (.aload_n 0, 1) := by decide +kernel
theorem dX11_status_6 : decode cX11_status 6 = .ok (.getfield 7, 3) := by decide +kernel
theorem dX11_status_9 : decode cX11_status 9 = .ok (.ireturn, 1) := by decide +kernel
theorem dJ7_fill_53178_0 : decode cJ7_fill_53178 0 = .ok (.iconst 0, 1) := by decide +kernel
theorem dJ7_fill_53178_1 : decode cJ7_fill_53178 1 = .ok (.istore_n 2, 1) := by decide +kernel
theorem dJ7_fill_53178_2 : decode cJ7_fill_53178 2 = .ok (.aload_n 0, 1) := by decide +kernel
theorem dJ7_fill_53178_3 : decode cJ7_fill_53178 3 = .ok (.arraylength, 1) := by decide +kernel
theorem dJ7_fill_53178_4 : decode cJ7_fill_53178 4 = .ok (.istore_n 3, 1) := by decide +kernel
theorem dJ7_fill_53178_5 : decode cJ7_fill_53178 5 = .ok (.iload_n 2, 1) := by decide +kernel
theorem dJ7_fill_53178_6 : decode cJ7_fill_53178 6 = .ok (.iload_n 3, 1) := by decide +kernel
theorem dJ7_fill_53178_7 : decode cJ7_fill_53178 7 = .ok (.if_icmp .ge 13, 3) := by decide +kernel
theorem dJ7_fill_53178_10 : decode cJ7_fill_53178 10 = .ok (.aload_n 0, 1) := by decide +kernel
theorem dJ7_fill_53178_11 : decode cJ7_fill_53178 11 = .ok (.iload_n 2, 1) := by decide +kernel
theorem dJ7_fill_53178_12 : decode cJ7_fill_53178 12 = .ok (.iload_n 1, 1) := by decide +kernel
theorem dJ7_fill_53178_13 : decode cJ7_fill_53178 13 = .ok (.iastore, 1) := by decide +kernel
theorem dJ7_fill_53178_14 : decode cJ7_fill_53178 14 = .ok (.iinc 2 1, 3) := by decide +kernel
theorem dJ7_fill_53178_17 : decode cJ7_fill_53178 17 = .ok (.goto (-12), 3) := by decide +kernel
theorem dJ7_fill_53178_20 : decode cJ7_fill_53178 20 = .ok (.return_, 1) := by decide +kernel
