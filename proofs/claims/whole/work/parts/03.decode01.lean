theorem dX8_takeNumber_57 : decode cX8_takeNumber 57 = .ok (.getfield 25, 3) := by decide +kernel
theorem dX8_takeNumber_60 : decode cX8_takeNumber 60 = .ok (.iconst 1, 1) := by decide +kernel
theorem dX8_takeNumber_61 : decode cX8_takeNumber 61 = .ok (.iadd, 1) := by decide +kernel
theorem dX8_takeNumber_62 : decode cX8_takeNumber 62 = .ok (.putfield 25, 3) := by decide +kernel
theorem dX8_takeNumber_65 : decode cX8_takeNumber 65 = .ok (.goto (-60), 3) := by decide +kernel
theorem dX8_takeNumber_68 : decode cX8_takeNumber 68 = .ok (.aload_n 0, 1) := by decide +kernel
theorem dX8_takeNumber_69 : decode cX8_takeNumber 69 = .ok (.aload_n 0, 1) := by decide +kernel
theorem dX8_takeNumber_70 : decode cX8_takeNumber 70 = .ok (.getfield 25, 3) := by decide +kernel
theorem dX8_takeNumber_73 : decode cX8_takeNumber 73 = .ok (.aload_n 0, 1) := by decide +kernel
theorem dX8_takeNumber_74 : decode cX8_takeNumber 74 = .ok (.getfield 84, 3) := by decide +kernel
theorem dX8_takeNumber_77 : decode cX8_takeNumber 77 = .ok (.isub, 1) := by decide +kernel
theorem dX8_takeNumber_78 : decode cX8_takeNumber 78 = .ok (.iconst 4, 1) := by decide +kernel
theorem dX8_takeNumber_79 : decode cX8_takeNumber 79 = .ok (.if_icmp .gt 7, 3) := by decide +kernel
theorem dX8_takeNumber_82 : decode cX8_takeNumber 82 = .ok (.iconst 2, 1) := by decide +kernel
theorem dX8_takeNumber_83 : decode cX8_takeNumber 83 = .ok (.goto 4, 3) := by decide +kernel
theorem dX8_takeNumber_86 : decode cX8_takeNumber 86 = .ok (.iconst 4, 1) := by decide +kernel
theorem dX8_takeNumber_87 : decode cX8_takeNumber 87 = .ok (.putfield 31, 3) := by decide +kernel
theorem dX8_takeNumber_90 : decode cX8_takeNumber 90 = .ok (.return_, 1) := by decide +kernel
theorem dX8_isGap_0 : decode cX8_isGap 0 = .ok (.iload_n 0, 1) := by decide +kernel
theorem dX8_isGap_1 : decode cX8_isGap 1 = .ok (.bipush 32, 2) := by decide +kernel
theorem dX8_isGap_3 : decode cX8_isGap 3 = .ok (.if_icmp .eq 9, 3) := by decide +kernel
theorem dX8_isGap_6 : decode cX8_isGap 6 = .ok (.iload_n 0, 1) := by decide +kernel
theorem dX8_isGap_7 : decode cX8_isGap 7 = .ok (.bipush 10, 2) := by decide +kernel
theorem dX8_isGap_9 : decode cX8_isGap 9 = .ok (.if_icmp .ne 7, 3) := by decide +kernel
theorem dX8_isGap_12 : decode cX8_isGap 12 = .ok (.iconst 1, 1) := by decide +kernel
theorem dX8_isGap_13 : decode cX8_isGap 13 = .ok (.goto 4, 3) := by decide +kernel
theorem dX8_isGap_16 : decode cX8_isGap 16 = .ok (.iconst 0, 1) := by decide +kernel
theorem dX8_isGap_17 : decode cX8_isGap 17 = .ok (.ireturn, 1) := by decide +kernel
theorem dX8_isLetter_0 : decode cX8_isLetter 0 = .ok (.iload_n 0, 1) := by decide +kernel
theorem dX8_isLetter_1 : decode cX8_isLetter 1 = .ok (.bipush 97, 2) := by decide +kernel
theorem dX8_isLetter_3 : decode cX8_isLetter 3 = .ok (.if_icmp .lt 13, 3) := by decide +kernel
theorem dX8_isLetter_6 : decode cX8_isLetter 6 = .ok (.iload_n 0, 1) := by decide +kernel
theorem dX8_isLetter_7 : decode cX8_isLetter 7 = .ok (.bipush 122, 2) := by decide +kernel
theorem dX8_isLetter_9 : decode cX8_isLetter 9 = .ok (.if_icmp .gt 7, 3) := by decide +kernel
theorem dX8_isLetter_12 : decode cX8_isLetter 12 = .ok (.iconst 1, 1) := by decide +kernel
theorem dX8_isLetter_13 : decode cX8_isLetter 13 = .ok (.goto 4, 3) := by decide +kernel
theorem dX8_isLetter_16 : decode cX8_isLetter 16 = .ok (.iconst 0, 1) := by decide +kernel
theorem dX8_isLetter_17 : decode cX8_isLetter 17 = .ok (.ireturn, 1) := by decide +kernel
theorem dX8_isFigure_0 : decode cX8_isFigure 0 = .ok (.iload_n 0, 1) := by decide +kernel
theorem dX8_isFigure_1 : decode cX8_isFigure 1 = .ok (.bipush 48, 2) := by decide +kernel
theorem dX8_isFigure_3 : decode cX8_isFigure 3 = .ok (.if_icmp .lt 13, 3) := by decide +kernel
theorem dX8_isFigure_6 : decode cX8_isFigure 6 = .ok (.iload_n 0, 1) := by decide +kernel
theorem dX8_isFigure_7 : decode cX8_isFigure 7 = .ok (.bipush 57, 2) := by decide +kernel
theorem dX8_isFigure_9 : decode cX8_isFigure 9 = .ok (.if_icmp .gt 7, 3) := by decide +kernel
theorem dX8_isFigure_12 : decode cX8_isFigure 12 = .ok (.iconst 1, 1) := by decide +kernel
theorem dX8_isFigure_13 : decode cX8_isFigure 13 = .ok (.goto 4, 3) := by decide +kernel
theorem dX8_isFigure_16 : decode cX8_isFigure 16 = .ok (.iconst 0, 1) := by decide +kernel
theorem dX8_isFigure_17 : decode cX8_isFigure 17 = .ok (.ireturn, 1) := by decide +kernel
theorem dX9_init_0 : decode cX9_init 0 = .ok (.aload_n 0, 1) := by decide +kernel
theorem dX9_init_1 : decode cX9_init 1 = .ok (.invokespecial 3, 3) := by decide +kernel
theorem dX9_init_4 : decode cX9_init 4 = .ok (.aload_n 0, 1) := by decide +kernel
theorem dX9_init_5 : decode cX9_init 5 = .ok (.bipush 10, 2) := by decide +kernel
theorem dX9_init_7 : decode cX9_init 7 = .ok (.newarray .int, 2) := by decide +kernel
theorem dX9_init_9 : decode cX9_init 9 = .ok (.putfield 9, 3) := by decide +kernel
theorem dX9_init_12 : decode cX9_init 12 = .ok (.aload_n 0, 1) := by decide +kernel
theorem dX9_init_13 : decode cX9_init 13 = .ok (.bipush 10, 2) := by decide +kernel
theorem dX9_init_15 : decode cX9_init 15 = .ok (.newarray .int, 2) := by decide +kernel
theorem dX9_init_17 : decode cX9_init 17 = .ok (.putfield 15, 3) := by decide +kernel
theorem dX9_init_20 : decode cX9_init 20 = .ok (.return_, 1) := by decide +kernel
theorem dX9_take_0 : decode cX9_take 0 = .ok (.iconst 0, 1) := by decide +kernel
theorem dX9_take_1 : decode cX9_take 1 = .ok (.istore 4, 2) := by decide +kernel
theorem dX9_take_3 : decode cX9_take 3 = .ok (.iload 4, 2) := by decide +kernel
theorem dX9_take_5 : decode cX9_take 5 = .ok (.iload_n 3, 1) := by decide +kernel
theorem dX9_take_6 : decode cX9_take 6 = .ok (.if_icmp .ge 75, 3) := by decide +kernel
theorem dX9_take_9 : decode cX9_take 9 = .ok (.aload_n 0, 1) := by decide +kernel
theorem dX9_take_10 : decode cX9_take 10 = .ok (.getfield 9, 3) := by decide +kernel
theorem dX9_take_13 : decode cX9_take 13 = .ok (.iload 4, 2) := by decide +kernel
theorem dX9_take_15 : decode cX9_take 15 = .ok (.aload_n 1, 1) := by decide +kernel
theorem dX9_take_16 : decode cX9_take 16 = .ok (.iload_n 2, 1) := by decide +kernel
theorem dX9_take_17 : decode cX9_take 17 = .ok (.iconst 2, 1) := by decide +kernel
theorem dX9_take_18 : decode cX9_take 18 = .ok (.iload 4, 2) := by decide +kernel
theorem dX9_take_20 : decode cX9_take 20 = .ok (.imul, 1) := by decide +kernel
theorem dX9_take_21 : decode cX9_take 21 = .ok (.iadd, 1) := by decide +kernel
theorem dX9_take_22 : decode cX9_take 22 = .ok (.iaload, 1) := by decide +kernel
theorem dX9_take_23 : decode cX9_take 23 = .ok (.iastore, 1) := by decide +kernel
theorem dX9_take_24 : decode cX9_take 24 = .ok (.aload_n 0, 1) := by decide +kernel
theorem dX9_take_25 : decode cX9_take 25 = .ok (.getfield 15, 3) := by decide +kernel
theorem dX9_take_28 : decode cX9_take 28 = .ok (.iload 4, 2) := by decide +kernel
theorem dX9_take_30 : decode cX9_take 30 = .ok (.aload_n 1, 1) := by decide +kernel
theorem dX9_take_31 : decode cX9_take 31 = .ok (.iload_n 2, 1) := by decide +kernel
theorem dX9_take_32 : decode cX9_take 32 = .ok (.iconst 2, 1) := by decide +kernel
theorem dX9_take_33 : decode cX9_take 33 = .ok (.iload 4, 2) := by decide +kernel
theorem dX9_take_35 : decode cX9_take 35 = .ok (.imul, 1) := by decide +kernel
theorem dX9_take_36 : decode cX9_take 36 = .ok (.iadd, 1) := by decide +kernel
theorem dX9_take_37 : decode cX9_take 37 = .ok (.iconst 1, 1) := by decide +kernel
theorem dX9_take_38 : decode cX9_take 38 = .ok (.iadd, 1) := by decide +kernel
theorem dX9_take_39 : decode cX9_take 39 = .ok (.iaload, 1) := by decide +kernel
theorem dX9_take_40 : decode cX9_take 40 = .ok (.iastore, 1) := by decide +kernel
theorem dX9_take_41 : decode cX9_take 41 = .ok (.aload_n 0, 1) := by decide +kernel
theorem dX9_take_42 : decode cX9_take 42 = .ok (.getfield 9, 3) := by decide +kernel
theorem dX9_take_45 : decode cX9_take 45 = .ok (.iload 4, 2) := by decide +kernel
theorem dX9_take_47 : decode cX9_take 47 = .ok (.iaload, 1) := by decide +kernel
theorem dX9_take_48 : decode cX9_take 48 = .ok (.iconst 1, 1) := by decide +kernel
theorem dX9_take_49 : decode cX9_take 49 = .ok (.bipush 100, 2) := by decide +kernel
theorem dX9_take_51 : decode cX9_take 51 = .ok (.invokestatic 18, 3) := by decide +kernel
theorem dX9_take_54 : decode cX9_take 54 = .ok (.ifCond .eq 19, 3) := by decide +kernel
theorem dX9_take_57 : decode cX9_take 57 = .ok (.aload_n 0, 1) := by decide +kernel
theorem dX9_take_58 : decode cX9_take 58 = .ok (.getfield 15, 3) := by decide +kernel
theorem dX9_take_61 : decode cX9_take 61 = .ok (.iload 4, 2) := by decide +kernel
theorem dX9_take_63 : decode cX9_take 63 = .ok (.iaload, 1) := by decide +kernel
theorem dX9_take_64 : decode cX9_take 64 = .ok (.iconst 0, 1) := by decide +kernel
theorem dX9_take_65 : decode cX9_take 65 = .ok (.bipush 100, 2) := by decide +kernel
theorem dX9_take_67 : decode cX9_take 67 = .ok (.invokestatic 18, 3) := by decide +kernel
theorem dX9_take_70 : decode cX9_take 70 = .ok (.ifCond .ne 5, 3) := by decide +kernel
theorem dX9_take_73 : decode cX9_take 73 = .ok (.iconst 0, 1) := by decide +kernel
theorem dX9_take_74 : decode cX9_take 74 = .ok (.ireturn, 1) := by decide +kernel
theorem dX9_take_75 : decode cX9_take 75 = .ok (.iinc 4 1, 3) := by decide +kernel
theorem dX9_take_78 : decode cX9_take 78 = .ok (.goto (-75), 3) := by decide +kernel
theorem dX9_take_81 : decode cX9_take 81 = .ok (.iconst 1, 1) := by decide +kernel
theorem dX9_take_82 : decode cX9_take 82 = .ok (.ireturn, 1) := by decide +kernel
theorem dX9_choose_0 : decode cX9_choose 0 = .ok (.aload_n 0, 1) := by decide +kernel
theorem dX9_choose_1 : decode cX9_choose 1 = .ok (.iconst 0, 1) := by decide +kernel
theorem dX9_choose_2 : decode cX9_choose 2 = .ok (.putfield 22, 3) := by decide +kernel
theorem dX9_choose_5 : decode cX9_choose 5 = .ok (.aload_n 0, 1) := by decide +kernel
theorem dX9_choose_6 : decode cX9_choose 6 = .ok (.iconst 0, 1) := by decide +kernel
theorem dX9_choose_7 : decode cX9_choose 7 = .ok (.putfield 26, 3) := by decide +kernel
theorem dX9_choose_10 : decode cX9_choose 10 = .ok (.aload_n 0, 1) := by decide +kernel
theorem dX9_choose_11 : decode cX9_choose 11 = .ok (.iconst 0, 1) := by decide +kernel
theorem dX9_choose_12 : decode cX9_choose 12 = .ok (.putfield 29, 3) := by decide +kernel
theorem dX9_choose_15 : decode cX9_choose 15 = .ok (.iconst 1, 1) := by decide +kernel
theorem dX9_choose_16 : decode cX9_choose 16 = .ok (.iload_n 1, 1) := by decide +kernel
theorem dX9_choose_17 : decode cX9_choose 17 = .ok (.ishl, 1) := by decide +kernel
theorem dX9_choose_18 : decode cX9_choose 18 = .ok (.istore_n 3, 1) := by decide +kernel
theorem dX9_choose_19 : decode cX9_choose 19 = .ok (.iconst 1, 1) := by decide +kernel
theorem dX9_choose_20 : decode cX9_choose 20 = .ok (.istore 4, 2) := by decide +kernel
theorem dX9_choose_22 : decode cX9_choose 22 = .ok (.iload 4, 2) := by decide +kernel
theorem dX9_choose_24 : decode cX9_choose 24 = .ok (.iload_n 3, 1) := by decide +kernel
theorem dX9_choose_25 : decode cX9_choose 25 = .ok (.if_icmp .ge 96, 3) := by decide +kernel
theorem dX9_choose_28 : decode cX9_choose 28 = .ok (.aload_n 0, 1) := by decide +kernel
theorem dX9_choose_29 : decode cX9_choose 29 = .ok (.getfield 9, 3) := by decide +kernel
theorem dX9_choose_32 : decode cX9_choose 32 = .ok (.iload 4, 2) := by decide +kernel
theorem dX9_choose_34 : decode cX9_choose 34 = .ok (.iload_n 1, 1) := by decide +kernel
theorem dX9_choose_35 : decode cX9_choose 35 = .ok (.invokestatic 32, 3) := by decide +kernel
theorem dX9_choose_38 : decode cX9_choose 38 = .ok (.istore 5, 2) := by decide +kernel
theorem dX9_choose_40 : decode cX9_choose 40 = .ok (.aload_n 0, 1) := by decide +kernel
theorem dX9_choose_41 : decode cX9_choose 41 = .ok (.getfield 15, 3) := by decide +kernel
theorem dX9_choose_44 : decode cX9_choose 44 = .ok (.iload 4, 2) := by decide +kernel
theorem dX9_choose_46 : decode cX9_choose 46 = .ok (.iload_n 1, 1) := by decide +kernel
theorem dX9_choose_47 : decode cX9_choose 47 = .ok (.invokestatic 32, 3) := by decide +kernel
theorem dX9_choose_50 : decode cX9_choose 50 = .ok (.istore 6, 2) := by decide +kernel
theorem dX9_choose_52 : decode cX9_choose 52 = .ok (.iload 6, 2) := by decide +kernel
theorem dX9_choose_54 : decode cX9_choose 54 = .ok (.aload_n 0, 1) := by decide +kernel
theorem dX9_choose_55 : decode cX9_choose 55 = .ok (.getfield 29, 3) := by decide +kernel
theorem dX9_choose_58 : decode cX9_choose 58 = .ok (.if_icmp .gt 21, 3) := by decide +kernel
theorem dX9_choose_61 : decode cX9_choose 61 = .ok (.iload 6, 2) := by decide +kernel
theorem dX9_choose_63 : decode cX9_choose 63 = .ok (.aload_n 0, 1) := by decide +kernel
theorem dX9_choose_64 : decode cX9_choose 64 = .ok (.getfield 29, 3) := by decide +kernel
theorem dX9_choose_67 : decode cX9_choose 67 = .ok (.if_icmp .ne 16, 3) := by decide +kernel
theorem dX9_choose_70 : decode cX9_choose 70 = .ok (.iload 5, 2) := by decide +kernel
theorem dX9_choose_72 : decode cX9_choose 72 = .ok (.aload_n 0, 1) := by decide +kernel
theorem dX9_choose_73 : decode cX9_choose 73 = .ok (.getfield 26, 3) := by decide +kernel
theorem dX9_choose_76 : decode cX9_choose 76 = .ok (.if_icmp .ge 7, 3) := by decide +kernel
theorem dX9_choose_79 : decode cX9_choose 79 = .ok (.iconst 1, 1) := by decide +kernel
theorem dX9_choose_80 : decode cX9_choose 80 = .ok (.goto 4, 3) := by decide +kernel
theorem dX9_choose_83 : decode cX9_choose 83 = .ok (.iconst 0, 1) := by decide +kernel
theorem dX9_choose_84 : decode cX9_choose 84 = .ok (.istore 7, 2) := by decide +kernel
theorem dX9_choose_86 : decode cX9_choose 86 = .ok (.iload 5, 2) := by decide +kernel
theorem dX9_choose_88 : decode cX9_choose 88 = .ok (.iload_n 2, 1) := by decide +kernel
theorem dX9_choose_89 : decode cX9_choose 89 = .ok (.if_icmp .gt 26, 3) := by decide +kernel
theorem dX9_choose_92 : decode cX9_choose 92 = .ok (.iload 7, 2) := by decide +kernel
theorem dX9_choose_94 : decode cX9_choose 94 = .ok (.ifCond .eq 21, 3) := by decide +kernel
theorem dX9_choose_97 : decode cX9_choose 97 = .ok (.aload_n 0, 1) := by decide +kernel
theorem dX9_choose_98 : decode cX9_choose 98 = .ok (.iload 4, 2) := by decide +kernel
theorem dX9_choose_100 : decode cX9_choose 100 = .ok (.putfield 22, 3) := by decide +kernel
theorem dX9_choose_103 : decode cX9_choose 103 = .ok (.aload_n 0, 1) := by decide +kernel
theorem dX9_choose_104 : decode cX9_choose 104 = .ok (.iload 5, 2) := by decide +kernel
theorem dX9_choose_106 : decode cX9_choose 106 = .ok (.putfield 26, 3) := by decide +kernel
theorem dX9_choose_109 : decode cX9_choose 109 = .ok (.aload_n 0, 1) := by decide +kernel
theorem dX9_choose_110 : decode cX9_choose 110 = .ok (.iload 6, 2) := by decide +kernel
theorem dX9_choose_112 : decode cX9_choose 112 = .ok (.putfield 29, 3) := by decide +kernel
theorem dX9_choose_115 : decode cX9_choose 115 = .ok (.iinc 4 1, 3) := by decide +kernel
theorem dX9_choose_118 : decode cX9_choose 118 = .ok (.goto (-96), 3) := by decide +kernel
theorem dX9_choose_121 : decode cX9_choose 121 = .ok (.return_, 1) := by decide +kernel
theorem dX9_sumOf_0 : decode cX9_sumOf 0 = .ok (.iconst 0, 1) := by decide +kernel
theorem dX9_sumOf_1 : decode cX9_sumOf 1 = .ok (.istore_n 3, 1) := by decide +kernel
theorem dX9_sumOf_2 : decode cX9_sumOf 2 = .ok (.iconst 0, 1) := by decide +kernel
theorem dX9_sumOf_3 : decode cX9_sumOf 3 = .ok (.istore 4, 2) := by decide +kernel
theorem dX9_sumOf_5 : decode cX9_sumOf 5 = .ok (.iload 4, 2) := by decide +kernel
theorem dX9_sumOf_7 : decode cX9_sumOf 7 = .ok (.iload_n 2, 1) := by decide +kernel
theorem dX9_sumOf_8 : decode cX9_sumOf 8 = .ok (.if_icmp .ge 26, 3) := by decide +kernel
theorem dX9_sumOf_11 : decode cX9_sumOf 11 = .ok (.iload_n 1, 1) := by decide +kernel
theorem dX9_sumOf_12 : decode cX9_sumOf 12 = .ok (.iload 4, 2) := by decide +kernel
theorem dX9_sumOf_14 : decode cX9_sumOf 14 = .ok (.ishr, 1) := by decide +kernel
theorem dX9_sumOf_15 : decode cX9_sumOf 15 = .ok (.iconst 1, 1) := by decide +kernel
theorem dX9_sumOf_16 : decode cX9_sumOf 16 = .ok (.iand, 1) := by decide +kernel
theorem dX9_sumOf_17 : decode cX9_sumOf 17 = .ok (.iconst 1, 1) := by decide +kernel
theorem dX9_sumOf_18 : decode cX9_sumOf 18 = .ok (.if_icmp .ne 10, 3) := by decide +kernel
theorem dX9_sumOf_21 : decode cX9_sumOf 21 = .ok (.iload_n 3, 1) := by decide +kernel
theorem dX9_sumOf_22 : decode cX9_sumOf 22 = .ok (.aload_n 0, 1) := by decide +kernel
theorem dX9_sumOf_23 : decode cX9_sumOf 23 = .ok (.iload 4, 2) := by decide +kernel
theorem dX9_sumOf_25 : decode cX9_sumOf 25 = .ok (.iaload, 1) := by decide +kernel
theorem dX9_sumOf_26 : decode cX9_sumOf 26 = .ok (.iadd, 1) := by decide +kernel
theorem dX9_sumOf_27 : decode cX9_sumOf 27 = .ok (.istore_n 3, 1) := by decide +kernel
theorem dX9_sumOf_28 : decode cX9_sumOf 28 = .ok (.iinc 4 1, 3) := by decide +kernel
theorem dX9_sumOf_31 : decode cX9_sumOf 31 = .ok (.goto (-26), 3) := by decide +kernel
theorem dX9_sumOf_34 : decode cX9_sumOf 34 = .ok (.iload_n 3, 1) := by decide +kernel
theorem dX9_sumOf_35 : decode cX9_sumOf 35 = .ok (.ireturn, 1) := by decide +kernel
theorem dX9_tells_0 : decode cX9_tells 0 = .ok (.iload_n 1, 1) := by decide +kernel
theorem dX9_tells_1 : decode cX9_tells 1 = .ok (.ifCond .ne 8, 3) := by decide +kernel
theorem dX9_tells_4 : decode cX9_tells 4 = .ok (.aload_n 0, 1) := by decide +kernel
theorem dX9_tells_5 : decode cX9_tells 5 = .ok (.getfield 22, 3) := by decide +kernel
theorem dX9_tells_8 : decode cX9_tells 8 = .ok (.ireturn, 1) := by decide +kernel
theorem dX9_tells_9 : decode cX9_tells 9 = .ok (.iload_n 1, 1) := by decide +kernel
theorem dX9_tells_10 : decode cX9_tells 10 = .ok (.iconst 1, 1) := by decide +kernel
theorem dX9_tells_11 : decode cX9_tells 11 = .ok (.if_icmp .ne 10, 3) := by decide +kernel
theorem dX9_tells_14 : decode cX9_tells 14 = .ok (.aload_n 0, 1) := by decide +kernel
theorem dX9_tells_15 : decode cX9_tells 15 = .ok (.getfield 26, 3) := by decide +kernel
theorem dX9_tells_18 : decode cX9_tells 18 = .ok (.goto 7, 3) := by decide +kernel
theorem dX9_tells_21 : decode cX9_tells 21 = .ok (.aload_n 0, 1) := by decide +kernel
theorem dX9_tells_22 : decode cX9_tells 22 = .ok (.getfield 29, 3) := by decide +kernel
theorem dX9_tells_25 : decode cX9_tells 25 = .ok (.ireturn, 1) := by decide +kernel
theorem dX10_init_0 : decode cX10_init 0 = .ok (.aload_n 0, 1) := by decide +kernel
theorem dX10_init_1 : decode cX10_init 1 = .ok (.invokespecial 1, 3) := by decide +kernel
theorem dX10_init_4 : decode cX10_init 4 = .ok (.aload_n 0, 1) := by decide +kernel
theorem dX10_init_5 : decode cX10_init 5 = .ok (.bipush 8, 2) := by decide +kernel
theorem dX10_init_7 : decode cX10_init 7 = .ok (.anewarray 9, 3) := by decide +kernel
theorem dX10_init_10 : decode cX10_init 10 = .ok (.putfield 11, 3) := by decide +kernel
theorem dX10_init_13 : decode cX10_init 13 = .ok (.aload_n 0, 1) := by decide +kernel
theorem dX10_init_14 : decode cX10_init 14 = .ok (.new 15, 3) := by decide +kernel
theorem dX10_init_17 : decode cX10_init 17 = .ok (.dup, 1) := by decide +kernel
theorem dX10_init_18 : decode cX10_init 18 = .ok (.invokespecial 17, 3) := by decide +kernel
theorem dX10_init_21 : decode cX10_init 21 = .ok (.putfield 18, 3) := by decide +kernel
theorem dX10_init_24 : decode cX10_init 24 = .ok (.aload_n 0, 1) := by decide +kernel
theorem dX10_init_25 : decode cX10_init 25 = .ok (.new 22, 3) := by decide +kernel
theorem dX10_init_28 : decode cX10_init 28 = .ok (.dup, 1) := by decide +kernel
theorem dX10_init_29 : decode cX10_init 29 = .ok (.invokespecial 24, 3) := by decide +kernel
theorem dX10_init_32 : decode cX10_init 32 = .ok (.putfield 25, 3) := by decide +kernel
theorem dX10_init_35 : decode cX10_init 35 = .ok (.aload_n 0, 1) := by decide +kernel
theorem dX10_init_36 : decode cX10_init 36 = .ok (.new 29, 3) := by decide +kernel
theorem dX10_init_39 : decode cX10_init 39 = .ok (.dup, 1) := by decide +kernel
theorem dX10_init_40 : decode cX10_init 40 = .ok (.invokespecial 31, 3) := by decide +kernel
theorem dX10_init_43 : decode cX10_init 43 = .ok (.putfield 32, 3) := by decide +kernel
theorem dX10_init_46 : decode cX10_init 46 = .ok (.aload_n 0, 1) := by decide +kernel
theorem dX10_init_47 : decode cX10_init 47 = .ok (.bipush 12, 2) := by decide +kernel
theorem dX10_init_49 : decode cX10_init 49 = .ok (.anewarray 36, 3) := by decide +kernel
theorem dX10_init_52 : decode cX10_init 52 = .ok (.putfield 38, 3) := by decide +kernel
theorem dX10_init_55 : decode cX10_init 55 = .ok (.aload_n 0, 1) := by decide +kernel
theorem dX10_init_56 : decode cX10_init 56 = .ok (.new 42, 3) := by decide +kernel
theorem dX10_init_59 : decode cX10_init 59 = .ok (.dup, 1) := by decide +kernel
theorem dX10_init_60 : decode cX10_init 60 = .ok (.invokespecial 44, 3) := by decide +kernel
theorem dX10_init_63 : decode cX10_init 63 = .ok (.putfield 45, 3) := by decide +kernel
theorem dX10_init_66 : decode cX10_init 66 = .ok (.aload_n 0, 1) := by decide +kernel
theorem dX10_init_67 : decode cX10_init 67 = .ok (.new 49, 3) := by decide +kernel
theorem dX10_init_70 : decode cX10_init 70 = .ok (.dup, 1) := by decide +kernel
theorem dX10_init_71 : decode cX10_init 71 = .ok (.invokespecial 51, 3) := by decide +kernel
theorem dX10_init_74 : decode cX10_init 74 = .ok (.putfield 52, 3) := by decide +kernel
theorem dX10_init_77 : decode cX10_init 77 = .ok (.aload_n 0, 1) := by decide +kernel
theorem dX10_init_78 : decode cX10_init 78 = .ok (.new 56, 3) := by decide +kernel
theorem dX10_init_81 : decode cX10_init 81 = .ok (.dup, 1) := by decide +kernel
theorem dX10_init_82 : decode cX10_init 82 = .ok (.invokespecial 58, 3) := by decide +kernel
theorem dX10_init_85 : decode cX10_init 85 = .ok (.putfield 59, 3) := by decide +kernel
theorem dX10_init_88 : decode cX10_init 88 = .ok (.aload_n 0, 1) := by decide +kernel
theorem dX10_init_89 : decode cX10_init 89 = .ok (.new 63, 3) := by decide +kernel
theorem dX10_init_92 : decode cX10_init 92 = .ok (.dup, 1) := by decide +kernel
theorem dX10_init_93 : decode cX10_init 93 = .ok (.invokespecial 65, 3) := by decide +kernel
theorem dX10_init_96 : decode cX10_init 96 = .ok (.putfield 66, 3) := by decide +kernel
theorem dX10_init_99 : decode cX10_init 99 = .ok (.iconst 0, 1) := by decide +kernel
theorem dX10_init_100 : decode cX10_init 100 = .ok (.istore_n 1, 1) := by decide +kernel
theorem dX10_init_101 : decode cX10_init 101 = .ok (.iload_n 1, 1) := by decide +kernel
theorem dX10_init_102 : decode cX10_init 102 = .ok (.bipush 8, 2) := by decide +kernel
theorem dX10_init_104 : decode cX10_init 104 = .ok (.if_icmp .ge 22, 3) := by decide +kernel
theorem dX10_init_107 : decode cX10_init 107 = .ok (.aload_n 0, 1) := by decide +kernel
theorem dX10_init_108 : decode cX10_init 108 = .ok (.getfield 11, 3) := by decide +kernel
theorem dX10_init_111 : decode cX10_init 111 = .ok (.iload_n 1, 1) := by decide +kernel
theorem dX10_init_112 : decode cX10_init 112 = .ok (.new 9, 3) := by decide +kernel
theorem dX10_init_115 : decode cX10_init 115 = .ok (.dup, 1) := by decide +kernel
theorem dX10_init_116 : decode cX10_init 116 = .ok (.invokespecial 70, 3) := by decide +kernel
theorem dX10_init_119 : decode cX10_init 119 = .ok (.aastore, 1) := by decide +kernel
theorem dX10_init_120 : decode cX10_init 120 = .ok (.iinc 1 1, 3) := by decide +kernel
theorem dX10_init_123 : decode cX10_init 123 = .ok (.goto (-22), 3) := by decide +kernel
theorem dX10_init_126 : decode cX10_init 126 = .ok (.return_, 1) := by decide +kernel
theorem dX10_sheet_0 : decode cX10_sheet 0 = .ok (.iload_n 1, 1) := by decide +kernel
theorem dX10_sheet_1 : decode cX10_sheet 1 = .ok (.invokestatic 71, 3) := by decide +kernel
theorem dX10_sheet_4 : decode cX10_sheet 4 = .ok (.ifCond .eq 18, 3) := by decide +kernel
theorem dX10_sheet_7 : decode cX10_sheet 7 = .ok (.iload_n 2, 1) := by decide +kernel
theorem dX10_sheet_8 : decode cX10_sheet 8 = .ok (.iconst 0, 1) := by decide +kernel
theorem dX10_sheet_9 : decode cX10_sheet 9 = .ok (.iconst 2, 1) := by decide +kernel
theorem dX10_sheet_10 : decode cX10_sheet 10 = .ok (.invokestatic 75, 3) := by decide +kernel
theorem dX10_sheet_13 : decode cX10_sheet 13 = .ok (.ifCond .eq 9, 3) := by decide +kernel
theorem dX10_sheet_16 : decode cX10_sheet 16 = .ok (.iload_n 3, 1) := by decide +kernel
theorem dX10_sheet_17 : decode cX10_sheet 17 = .ok (.bipush 80, 2) := by decide +kernel
theorem dX10_sheet_19 : decode cX10_sheet 19 = .ok (.if_icmp .le 6, 3) := by decide +kernel
theorem dX10_sheet_22 : decode cX10_sheet 22 = .ok (.ldc 79, 2) := by decide +kernel
theorem dX10_sheet_24 : decode cX10_sheet 24 = .ok (.ireturn, 1) := by decide +kernel
theorem dX10_sheet_25 : decode cX10_sheet 25 = .ok (.iload_n 3, 1) := by decide +kernel
theorem dX10_sheet_26 : decode cX10_sheet 26 = .ok (.ifCond .ge 9, 3) := by decide +kernel
theorem dX10_sheet_29 : decode cX10_sheet 29 = .ok (.aload_n 0, 1) := by decide +kernel
theorem dX10_sheet_30 : decode cX10_sheet 30 = .ok (.iconst 4, 1) := by decide +kernel
theorem dX10_sheet_31 : decode cX10_sheet 31 = .ok (.invokevirtual 80, 3) := by decide +kernel
theorem dX10_sheet_34 : decode cX10_sheet 34 = .ok (.ireturn, 1) := by decide +kernel
theorem dX10_sheet_35 : decode cX10_sheet 35 = .ok (.aload_n 0, 1) := by decide +kernel
theorem dX10_sheet_36 : decode cX10_sheet 36 = .ok (.getfield 11, 3) := by decide +kernel
theorem dX10_sheet_39 : decode cX10_sheet 39 = .ok (.iload_n 1, 1) := by decide +kernel
theorem dX10_sheet_40 : decode cX10_sheet 40 = .ok (.aaload, 1) := by decide +kernel
theorem dX10_sheet_41 : decode cX10_sheet 41 = .ok (.iload_n 2, 1) := by decide +kernel
theorem dX10_sheet_42 : decode cX10_sheet 42 = .ok (.iload_n 3, 1) := by decide +kernel
theorem dX10_sheet_43 : decode cX10_sheet 43 = .ok (.invokevirtual 84, 3) := by decide +kernel
theorem dX10_sheet_46 : decode cX10_sheet 46 = .ok (.aload_n 0, 1) := by decide +kernel
theorem dX10_sheet_47 : decode cX10_sheet 47 = .ok (.iload_n 3, 1) := by decide +kernel
theorem dX10_sheet_48 : decode cX10_sheet 48 = .ok (.invokevirtual 88, 3) := by decide +kernel
theorem dX10_sheet_51 : decode cX10_sheet 51 = .ok (.ireturn, 1) := by decide +kernel
theorem dX10_set_0 : decode cX10_set 0 = .ok (.iload_n 1, 1) := by decide +kernel
theorem dX10_set_1 : decode cX10_set 1 = .ok (.invokestatic 71, 3) := by decide +kernel
theorem dX10_set_4 : decode cX10_set 4 = .ok (.ifCond .ne 6, 3) := by decide +kernel
theorem dX10_set_7 : decode cX10_set 7 = .ok (.ldc 79, 2) := by decide +kernel
theorem dX10_set_9 : decode cX10_set 9 = .ok (.ireturn, 1) := by decide +kernel
theorem dX10_set_10 : decode cX10_set 10 = .ok (.aload_n 0, 1) := by decide +kernel
theorem dX10_set_11 : decode cX10_set 11 = .ok (.getfield 11, 3) := by decide +kernel
theorem dX10_set_14 : decode cX10_set 14 = .ok (.iload_n 1, 1) := by decide +kernel
theorem dX10_set_15 : decode cX10_set 15 = .ok (.aaload, 1) := by decide +kernel
theorem dX10_set_16 : decode cX10_set 16 = .ok (.astore 4, 2) := by decide +kernel
theorem dX10_set_18 : decode cX10_set 18 = .ok (.aload 4, 2) := by decide +kernel
theorem dX10_set_20 : decode cX10_set 20 = .ok (.iload_n 2, 1) := by decide +kernel
theorem dX10_set_21 : decode cX10_set 21 = .ok (.iconst 1, 1) := by decide +kernel
theorem dX10_set_22 : decode cX10_set 22 = .ok (.invokevirtual 91, 3) := by decide +kernel
theorem dX10_set_25 : decode cX10_set 25 = .ok (.istore 5, 2) := by decide +kernel
theorem dX10_set_27 : decode cX10_set 27 = .ok (.iload 5, 2) := by decide +kernel
theorem dX10_set_29 : decode cX10_set 29 = .ok (.ifCond .eq 12, 3) := by decide +kernel
theorem dX10_set_32 : decode cX10_set 32 = .ok (.aload_n 0, 1) := by decide +kernel
theorem dX10_set_33 : decode cX10_set 33 = .ok (.iload 5, 2) := by decide +kernel
theorem dX10_set_35 : decode cX10_set 35 = .ok (.invokevirtual 80, 3) := by decide +kernel
theorem dX10_set_38 : decode cX10_set 38 = .ok (.goto 14, 3) := by decide +kernel
theorem dX10_set_41 : decode cX10_set 41 = .ok (.aload_n 0, 1) := by decide +kernel
theorem dX10_set_42 : decode cX10_set 42 = .ok (.aload 4, 2) := by decide +kernel
theorem dX10_set_44 : decode cX10_set 44 = .ok (.iload_n 2, 1) := by decide +kernel
theorem dX10_set_45 : decode cX10_set 45 = .ok (.iload_n 3, 1) := by decide +kernel
theorem dX10_set_46 : decode cX10_set 46 = .ok (.invokevirtual 95, 3) := by decide +kernel
theorem dX10_set_49 : decode cX10_set 49 = .ok (.invokevirtual 88, 3) := by decide +kernel
theorem dX10_set_52 : decode cX10_set 52 = .ok (.ireturn, 1) := by decide +kernel
theorem dX10_copy_0 : decode cX10_copy 0 = .ok (.iload_n 1, 1) := by decide +kernel
theorem dX10_copy_1 : decode cX10_copy 1 = .ok (.invokestatic 71, 3) := by decide +kernel
theorem dX10_copy_4 : decode cX10_copy 4 = .ok (.ifCond .eq 10, 3) := by decide +kernel
theorem dX10_copy_7 : decode cX10_copy 7 = .ok (.iload_n 3, 1) := by decide +kernel
theorem dX10_copy_8 : decode cX10_copy 8 = .ok (.invokestatic 71, 3) := by decide +kernel
theorem dX10_copy_11 : decode cX10_copy 11 = .ok (.ifCond .ne 6, 3) := by decide +kernel
theorem dX10_copy_14 : decode cX10_copy 14 = .ok (.ldc 79, 2) := by decide +kernel
theorem dX10_copy_16 : decode cX10_copy 16 = .ok (.ireturn, 1) := by decide +kernel
theorem dX10_copy_17 : decode cX10_copy 17 = .ok (.aload_n 0, 1) := by decide +kernel
theorem dX10_copy_18 : decode cX10_copy 18 = .ok (.getfield 11, 3) := by decide +kernel
theorem dX10_copy_21 : decode cX10_copy 21 = .ok (.iload_n 1, 1) := by decide +kernel
theorem dX10_copy_22 : decode cX10_copy 22 = .ok (.aaload, 1) := by decide +kernel
theorem dX10_copy_23 : decode cX10_copy 23 = .ok (.astore 6, 2) := by decide +kernel
theorem dX10_copy_25 : decode cX10_copy 25 = .ok (.aload_n 0, 1) := by decide +kernel
theorem dX10_copy_26 : decode cX10_copy 26 = .ok (.getfield 11, 3) := by decide +kernel
theorem dX10_copy_29 : decode cX10_copy 29 = .ok (.iload_n 3, 1) := by decide +kernel
theorem dX10_copy_30 : decode cX10_copy 30 = .ok (.aaload, 1) := by decide +kernel
theorem dX10_copy_31 : decode cX10_copy 31 = .ok (.astore 7, 2) := by decide +kernel
theorem dX10_copy_33 : decode cX10_copy 33 = .ok (.aload 6, 2) := by decide +kernel
theorem dX10_copy_35 : decode cX10_copy 35 = .ok (.getfield 98, 3) := by decide +kernel
theorem dX10_copy_38 : decode cX10_copy 38 = .ok (.ifCond .ne 11, 3) := by decide +kernel
theorem dX10_copy_41 : decode cX10_copy 41 = .ok (.aload 7, 2) := by decide +kernel
theorem dX10_copy_43 : decode cX10_copy 43 = .ok (.getfield 98, 3) := by decide +kernel
theorem dX10_copy_46 : decode cX10_copy 46 = .ok (.ifCond .eq 9, 3) := by decide +kernel
theorem dX10_copy_49 : decode cX10_copy 49 = .ok (.aload_n 0, 1) := by decide +kernel
theorem dX10_copy_50 : decode cX10_copy 50 = .ok (.iconst 1, 1) := by decide +kernel
theorem dX10_copy_51 : decode cX10_copy 51 = .ok (.invokevirtual 80, 3) := by decide +kernel
theorem dX10_copy_54 : decode cX10_copy 54 = .ok (.ireturn, 1) := by decide +kernel
theorem dX10_copy_55 : decode cX10_copy 55 = .ok (.aload 6, 2) := by decide +kernel
theorem dX10_copy_57 : decode cX10_copy 57 = .ok (.getfield 102, 3) := by decide +kernel
theorem dX10_copy_60 : decode cX10_copy 60 = .ok (.aload 7, 2) := by decide +kernel
theorem dX10_copy_62 : decode cX10_copy 62 = .ok (.getfield 102, 3) := by decide +kernel
theorem dX10_copy_65 : decode cX10_copy 65 = .ok (.if_icmp .eq 9, 3) := by decide +kernel
theorem dX10_copy_68 : decode cX10_copy 68 = .ok (.aload_n 0, 1) := by decide +kernel
theorem dX10_copy_69 : decode cX10_copy 69 = .ok (.iconst 5, 1) := by decide +kernel
theorem dX10_copy_70 : decode cX10_copy 70 = .ok (.invokevirtual 80, 3) := by decide +kernel
theorem dX10_copy_73 : decode cX10_copy 73 = .ok (.ireturn, 1) := by decide +kernel
theorem dX10_copy_74 : decode cX10_copy 74 = .ok (.aload 6, 2) := by decide +kernel
theorem dX10_copy_76 : decode cX10_copy 76 = .ok (.iload_n 2, 1) := by decide +kernel
theorem dX10_copy_77 : decode cX10_copy 77 = .ok (.iload 5, 2) := by decide +kernel
theorem dX10_copy_79 : decode cX10_copy 79 = .ok (.invokevirtual 106, 3) := by decide +kernel
theorem dX10_copy_82 : decode cX10_copy 82 = .ok (.ifCond .eq 15, 3) := by decide +kernel
theorem dX10_copy_85 : decode cX10_copy 85 = .ok (.aload 7, 2) := by decide +kernel
theorem dX10_copy_87 : decode cX10_copy 87 = .ok (.iload 4, 2) := by decide +kernel
theorem dX10_copy_89 : decode cX10_copy 89 = .ok (.iload 5, 2) := by decide +kernel
theorem dX10_copy_91 : decode cX10_copy 91 = .ok (.invokevirtual 106, 3) := by decide +kernel
theorem dX10_copy_94 : decode cX10_copy 94 = .ok (.ifCond .ne 9, 3) := by decide +kernel
theorem dX10_copy_97 : decode cX10_copy 97 = .ok (.aload_n 0, 1) := by decide +kernel
theorem dX10_copy_98 : decode cX10_copy 98 = .ok (.iconst 2, 1) := by decide +kernel
theorem dX10_copy_99 : decode cX10_copy 99 = .ok (.invokevirtual 80, 3) := by decide +kernel
theorem dX10_copy_102 : decode cX10_copy 102 = .ok (.ireturn, 1) := by decide +kernel
theorem dX10_copy_103 : decode cX10_copy 103 = .ok (.aload 6, 2) := by decide +kernel
theorem dX10_copy_105 : decode cX10_copy 105 = .ok (.getfield 110, 3) := by decide +kernel
theorem dX10_copy_108 : decode cX10_copy 108 = .ok (.iload_n 2, 1) := by decide +kernel
theorem dX10_copy_109 : decode cX10_copy 109 = .ok (.aload 7, 2) := by decide +kernel
theorem dX10_copy_111 : decode cX10_copy 111 = .ok (.getfield 110, 3) := by decide +kernel
theorem dX10_copy_114 : decode cX10_copy 114 = .ok (.iload 4, 2) := by decide +kernel
theorem dX10_copy_116 : decode cX10_copy 116 = .ok (.iload 5, 2) := by decide +kernel
theorem dX10_copy_118 : decode cX10_copy 118 = .ok (.invokestatic 114, 3) := by decide +kernel
theorem dX10_copy_121 : decode cX10_copy 121 = .ok (.aload_n 0, 1) := by decide +kernel
theorem dX10_copy_122 : decode cX10_copy 122 = .ok (.iload 5, 2) := by decide +kernel
theorem dX10_copy_124 : decode cX10_copy 124 = .ok (.invokevirtual 88, 3) := by decide +kernel
theorem dX10_copy_127 : decode cX10_copy 127 = .ok (.ireturn, 1) := by decide +kernel
theorem dX10_drop_0 : decode cX10_drop 0 = .ok (.iload_n 1, 1) := by decide +kernel
theorem dX10_drop_1 : decode cX10_drop 1 = .ok (.invokestatic 71, 3) := by decide +kernel
theorem dX10_drop_4 : decode cX10_drop 4 = .ok (.ifCond .ne 6, 3) := by decide +kernel
theorem dX10_drop_7 : decode cX10_drop 7 = .ok (.ldc 79, 2) := by decide +kernel
theorem dX10_drop_9 : decode cX10_drop 9 = .ok (.ireturn, 1) := by decide +kernel
theorem dX10_drop_10 : decode cX10_drop 10 = .ok (.aload_n 0, 1) := by decide +kernel
theorem dX10_drop_11 : decode cX10_drop 11 = .ok (.getfield 11, 3) := by decide +kernel
theorem dX10_drop_14 : decode cX10_drop 14 = .ok (.iload_n 1, 1) := by decide +kernel
theorem dX10_drop_15 : decode cX10_drop 15 = .ok (.aaload, 1) := by decide +kernel
theorem dX10_drop_16 : decode cX10_drop 16 = .ok (.astore_n 2, 1) := by decide +kernel
theorem dX10_drop_17 : decode cX10_drop 17 = .ok (.aload_n 2, 1) := by decide +kernel
theorem dX10_drop_18 : decode cX10_drop 18 = .ok (.getfield 98, 3) := by decide +kernel
theorem dX10_drop_21 : decode cX10_drop 21 = .ok (.ifCond .eq 9, 3) := by decide +kernel
theorem dX10_drop_24 : decode cX10_drop 24 = .ok (.aload_n 0, 1) := by decide +kernel
theorem dX10_drop_25 : decode cX10_drop 25 = .ok (.iconst 1, 1) := by decide +kernel
theorem dX10_drop_26 : decode cX10_drop 26 = .ok (.invokevirtual 80, 3) := by decide +kernel
theorem dX10_drop_29 : decode cX10_drop 29 = .ok (.ireturn, 1) := by decide +kernel
theorem dX10_drop_30 : decode cX10_drop 30 = .ok (.aload_n 2, 1) := by decide +kernel
theorem dX10_drop_31 : decode cX10_drop 31 = .ok (.iconst 1, 1) := by decide +kernel
theorem dX10_drop_32 : decode cX10_drop 32 = .ok (.putfield 98, 3) := by decide +kernel
theorem dX10_drop_35 : decode cX10_drop 35 = .ok (.aload_n 0, 1) := by decide +kernel
theorem dX10_drop_36 : decode cX10_drop 36 = .ok (.aload_n 2, 1) := by decide +kernel
theorem dX10_drop_37 : decode cX10_drop 37 = .ok (.getfield 120, 3) := by decide +kernel
theorem dX10_drop_40 : decode cX10_drop 40 = .ok (.invokevirtual 88, 3) := by decide +kernel
theorem dX10_drop_43 : decode cX10_drop 43 = .ok (.ireturn, 1) := by decide +kernel
theorem dX10_stuff_0 : decode cX10_stuff 0 = .ok (.iload_n 2, 1) := by decide +kernel
theorem dX10_stuff_1 : decode cX10_stuff 1 = .ok (.tableswitch 170 0 4 #[35, 64, 92, 121, 146], 35) := by decide +kernel
theorem dX10_stuff_36 : decode cX10_stuff 36 = .ok (.iload_n 3, 1) := by decide +kernel
theorem dX10_stuff_37 : decode cX10_stuff 37 = .ok (.iconst 1, 1) := by decide +kernel
theorem dX10_stuff_38 : decode cX10_stuff 38 = .ok (.sipush 1000, 3) := by decide +kernel
theorem dX10_stuff_41 : decode cX10_stuff 41 = .ok (.invokestatic 75, 3) := by decide +kernel
theorem dX10_stuff_44 : decode cX10_stuff 44 = .ok (.ifCond .eq 18, 3) := by decide +kernel
theorem dX10_stuff_47 : decode cX10_stuff 47 = .ok (.aload_n 0, 1) := by decide +kernel
theorem dX10_stuff_48 : decode cX10_stuff 48 = .ok (.getfield 18, 3) := by decide +kernel
theorem dX10_stuff_51 : decode cX10_stuff 51 = .ok (.getfield 123, 3) := by decide +kernel
theorem dX10_stuff_54 : decode cX10_stuff 54 = .ok (.iload_n 1, 1) := by decide +kernel
theorem dX10_stuff_55 : decode cX10_stuff 55 = .ok (.iload_n 3, 1) := by decide +kernel
theorem dX10_stuff_56 : decode cX10_stuff 56 = .ok (.invokestatic 126, 3) := by decide +kernel
theorem dX10_stuff_59 : decode cX10_stuff 59 = .ok (.goto 5, 3) := by decide +kernel
theorem dX10_stuff_62 : decode cX10_stuff 62 = .ok (.ldc 79, 2) := by decide +kernel
theorem dX10_stuff_64 : decode cX10_stuff 64 = .ok (.ireturn, 1) := by decide +kernel
theorem dX10_stuff_65 : decode cX10_stuff 65 = .ok (.iload_n 3, 1) := by decide +kernel
theorem dX10_stuff_66 : decode cX10_stuff 66 = .ok (.iconst 0, 1) := by decide +kernel
theorem dX10_stuff_67 : decode cX10_stuff 67 = .ok (.bipush 99, 2) := by decide +kernel
theorem dX10_stuff_69 : decode cX10_stuff 69 = .ok (.invokestatic 75, 3) := by decide +kernel
theorem dX10_stuff_72 : decode cX10_stuff 72 = .ok (.ifCond .eq 18, 3) := by decide +kernel
theorem dX10_stuff_75 : decode cX10_stuff 75 = .ok (.aload_n 0, 1) := by decide +kernel
theorem dX10_stuff_76 : decode cX10_stuff 76 = .ok (.getfield 18, 3) := by decide +kernel
theorem dX10_stuff_79 : decode cX10_stuff 79 = .ok (.getfield 130, 3) := by decide +kernel
theorem dX10_stuff_82 : decode cX10_stuff 82 = .ok (.iload_n 1, 1) := by decide +kernel
theorem dX10_stuff_83 : decode cX10_stuff 83 = .ok (.iload_n 3, 1) := by decide +kernel
theorem dX10_stuff_84 : decode cX10_stuff 84 = .ok (.invokestatic 126, 3) := by decide +kernel
theorem dX10_stuff_87 : decode cX10_stuff 87 = .ok (.goto 5, 3) := by decide +kernel
theorem dX10_stuff_90 : decode cX10_stuff 90 = .ok (.ldc 79, 2) := by decide +kernel
theorem dX10_stuff_92 : decode cX10_stuff 92 = .ok (.ireturn, 1) := by decide +kernel
theorem dX10_stuff_93 : decode cX10_stuff 93 = .ok (.iload_n 3, 1) := by decide +kernel
theorem dX10_stuff_94 : decode cX10_stuff 94 = .ok (.iconst 0, 1) := by decide +kernel
theorem dX10_stuff_95 : decode cX10_stuff 95 = .ok (.sipush 9999, 3) := by decide +kernel
theorem dX10_stuff_98 : decode cX10_stuff 98 = .ok (.invokestatic 75, 3) := by decide +kernel
theorem dX10_stuff_101 : decode cX10_stuff 101 = .ok (.ifCond .eq 18, 3) := by decide +kernel
theorem dX10_stuff_104 : decode cX10_stuff 104 = .ok (.aload_n 0, 1) := by decide +kernel
theorem dX10_stuff_105 : decode cX10_stuff 105 = .ok (.getfield 18, 3) := by decide +kernel
theorem dX10_stuff_108 : decode cX10_stuff 108 = .ok (.getfield 133, 3) := by decide +kernel
theorem dX10_stuff_111 : decode cX10_stuff 111 = .ok (.iload_n 1, 1) := by decide +kernel
theorem dX10_stuff_112 : decode cX10_stuff 112 = .ok (.iload_n 3, 1) := by decide +kernel
theorem dX10_stuff_113 : decode cX10_stuff 113 = .ok (.invokestatic 126, 3) := by decide +kernel
theorem dX10_stuff_116 : decode cX10_stuff 116 = .ok (.goto 5, 3) := by decide +kernel
theorem dX10_stuff_119 : decode cX10_stuff 119 = .ok (.ldc 79, 2) := by decide +kernel
theorem dX10_stuff_121 : decode cX10_stuff 121 = .ok (.ireturn, 1) := by decide +kernel
theorem dX10_stuff_122 : decode cX10_stuff 122 = .ok (.iload_n 3, 1) := by decide +kernel
theorem dX10_stuff_123 : decode cX10_stuff 123 = .ok (.iconst 0, 1) := by decide +kernel
theorem dX10_stuff_124 : decode cX10_stuff 124 = .ok (.sipush 5000, 3) := by decide +kernel
theorem dX10_stuff_127 : decode cX10_stuff 127 = .ok (.invokestatic 75, 3) := by decide +kernel
theorem dX10_stuff_130 : decode cX10_stuff 130 = .ok (.ifCond .eq 14, 3) := by decide +kernel
theorem dX10_stuff_133 : decode cX10_stuff 133 = .ok (.aload_n 0, 1) := by decide +kernel
theorem dX10_stuff_134 : decode cX10_stuff 134 = .ok (.getfield 18, 3) := by decide +kernel
theorem dX10_stuff_137 : decode cX10_stuff 137 = .ok (.iload_n 3, 1) := by decide +kernel
theorem dX10_stuff_138 : decode cX10_stuff 138 = .ok (.invokevirtual 136, 3) := by decide +kernel
theorem dX10_stuff_141 : decode cX10_stuff 141 = .ok (.goto 5, 3) := by decide +kernel
theorem dX10_stuff_144 : decode cX10_stuff 144 = .ok (.ldc 79, 2) := by decide +kernel
theorem dX10_stuff_146 : decode cX10_stuff 146 = .ok (.ireturn, 1) := by decide +kernel
theorem dX10_stuff_147 : decode cX10_stuff 147 = .ok (.iload_n 3, 1) := by decide +kernel
theorem dX10_stuff_148 : decode cX10_stuff 148 = .ok (.iconst 0, 1) := by decide +kernel
theorem dX10_stuff_149 : decode cX10_stuff 149 = .ok (.bipush 100, 2) := by decide +kernel
theorem dX10_stuff_151 : decode cX10_stuff 151 = .ok (.invokestatic 75, 3) := by decide +kernel
theorem dX10_stuff_154 : decode cX10_stuff 154 = .ok (.ifCond .eq 14, 3) := by decide +kernel
theorem dX10_stuff_157 : decode cX10_stuff 157 = .ok (.aload_n 0, 1) := by decide +kernel
theorem dX10_stuff_158 : decode cX10_stuff 158 = .ok (.getfield 18, 3) := by decide +kernel
theorem dX10_stuff_161 : decode cX10_stuff 161 = .ok (.iload_n 3, 1) := by decide +kernel
theorem dX10_stuff_162 : decode cX10_stuff 162 = .ok (.invokevirtual 139, 3) := by decide +kernel
theorem dX10_stuff_165 : decode cX10_stuff 165 = .ok (.goto 5, 3) := by decide +kernel
theorem dX10_stuff_168 : decode cX10_stuff 168 = .ok (.ldc 79, 2) := by decide +kernel
theorem dX10_stuff_170 : decode cX10_stuff 170 = .ok (.ireturn, 1) := by decide +kernel
theorem dX10_stuff_171 : decode cX10_stuff 171 = .ok (.ldc 79, 2) := by decide +kernel
theorem dX10_stuff_173 : decode cX10_stuff 173 = .ok (.ireturn, 1) := by decide +kernel
theorem dX10_ship_0 : decode cX10_ship 0 = .ok (.iload_n 1, 1) := by decide +kernel
theorem dX10_ship_1 : decode cX10_ship 1 = .ok (.invokestatic 142, 3) := by decide +kernel
theorem dX10_ship_4 : decode cX10_ship 4 = .ok (.ifCond .eq 31, 3) := by decide +kernel
theorem dX10_ship_7 : decode cX10_ship 7 = .ok (.iload_n 2, 1) := by decide +kernel
theorem dX10_ship_8 : decode cX10_ship 8 = .ok (.invokestatic 145, 3) := by decide +kernel
theorem dX10_ship_11 : decode cX10_ship 11 = .ok (.ifCond .eq 24, 3) := by decide +kernel
theorem dX10_ship_14 : decode cX10_ship 14 = .ok (.iload_n 3, 1) := by decide +kernel
theorem dX10_ship_15 : decode cX10_ship 15 = .ok (.iconst 1, 1) := by decide +kernel
theorem dX10_ship_16 : decode cX10_ship 16 = .ok (.sipush 500, 3) := by decide +kernel
theorem dX10_ship_19 : decode cX10_ship 19 = .ok (.invokestatic 75, 3) := by decide +kernel
theorem dX10_ship_22 : decode cX10_ship 22 = .ok (.ifCond .eq 13, 3) := by decide +kernel
theorem dX10_ship_25 : decode cX10_ship 25 = .ok (.iload 4, 2) := by decide +kernel
theorem dX10_ship_27 : decode cX10_ship 27 = .ok (.iconst 0, 1) := by decide +kernel
theorem dX10_ship_28 : decode cX10_ship 28 = .ok (.iconst 1, 1) := by decide +kernel
theorem dX10_ship_29 : decode cX10_ship 29 = .ok (.invokestatic 75, 3) := by decide +kernel
theorem dX10_ship_32 : decode cX10_ship 32 = .ok (.ifCond .ne 6, 3) := by decide +kernel
theorem dX10_ship_35 : decode cX10_ship 35 = .ok (.ldc 79, 2) := by decide +kernel
theorem dX10_ship_37 : decode cX10_ship 37 = .ok (.ireturn, 1) := by decide +kernel
theorem dX10_ship_38 : decode cX10_ship 38 = .ok (.aload_n 0, 1) := by decide +kernel
theorem dX10_ship_39 : decode cX10_ship 39 = .ok (.getfield 18, 3) := by decide +kernel
theorem dX10_ship_42 : decode cX10_ship 42 = .ok (.iload_n 1, 1) := by decide +kernel
theorem dX10_ship_43 : decode cX10_ship 43 = .ok (.iload_n 2, 1) := by decide +kernel
theorem dX10_ship_44 : decode cX10_ship 44 = .ok (.iload_n 3, 1) := by decide +kernel
theorem dX10_ship_45 : decode cX10_ship 45 = .ok (.iload 4, 2) := by decide +kernel
theorem dX10_ship_47 : decode cX10_ship 47 = .ok (.invokevirtual 148, 3) := by decide +kernel
theorem dX10_ship_50 : decode cX10_ship 50 = .ok (.ireturn, 1) := by decide +kernel
theorem dX10_mill_0 : decode cX10_mill 0 = .ok (.iload_n 1, 1) := by decide +kernel
theorem dX10_mill_1 : decode cX10_mill 1 = .ok (.iconst 1, 1) := by decide +kernel
theorem dX10_mill_2 : decode cX10_mill 2 = .ok (.bipush 50, 2) := by decide +kernel
theorem dX10_mill_4 : decode cX10_mill 4 = .ok (.invokestatic 75, 3) := by decide +kernel
theorem dX10_mill_7 : decode cX10_mill 7 = .ok (.ifCond .eq 36, 3) := by decide +kernel
theorem dX10_mill_10 : decode cX10_mill 10 = .ok (.iload_n 2, 1) := by decide +kernel
theorem dX10_mill_11 : decode cX10_mill 11 = .ok (.iconst 1, 1) := by decide +kernel
theorem dX10_mill_12 : decode cX10_mill 12 = .ok (.bipush 15, 2) := by decide +kernel
theorem dX10_mill_14 : decode cX10_mill 14 = .ok (.invokestatic 75, 3) := by decide +kernel
theorem dX10_mill_17 : decode cX10_mill 17 = .ok (.ifCond .eq 26, 3) := by decide +kernel
theorem dX10_mill_20 : decode cX10_mill 20 = .ok (.iload_n 3, 1) := by decide +kernel
theorem dX10_mill_21 : decode cX10_mill 21 = .ok (.iconst 0, 1) := by decide +kernel
theorem dX10_mill_22 : decode cX10_mill 22 = .ok (.sipush 1000, 3) := by decide +kernel
theorem dX10_mill_25 : decode cX10_mill 25 = .ok (.invokestatic 75, 3) := by decide +kernel
theorem dX10_mill_28 : decode cX10_mill 28 = .ok (.ifCond .eq 15, 3) := by decide +kernel
theorem dX10_mill_31 : decode cX10_mill 31 = .ok (.iload 4, 2) := by decide +kernel
theorem dX10_mill_33 : decode cX10_mill 33 = .ok (.iconst 0, 1) := by decide +kernel
theorem dX10_mill_34 : decode cX10_mill 34 = .ok (.sipush 5000, 3) := by decide +kernel
theorem dX10_mill_37 : decode cX10_mill 37 = .ok (.invokestatic 75, 3) := by decide +kernel
theorem dX10_mill_40 : decode cX10_mill 40 = .ok (.ifCond .ne 6, 3) := by decide +kernel
theorem dX10_mill_43 : decode cX10_mill 43 = .ok (.ldc 79, 2) := by decide +kernel
theorem dX10_mill_45 : decode cX10_mill 45 = .ok (.ireturn, 1) := by decide +kernel
theorem dX10_mill_46 : decode cX10_mill 46 = .ok (.aload_n 0, 1) := by decide +kernel
theorem dX10_mill_47 : decode cX10_mill 47 = .ok (.getfield 18, 3) := by decide +kernel
theorem dX10_mill_50 : decode cX10_mill 50 = .ok (.iload_n 1, 1) := by decide +kernel
theorem dX10_mill_51 : decode cX10_mill 51 = .ok (.iload_n 2, 1) := by decide +kernel
theorem dX10_mill_52 : decode cX10_mill 52 = .ok (.iload_n 3, 1) := by decide +kernel
theorem dX10_mill_53 : decode cX10_mill 53 = .ok (.iload 4, 2) := by decide +kernel
theorem dX10_mill_55 : decode cX10_mill 55 = .ok (.invokevirtual 152, 3) := by decide +kernel
theorem dX10_mill_58 : decode cX10_mill 58 = .ok (.ireturn, 1) := by decide +kernel
theorem dX10_stock_0 : decode cX10_stock 0 = .ok (.aload_n 0, 1) := by decide +kernel
theorem dX10_stock_1 : decode cX10_stock 1 = .ok (.getfield 18, 3) := by decide +kernel
theorem dX10_stock_4 : decode cX10_stock 4 = .ok (.iload_n 1, 1) := by decide +kernel
theorem dX10_stock_5 : decode cX10_stock 5 = .ok (.invokevirtual 155, 3) := by decide +kernel
theorem dX10_stock_8 : decode cX10_stock 8 = .ok (.ifCond .eq 21, 3) := by decide +kernel
theorem dX10_stock_11 : decode cX10_stock 11 = .ok (.iload_n 2, 1) := by decide +kernel
theorem dX10_stock_12 : decode cX10_stock 12 = .ok (.invokestatic 145, 3) := by decide +kernel
theorem dX10_stock_15 : decode cX10_stock 15 = .ok (.ifCond .eq 14, 3) := by decide +kernel
theorem dX10_stock_18 : decode cX10_stock 18 = .ok (.iload_n 3, 1) := by decide +kernel
theorem dX10_stock_19 : decode cX10_stock 19 = .ok (.iconst 0, 1) := by decide +kernel
theorem dX10_stock_20 : decode cX10_stock 20 = .ok (.sipush 9999, 3) := by decide +kernel
theorem dX10_stock_23 : decode cX10_stock 23 = .ok (.invokestatic 75, 3) := by decide +kernel
theorem dX10_stock_26 : decode cX10_stock 26 = .ok (.ifCond .ne 6, 3) := by decide +kernel
theorem dX10_stock_29 : decode cX10_stock 29 = .ok (.ldc 79, 2) := by decide +kernel
theorem dX10_stock_31 : decode cX10_stock 31 = .ok (.ireturn, 1) := by decide +kernel
theorem dX10_stock_32 : decode cX10_stock 32 = .ok (.aload_n 0, 1) := by decide +kernel
theorem dX10_stock_33 : decode cX10_stock 33 = .ok (.getfield 18, 3) := by decide +kernel
theorem dX10_stock_36 : decode cX10_stock 36 = .ok (.getfield 158, 3) := by decide +kernel
theorem dX10_stock_39 : decode cX10_stock 39 = .ok (.iload_n 1, 1) := by decide +kernel
theorem dX10_stock_40 : decode cX10_stock 40 = .ok (.aaload, 1) := by decide +kernel
theorem dX10_stock_41 : decode cX10_stock 41 = .ok (.getfield 162, 3) := by decide +kernel
theorem dX10_stock_44 : decode cX10_stock 44 = .ok (.iload_n 2, 1) := by decide +kernel
theorem dX10_stock_45 : decode cX10_stock 45 = .ok (.iload_n 3, 1) := by decide +kernel
theorem dX10_stock_46 : decode cX10_stock 46 = .ok (.invokestatic 167, 3) := by decide +kernel
theorem dX10_stock_49 : decode cX10_stock 49 = .ok (.ireturn, 1) := by decide +kernel
theorem dX10_told_0 : decode cX10_told 0 = .ok (.aload_n 0, 1) := by decide +kernel
theorem dX10_told_1 : decode cX10_told 1 = .ok (.getfield 18, 3) := by decide +kernel
theorem dX10_told_4 : decode cX10_told 4 = .ok (.iload_n 1, 1) := by decide +kernel
theorem dX10_told_5 : decode cX10_told 5 = .ok (.invokevirtual 155, 3) := by decide +kernel
theorem dX10_told_8 : decode cX10_told 8 = .ok (.ifCond .eq 13, 3) := by decide +kernel
theorem dX10_told_11 : decode cX10_told 11 = .ok (.iload_n 2, 1) := by decide +kernel
theorem dX10_told_12 : decode cX10_told 12 = .ok (.iconst 0, 1) := by decide +kernel
theorem dX10_told_13 : decode cX10_told 13 = .ok (.bipush 9, 2) := by decide +kernel
theorem dX10_told_15 : decode cX10_told 15 = .ok (.invokestatic 75, 3) := by decide +kernel
theorem dX10_told_18 : decode cX10_told 18 = .ok (.ifCond .ne 6, 3) := by decide +kernel
theorem dX10_told_21 : decode cX10_told 21 = .ok (.ldc 79, 2) := by decide +kernel
theorem dX10_told_23 : decode cX10_told 23 = .ok (.ireturn, 1) := by decide +kernel
theorem dX10_told_24 : decode cX10_told 24 = .ok (.aload_n 0, 1) := by decide +kernel
theorem dX10_told_25 : decode cX10_told 25 = .ok (.getfield 18, 3) := by decide +kernel
theorem dX10_told_28 : decode cX10_told 28 = .ok (.getfield 158, 3) := by decide +kernel
theorem dX10_told_31 : decode cX10_told 31 = .ok (.iload_n 1, 1) := by decide +kernel
theorem dX10_told_32 : decode cX10_told 32 = .ok (.aaload, 1) := by decide +kernel
theorem dX10_told_33 : decode cX10_told 33 = .ok (.iload_n 2, 1) := by decide +kernel
theorem dX10_told_34 : decode cX10_told 34 = .ok (.invokevirtual 170, 3) := by decide +kernel
theorem dX10_told_37 : decode cX10_told 37 = .ok (.ireturn, 1) := by decide +kernel
theorem dX10_step_0 : decode cX10_step 0 = .ok (.iload_n 1, 1) := by decide +kernel
theorem dX10_step_1 : decode cX10_step 1 = .ok (.iconst 1, 1) := by decide +kernel
theorem dX10_step_2 : decode cX10_step 2 = .ok (.bipush 20, 2) := by decide +kernel
theorem dX10_step_4 : decode cX10_step 4 = .ok (.invokestatic 75, 3) := by decide +kernel
theorem dX10_step_7 : decode cX10_step 7 = .ok (.ifCond .ne 6, 3) := by decide +kernel
theorem dX10_step_10 : decode cX10_step 10 = .ok (.ldc 79, 2) := by decide +kernel
theorem dX10_step_12 : decode cX10_step 12 = .ok (.ireturn, 1) := by decide +kernel
theorem dX10_step_13 : decode cX10_step 13 = .ok (.iload_n 1, 1) := by decide +kernel
theorem dX10_step_14 : decode cX10_step 14 = .ok (.bipush 100, 2) := by decide +kernel
theorem dX10_step_16 : decode cX10_step 16 = .ok (.aload_n 0, 1) := by decide +kernel
theorem dX10_step_17 : decode cX10_step 17 = .ok (.getfield 18, 3) := by decide +kernel
theorem dX10_step_20 : decode cX10_step 20 = .ok (.getfield 173, 3) := by decide +kernel
theorem dX10_step_23 : decode cX10_step 23 = .ok (.isub, 1) := by decide +kernel
theorem dX10_step_24 : decode cX10_step 24 = .ok (.invokestatic 176, 3) := by decide +kernel
theorem dX10_step_27 : decode cX10_step 27 = .ok (.istore_n 2, 1) := by decide +kernel
theorem dX10_step_28 : decode cX10_step 28 = .ok (.iconst 0, 1) := by decide +kernel
theorem dX10_step_29 : decode cX10_step 29 = .ok (.istore_n 3, 1) := by decide +kernel
theorem dX10_step_30 : decode cX10_step 30 = .ok (.iload_n 3, 1) := by decide +kernel
theorem dX10_step_31 : decode cX10_step 31 = .ok (.iload_n 2, 1) := by decide +kernel
theorem dX10_step_32 : decode cX10_step 32 = .ok (.if_icmp .ge 13, 3) := by decide +kernel
theorem dX10_step_35 : decode cX10_step 35 = .ok (.aload_n 0, 1) := by decide +kernel
theorem dX10_step_36 : decode cX10_step 36 = .ok (.invokevirtual 181, 3) := by decide +kernel
theorem dX10_step_39 : decode cX10_step 39 = .ok (.iinc 3 1, 3) := by decide +kernel
theorem dX10_step_42 : decode cX10_step 42 = .ok (.goto (-12), 3) := by decide +kernel
theorem dX10_step_45 : decode cX10_step 45 = .ok (.iload_n 2, 1) := by decide +kernel
theorem dX10_step_46 : decode cX10_step 46 = .ok (.ireturn, 1) := by decide +kernel
theorem dX10_ran_0 : decode cX10_ran 0 = .ok (.iload_n 1, 1) := by decide +kernel
theorem dX10_ran_1 : decode cX10_ran 1 = .ok (.iconst 0, 1) := by decide +kernel
theorem dX10_ran_2 : decode cX10_ran 2 = .ok (.iconst 5, 1) := by decide +kernel
theorem dX10_ran_3 : decode cX10_ran 3 = .ok (.invokestatic 75, 3) := by decide +kernel
theorem dX10_ran_6 : decode cX10_ran 6 = .ok (.ifCond .eq 10, 3) := by decide +kernel
theorem dX10_ran_9 : decode cX10_ran 9 = .ok (.iload_n 2, 1) := by decide +kernel
theorem dX10_ran_10 : decode cX10_ran 10 = .ok (.invokestatic 142, 3) := by decide +kernel
theorem dX10_ran_13 : decode cX10_ran 13 = .ok (.ifCond .ne 6, 3) := by decide +kernel
theorem dX10_ran_16 : decode cX10_ran 16 = .ok (.ldc 79, 2) := by decide +kernel
theorem dX10_ran_18 : decode cX10_ran 18 = .ok (.ireturn, 1) := by decide +kernel
theorem dX10_ran_19 : decode cX10_ran 19 = .ok (.aload_n 0, 1) := by decide +kernel
theorem dX10_ran_20 : decode cX10_ran 20 = .ok (.getfield 18, 3) := by decide +kernel
theorem dX10_ran_23 : decode cX10_ran 23 = .ok (.iload_n 1, 1) := by decide +kernel
theorem dX10_ran_24 : decode cX10_ran 24 = .ok (.iload_n 2, 1) := by decide +kernel
theorem dX10_ran_25 : decode cX10_ran 25 = .ok (.invokevirtual 184, 3) := by decide +kernel
theorem dX10_ran_28 : decode cX10_ran 28 = .ok (.ireturn, 1) := by decide +kernel
theorem dX10_price_0 : decode cX10_price 0 = .ok (.iload_n 1, 1) := by decide +kernel
theorem dX10_price_1 : decode cX10_price 1 = .ok (.invokestatic 145, 3) := by decide +kernel
theorem dX10_price_4 : decode cX10_price 4 = .ok (.ifCond .eq 12, 3) := by decide +kernel
theorem dX10_price_7 : decode cX10_price 7 = .ok (.iload_n 2, 1) := by decide +kernel
theorem dX10_price_8 : decode cX10_price 8 = .ok (.iconst 0, 1) := by decide +kernel
theorem dX10_price_9 : decode cX10_price 9 = .ok (.iconst 1, 1) := by decide +kernel
theorem dX10_price_10 : decode cX10_price 10 = .ok (.invokestatic 75, 3) := by decide +kernel
theorem dX10_price_13 : decode cX10_price 13 = .ok (.ifCond .ne 6, 3) := by decide +kernel
theorem dX10_price_16 : decode cX10_price 16 = .ok (.ldc 79, 2) := by decide +kernel
theorem dX10_price_18 : decode cX10_price 18 = .ok (.ireturn, 1) := by decide +kernel
theorem dX10_price_19 : decode cX10_price 19 = .ok (.iload_n 2, 1) := by decide +kernel
theorem dX10_price_20 : decode cX10_price 20 = .ok (.ifCond .ne 12, 3) := by decide +kernel
theorem dX10_price_23 : decode cX10_price 23 = .ok (.aload_n 0, 1) := by decide +kernel
theorem dX10_price_24 : decode cX10_price 24 = .ok (.getfield 18, 3) := by decide +kernel
theorem dX10_price_27 : decode cX10_price 27 = .ok (.iload_n 1, 1) := by decide +kernel
theorem dX10_price_28 : decode cX10_price 28 = .ok (.invokevirtual 187, 3) := by decide +kernel
theorem dX10_price_31 : decode cX10_price 31 = .ok (.ireturn, 1) := by decide +kernel
theorem dX10_price_32 : decode cX10_price 32 = .ok (.aload_n 0, 1) := by decide +kernel
theorem dX10_price_33 : decode cX10_price 33 = .ok (.getfield 18, 3) := by decide +kernel
theorem dX10_price_36 : decode cX10_price 36 = .ok (.getfield 173, 3) := by decide +kernel
theorem dX10_price_39 : decode cX10_price 39 = .ok (.ifCond .ne 8, 3) := by decide +kernel
theorem dX10_price_42 : decode cX10_price 42 = .ok (.ldc 190, 2) := by decide +kernel
theorem dX10_price_44 : decode cX10_price 44 = .ok (.goto 12, 3) := by decide +kernel
theorem dX10_price_47 : decode cX10_price 47 = .ok (.aload_n 0, 1) := by decide +kernel
theorem dX10_price_48 : decode cX10_price 48 = .ok (.getfield 18, 3) := by decide +kernel
theorem dX10_price_51 : decode cX10_price 51 = .ok (.getfield 191, 3) := by decide +kernel
theorem dX10_price_54 : decode cX10_price 54 = .ok (.iload_n 1, 1) := by decide +kernel
theorem dX10_price_55 : decode cX10_price 55 = .ok (.iaload, 1) := by decide +kernel
theorem dX10_price_56 : decode cX10_price 56 = .ok (.ireturn, 1) := by decide +kernel
theorem dX10_feed_0 : decode cX10_feed 0 = .ok (.iload_n 3, 1) := by decide +kernel
theorem dX10_feed_1 : decode cX10_feed 1 = .ok (.iconst 1, 1) := by decide +kernel
theorem dX10_feed_2 : decode cX10_feed 2 = .ok (.bipush 8, 2) := by decide +kernel
theorem dX10_feed_4 : decode cX10_feed 4 = .ok (.invokestatic 75, 3) := by decide +kernel
theorem dX10_feed_7 : decode cX10_feed 7 = .ok (.ifCond .ne 6, 3) := by decide +kernel
theorem dX10_feed_10 : decode cX10_feed 10 = .ok (.ldc 79, 2) := by decide +kernel
theorem dX10_feed_12 : decode cX10_feed 12 = .ok (.ireturn, 1) := by decide +kernel
theorem dX10_feed_13 : decode cX10_feed 13 = .ok (.aload_n 0, 1) := by decide +kernel
theorem dX10_feed_14 : decode cX10_feed 14 = .ok (.getfield 32, 3) := by decide +kernel
theorem dX10_feed_17 : decode cX10_feed 17 = .ok (.lload_n 1, 1) := by decide +kernel
theorem dX10_feed_18 : decode cX10_feed 18 = .ok (.iload_n 3, 1) := by decide +kernel
theorem dX10_feed_19 : decode cX10_feed 19 = .ok (.invokevirtual 194, 3) := by decide +kernel
theorem dX10_feed_22 : decode cX10_feed 22 = .ok (.ireturn, 1) := by decide +kernel
theorem dX10_lists_0 : decode cX10_lists 0 = .ok (.aload_n 0, 1) := by decide +kernel
theorem dX10_lists_1 : decode cX10_lists 1 = .ok (.getfield 32, 3) := by decide +kernel
theorem dX10_lists_4 : decode cX10_lists 4 = .ok (.aload_n 0, 1) := by decide +kernel
theorem dX10_lists_5 : decode cX10_lists 5 = .ok (.getfield 25, 3) := by decide +kernel
theorem dX10_lists_8 : decode cX10_lists 8 = .ok (.invokevirtual 198, 3) := by decide +kernel
theorem dX10_lists_11 : decode cX10_lists 11 = .ok (.istore_n 1, 1) := by decide +kernel
theorem dX10_lists_12 : decode cX10_lists 12 = .ok (.aload_n 0, 1) := by decide +kernel
theorem dX10_lists_13 : decode cX10_lists 13 = .ok (.getfield 32, 3) := by decide +kernel
theorem dX10_lists_16 : decode cX10_lists 16 = .ok (.iconst 0, 1) := by decide +kernel
theorem dX10_lists_17 : decode cX10_lists 17 = .ok (.putfield 202, 3) := by decide +kernel
theorem dX10_lists_20 : decode cX10_lists 20 = .ok (.iload_n 1, 1) := by decide +kernel
theorem dX10_lists_21 : decode cX10_lists 21 = .ok (.ifCond .ne 14, 3) := by decide +kernel
theorem dX10_lists_24 : decode cX10_lists 24 = .ok (.ldc 205, 2) := by decide +kernel
theorem dX10_lists_26 : decode cX10_lists 26 = .ok (.aload_n 0, 1) := by decide +kernel
theorem dX10_lists_27 : decode cX10_lists 27 = .ok (.getfield 32, 3) := by decide +kernel
theorem dX10_lists_30 : decode cX10_lists 30 = .ok (.getfield 206, 3) := by decide +kernel
theorem dX10_lists_33 : decode cX10_lists 33 = .ok (.isub, 1) := by decide +kernel
theorem dX10_lists_34 : decode cX10_lists 34 = .ok (.ireturn, 1) := by decide +kernel
theorem dX10_lists_35 : decode cX10_lists 35 = .ok (.aload_n 0, 1) := by decide +kernel
theorem dX10_lists_36 : decode cX10_lists 36 = .ok (.getfield 25, 3) := by decide +kernel
theorem dX10_lists_39 : decode cX10_lists 39 = .ok (.invokevirtual 209, 3) := by decide +kernel
theorem dX10_lists_42 : decode cX10_lists 42 = .ok (.aload_n 0, 1) := by decide +kernel
theorem dX10_lists_43 : decode cX10_lists 43 = .ok (.getfield 25, 3) := by decide +kernel
theorem dX10_lists_46 : decode cX10_lists 46 = .ok (.getfield 212, 3) := by decide +kernel
theorem dX10_lists_49 : decode cX10_lists 49 = .ok (.ireturn, 1) := by decide +kernel
theorem dX10_fault_0 : decode cX10_fault 0 = .ok (.aload_n 0, 1) := by decide +kernel
theorem dX10_fault_1 : decode cX10_fault 1 = .ok (.getfield 32, 3) := by decide +kernel
theorem dX10_fault_4 : decode cX10_fault 4 = .ok (.getfield 215, 3) := by decide +kernel
theorem dX10_fault_7 : decode cX10_fault 7 = .ok (.ireturn, 1) := by decide +kernel
theorem dX10_holds_0 : decode cX10_holds 0 = .ok (.iload_n 1, 1) := by decide +kernel
theorem dX10_holds_1 : decode cX10_holds 1 = .ok (.invokestatic 142, 3) := by decide +kernel
theorem dX10_holds_4 : decode cX10_holds 4 = .ok (.ifCond .ne 6, 3) := by decide +kernel
theorem dX10_holds_7 : decode cX10_holds 7 = .ok (.ldc 79, 2) := by decide +kernel
theorem dX10_holds_9 : decode cX10_holds 9 = .ok (.ireturn, 1) := by decide +kernel
theorem dX10_holds_10 : decode cX10_holds 10 = .ok (.iload_n 2, 1) := by decide +kernel
theorem dX10_holds_11 : decode cX10_holds 11 = .ok (.bipush 10, 2) := by decide +kernel
theorem dX10_holds_13 : decode cX10_holds 13 = .ok (.bipush 13, 2) := by decide +kernel
theorem dX10_holds_15 : decode cX10_holds 15 = .ok (.invokestatic 75, 3) := by decide +kernel
theorem dX10_holds_18 : decode cX10_holds 18 = .ok (.ifCond .eq 13, 3) := by decide +kernel
theorem dX10_holds_21 : decode cX10_holds 21 = .ok (.aload_n 0, 1) := by decide +kernel
theorem dX10_holds_22 : decode cX10_holds 22 = .ok (.iload_n 2, 1) := by decide +kernel
theorem dX10_holds_23 : decode cX10_holds 23 = .ok (.bipush 10, 2) := by decide +kernel
theorem dX10_holds_25 : decode cX10_holds 25 = .ok (.isub, 1) := by decide +kernel
theorem dX10_holds_26 : decode cX10_holds 26 = .ok (.iload_n 1, 1) := by decide +kernel
theorem dX10_holds_27 : decode cX10_holds 27 = .ok (.invokevirtual 218, 3) := by decide +kernel
theorem dX10_holds_30 : decode cX10_holds 30 = .ok (.ireturn, 1) := by decide +kernel
theorem dX10_holds_31 : decode cX10_holds 31 = .ok (.iload_n 2, 1) := by decide +kernel
theorem dX10_holds_32 : decode cX10_holds 32 = .ok (.bipush 7, 2) := by decide +kernel
theorem dX10_holds_34 : decode cX10_holds 34 = .ok (.if_icmp .ne 12, 3) := by decide +kernel
theorem dX10_holds_37 : decode cX10_holds 37 = .ok (.aload_n 0, 1) := by decide +kernel
theorem dX10_holds_38 : decode cX10_holds 38 = .ok (.getfield 25, 3) := by decide +kernel
theorem dX10_holds_41 : decode cX10_holds 41 = .ok (.iload_n 1, 1) := by decide +kernel
theorem dX10_holds_42 : decode cX10_holds 42 = .ok (.invokevirtual 221, 3) := by decide +kernel
theorem dX10_holds_45 : decode cX10_holds 45 = .ok (.ireturn, 1) := by decide +kernel
theorem dX10_holds_46 : decode cX10_holds 46 = .ok (.iload_n 2, 1) := by decide +kernel
theorem dX10_holds_47 : decode cX10_holds 47 = .ok (.iconst 0, 1) := by decide +kernel
theorem dX10_holds_48 : decode cX10_holds 48 = .ok (.bipush 6, 2) := by decide +kernel
theorem dX10_holds_50 : decode cX10_holds 50 = .ok (.invokestatic 75, 3) := by decide +kernel
theorem dX10_holds_53 : decode cX10_holds 53 = .ok (.ifCond .eq 15, 3) := by decide +kernel
theorem dX10_holds_56 : decode cX10_holds 56 = .ok (.aload_n 0, 1) := by decide +kernel
theorem dX10_holds_57 : decode cX10_holds 57 = .ok (.getfield 25, 3) := by decide +kernel
theorem dX10_holds_60 : decode cX10_holds 60 = .ok (.iload_n 1, 1) := by decide +kernel
theorem dX10_holds_61 : decode cX10_holds 61 = .ok (.iload_n 2, 1) := by decide +kernel
theorem dX10_holds_62 : decode cX10_holds 62 = .ok (.invokevirtual 224, 3) := by decide +kernel
theorem dX10_holds_65 : decode cX10_holds 65 = .ok (.goto 5, 3) := by decide +kernel
theorem dX10_holds_68 : decode cX10_holds 68 = .ok (.ldc 79, 2) := by decide +kernel
theorem dX10_holds_70 : decode cX10_holds 70 = .ok (.ireturn, 1) := by decide +kernel
theorem dX10_first_0 : decode cX10_first 0 = .ok (.iload_n 1, 1) := by decide +kernel
theorem dX10_first_1 : decode cX10_first 1 = .ok (.invokestatic 142, 3) := by decide +kernel
theorem dX10_first_4 : decode cX10_first 4 = .ok (.ifCond .ne 6, 3) := by decide +kernel
theorem dX10_first_7 : decode cX10_first 7 = .ok (.ldc 79, 2) := by decide +kernel
theorem dX10_first_9 : decode cX10_first 9 = .ok (.ireturn, 1) := by decide +kernel
theorem dX10_first_10 : decode cX10_first 10 = .ok (.iload_n 2, 1) := by decide +kernel
theorem dX10_first_11 : decode cX10_first 11 = .ok (.iconst 0, 1) := by decide +kernel
theorem dX10_first_12 : decode cX10_first 12 = .ok (.aload_n 0, 1) := by decide +kernel
theorem dX10_first_13 : decode cX10_first 13 = .ok (.getfield 25, 3) := by decide +kernel
theorem dX10_first_16 : decode cX10_first 16 = .ok (.iload_n 1, 1) := by decide +kernel
theorem dX10_first_17 : decode cX10_first 17 = .ok (.invokevirtual 227, 3) := by decide +kernel
theorem dX10_first_20 : decode cX10_first 20 = .ok (.iconst 1, 1) := by decide +kernel
theorem dX10_first_21 : decode cX10_first 21 = .ok (.isub, 1) := by decide +kernel
theorem dX10_first_22 : decode cX10_first 22 = .ok (.invokestatic 75, 3) := by decide +kernel
theorem dX10_first_25 : decode cX10_first 25 = .ok (.ifCond .eq 15, 3) := by decide +kernel
theorem dX10_first_28 : decode cX10_first 28 = .ok (.aload_n 0, 1) := by decide +kernel
theorem dX10_first_29 : decode cX10_first 29 = .ok (.getfield 25, 3) := by decide +kernel
theorem dX10_first_32 : decode cX10_first 32 = .ok (.getfield 230, 3) := by decide +kernel
theorem dX10_first_35 : decode cX10_first 35 = .ok (.iload_n 2, 1) := by decide +kernel
theorem dX10_first_36 : decode cX10_first 36 = .ok (.iaload, 1) := by decide +kernel
theorem dX10_first_37 : decode cX10_first 37 = .ok (.goto 5, 3) := by decide +kernel
theorem dX10_first_40 : decode cX10_first 40 = .ok (.ldc 190, 2) := by decide +kernel
theorem dX10_first_42 : decode cX10_first 42 = .ok (.ireturn, 1) := by decide +kernel
theorem dX10_home_0 : decode cX10_home 0 = .ok (.iload_n 1, 1) := by decide +kernel
theorem dX10_home_1 : decode cX10_home 1 = .ok (.invokestatic 71, 3) := by decide +kernel
theorem dX10_home_4 : decode cX10_home 4 = .ok (.ifCond .ne 6, 3) := by decide +kernel
theorem dX10_home_7 : decode cX10_home 7 = .ok (.ldc 79, 2) := by decide +kernel
theorem dX10_home_9 : decode cX10_home 9 = .ok (.ireturn, 1) := by decide +kernel
theorem dX10_home_10 : decode cX10_home 10 = .ok (.aload_n 0, 1) := by decide +kernel
theorem dX10_home_11 : decode cX10_home 11 = .ok (.getfield 233, 3) := by decide +kernel
theorem dX10_home_14 : decode cX10_home 14 = .ok (.bipush 12, 2) := by decide +kernel
theorem dX10_home_16 : decode cX10_home 16 = .ok (.if_icmp .lt 6, 3) := by decide +kernel
theorem dX10_home_19 : decode cX10_home 19 = .ok (.ldc 236, 2) := by decide +kernel
theorem dX10_home_21 : decode cX10_home 21 = .ok (.ireturn, 1) := by decide +kernel
theorem dX10_home_22 : decode cX10_home 22 = .ok (.aload_n 0, 1) := by decide +kernel
theorem dX10_home_23 : decode cX10_home 23 = .ok (.getfield 11, 3) := by decide +kernel
theorem dX10_home_26 : decode cX10_home 26 = .ok (.iload_n 1, 1) := by decide +kernel
theorem dX10_home_27 : decode cX10_home 27 = .ok (.aaload, 1) := by decide +kernel
theorem dX10_home_28 : decode cX10_home 28 = .ok (.astore_n 3, 1) := by decide +kernel
theorem dX10_home_29 : decode cX10_home 29 = .ok (.aload_n 3, 1) := by decide +kernel
theorem dX10_home_30 : decode cX10_home 30 = .ok (.iload_n 2, 1) := by decide +kernel
theorem dX10_home_31 : decode cX10_home 31 = .ok (.bipush 9, 2) := by decide +kernel
theorem dX10_home_33 : decode cX10_home 33 = .ok (.invokevirtual 91, 3) := by decide +kernel
theorem dX10_home_36 : decode cX10_home 36 = .ok (.istore 4, 2) := by decide +kernel
theorem dX10_home_38 : decode cX10_home 38 = .ok (.iload 4, 2) := by decide +kernel
theorem dX10_home_40 : decode cX10_home 40 = .ok (.ifCond .eq 10, 3) := by decide +kernel
theorem dX10_home_43 : decode cX10_home 43 = .ok (.aload_n 0, 1) := by decide +kernel
theorem dX10_home_44 : decode cX10_home 44 = .ok (.iload 4, 2) := by decide +kernel
theorem dX10_home_46 : decode cX10_home 46 = .ok (.invokevirtual 80, 3) := by decide +kernel
theorem dX10_home_49 : decode cX10_home 49 = .ok (.ireturn, 1) := by decide +kernel
theorem dX10_home_50 : decode cX10_home 50 = .ok (.aload_n 3, 1) := by decide +kernel
theorem dX10_home_51 : decode cX10_home 51 = .ok (.getfield 110, 3) := by decide +kernel
theorem dX10_home_54 : decode cX10_home 54 = .ok (.iload_n 2, 1) := by decide +kernel
theorem dX10_home_55 : decode cX10_home 55 = .ok (.invokestatic 237, 3) := by decide +kernel
theorem dX10_home_58 : decode cX10_home 58 = .ok (.ifCond .ne 6, 3) := by decide +kernel
theorem dX10_home_61 : decode cX10_home 61 = .ok (.ldc 79, 2) := by decide +kernel
theorem dX10_home_63 : decode cX10_home 63 = .ok (.ireturn, 1) := by decide +kernel
theorem dX10_home_64 : decode cX10_home 64 = .ok (.aload_n 0, 1) := by decide +kernel
theorem dX10_home_65 : decode cX10_home 65 = .ok (.getfield 38, 3) := by decide +kernel
theorem dX10_home_68 : decode cX10_home 68 = .ok (.aload_n 0, 1) := by decide +kernel
theorem dX10_home_69 : decode cX10_home 69 = .ok (.getfield 233, 3) := by decide +kernel
theorem dX10_home_72 : decode cX10_home 72 = .ok (.new 36, 3) := by decide +kernel
theorem dX10_home_75 : decode cX10_home 75 = .ok (.dup, 1) := by decide +kernel
theorem dX10_home_76 : decode cX10_home 76 = .ok (.aload_n 3, 1) := by decide +kernel
theorem dX10_home_77 : decode cX10_home 77 = .ok (.getfield 110, 3) := by decide +kernel
theorem dX10_home_80 : decode cX10_home 80 = .ok (.iload_n 2, 1) := by decide +kernel
theorem dX10_home_81 : decode cX10_home 81 = .ok (.invokespecial 241, 3) := by decide +kernel
theorem dX10_home_84 : decode cX10_home 84 = .ok (.aastore, 1) := by decide +kernel
theorem dX10_home_85 : decode cX10_home 85 = .ok (.aload_n 0, 1) := by decide +kernel
theorem dX10_home_86 : decode cX10_home 86 = .ok (.dup, 1) := by decide +kernel
theorem dX10_home_87 : decode cX10_home 87 = .ok (.getfield 233, 3) := by decide +kernel
theorem dX10_home_90 : decode cX10_home 90 = .ok (.iconst 1, 1) := by decide +kernel
theorem dX10_home_91 : decode cX10_home 91 = .ok (.iadd, 1) := by decide +kernel
theorem dX10_home_92 : decode cX10_home 92 = .ok (.putfield 233, 3) := by decide +kernel
theorem dX10_home_95 : decode cX10_home 95 = .ok (.aload_n 0, 1) := by decide +kernel
theorem dX10_home_96 : decode cX10_home 96 = .ok (.aload_n 0, 1) := by decide +kernel
theorem dX10_home_97 : decode cX10_home 97 = .ok (.getfield 233, 3) := by decide +kernel
theorem dX10_home_100 : decode cX10_home 100 = .ok (.iconst 1, 1) := by decide +kernel
theorem dX10_home_101 : decode cX10_home 101 = .ok (.isub, 1) := by decide +kernel
theorem dX10_home_102 : decode cX10_home 102 = .ok (.invokevirtual 88, 3) := by decide +kernel
theorem dX10_home_105 : decode cX10_home 105 = .ok (.ireturn, 1) := by decide +kernel
theorem dX10_house_0 : decode cX10_house 0 = .ok (.iload_n 1, 1) := by decide +kernel
theorem dX10_house_1 : decode cX10_house 1 = .ok (.iconst 0, 1) := by decide +kernel
theorem dX10_house_2 : decode cX10_house 2 = .ok (.aload_n 0, 1) := by decide +kernel
theorem dX10_house_3 : decode cX10_house 3 = .ok (.getfield 233, 3) := by decide +kernel
theorem dX10_house_6 : decode cX10_house 6 = .ok (.iconst 1, 1) := by decide +kernel
theorem dX10_house_7 : decode cX10_house 7 = .ok (.isub, 1) := by decide +kernel
theorem dX10_house_8 : decode cX10_house 8 = .ok (.invokestatic 75, 3) := by decide +kernel
theorem dX10_house_11 : decode cX10_house 11 = .ok (.ifCond .eq 13, 3) := by decide +kernel
theorem dX10_house_14 : decode cX10_house 14 = .ok (.iload_n 2, 1) := by decide +kernel
theorem dX10_house_15 : decode cX10_house 15 = .ok (.iconst 0, 1) := by decide +kernel
theorem dX10_house_16 : decode cX10_house 16 = .ok (.bipush 10, 2) := by decide +kernel
theorem dX10_house_18 : decode cX10_house 18 = .ok (.invokestatic 75, 3) := by decide +kernel
theorem dX10_house_21 : decode cX10_house 21 = .ok (.ifCond .ne 6, 3) := by decide +kernel
theorem dX10_house_24 : decode cX10_house 24 = .ok (.ldc 79, 2) := by decide +kernel
theorem dX10_house_26 : decode cX10_house 26 = .ok (.ireturn, 1) := by decide +kernel
theorem dX10_house_27 : decode cX10_house 27 = .ok (.aload_n 0, 1) := by decide +kernel
theorem dX10_house_28 : decode cX10_house 28 = .ok (.getfield 38, 3) := by decide +kernel
theorem dX10_house_31 : decode cX10_house 31 = .ok (.iload_n 1, 1) := by decide +kernel
theorem dX10_house_32 : decode cX10_house 32 = .ok (.aaload, 1) := by decide +kernel
theorem dX10_house_33 : decode cX10_house 33 = .ok (.iload_n 2, 1) := by decide +kernel
theorem dX10_house_34 : decode cX10_house 34 = .ok (.invokevirtual 244, 3) := by decide +kernel
theorem dX10_house_37 : decode cX10_house 37 = .ok (.ireturn, 1) := by decide +kernel
theorem dX10_paid_0 : decode cX10_paid 0 = .ok (.iload_n 1, 1) := by decide +kernel
theorem dX10_paid_1 : decode cX10_paid 1 = .ok (.invokestatic 71, 3) := by decide +kernel
theorem dX10_paid_4 : decode cX10_paid 4 = .ok (.ifCond .eq 23, 3) := by decide +kernel
theorem dX10_paid_7 : decode cX10_paid 7 = .ok (.iload_n 3, 1) := by decide +kernel
theorem dX10_paid_8 : decode cX10_paid 8 = .ok (.iconst 1, 1) := by decide +kernel
theorem dX10_paid_9 : decode cX10_paid 9 = .ok (.bipush 8, 2) := by decide +kernel
theorem dX10_paid_11 : decode cX10_paid 11 = .ok (.invokestatic 75, 3) := by decide +kernel
theorem dX10_paid_14 : decode cX10_paid 14 = .ok (.ifCond .eq 13, 3) := by decide +kernel
theorem dX10_paid_17 : decode cX10_paid 17 = .ok (.iload 4, 2) := by decide +kernel
theorem dX10_paid_19 : decode cX10_paid 19 = .ok (.iconst 0, 1) := by decide +kernel
theorem dX10_paid_20 : decode cX10_paid 20 = .ok (.iload_n 3, 1) := by decide +kernel
theorem dX10_paid_21 : decode cX10_paid 21 = .ok (.invokestatic 75, 3) := by decide +kernel
theorem dX10_paid_24 : decode cX10_paid 24 = .ok (.ifCond .ne 6, 3) := by decide +kernel
theorem dX10_paid_27 : decode cX10_paid 27 = .ok (.ldc 79, 2) := by decide +kernel
theorem dX10_paid_29 : decode cX10_paid 29 = .ok (.ireturn, 1) := by decide +kernel
theorem dX10_paid_30 : decode cX10_paid 30 = .ok (.aload_n 0, 1) := by decide +kernel
theorem dX10_paid_31 : decode cX10_paid 31 = .ok (.getfield 11, 3) := by decide +kernel
theorem dX10_paid_34 : decode cX10_paid 34 = .ok (.iload_n 1, 1) := by decide +kernel
theorem dX10_paid_35 : decode cX10_paid 35 = .ok (.aaload, 1) := by decide +kernel
theorem dX10_paid_36 : decode cX10_paid 36 = .ok (.astore 5, 2) := by decide +kernel
theorem dX10_paid_38 : decode cX10_paid 38 = .ok (.aload 5, 2) := by decide +kernel
theorem dX10_paid_40 : decode cX10_paid 40 = .ok (.iload_n 2, 1) := by decide +kernel
theorem dX10_paid_41 : decode cX10_paid 41 = .ok (.iload_n 3, 1) := by decide +kernel
theorem dX10_paid_42 : decode cX10_paid 42 = .ok (.iload_n 3, 1) := by decide +kernel
theorem dX10_paid_43 : decode cX10_paid 43 = .ok (.iload_n 3, 1) := by decide +kernel
theorem dX10_paid_44 : decode cX10_paid 44 = .ok (.imul, 1) := by decide +kernel
theorem dX10_paid_45 : decode cX10_paid 45 = .ok (.iadd, 1) := by decide +kernel
theorem dX10_paid_46 : decode cX10_paid 46 = .ok (.invokevirtual 91, 3) := by decide +kernel
theorem dX10_paid_49 : decode cX10_paid 49 = .ok (.istore 6, 2) := by decide +kernel
theorem dX10_paid_51 : decode cX10_paid 51 = .ok (.iload 6, 2) := by decide +kernel
theorem dX10_paid_53 : decode cX10_paid 53 = .ok (.ifCond .eq 10, 3) := by decide +kernel
theorem dX10_paid_56 : decode cX10_paid 56 = .ok (.aload_n 0, 1) := by decide +kernel
theorem dX10_paid_57 : decode cX10_paid 57 = .ok (.iload 6, 2) := by decide +kernel
theorem dX10_paid_59 : decode cX10_paid 59 = .ok (.invokevirtual 80, 3) := by decide +kernel
theorem dX10_paid_62 : decode cX10_paid 62 = .ok (.ireturn, 1) := by decide +kernel
theorem dX10_paid_63 : decode cX10_paid 63 = .ok (.aload_n 0, 1) := by decide +kernel
theorem dX10_paid_64 : decode cX10_paid 64 = .ok (.getfield 45, 3) := by decide +kernel
theorem dX10_paid_67 : decode cX10_paid 67 = .ok (.aload 5, 2) := by decide +kernel
theorem dX10_paid_69 : decode cX10_paid 69 = .ok (.getfield 110, 3) := by decide +kernel
theorem dX10_paid_72 : decode cX10_paid 72 = .ok (.iload_n 2, 1) := by decide +kernel
theorem dX10_paid_73 : decode cX10_paid 73 = .ok (.iload_n 3, 1) := by decide +kernel
theorem dX10_paid_74 : decode cX10_paid 74 = .ok (.invokevirtual 245, 3) := by decide +kernel
theorem dX10_paid_77 : decode cX10_paid 77 = .ok (.ifCond .ne 6, 3) := by decide +kernel
theorem dX10_paid_80 : decode cX10_paid 80 = .ok (.ldc 79, 2) := by decide +kernel
theorem dX10_paid_82 : decode cX10_paid 82 = .ok (.ireturn, 1) := by decide +kernel
theorem dX10_paid_83 : decode cX10_paid 83 = .ok (.aload_n 0, 1) := by decide +kernel
theorem dX10_paid_84 : decode cX10_paid 84 = .ok (.getfield 45, 3) := by decide +kernel
theorem dX10_paid_87 : decode cX10_paid 87 = .ok (.iload_n 3, 1) := by decide +kernel
theorem dX10_paid_88 : decode cX10_paid 88 = .ok (.invokevirtual 249, 3) := by decide +kernel
theorem dX10_paid_91 : decode cX10_paid 91 = .ok (.istore 7, 2) := by decide +kernel
theorem dX10_paid_93 : decode cX10_paid 93 = .ok (.aload_n 0, 1) := by decide +kernel
theorem dX10_paid_94 : decode cX10_paid 94 = .ok (.iload 4, 2) := by decide +kernel
theorem dX10_paid_96 : decode cX10_paid 96 = .ok (.iload_n 3, 1) := by decide +kernel
theorem dX10_paid_97 : decode cX10_paid 97 = .ok (.if_icmp .ne 8, 3) := by decide +kernel
theorem dX10_paid_100 : decode cX10_paid 100 = .ok (.iload 7, 2) := by decide +kernel
theorem dX10_paid_102 : decode cX10_paid 102 = .ok (.goto 13, 3) := by decide +kernel
theorem dX10_paid_105 : decode cX10_paid 105 = .ok (.aload_n 0, 1) := by decide +kernel
theorem dX10_paid_106 : decode cX10_paid 106 = .ok (.getfield 45, 3) := by decide +kernel
theorem dX10_paid_109 : decode cX10_paid 109 = .ok (.getfield 252, 3) := by decide +kernel
theorem dX10_paid_112 : decode cX10_paid 112 = .ok (.iload 4, 2) := by decide +kernel
theorem dX10_paid_114 : decode cX10_paid 114 = .ok (.iaload, 1) := by decide +kernel
theorem dX10_paid_115 : decode cX10_paid 115 = .ok (.invokevirtual 88, 3) := by decide +kernel
theorem dX10_paid_118 : decode cX10_paid 118 = .ok (.ireturn, 1) := by decide +kernel
theorem dX10_thing_0 : decode cX10_thing 0 = .ok (.iload_n 1, 1) := by decide +kernel
theorem dX10_thing_1 : decode cX10_thing 1 = .ok (.iconst 0, 1) := by decide +kernel
theorem dX10_thing_2 : decode cX10_thing 2 = .ok (.iconst 5, 1) := by decide +kernel
theorem dX10_thing_3 : decode cX10_thing 3 = .ok (.invokestatic 75, 3) := by decide +kernel
theorem dX10_thing_6 : decode cX10_thing 6 = .ok (.ifCond .eq 26, 3) := by decide +kernel
theorem dX10_thing_9 : decode cX10_thing 9 = .ok (.iload_n 2, 1) := by decide +kernel
theorem dX10_thing_10 : decode cX10_thing 10 = .ok (.iconst 0, 1) := by decide +kernel
theorem dX10_thing_11 : decode cX10_thing 11 = .ok (.sipush 999, 3) := by decide +kernel
theorem dX10_thing_14 : decode cX10_thing 14 = .ok (.invokestatic 75, 3) := by decide +kernel
theorem dX10_thing_17 : decode cX10_thing 17 = .ok (.ifCond .eq 15, 3) := by decide +kernel
theorem dX10_thing_20 : decode cX10_thing 20 = .ok (.aload_n 0, 1) := by decide +kernel
theorem dX10_thing_21 : decode cX10_thing 21 = .ok (.getfield 59, 3) := by decide +kernel
theorem dX10_thing_24 : decode cX10_thing 24 = .ok (.iload_n 1, 1) := by decide +kernel
theorem dX10_thing_25 : decode cX10_thing 25 = .ok (.iload_n 3, 1) := by decide +kernel
theorem dX10_thing_26 : decode cX10_thing 26 = .ok (.invokevirtual 255, 3) := by decide +kernel
theorem dX10_thing_29 : decode cX10_thing 29 = .ok (.ifCond .ne 6, 3) := by decide +kernel
theorem dX10_thing_32 : decode cX10_thing 32 = .ok (.ldc 79, 2) := by decide +kernel
theorem dX10_thing_34 : decode cX10_thing 34 = .ok (.ireturn, 1) := by decide +kernel
theorem dX10_thing_35 : decode cX10_thing 35 = .ok (.aload_n 0, 1) := by decide +kernel
theorem dX10_thing_36 : decode cX10_thing 36 = .ok (.getfield 59, 3) := by decide +kernel
theorem dX10_thing_39 : decode cX10_thing 39 = .ok (.iload_n 1, 1) := by decide +kernel
theorem dX10_thing_40 : decode cX10_thing 40 = .ok (.iload_n 2, 1) := by decide +kernel
theorem dX10_thing_41 : decode cX10_thing 41 = .ok (.iload_n 3, 1) := by decide +kernel
theorem dX10_thing_42 : decode cX10_thing 42 = .ok (.invokevirtual 258, 3) := by decide +kernel
theorem dX10_thing_45 : decode cX10_thing 45 = .ok (.ireturn, 1) := by decide +kernel
theorem dX10_works_0 : decode cX10_works 0 = .ok (.iload_n 1, 1) := by decide +kernel
theorem dX10_works_1 : decode cX10_works 1 = .ok (.invokestatic 71, 3) := by decide +kernel
theorem dX10_works_4 : decode cX10_works 4 = .ok (.ifCond .eq 35, 3) := by decide +kernel
theorem dX10_works_7 : decode cX10_works 7 = .ok (.iload_n 3, 1) := by decide +kernel
theorem dX10_works_8 : decode cX10_works 8 = .ok (.iconst 1, 1) := by decide +kernel
theorem dX10_works_9 : decode cX10_works 9 = .ok (.bipush 10, 2) := by decide +kernel
theorem dX10_works_11 : decode cX10_works 11 = .ok (.invokestatic 75, 3) := by decide +kernel
theorem dX10_works_14 : decode cX10_works 14 = .ok (.ifCond .eq 25, 3) := by decide +kernel
theorem dX10_works_17 : decode cX10_works 17 = .ok (.iload 4, 2) := by decide +kernel
theorem dX10_works_19 : decode cX10_works 19 = .ok (.iconst 0, 1) := by decide +kernel
theorem dX10_works_20 : decode cX10_works 20 = .ok (.sipush 500, 3) := by decide +kernel
theorem dX10_works_23 : decode cX10_works 23 = .ok (.invokestatic 75, 3) := by decide +kernel
theorem dX10_works_26 : decode cX10_works 26 = .ok (.ifCond .eq 13, 3) := by decide +kernel
theorem dX10_works_29 : decode cX10_works 29 = .ok (.iload 5, 2) := by decide +kernel
theorem dX10_works_31 : decode cX10_works 31 = .ok (.iconst 0, 1) := by decide +kernel
theorem dX10_works_32 : decode cX10_works 32 = .ok (.iconst 2, 1) := by decide +kernel
theorem dX10_works_33 : decode cX10_works 33 = .ok (.invokestatic 75, 3) := by decide +kernel
theorem dX10_works_36 : decode cX10_works 36 = .ok (.ifCond .ne 6, 3) := by decide +kernel
theorem dX10_works_39 : decode cX10_works 39 = .ok (.ldc 79, 2) := by decide +kernel
theorem dX10_works_41 : decode cX10_works 41 = .ok (.ireturn, 1) := by decide +kernel
theorem dX10_works_42 : decode cX10_works 42 = .ok (.aload_n 0, 1) := by decide +kernel
theorem dX10_works_43 : decode cX10_works 43 = .ok (.getfield 11, 3) := by decide +kernel
theorem dX10_works_46 : decode cX10_works 46 = .ok (.iload_n 1, 1) := by decide +kernel
theorem dX10_works_47 : decode cX10_works 47 = .ok (.aaload, 1) := by decide +kernel
theorem dX10_works_48 : decode cX10_works 48 = .ok (.astore 6, 2) := by decide +kernel
theorem dX10_works_50 : decode cX10_works 50 = .ok (.aload 6, 2) := by decide +kernel
theorem dX10_works_52 : decode cX10_works 52 = .ok (.iload_n 2, 1) := by decide +kernel
theorem dX10_works_53 : decode cX10_works 53 = .ok (.iconst 2, 1) := by decide +kernel
theorem dX10_works_54 : decode cX10_works 54 = .ok (.iload_n 3, 1) := by decide +kernel
theorem dX10_works_55 : decode cX10_works 55 = .ok (.imul, 1) := by decide +kernel
theorem dX10_works_56 : decode cX10_works 56 = .ok (.invokevirtual 91, 3) := by decide +kernel
theorem dX10_works_59 : decode cX10_works 59 = .ok (.istore 7, 2) := by decide +kernel
theorem dX10_works_61 : decode cX10_works 61 = .ok (.iload 7, 2) := by decide +kernel
theorem dX10_works_63 : decode cX10_works 63 = .ok (.ifCond .eq 10, 3) := by decide +kernel
theorem dX10_works_66 : decode cX10_works 66 = .ok (.aload_n 0, 1) := by decide +kernel
theorem dX10_works_67 : decode cX10_works 67 = .ok (.iload 7, 2) := by decide +kernel
theorem dX10_works_69 : decode cX10_works 69 = .ok (.invokevirtual 80, 3) := by decide +kernel
theorem dX10_works_72 : decode cX10_works 72 = .ok (.ireturn, 1) := by decide +kernel
theorem dX10_works_73 : decode cX10_works 73 = .ok (.aload_n 0, 1) := by decide +kernel
theorem dX10_works_74 : decode cX10_works 74 = .ok (.getfield 52, 3) := by decide +kernel
theorem dX10_works_77 : decode cX10_works 77 = .ok (.aload 6, 2) := by decide +kernel
theorem dX10_works_79 : decode cX10_works 79 = .ok (.getfield 110, 3) := by decide +kernel
theorem dX10_works_82 : decode cX10_works 82 = .ok (.iload_n 2, 1) := by decide +kernel
theorem dX10_works_83 : decode cX10_works 83 = .ok (.iload_n 3, 1) := by decide +kernel
theorem dX10_works_84 : decode cX10_works 84 = .ok (.invokevirtual 262, 3) := by decide +kernel
theorem dX10_works_87 : decode cX10_works 87 = .ok (.ifCond .ne 6, 3) := by decide +kernel
theorem dX10_works_90 : decode cX10_works 90 = .ok (.ldc 79, 2) := by decide +kernel
theorem dX10_works_92 : decode cX10_works 92 = .ok (.ireturn, 1) := by decide +kernel
theorem dX10_works_93 : decode cX10_works 93 = .ok (.aload_n 0, 1) := by decide +kernel
theorem dX10_works_94 : decode cX10_works 94 = .ok (.getfield 52, 3) := by decide +kernel
theorem dX10_works_97 : decode cX10_works 97 = .ok (.iload_n 3, 1) := by decide +kernel
theorem dX10_works_98 : decode cX10_works 98 = .ok (.iload 4, 2) := by decide +kernel
theorem dX10_works_100 : decode cX10_works 100 = .ok (.invokevirtual 263, 3) := by decide +kernel
theorem dX10_works_103 : decode cX10_works 103 = .ok (.aload_n 0, 1) := by decide +kernel
theorem dX10_works_104 : decode cX10_works 104 = .ok (.aload_n 0, 1) := by decide +kernel
theorem dX10_works_105 : decode cX10_works 105 = .ok (.getfield 52, 3) := by decide +kernel
theorem dX10_works_108 : decode cX10_works 108 = .ok (.iload 5, 2) := by decide +kernel
theorem dX10_works_110 : decode cX10_works 110 = .ok (.invokevirtual 266, 3) := by decide +kernel
theorem dX10_works_113 : decode cX10_works 113 = .ok (.invokevirtual 88, 3) := by decide +kernel
theorem dX10_works_116 : decode cX10_works 116 = .ok (.ireturn, 1) := by decide +kernel
theorem dX10_news_0 : decode cX10_news 0 = .ok (.iload_n 1, 1) := by decide +kernel
theorem dX10_news_1 : decode cX10_news 1 = .ok (.iconst 0, 1) := by decide +kernel
theorem dX10_news_2 : decode cX10_news 2 = .ok (.bipush 9, 2) := by decide +kernel
theorem dX10_news_4 : decode cX10_news 4 = .ok (.invokestatic 75, 3) := by decide +kernel
theorem dX10_news_7 : decode cX10_news 7 = .ok (.ifCond .eq 30, 3) := by decide +kernel
theorem dX10_news_10 : decode cX10_news 10 = .ok (.iload_n 2, 1) := by decide +kernel
theorem dX10_news_11 : decode cX10_news 11 = .ok (.invokestatic 142, 3) := by decide +kernel
theorem dX10_news_14 : decode cX10_news 14 = .ok (.ifCond .eq 23, 3) := by decide +kernel
theorem dX10_news_17 : decode cX10_news 17 = .ok (.iload_n 3, 1) := by decide +kernel
theorem dX10_news_18 : decode cX10_news 18 = .ok (.iconst 0, 1) := by decide +kernel
theorem dX10_news_19 : decode cX10_news 19 = .ok (.iconst 3, 1) := by decide +kernel
theorem dX10_news_20 : decode cX10_news 20 = .ok (.invokestatic 75, 3) := by decide +kernel
theorem dX10_news_23 : decode cX10_news 23 = .ok (.ifCond .eq 14, 3) := by decide +kernel
theorem dX10_news_26 : decode cX10_news 26 = .ok (.iload 4, 2) := by decide +kernel
theorem dX10_news_28 : decode cX10_news 28 = .ok (.iconst 0, 1) := by decide +kernel
theorem dX10_news_29 : decode cX10_news 29 = .ok (.bipush 30, 2) := by decide +kernel
theorem dX10_news_31 : decode cX10_news 31 = .ok (.invokestatic 75, 3) := by decide +kernel
theorem dX10_news_34 : decode cX10_news 34 = .ok (.ifCond .ne 6, 3) := by decide +kernel
theorem dX10_news_37 : decode cX10_news 37 = .ok (.ldc 79, 2) := by decide +kernel
theorem dX10_news_39 : decode cX10_news 39 = .ok (.ireturn, 1) := by decide +kernel
theorem dX10_news_40 : decode cX10_news 40 = .ok (.aload_n 0, 1) := by decide +kernel
theorem dX10_news_41 : decode cX10_news 41 = .ok (.getfield 66, 3) := by decide +kernel
theorem dX10_news_44 : decode cX10_news 44 = .ok (.iload_n 1, 1) := by decide +kernel
theorem dX10_news_45 : decode cX10_news 45 = .ok (.iload_n 3, 1) := by decide +kernel
theorem dX10_news_46 : decode cX10_news 46 = .ok (.iload_n 2, 1) := by decide +kernel
theorem dX10_news_47 : decode cX10_news 47 = .ok (.iload 4, 2) := by decide +kernel
theorem dX10_news_49 : decode cX10_news 49 = .ok (.iadd, 1) := by decide +kernel
theorem dX10_news_50 : decode cX10_news 50 = .ok (.invokevirtual 267, 3) := by decide +kernel
theorem dX10_news_53 : decode cX10_news 53 = .ok (.ireturn, 1) := by decide +kernel
theorem dX10_known_0 : decode cX10_known 0 = .ok (.iload_n 1, 1) := by decide +kernel
theorem dX10_known_1 : decode cX10_known 1 = .ok (.iconst 0, 1) := by decide +kernel
theorem dX10_known_2 : decode cX10_known 2 = .ok (.iconst 3, 1) := by decide +kernel
theorem dX10_known_3 : decode cX10_known 3 = .ok (.invokestatic 75, 3) := by decide +kernel
theorem dX10_known_6 : decode cX10_known 6 = .ok (.ifCond .eq 10, 3) := by decide +kernel
theorem dX10_known_9 : decode cX10_known 9 = .ok (.iload_n 2, 1) := by decide +kernel
theorem dX10_known_10 : decode cX10_known 10 = .ok (.invokestatic 142, 3) := by decide +kernel
theorem dX10_known_13 : decode cX10_known 13 = .ok (.ifCond .ne 6, 3) := by decide +kernel
theorem dX10_known_16 : decode cX10_known 16 = .ok (.ldc 79, 2) := by decide +kernel
theorem dX10_known_18 : decode cX10_known 18 = .ok (.ireturn, 1) := by decide +kernel
theorem dX10_known_19 : decode cX10_known 19 = .ok (.aload_n 0, 1) := by decide +kernel
theorem dX10_known_20 : decode cX10_known 20 = .ok (.getfield 66, 3) := by decide +kernel
theorem dX10_known_23 : decode cX10_known 23 = .ok (.iload_n 1, 1) := by decide +kernel
theorem dX10_known_24 : decode cX10_known 24 = .ok (.iload_n 2, 1) := by decide +kernel
theorem dX10_known_25 : decode cX10_known 25 = .ok (.invokevirtual 270, 3) := by decide +kernel
theorem dX10_known_28 : decode cX10_known 28 = .ok (.ireturn, 1) := by decide +kernel
theorem dX10_kind_0 : decode cX10_kind 0 = .ok (.aload_n 0, 1) := by decide +kernel
theorem dX10_kind_1 : decode cX10_kind 1 = .ok (.getfield 59, 3) := by decide +kernel
theorem dX10_kind_4 : decode cX10_kind 4 = .ok (.iload_n 1, 1) := by decide +kernel
theorem dX10_kind_5 : decode cX10_kind 5 = .ok (.invokevirtual 273, 3) := by decide +kernel
theorem dX10_kind_8 : decode cX10_kind 8 = .ok (.ifCond .eq 15, 3) := by decide +kernel
theorem dX10_kind_11 : decode cX10_kind 11 = .ok (.aload_n 0, 1) := by decide +kernel
theorem dX10_kind_12 : decode cX10_kind 12 = .ok (.getfield 59, 3) := by decide +kernel
theorem dX10_kind_15 : decode cX10_kind 15 = .ok (.getfield 276, 3) := by decide +kernel
theorem dX10_kind_18 : decode cX10_kind 18 = .ok (.iload_n 1, 1) := by decide +kernel
theorem dX10_kind_19 : decode cX10_kind 19 = .ok (.iaload, 1) := by decide +kernel
theorem dX10_kind_20 : decode cX10_kind 20 = .ok (.goto 5, 3) := by decide +kernel
theorem dX10_kind_23 : decode cX10_kind 23 = .ok (.ldc 79, 2) := by decide +kernel
theorem dX10_kind_25 : decode cX10_kind 25 = .ok (.ireturn, 1) := by decide +kernel
theorem dX10_as_0 : decode cX10_as 0 = .ok (.aload_n 0, 1) := by decide +kernel
theorem dX10_as_1 : decode cX10_as 1 = .ok (.getfield 59, 3) := by decide +kernel
theorem dX10_as_4 : decode cX10_as 4 = .ok (.iload_n 1, 1) := by decide +kernel
theorem dX10_as_5 : decode cX10_as 5 = .ok (.invokevirtual 273, 3) := by decide +kernel
theorem dX10_as_8 : decode cX10_as 8 = .ok (.ifCond .eq 12, 3) := by decide +kernel
theorem dX10_as_11 : decode cX10_as 11 = .ok (.iload_n 2, 1) := by decide +kernel
theorem dX10_as_12 : decode cX10_as 12 = .ok (.iconst 0, 1) := by decide +kernel
theorem dX10_as_13 : decode cX10_as 13 = .ok (.iconst 5, 1) := by decide +kernel
theorem dX10_as_14 : decode cX10_as 14 = .ok (.invokestatic 75, 3) := by decide +kernel
theorem dX10_as_17 : decode cX10_as 17 = .ok (.ifCond .ne 6, 3) := by decide +kernel
theorem dX10_as_20 : decode cX10_as 20 = .ok (.ldc 79, 2) := by decide +kernel
theorem dX10_as_22 : decode cX10_as 22 = .ok (.ireturn, 1) := by decide +kernel
theorem dX10_as_23 : decode cX10_as 23 = .ok (.aload_n 0, 1) := by decide +kernel
theorem dX10_as_24 : decode cX10_as 24 = .ok (.getfield 59, 3) := by decide +kernel
theorem dX10_as_27 : decode cX10_as 27 = .ok (.getfield 276, 3) := by decide +kernel
theorem dX10_as_30 : decode cX10_as 30 = .ok (.iload_n 1, 1) := by decide +kernel
theorem dX10_as_31 : decode cX10_as 31 = .ok (.iaload, 1) := by decide +kernel
theorem dX10_as_32 : decode cX10_as 32 = .ok (.iload_n 2, 1) := by decide +kernel
theorem dX10_as_33 : decode cX10_as 33 = .ok (.invokestatic 279, 3) := by decide +kernel
theorem dX10_as_36 : decode cX10_as 36 = .ok (.ifCond .ne 9, 3) := by decide +kernel
theorem dX10_as_39 : decode cX10_as 39 = .ok (.aload_n 0, 1) := by decide +kernel
theorem dX10_as_40 : decode cX10_as 40 = .ok (.iconst 3, 1) := by decide +kernel
theorem dX10_as_41 : decode cX10_as 41 = .ok (.invokevirtual 80, 3) := by decide +kernel
theorem dX10_as_44 : decode cX10_as 44 = .ok (.ireturn, 1) := by decide +kernel
theorem dX10_as_45 : decode cX10_as 45 = .ok (.aload_n 0, 1) := by decide +kernel
theorem dX10_as_46 : decode cX10_as 46 = .ok (.aload_n 0, 1) := by decide +kernel
theorem dX10_as_47 : decode cX10_as 47 = .ok (.getfield 59, 3) := by decide +kernel
theorem dX10_as_50 : decode cX10_as 50 = .ok (.getfield 282, 3) := by decide +kernel
theorem dX10_as_53 : decode cX10_as 53 = .ok (.iload_n 1, 1) := by decide +kernel
theorem dX10_as_54 : decode cX10_as 54 = .ok (.iaload, 1) := by decide +kernel
theorem dX10_as_55 : decode cX10_as 55 = .ok (.invokevirtual 88, 3) := by decide +kernel
theorem dX10_as_58 : decode cX10_as 58 = .ok (.ireturn, 1) := by decide +kernel
theorem dX10_ask_0 : decode cX10_ask 0 = .ok (.aload_n 0, 1) := by decide +kernel
theorem dX10_ask_1 : decode cX10_ask 1 = .ok (.getfield 59, 3) := by decide +kernel
theorem dX10_ask_4 : decode cX10_ask 4 = .ok (.iload_n 1, 1) := by decide +kernel
theorem dX10_ask_5 : decode cX10_ask 5 = .ok (.invokevirtual 273, 3) := by decide +kernel
theorem dX10_ask_8 : decode cX10_ask 8 = .ok (.ifCond .eq 12, 3) := by decide +kernel
theorem dX10_ask_11 : decode cX10_ask 11 = .ok (.iload_n 2, 1) := by decide +kernel
theorem dX10_ask_12 : decode cX10_ask 12 = .ok (.iconst 0, 1) := by decide +kernel
theorem dX10_ask_13 : decode cX10_ask 13 = .ok (.iconst 1, 1) := by decide +kernel
theorem dX10_ask_14 : decode cX10_ask 14 = .ok (.invokestatic 75, 3) := by decide +kernel
theorem dX10_ask_17 : decode cX10_ask 17 = .ok (.ifCond .ne 6, 3) := by decide +kernel
theorem dX10_ask_20 : decode cX10_ask 20 = .ok (.ldc 79, 2) := by decide +kernel
theorem dX10_ask_22 : decode cX10_ask 22 = .ok (.ireturn, 1) := by decide +kernel
theorem dX10_ask_23 : decode cX10_ask 23 = .ok (.aload_n 0, 1) := by decide +kernel
theorem dX10_ask_24 : decode cX10_ask 24 = .ok (.getfield 59, 3) := by decide +kernel
theorem dX10_ask_27 : decode cX10_ask 27 = .ok (.iload_n 1, 1) := by decide +kernel
theorem dX10_ask_28 : decode cX10_ask 28 = .ok (.iload_n 2, 1) := by decide +kernel
theorem dX10_ask_29 : decode cX10_ask 29 = .ok (.aload_n 0, 1) := by decide +kernel
theorem dX10_ask_30 : decode cX10_ask 30 = .ok (.getfield 18, 3) := by decide +kernel
theorem dX10_ask_33 : decode cX10_ask 33 = .ok (.getfield 173, 3) := by decide +kernel
theorem dX10_ask_36 : decode cX10_ask 36 = .ok (.aload_n 0, 1) := by decide +kernel
theorem dX10_ask_37 : decode cX10_ask 37 = .ok (.getfield 25, 3) := by decide +kernel
theorem dX10_ask_40 : decode cX10_ask 40 = .ok (.aload_n 0, 1) := by decide +kernel
theorem dX10_ask_41 : decode cX10_ask 41 = .ok (.getfield 18, 3) := by decide +kernel
theorem dX10_ask_44 : decode cX10_ask 44 = .ok (.getfield 173, 3) := by decide +kernel
theorem dX10_ask_47 : decode cX10_ask 47 = .ok (.iconst 4, 1) := by decide +kernel
theorem dX10_ask_48 : decode cX10_ask 48 = .ok (.invokevirtual 224, 3) := by decide +kernel
theorem dX10_ask_51 : decode cX10_ask 51 = .ok (.invokevirtual 285, 3) := by decide +kernel
theorem dX10_ask_54 : decode cX10_ask 54 = .ok (.ireturn, 1) := by decide +kernel
theorem dX10_trace_0 : decode cX10_trace 0 = .ok (.iload_n 1, 1) := by decide +kernel
theorem dX10_trace_1 : decode cX10_trace 1 = .ok (.iconst 0, 1) := by decide +kernel
theorem dX10_trace_2 : decode cX10_trace 2 = .ok (.aload_n 0, 1) := by decide +kernel
theorem dX10_trace_3 : decode cX10_trace 3 = .ok (.getfield 59, 3) := by decide +kernel
theorem dX10_trace_6 : decode cX10_trace 6 = .ok (.getfield 288, 3) := by decide +kernel
theorem dX10_trace_9 : decode cX10_trace 9 = .ok (.iconst 1, 1) := by decide +kernel
theorem dX10_trace_10 : decode cX10_trace 10 = .ok (.isub, 1) := by decide +kernel
theorem dX10_trace_11 : decode cX10_trace 11 = .ok (.invokestatic 75, 3) := by decide +kernel
theorem dX10_trace_14 : decode cX10_trace 14 = .ok (.ifCond .eq 15, 3) := by decide +kernel
theorem dX10_trace_17 : decode cX10_trace 17 = .ok (.aload_n 0, 1) := by decide +kernel
theorem dX10_trace_18 : decode cX10_trace 18 = .ok (.getfield 59, 3) := by decide +kernel
theorem dX10_trace_21 : decode cX10_trace 21 = .ok (.getfield 291, 3) := by decide +kernel
theorem dX10_trace_24 : decode cX10_trace 24 = .ok (.iload_n 1, 1) := by decide +kernel
theorem dX10_trace_25 : decode cX10_trace 25 = .ok (.iaload, 1) := by decide +kernel
theorem dX10_trace_26 : decode cX10_trace 26 = .ok (.goto 5, 3) := by decide +kernel
theorem dX10_trace_29 : decode cX10_trace 29 = .ok (.ldc 190, 2) := by decide +kernel
theorem dX10_trace_31 : decode cX10_trace 31 = .ok (.ireturn, 1) := by decide +kernel
theorem dX10_count_0 : decode cX10_count 0 = .ok (.iload_n 1, 1) := by decide +kernel
theorem dX10_count_1 : decode cX10_count 1 = .ok (.tableswitch 129 0 9 #[55, 60, 68, 73, 81, 89, 97, 105, 113, 121], 55) := by decide +kernel
theorem dX10_count_56 : decode cX10_count 56 = .ok (.aload_n 0, 1) := by decide +kernel
theorem dX10_count_57 : decode cX10_count 57 = .ok (.invokevirtual 294, 3) := by decide +kernel
theorem dX10_count_60 : decode cX10_count 60 = .ok (.ireturn, 1) := by decide +kernel
theorem dX10_count_61 : decode cX10_count 61 = .ok (.aload_n 0, 1) := by decide +kernel
theorem dX10_count_62 : decode cX10_count 62 = .ok (.getfield 18, 3) := by decide +kernel
theorem dX10_count_65 : decode cX10_count 65 = .ok (.getfield 298, 3) := by decide +kernel
theorem dX10_count_68 : decode cX10_count 68 = .ok (.ireturn, 1) := by decide +kernel
theorem dX10_count_69 : decode cX10_count 69 = .ok (.aload_n 0, 1) := by decide +kernel
theorem dX10_count_70 : decode cX10_count 70 = .ok (.getfield 233, 3) := by decide +kernel
theorem dX10_count_73 : decode cX10_count 73 = .ok (.ireturn, 1) := by decide +kernel
theorem dX10_count_74 : decode cX10_count 74 = .ok (.aload_n 0, 1) := by decide +kernel
theorem dX10_count_75 : decode cX10_count 75 = .ok (.getfield 18, 3) := by decide +kernel
theorem dX10_count_78 : decode cX10_count 78 = .ok (.getfield 301, 3) := by decide +kernel
theorem dX10_count_81 : decode cX10_count 81 = .ok (.ireturn, 1) := by decide +kernel
theorem dX10_count_82 : decode cX10_count 82 = .ok (.aload_n 0, 1) := by decide +kernel
theorem dX10_count_83 : decode cX10_count 83 = .ok (.getfield 25, 3) := by decide +kernel
theorem dX10_count_86 : decode cX10_count 86 = .ok (.getfield 212, 3) := by decide +kernel
theorem dX10_count_89 : decode cX10_count 89 = .ok (.ireturn, 1) := by decide +kernel
theorem dX10_count_90 : decode cX10_count 90 = .ok (.aload_n 0, 1) := by decide +kernel
theorem dX10_count_91 : decode cX10_count 91 = .ok (.getfield 59, 3) := by decide +kernel
theorem dX10_count_94 : decode cX10_count 94 = .ok (.getfield 304, 3) := by decide +kernel
theorem dX10_count_97 : decode cX10_count 97 = .ok (.ireturn, 1) := by decide +kernel
theorem dX10_count_98 : decode cX10_count 98 = .ok (.aload_n 0, 1) := by decide +kernel
theorem dX10_count_99 : decode cX10_count 99 = .ok (.getfield 59, 3) := by decide +kernel
theorem dX10_count_102 : decode cX10_count 102 = .ok (.invokevirtual 307, 3) := by decide +kernel
theorem dX10_count_105 : decode cX10_count 105 = .ok (.ireturn, 1) := by decide +kernel
theorem dX10_count_106 : decode cX10_count 106 = .ok (.aload_n 0, 1) := by decide +kernel
theorem dX10_count_107 : decode cX10_count 107 = .ok (.getfield 18, 3) := by decide +kernel
theorem dX10_count_110 : decode cX10_count 110 = .ok (.getfield 173, 3) := by decide +kernel
theorem dX10_count_113 : decode cX10_count 113 = .ok (.ireturn, 1) := by decide +kernel
theorem dX10_count_114 : decode cX10_count 114 = .ok (.aload_n 0, 1) := by decide +kernel
theorem dX10_count_115 : decode cX10_count 115 = .ok (.getfield 32, 3) := by decide +kernel
theorem dX10_count_118 : decode cX10_count 118 = .ok (.getfield 202, 3) := by decide +kernel
theorem dX10_count_121 : decode cX10_count 121 = .ok (.ireturn, 1) := by decide +kernel
theorem dX10_count_122 : decode cX10_count 122 = .ok (.aload_n 0, 1) := by decide +kernel
theorem dX10_count_123 : decode cX10_count 123 = .ok (.getfield 18, 3) := by decide +kernel
theorem dX10_count_126 : decode cX10_count 126 = .ok (.invokevirtual 310, 3) := by decide +kernel
theorem dX10_count_129 : decode cX10_count 129 = .ok (.ireturn, 1) := by decide +kernel
theorem dX10_count_130 : decode cX10_count 130 = .ok (.ldc 79, 2) := by decide +kernel
theorem dX10_count_132 : decode cX10_count 132 = .ok (.ireturn, 1) := by decide +kernel
theorem dX10_status_0 : decode cX10_status 0 = .ok (.aload_n 0, 1) := by decide +kernel
theorem dX10_status_1 : decode cX10_status 1 = .ok (.getfield 313, 3) := by decide +kernel
theorem dX10_status_4 : decode cX10_status 4 = .ok (.ireturn, 1) := by decide +kernel
theorem dX10_within_0 : decode cX10_within 0 = .ok (.iload_n 0, 1) := by decide +kernel
theorem dX10_within_1 : decode cX10_within 1 = .ok (.iload_n 1, 1) := by decide +kernel
theorem dX10_within_2 : decode cX10_within 2 = .ok (.if_icmp .lt 12, 3) := by decide +kernel
theorem dX10_within_5 : decode cX10_within 5 = .ok (.iload_n 0, 1) := by decide +kernel
theorem dX10_within_6 : decode cX10_within 6 = .ok (.iload_n 2, 1) := by decide +kernel
theorem dX10_within_7 : decode cX10_within 7 = .ok (.if_icmp .gt 7, 3) := by decide +kernel
theorem dX10_within_10 : decode cX10_within 10 = .ok (.iconst 1, 1) := by decide +kernel
theorem dX10_within_11 : decode cX10_within 11 = .ok (.goto 4, 3) := by decide +kernel
theorem dX10_within_14 : decode cX10_within 14 = .ok (.iconst 0, 1) := by decide +kernel
theorem dX10_within_15 : decode cX10_within 15 = .ok (.ireturn, 1) := by decide +kernel
theorem dX10_isSheet_0 : decode cX10_isSheet 0 = .ok (.iload_n 0, 1) := by decide +kernel
theorem dX10_isSheet_1 : decode cX10_isSheet 1 = .ok (.iconst 0, 1) := by decide +kernel
theorem dX10_isSheet_2 : decode cX10_isSheet 2 = .ok (.bipush 7, 2) := by decide +kernel
theorem dX10_isSheet_4 : decode cX10_isSheet 4 = .ok (.invokestatic 75, 3) := by decide +kernel
theorem dX10_isSheet_7 : decode cX10_isSheet 7 = .ok (.ireturn, 1) := by decide +kernel
theorem dX10_isSort_0 : decode cX10_isSort 0 = .ok (.iload_n 0, 1) := by decide +kernel
theorem dX10_isSort_1 : decode cX10_isSort 1 = .ok (.iconst 0, 1) := by decide +kernel
theorem dX10_isSort_2 : decode cX10_isSort 2 = .ok (.iconst 3, 1) := by decide +kernel
theorem dX10_isSort_3 : decode cX10_isSort 3 = .ok (.invokestatic 75, 3) := by decide +kernel
theorem dX10_isSort_6 : decode cX10_isSort 6 = .ok (.ireturn, 1) := by decide +kernel
theorem dX10_isWeek_0 : decode cX10_isWeek 0 = .ok (.iload_n 0, 1) := by decide +kernel
theorem dX10_isWeek_1 : decode cX10_isWeek 1 = .ok (.iconst 0, 1) := by decide +kernel
theorem dX10_isWeek_2 : decode cX10_isWeek 2 = .ok (.bipush 99, 2) := by decide +kernel
theorem dX10_isWeek_4 : decode cX10_isWeek 4 = .ok (.invokestatic 75, 3) := by decide +kernel
theorem dX10_isWeek_7 : decode cX10_isWeek 7 = .ok (.ireturn, 1) := by decide +kernel
theorem dX10_found_0 : decode cX10_found 0 = .ok (.aload_n 0, 1) := by decide +kernel
theorem dX10_found_1 : decode cX10_found 1 = .ok (.iload_n 1, 1) := by decide +kernel
theorem dX10_found_2 : decode cX10_found 2 = .ok (.putfield 313, 3) := by decide +kernel
theorem dX10_found_5 : decode cX10_found 5 = .ok (.ldc_w 316, 3) := by decide +kernel
theorem dX10_found_8 : decode cX10_found 8 = .ok (.iload_n 1, 1) := by decide +kernel
theorem dX10_found_9 : decode cX10_found 9 = .ok (.isub, 1) := by decide +kernel
theorem dX10_found_10 : decode cX10_found 10 = .ok (.ireturn, 1) := by decide +kernel
theorem dX10_unfound_0 : decode cX10_unfound 0 = .ok (.aload_n 0, 1) := by decide +kernel
theorem dX10_unfound_1 : decode cX10_unfound 1 = .ok (.iconst 0, 1) := by decide +kernel
theorem dX10_unfound_2 : decode cX10_unfound 2 = .ok (.putfield 313, 3) := by decide +kernel
theorem dX10_unfound_5 : decode cX10_unfound 5 = .ok (.iload_n 1, 1) := by decide +kernel
theorem dX10_unfound_6 : decode cX10_unfound 6 = .ok (.ireturn, 1) := by decide +kernel
theorem dX10_ofSort_0 : decode cX10_ofSort 0 = .ok (.iload_n 1, 1) := by decide +kernel
theorem dX10_ofSort_1 : decode cX10_ofSort 1 = .ok (.invokestatic 145, 3) := by decide +kernel
theorem dX10_ofSort_4 : decode cX10_ofSort 4 = .ok (.ifCond .eq 12, 3) := by decide +kernel
theorem dX10_ofSort_7 : decode cX10_ofSort 7 = .ok (.aload_n 0, 1) := by decide +kernel
theorem dX10_ofSort_8 : decode cX10_ofSort 8 = .ok (.iload_n 1, 1) := by decide +kernel
theorem dX10_ofSort_9 : decode cX10_ofSort 9 = .ok (.iload_n 2, 1) := by decide +kernel
theorem dX10_ofSort_10 : decode cX10_ofSort 10 = .ok (.invokestatic 167, 3) := by decide +kernel
theorem dX10_ofSort_13 : decode cX10_ofSort 13 = .ok (.goto 5, 3) := by decide +kernel
theorem dX10_ofSort_16 : decode cX10_ofSort 16 = .ok (.ldc 79, 2) := by decide +kernel
theorem dX10_ofSort_18 : decode cX10_ofSort 18 = .ok (.ireturn, 1) := by decide +kernel
theorem dX10_changed_0 : decode cX10_changed 0 = .ok (.aload_n 0, 1) := by decide +kernel
theorem dX10_changed_1 : decode cX10_changed 1 = .ok (.iload_n 1, 1) := by decide +kernel
theorem dX10_changed_2 : decode cX10_changed 2 = .ok (.iaload, 1) := by decide +kernel
theorem dX10_changed_3 : decode cX10_changed 3 = .ok (.istore_n 3, 1) := by decide +kernel
theorem dX10_changed_4 : decode cX10_changed 4 = .ok (.aload_n 0, 1) := by decide +kernel
theorem dX10_changed_5 : decode cX10_changed 5 = .ok (.iload_n 1, 1) := by decide +kernel
theorem dX10_changed_6 : decode cX10_changed 6 = .ok (.iload_n 2, 1) := by decide +kernel
theorem dX10_changed_7 : decode cX10_changed 7 = .ok (.iastore, 1) := by decide +kernel
theorem dX10_changed_8 : decode cX10_changed 8 = .ok (.iload_n 3, 1) := by decide +kernel
theorem dX10_changed_9 : decode cX10_changed 9 = .ok (.ireturn, 1) := by decide +kernel
theorem dX10_sheetsThere_0 : decode cX10_sheetsThere 0 = .ok (.iconst 0, 1) := by decide +kernel
theorem dX10_sheetsThere_1 : decode cX10_sheetsThere 1 = .ok (.istore_n 1, 1) := by decide +kernel
theorem dX10_sheetsThere_2 : decode cX10_sheetsThere 2 = .ok (.iconst 0, 1) := by decide +kernel
theorem dX10_sheetsThere_3 : decode cX10_sheetsThere 3 = .ok (.istore_n 2, 1) := by decide +kernel
theorem dX10_sheetsThere_4 : decode cX10_sheetsThere 4 = .ok (.iload_n 2, 1) := by decide +kernel
theorem dX10_sheetsThere_5 : decode cX10_sheetsThere 5 = .ok (.bipush 8, 2) := by decide +kernel
theorem dX10_sheetsThere_7 : decode cX10_sheetsThere 7 = .ok (.if_icmp .ge 24, 3) := by decide +kernel
theorem dX10_sheetsThere_10 : decode cX10_sheetsThere 10 = .ok (.aload_n 0, 1) := by decide +kernel
theorem dX10_sheetsThere_11 : decode cX10_sheetsThere 11 = .ok (.getfield 11, 3) := by decide +kernel
theorem dX10_sheetsThere_14 : decode cX10_sheetsThere 14 = .ok (.iload_n 2, 1) := by decide +kernel
theorem dX10_sheetsThere_15 : decode cX10_sheetsThere 15 = .ok (.aaload, 1) := by decide +kernel
theorem dX10_sheetsThere_16 : decode cX10_sheetsThere 16 = .ok (.getfield 98, 3) := by decide +kernel
theorem dX10_sheetsThere_19 : decode cX10_sheetsThere 19 = .ok (.ifCond .ne 6, 3) := by decide +kernel
theorem dX10_sheetsThere_22 : decode cX10_sheetsThere 22 = .ok (.iinc 1 1, 3) := by decide +kernel
theorem dX10_sheetsThere_25 : decode cX10_sheetsThere 25 = .ok (.iinc 2 1, 3) := by decide +kernel
theorem dX10_sheetsThere_28 : decode cX10_sheetsThere 28 = .ok (.goto (-24), 3) := by decide +kernel
theorem dX10_sheetsThere_31 : decode cX10_sheetsThere 31 = .ok (.iload_n 1, 1) := by decide +kernel
theorem dX10_sheetsThere_32 : decode cX10_sheetsThere 32 = .ok (.ireturn, 1) := by decide +kernel
theorem dX10_earned_0 : decode cX10_earned 0 = .ok (.sipush 3000, 3) := by decide +kernel
theorem dX10_earned_3 : decode cX10_earned 3 = .ok (.iconst 1, 1) := by decide +kernel
theorem dX10_earned_4 : decode cX10_earned 4 = .ok (.bipush 50, 2) := by decide +kernel
theorem dX10_earned_6 : decode cX10_earned 6 = .ok (.aload_n 0, 1) := by decide +kernel
theorem dX10_earned_7 : decode cX10_earned 7 = .ok (.getfield 18, 3) := by decide +kernel
theorem dX10_earned_10 : decode cX10_earned 10 = .ok (.getfield 130, 3) := by decide +kernel
theorem dX10_earned_13 : decode cX10_earned 13 = .ok (.iload_n 1, 1) := by decide +kernel
theorem dX10_earned_14 : decode cX10_earned 14 = .ok (.iaload, 1) := by decide +kernel
theorem dX10_earned_15 : decode cX10_earned 15 = .ok (.iadd, 1) := by decide +kernel
theorem dX10_earned_16 : decode cX10_earned 16 = .ok (.invokestatic 317, 3) := by decide +kernel
theorem dX10_earned_19 : decode cX10_earned 19 = .ok (.idiv, 1) := by decide +kernel
theorem dX10_earned_20 : decode cX10_earned 20 = .ok (.istore_n 3, 1) := by decide +kernel
theorem dX10_earned_21 : decode cX10_earned 21 = .ok (.iload_n 3, 1) := by decide +kernel
theorem dX10_earned_22 : decode cX10_earned 22 = .ok (.aload_n 0, 1) := by decide +kernel
theorem dX10_earned_23 : decode cX10_earned 23 = .ok (.getfield 25, 3) := by decide +kernel
theorem dX10_earned_26 : decode cX10_earned 26 = .ok (.iload_n 2, 1) := by decide +kernel
theorem dX10_earned_27 : decode cX10_earned 27 = .ok (.iload_n 1, 1) := by decide +kernel
theorem dX10_earned_28 : decode cX10_earned 28 = .ok (.invokevirtual 224, 3) := by decide +kernel
theorem dX10_earned_31 : decode cX10_earned 31 = .ok (.imul, 1) := by decide +kernel
theorem dX10_earned_32 : decode cX10_earned 32 = .ok (.ireturn, 1) := by decide +kernel
theorem dX10_passWeek_0 : decode cX10_passWeek 0 = .ok (.aload_n 0, 1) := by decide +kernel
theorem dX10_passWeek_1 : decode cX10_passWeek 1 = .ok (.getfield 18, 3) := by decide +kernel
theorem dX10_passWeek_4 : decode cX10_passWeek 4 = .ok (.invokevirtual 320, 3) := by decide +kernel
theorem dX10_passWeek_7 : decode cX10_passWeek 7 = .ok (.aload_n 0, 1) := by decide +kernel
theorem dX10_passWeek_8 : decode cX10_passWeek 8 = .ok (.getfield 18, 3) := by decide +kernel
theorem dX10_passWeek_11 : decode cX10_passWeek 11 = .ok (.invokevirtual 323, 3) := by decide +kernel
theorem dX10_passWeek_14 : decode cX10_passWeek 14 = .ok (.aload_n 0, 1) := by decide +kernel
theorem dX10_passWeek_15 : decode cX10_passWeek 15 = .ok (.getfield 18, 3) := by decide +kernel
theorem dX10_passWeek_18 : decode cX10_passWeek 18 = .ok (.invokevirtual 326, 3) := by decide +kernel
theorem dX10_passWeek_21 : decode cX10_passWeek 21 = .ok (.aload_n 0, 1) := by decide +kernel
theorem dX10_passWeek_22 : decode cX10_passWeek 22 = .ok (.invokevirtual 329, 3) := by decide +kernel
theorem dX10_passWeek_25 : decode cX10_passWeek 25 = .ok (.aload_n 0, 1) := by decide +kernel
theorem dX10_passWeek_26 : decode cX10_passWeek 26 = .ok (.getfield 18, 3) := by decide +kernel
theorem dX10_passWeek_29 : decode cX10_passWeek 29 = .ok (.dup, 1) := by decide +kernel
theorem dX10_passWeek_30 : decode cX10_passWeek 30 = .ok (.getfield 173, 3) := by decide +kernel
theorem dX10_passWeek_33 : decode cX10_passWeek 33 = .ok (.iconst 1, 1) := by decide +kernel
theorem dX10_passWeek_34 : decode cX10_passWeek 34 = .ok (.iadd, 1) := by decide +kernel
theorem dX10_passWeek_35 : decode cX10_passWeek 35 = .ok (.putfield 173, 3) := by decide +kernel
theorem dX10_passWeek_38 : decode cX10_passWeek 38 = .ok (.return_, 1) := by decide +kernel
theorem dX10_liveHomes_0 : decode cX10_liveHomes 0 = .ok (.aload_n 0, 1) := by decide +kernel
theorem dX10_liveHomes_1 : decode cX10_liveHomes 1 = .ok (.getfield 18, 3) := by decide +kernel
theorem dX10_liveHomes_4 : decode cX10_liveHomes 4 = .ok (.getfield 173, 3) := by decide +kernel
theorem dX10_liveHomes_7 : decode cX10_liveHomes 7 = .ok (.istore_n 1, 1) := by decide +kernel
theorem dX10_liveHomes_8 : decode cX10_liveHomes 8 = .ok (.aload_n 0, 1) := by decide +kernel
theorem dX10_liveHomes_9 : decode cX10_liveHomes 9 = .ok (.getfield 25, 3) := by decide +kernel
theorem dX10_liveHomes_12 : decode cX10_liveHomes 12 = .ok (.iload_n 1, 1) := by decide +kernel
theorem dX10_liveHomes_13 : decode cX10_liveHomes 13 = .ok (.bipush 6, 2) := by decide +kernel
theorem dX10_liveHomes_15 : decode cX10_liveHomes 15 = .ok (.invokevirtual 224, 3) := by decide +kernel
theorem dX10_liveHomes_18 : decode cX10_liveHomes 18 = .ok (.istore_n 2, 1) := by decide +kernel
theorem dX10_liveHomes_19 : decode cX10_liveHomes 19 = .ok (.aload_n 0, 1) := by decide +kernel
theorem dX10_liveHomes_20 : decode cX10_liveHomes 20 = .ok (.getfield 25, 3) := by decide +kernel
theorem dX10_liveHomes_23 : decode cX10_liveHomes 23 = .ok (.iload_n 1, 1) := by decide +kernel
theorem dX10_liveHomes_24 : decode cX10_liveHomes 24 = .ok (.iconst 4, 1) := by decide +kernel
theorem dX10_liveHomes_25 : decode cX10_liveHomes 25 = .ok (.invokevirtual 224, 3) := by decide +kernel
theorem dX10_liveHomes_28 : decode cX10_liveHomes 28 = .ok (.istore_n 3, 1) := by decide +kernel
theorem dX10_liveHomes_29 : decode cX10_liveHomes 29 = .ok (.aload_n 0, 1) := by decide +kernel
theorem dX10_liveHomes_30 : decode cX10_liveHomes 30 = .ok (.getfield 25, 3) := by decide +kernel
theorem dX10_liveHomes_33 : decode cX10_liveHomes 33 = .ok (.iload_n 1, 1) := by decide +kernel
theorem dX10_liveHomes_34 : decode cX10_liveHomes 34 = .ok (.iconst 5, 1) := by decide +kernel
theorem dX10_liveHomes_35 : decode cX10_liveHomes 35 = .ok (.invokevirtual 224, 3) := by decide +kernel
theorem dX10_liveHomes_38 : decode cX10_liveHomes 38 = .ok (.istore 4, 2) := by decide +kernel
theorem dX10_liveHomes_40 : decode cX10_liveHomes 40 = .ok (.aload_n 0, 1) := by decide +kernel
theorem dX10_liveHomes_41 : decode cX10_liveHomes 41 = .ok (.getfield 25, 3) := by decide +kernel
theorem dX10_liveHomes_44 : decode cX10_liveHomes 44 = .ok (.iload_n 1, 1) := by decide +kernel
theorem dX10_liveHomes_45 : decode cX10_liveHomes 45 = .ok (.invokevirtual 227, 3) := by decide +kernel
theorem dX10_liveHomes_48 : decode cX10_liveHomes 48 = .ok (.istore 5, 2) := by decide +kernel
theorem dX10_liveHomes_50 : decode cX10_liveHomes 50 = .ok (.iconst 0, 1) := by decide +kernel
theorem dX10_liveHomes_51 : decode cX10_liveHomes 51 = .ok (.istore 6, 2) := by decide +kernel
theorem dX10_liveHomes_53 : decode cX10_liveHomes 53 = .ok (.iload 6, 2) := by decide +kernel
theorem dX10_liveHomes_55 : decode cX10_liveHomes 55 = .ok (.aload_n 0, 1) := by decide +kernel
theorem dX10_liveHomes_56 : decode cX10_liveHomes 56 = .ok (.getfield 233, 3) := by decide +kernel
theorem dX10_liveHomes_59 : decode cX10_liveHomes 59 = .ok (.if_icmp .ge 112, 3) := by decide +kernel
theorem dX10_liveHomes_62 : decode cX10_liveHomes 62 = .ok (.aload_n 0, 1) := by decide +kernel
theorem dX10_liveHomes_63 : decode cX10_liveHomes 63 = .ok (.getfield 38, 3) := by decide +kernel
theorem dX10_liveHomes_66 : decode cX10_liveHomes 66 = .ok (.iload 6, 2) := by decide +kernel
theorem dX10_liveHomes_68 : decode cX10_liveHomes 68 = .ok (.aaload, 1) := by decide +kernel
theorem dX10_liveHomes_69 : decode cX10_liveHomes 69 = .ok (.astore 7, 2) := by decide +kernel
theorem dX10_liveHomes_71 : decode cX10_liveHomes 71 = .ok (.aload_n 0, 1) := by decide +kernel
theorem dX10_liveHomes_72 : decode cX10_liveHomes 72 = .ok (.getfield 18, 3) := by decide +kernel
theorem dX10_liveHomes_75 : decode cX10_liveHomes 75 = .ok (.aload 7, 2) := by decide +kernel
theorem dX10_liveHomes_77 : decode cX10_liveHomes 77 = .ok (.getfield 332, 3) := by decide +kernel
theorem dX10_liveHomes_80 : decode cX10_liveHomes 80 = .ok (.iload_n 1, 1) := by decide +kernel
theorem dX10_liveHomes_81 : decode cX10_liveHomes 81 = .ok (.invokevirtual 184, 3) := by decide +kernel
theorem dX10_liveHomes_84 : decode cX10_liveHomes 84 = .ok (.istore 8, 2) := by decide +kernel
theorem dX10_liveHomes_86 : decode cX10_liveHomes 86 = .ok (.iload 8, 2) := by decide +kernel
theorem dX10_liveHomes_88 : decode cX10_liveHomes 88 = .ok (.ldc 190, 2) := by decide +kernel
theorem dX10_liveHomes_90 : decode cX10_liveHomes 90 = .ok (.if_icmp .ne 29, 3) := by decide +kernel
theorem dX10_liveHomes_93 : decode cX10_liveHomes 93 = .ok (.aload 7, 2) := by decide +kernel
theorem dX10_liveHomes_95 : decode cX10_liveHomes 95 = .ok (.iload_n 2, 1) := by decide +kernel
theorem dX10_liveHomes_96 : decode cX10_liveHomes 96 = .ok (.invokevirtual 335, 3) := by decide +kernel
theorem dX10_liveHomes_99 : decode cX10_liveHomes 99 = .ok (.aload 7, 2) := by decide +kernel
theorem dX10_liveHomes_101 : decode cX10_liveHomes 101 = .ok (.iload_n 3, 1) := by decide +kernel
theorem dX10_liveHomes_102 : decode cX10_liveHomes 102 = .ok (.iload 4, 2) := by decide +kernel
theorem dX10_liveHomes_104 : decode cX10_liveHomes 104 = .ok (.aload_n 0, 1) := by decide +kernel
theorem dX10_liveHomes_105 : decode cX10_liveHomes 105 = .ok (.getfield 25, 3) := by decide +kernel
theorem dX10_liveHomes_108 : decode cX10_liveHomes 108 = .ok (.getfield 230, 3) := by decide +kernel
theorem dX10_liveHomes_111 : decode cX10_liveHomes 111 = .ok (.iload 5, 2) := by decide +kernel
theorem dX10_liveHomes_113 : decode cX10_liveHomes 113 = .ok (.invokevirtual 339, 3) := by decide +kernel
theorem dX10_liveHomes_116 : decode cX10_liveHomes 116 = .ok (.goto 32, 3) := by decide +kernel
theorem dX10_liveHomes_119 : decode cX10_liveHomes 119 = .ok (.aload 7, 2) := by decide +kernel
theorem dX10_liveHomes_121 : decode cX10_liveHomes 121 = .ok (.dup, 1) := by decide +kernel
theorem dX10_liveHomes_122 : decode cX10_liveHomes 122 = .ok (.getfield 343, 3) := by decide +kernel
theorem dX10_liveHomes_125 : decode cX10_liveHomes 125 = .ok (.aload 7, 2) := by decide +kernel
theorem dX10_liveHomes_127 : decode cX10_liveHomes 127 = .ok (.getfield 346, 3) := by decide +kernel
theorem dX10_liveHomes_130 : decode cX10_liveHomes 130 = .ok (.aload_n 0, 1) := by decide +kernel
theorem dX10_liveHomes_131 : decode cX10_liveHomes 131 = .ok (.iload 8, 2) := by decide +kernel
theorem dX10_liveHomes_133 : decode cX10_liveHomes 133 = .ok (.iload_n 1, 1) := by decide +kernel
theorem dX10_liveHomes_134 : decode cX10_liveHomes 134 = .ok (.invokevirtual 218, 3) := by decide +kernel
theorem dX10_liveHomes_137 : decode cX10_liveHomes 137 = .ok (.imul, 1) := by decide +kernel
theorem dX10_liveHomes_138 : decode cX10_liveHomes 138 = .ok (.iadd, 1) := by decide +kernel
theorem dX10_liveHomes_139 : decode cX10_liveHomes 139 = .ok (.putfield 343, 3) := by decide +kernel
theorem dX10_liveHomes_142 : decode cX10_liveHomes 142 = .ok (.aload 7, 2) := by decide +kernel
theorem dX10_liveHomes_144 : decode cX10_liveHomes 144 = .ok (.iload_n 2, 1) := by decide +kernel
theorem dX10_liveHomes_145 : decode cX10_liveHomes 145 = .ok (.invokevirtual 335, 3) := by decide +kernel
theorem dX10_liveHomes_148 : decode cX10_liveHomes 148 = .ok (.aload 7, 2) := by decide +kernel
theorem dX10_liveHomes_150 : decode cX10_liveHomes 150 = .ok (.aload_n 0, 1) := by decide +kernel
theorem dX10_liveHomes_151 : decode cX10_liveHomes 151 = .ok (.getfield 25, 3) := by decide +kernel
theorem dX10_liveHomes_154 : decode cX10_liveHomes 154 = .ok (.getfield 230, 3) := by decide +kernel
theorem dX10_liveHomes_157 : decode cX10_liveHomes 157 = .ok (.invokevirtual 349, 3) := by decide +kernel
theorem dX10_liveHomes_160 : decode cX10_liveHomes 160 = .ok (.aload 7, 2) := by decide +kernel
theorem dX10_liveHomes_162 : decode cX10_liveHomes 162 = .ok (.invokevirtual 353, 3) := by decide +kernel
theorem dX10_liveHomes_165 : decode cX10_liveHomes 165 = .ok (.iinc 6 1, 3) := by decide +kernel
theorem dX10_liveHomes_168 : decode cX10_liveHomes 168 = .ok (.goto (-115), 3) := by decide +kernel
theorem dX10_liveHomes_171 : decode cX10_liveHomes 171 = .ok (.return_, 1) := by decide +kernel
theorem dX10_homeItemsFit_0 : decode cX10_homeItemsFit 0 = .ok (.aload_n 0, 1) := by decide +kernel
theorem dX10_homeItemsFit_1 : decode cX10_homeItemsFit 1 = .ok (.iload_n 1, 1) := by decide +kernel
theorem dX10_homeItemsFit_2 : decode cX10_homeItemsFit 2 = .ok (.iaload, 1) := by decide +kernel
theorem dX10_homeItemsFit_3 : decode cX10_homeItemsFit 3 = .ok (.iconst 0, 1) := by decide +kernel
theorem dX10_homeItemsFit_4 : decode cX10_homeItemsFit 4 = .ok (.iconst 5, 1) := by decide +kernel
theorem dX10_homeItemsFit_5 : decode cX10_homeItemsFit 5 = .ok (.invokestatic 75, 3) := by decide +kernel
theorem dX10_homeItemsFit_8 : decode cX10_homeItemsFit 8 = .ok (.ifCond .eq 67, 3) := by decide +kernel
theorem dX10_homeItemsFit_11 : decode cX10_homeItemsFit 11 = .ok (.aload_n 0, 1) := by decide +kernel
theorem dX10_homeItemsFit_12 : decode cX10_homeItemsFit 12 = .ok (.iload_n 1, 1) := by decide +kernel
theorem dX10_homeItemsFit_13 : decode cX10_homeItemsFit 13 = .ok (.iconst 1, 1) := by decide +kernel
theorem dX10_homeItemsFit_14 : decode cX10_homeItemsFit 14 = .ok (.iadd, 1) := by decide +kernel
theorem dX10_homeItemsFit_15 : decode cX10_homeItemsFit 15 = .ok (.iaload, 1) := by decide +kernel
theorem dX10_homeItemsFit_16 : decode cX10_homeItemsFit 16 = .ok (.iconst 1, 1) := by decide +kernel
theorem dX10_homeItemsFit_17 : decode cX10_homeItemsFit 17 = .ok (.bipush 12, 2) := by decide +kernel
theorem dX10_homeItemsFit_19 : decode cX10_homeItemsFit 19 = .ok (.invokestatic 75, 3) := by decide +kernel
theorem dX10_homeItemsFit_22 : decode cX10_homeItemsFit 22 = .ok (.ifCond .eq 53, 3) := by decide +kernel
theorem dX10_homeItemsFit_25 : decode cX10_homeItemsFit 25 = .ok (.aload_n 0, 1) := by decide +kernel
theorem dX10_homeItemsFit_26 : decode cX10_homeItemsFit 26 = .ok (.iload_n 1, 1) := by decide +kernel
theorem dX10_homeItemsFit_27 : decode cX10_homeItemsFit 27 = .ok (.iconst 2, 1) := by decide +kernel
theorem dX10_homeItemsFit_28 : decode cX10_homeItemsFit 28 = .ok (.iadd, 1) := by decide +kernel
theorem dX10_homeItemsFit_29 : decode cX10_homeItemsFit 29 = .ok (.iaload, 1) := by decide +kernel
theorem dX10_homeItemsFit_30 : decode cX10_homeItemsFit 30 = .ok (.iconst 0, 1) := by decide +kernel
theorem dX10_homeItemsFit_31 : decode cX10_homeItemsFit 31 = .ok (.aload_n 0, 1) := by decide +kernel
theorem dX10_homeItemsFit_32 : decode cX10_homeItemsFit 32 = .ok (.iload_n 1, 1) := by decide +kernel
theorem dX10_homeItemsFit_33 : decode cX10_homeItemsFit 33 = .ok (.iconst 1, 1) := by decide +kernel
theorem dX10_homeItemsFit_34 : decode cX10_homeItemsFit 34 = .ok (.iadd, 1) := by decide +kernel
theorem dX10_homeItemsFit_35 : decode cX10_homeItemsFit 35 = .ok (.iaload, 1) := by decide +kernel
theorem dX10_homeItemsFit_36 : decode cX10_homeItemsFit 36 = .ok (.invokestatic 75, 3) := by decide +kernel
theorem dX10_homeItemsFit_39 : decode cX10_homeItemsFit 39 = .ok (.ifCond .eq 36, 3) := by decide +kernel
theorem dX10_homeItemsFit_42 : decode cX10_homeItemsFit 42 = .ok (.aload_n 0, 1) := by decide +kernel
theorem dX10_homeItemsFit_43 : decode cX10_homeItemsFit 43 = .ok (.iload_n 1, 1) := by decide +kernel
theorem dX10_homeItemsFit_44 : decode cX10_homeItemsFit 44 = .ok (.iconst 3, 1) := by decide +kernel
theorem dX10_homeItemsFit_45 : decode cX10_homeItemsFit 45 = .ok (.iadd, 1) := by decide +kernel
theorem dX10_homeItemsFit_46 : decode cX10_homeItemsFit 46 = .ok (.iaload, 1) := by decide +kernel
theorem dX10_homeItemsFit_47 : decode cX10_homeItemsFit 47 = .ok (.iconst 0, 1) := by decide +kernel
theorem dX10_homeItemsFit_48 : decode cX10_homeItemsFit 48 = .ok (.sipush 9999, 3) := by decide +kernel
theorem dX10_homeItemsFit_51 : decode cX10_homeItemsFit 51 = .ok (.invokestatic 75, 3) := by decide +kernel
theorem dX10_homeItemsFit_54 : decode cX10_homeItemsFit 54 = .ok (.ifCond .eq 21, 3) := by decide +kernel
theorem dX10_homeItemsFit_57 : decode cX10_homeItemsFit 57 = .ok (.aload_n 0, 1) := by decide +kernel
theorem dX10_homeItemsFit_58 : decode cX10_homeItemsFit 58 = .ok (.iload_n 1, 1) := by decide +kernel
theorem dX10_homeItemsFit_59 : decode cX10_homeItemsFit 59 = .ok (.iconst 4, 1) := by decide +kernel
theorem dX10_homeItemsFit_60 : decode cX10_homeItemsFit 60 = .ok (.iadd, 1) := by decide +kernel
theorem dX10_homeItemsFit_61 : decode cX10_homeItemsFit 61 = .ok (.iaload, 1) := by decide +kernel
theorem dX10_homeItemsFit_62 : decode cX10_homeItemsFit 62 = .ok (.iconst 0, 1) := by decide +kernel
theorem dX10_homeItemsFit_63 : decode cX10_homeItemsFit 63 = .ok (.bipush 99, 2) := by decide +kernel
theorem dX10_homeItemsFit_65 : decode cX10_homeItemsFit 65 = .ok (.invokestatic 75, 3) := by decide +kernel
theorem dX10_homeItemsFit_68 : decode cX10_homeItemsFit 68 = .ok (.ifCond .eq 7, 3) := by decide +kernel
theorem dX10_homeItemsFit_71 : decode cX10_homeItemsFit 71 = .ok (.iconst 1, 1) := by decide +kernel
theorem dX10_homeItemsFit_72 : decode cX10_homeItemsFit 72 = .ok (.goto 4, 3) := by decide +kernel
theorem dX10_homeItemsFit_75 : decode cX10_homeItemsFit 75 = .ok (.iconst 0, 1) := by decide +kernel
theorem dX10_homeItemsFit_76 : decode cX10_homeItemsFit 76 = .ok (.istore_n 2, 1) := by decide +kernel
theorem dX10_homeItemsFit_77 : decode cX10_homeItemsFit 77 = .ok (.iconst 0, 1) := by decide +kernel
theorem dX10_homeItemsFit_78 : decode cX10_homeItemsFit 78 = .ok (.istore_n 3, 1) := by decide +kernel
theorem dX10_homeItemsFit_79 : decode cX10_homeItemsFit 79 = .ok (.iload_n 3, 1) := by decide +kernel
theorem dX10_homeItemsFit_80 : decode cX10_homeItemsFit 80 = .ok (.iconst 4, 1) := by decide +kernel
theorem dX10_homeItemsFit_81 : decode cX10_homeItemsFit 81 = .ok (.if_icmp .ge 36, 3) := by decide +kernel
theorem dX10_homeItemsFit_84 : decode cX10_homeItemsFit 84 = .ok (.iload_n 2, 1) := by decide +kernel
theorem dX10_homeItemsFit_85 : decode cX10_homeItemsFit 85 = .ok (.ifCond .eq 24, 3) := by decide +kernel
theorem dX10_homeItemsFit_88 : decode cX10_homeItemsFit 88 = .ok (.aload_n 0, 1) := by decide +kernel
theorem dX10_homeItemsFit_89 : decode cX10_homeItemsFit 89 = .ok (.iload_n 1, 1) := by decide +kernel
theorem dX10_homeItemsFit_90 : decode cX10_homeItemsFit 90 = .ok (.iconst 5, 1) := by decide +kernel
theorem dX10_homeItemsFit_91 : decode cX10_homeItemsFit 91 = .ok (.iadd, 1) := by decide +kernel
theorem dX10_homeItemsFit_92 : decode cX10_homeItemsFit 92 = .ok (.iload_n 3, 1) := by decide +kernel
theorem dX10_homeItemsFit_93 : decode cX10_homeItemsFit 93 = .ok (.iadd, 1) := by decide +kernel
theorem dX10_homeItemsFit_94 : decode cX10_homeItemsFit 94 = .ok (.iaload, 1) := by decide +kernel
theorem dX10_homeItemsFit_95 : decode cX10_homeItemsFit 95 = .ok (.iconst 0, 1) := by decide +kernel
theorem dX10_homeItemsFit_96 : decode cX10_homeItemsFit 96 = .ok (.sipush 999, 3) := by decide +kernel
theorem dX10_homeItemsFit_99 : decode cX10_homeItemsFit 99 = .ok (.invokestatic 75, 3) := by decide +kernel
theorem dX10_homeItemsFit_102 : decode cX10_homeItemsFit 102 = .ok (.ifCond .eq 7, 3) := by decide +kernel
theorem dX10_homeItemsFit_105 : decode cX10_homeItemsFit 105 = .ok (.iconst 1, 1) := by decide +kernel
theorem dX10_homeItemsFit_106 : decode cX10_homeItemsFit 106 = .ok (.goto 4, 3) := by decide +kernel
theorem dX10_homeItemsFit_109 : decode cX10_homeItemsFit 109 = .ok (.iconst 0, 1) := by decide +kernel
theorem dX10_homeItemsFit_110 : decode cX10_homeItemsFit 110 = .ok (.istore_n 2, 1) := by decide +kernel
theorem dX10_homeItemsFit_111 : decode cX10_homeItemsFit 111 = .ok (.iinc 3 1, 3) := by decide +kernel
theorem dX10_homeItemsFit_114 : decode cX10_homeItemsFit 114 = .ok (.goto (-35), 3) := by decide +kernel
theorem dX10_homeItemsFit_117 : decode cX10_homeItemsFit 117 = .ok (.iload_n 2, 1) := by decide +kernel
theorem dX10_homeItemsFit_118 : decode cX10_homeItemsFit 118 = .ok (.ireturn, 1) := by decide +kernel
theorem dX11_in_0 : decode cX11_in 0 = .ok (.lload_n 0, 1) := by decide +kernel
theorem dX11_in_1 : decode cX11_in 1 = .ok (.lload_n 2, 1) := by decide +kernel
theorem dX11_in_2 : decode cX11_in 2 = .ok (.lcmp, 1) := by decide +kernel
theorem dX11_in_3 : decode cX11_in 3 = .ok (.ifCond .lt 14, 3) := by decide +kernel
theorem dX11_in_6 : decode cX11_in 6 = .ok (.lload_n 0, 1) := by decide +kernel
theorem dX11_in_7 : decode cX11_in 7 = .ok (.lload 4, 2) := by decide +kernel
theorem dX11_in_9 : decode cX11_in 9 = .ok (.lcmp, 1) := by decide +kernel
theorem dX11_in_10 : decode cX11_in 10 = .ok (.ifCond .gt 7, 3) := by decide +kernel
theorem dX11_in_13 : decode cX11_in 13 = .ok (.iconst 1, 1) := by decide +kernel
theorem dX11_in_14 : decode cX11_in 14 = .ok (.goto 4, 3) := by decide +kernel
theorem dX11_in_17 : decode cX11_in 17 = .ok (.iconst 0, 1) := by decide +kernel
theorem dX11_in_18 : decode cX11_in 18 = .ok (.ireturn, 1) := by decide +kernel
theorem dX11_finding_0 : decode cX11_finding 0 = .ok (.aload_n 0, 1) := by decide +kernel
theorem dX11_finding_1 : decode cX11_finding 1 = .ok (.iload_n 1, 1) := by decide +kernel
theorem dX11_finding_2 : decode cX11_finding 2 = .ok (.putfield 7, 3) := by decide +kernel
theorem dX11_finding_5 : decode cX11_finding 5 = .ok (.ldc 10, 2) := by decide +kernel
theorem dX11_finding_7 : decode cX11_finding 7 = .ok (.iload_n 1, 1) := by decide +kernel
theorem dX11_finding_8 : decode cX11_finding 8 = .ok (.isub, 1) := by decide +kernel
theorem dX11_finding_9 : decode cX11_finding 9 = .ok (.ireturn, 1) := by decide +kernel
theorem dX11_init_0 : decode cX11_init 0 = .ok (.aload_n 0, 1) := by decide +kernel
theorem dX11_init_1 : decode cX11_init 1 = .ok (.invokespecial 11, 3) := by decide +kernel
theorem dX11_init_4 : decode cX11_init 4 = .ok (.aload_n 0, 1) := by decide +kernel
theorem dX11_init_5 : decode cX11_init 5 = .ok (.bipush 8, 2) := by decide +kernel
theorem dX11_init_7 : decode cX11_init 7 = .ok (.newarray .int, 2) := by decide +kernel
theorem dX11_init_9 : decode cX11_init 9 = .ok (.dup, 1) := by decide +kernel
theorem dX11_init_10 : decode cX11_init 10 = .ok (.iconst 0, 1) := by decide +kernel
theorem dX11_init_11 : decode cX11_init 11 = .ok (.iconst (-1), 1) := by decide +kernel
theorem dX11_init_12 : decode cX11_init 12 = .ok (.iastore, 1) := by decide +kernel
theorem dX11_init_13 : decode cX11_init 13 = .ok (.dup, 1) := by decide +kernel
theorem dX11_init_14 : decode cX11_init 14 = .ok (.iconst 1, 1) := by decide +kernel
theorem dX11_init_15 : decode cX11_init 15 = .ok (.iconst (-1), 1) := by decide +kernel
theorem dX11_init_16 : decode cX11_init 16 = .ok (.iastore, 1) := by decide +kernel
theorem dX11_init_17 : decode cX11_init 17 = .ok (.dup, 1) := by decide +kernel
theorem dX11_init_18 : decode cX11_init 18 = .ok (.iconst 2, 1) := by decide +kernel
theorem dX11_init_19 : decode cX11_init 19 = .ok (.iconst (-1), 1) := by decide +kernel
theorem dX11_init_20 : decode cX11_init 20 = .ok (.iastore, 1) := by decide +kernel
theorem dX11_init_21 : decode cX11_init 21 = .ok (.dup, 1) := by decide +kernel
theorem dX11_init_22 : decode cX11_init 22 = .ok (.iconst 3, 1) := by decide +kernel
theorem dX11_init_23 : decode cX11_init 23 = .ok (.iconst (-1), 1) := by decide +kernel
theorem dX11_init_24 : decode cX11_init 24 = .ok (.iastore, 1) := by decide +kernel
theorem dX11_init_25 : decode cX11_init 25 = .ok (.dup, 1) := by decide +kernel
theorem dX11_init_26 : decode cX11_init 26 = .ok (.iconst 4, 1) := by decide +kernel
theorem dX11_init_27 : decode cX11_init 27 = .ok (.iconst (-1), 1) := by decide +kernel
theorem dX11_init_28 : decode cX11_init 28 = .ok (.iastore, 1) := by decide +kernel
theorem dX11_init_29 : decode cX11_init 29 = .ok (.dup, 1) := by decide +kernel
theorem dX11_init_30 : decode cX11_init 30 = .ok (.iconst 5, 1) := by decide +kernel
theorem dX11_init_31 : decode cX11_init 31 = .ok (.iconst (-1), 1) := by decide +kernel
theorem dX11_init_32 : decode cX11_init 32 = .ok (.iastore, 1) := by decide +kernel
theorem dX11_init_33 : decode cX11_init 33 = .ok (.dup, 1) := by decide +kernel
theorem dX11_init_34 : decode cX11_init 34 = .ok (.bipush 6, 2) := by decide +kernel
theorem dX11_init_36 : decode cX11_init 36 = .ok (.iconst (-1), 1) := by decide +kernel
theorem dX11_init_37 : decode cX11_init 37 = .ok (.iastore, 1) := by decide +kernel
theorem dX11_init_38 : decode cX11_init 38 = .ok (.dup, 1) := by decide +kernel
theorem dX11_init_39 : decode cX11_init 39 = .ok (.bipush 7, 2) := by decide +kernel
theorem dX11_init_41 : decode cX11_init 41 = .ok (.iconst (-1), 1) := by decide +kernel
theorem dX11_init_42 : decode cX11_init 42 = .ok (.iastore, 1) := by decide +kernel
theorem dX11_init_43 : decode cX11_init 43 = .ok (.putfield 17, 3) := by decide +kernel
theorem dX11_init_46 : decode cX11_init 46 = .ok (.aload_n 0, 1) := by decide +kernel
theorem dX11_init_47 : decode cX11_init 47 = .ok (.bipush 8, 2) := by decide +kernel
theorem dX11_init_49 : decode cX11_init 49 = .ok (.newarray .int, 2) := by decide +kernel
theorem dX11_init_51 : decode cX11_init 51 = .ok (.putfield 21, 3) := by decide +kernel
theorem dX11_init_54 : decode cX11_init 54 = .ok (.aload_n 0, 1) := by decide +kernel
theorem dX11_init_55 : decode cX11_init 55 = .ok (.sipush 640, 3) := by decide +kernel
theorem dX11_init_58 : decode cX11_init 58 = .ok (.newarray .int, 2) := by decide +kernel
theorem dX11_init_60 : decode cX11_init 60 = .ok (.putfield 24, 3) := by decide +kernel
theorem dX11_init_63 : decode cX11_init 63 = .ok (.aload_n 0, 1) := by decide +kernel
theorem dX11_init_64 : decode cX11_init 64 = .ok (.iconst 4, 1) := by decide +kernel
theorem dX11_init_65 : decode cX11_init 65 = .ok (.newarray .int, 2) := by decide +kernel
theorem dX11_init_67 : decode cX11_init 67 = .ok (.dup, 1) := by decide +kernel
theorem dX11_init_68 : decode cX11_init 68 = .ok (.iconst 0, 1) := by decide +kernel
theorem dX11_init_69 : decode cX11_init 69 = .ok (.bipush 100, 2) := by decide +kernel
theorem dX11_init_71 : decode cX11_init 71 = .ok (.iastore, 1) := by decide +kernel
theorem dX11_init_72 : decode cX11_init 72 = .ok (.dup, 1) := by decide +kernel
theorem dX11_init_73 : decode cX11_init 73 = .ok (.iconst 1, 1) := by decide +kernel
theorem dX11_init_74 : decode cX11_init 74 = .ok (.bipush 100, 2) := by decide +kernel
theorem dX11_init_76 : decode cX11_init 76 = .ok (.iastore, 1) := by decide +kernel
theorem dX11_init_77 : decode cX11_init 77 = .ok (.dup, 1) := by decide +kernel
theorem dX11_init_78 : decode cX11_init 78 = .ok (.iconst 2, 1) := by decide +kernel
theorem dX11_init_79 : decode cX11_init 79 = .ok (.bipush 100, 2) := by decide +kernel
theorem dX11_init_81 : decode cX11_init 81 = .ok (.iastore, 1) := by decide +kernel
theorem dX11_init_82 : decode cX11_init 82 = .ok (.dup, 1) := by decide +kernel
theorem dX11_init_83 : decode cX11_init 83 = .ok (.iconst 3, 1) := by decide +kernel
theorem dX11_init_84 : decode cX11_init 84 = .ok (.bipush 100, 2) := by decide +kernel
theorem dX11_init_86 : decode cX11_init 86 = .ok (.iastore, 1) := by decide +kernel
theorem dX11_init_87 : decode cX11_init 87 = .ok (.putfield 27, 3) := by decide +kernel
theorem dX11_init_90 : decode cX11_init 90 = .ok (.aload_n 0, 1) := by decide +kernel
theorem dX11_init_91 : decode cX11_init 91 = .ok (.iconst 4, 1) := by decide +kernel
theorem dX11_init_92 : decode cX11_init 92 = .ok (.newarray .int, 2) := by decide +kernel
theorem dX11_init_94 : decode cX11_init 94 = .ok (.dup, 1) := by decide +kernel
theorem dX11_init_95 : decode cX11_init 95 = .ok (.iconst 0, 1) := by decide +kernel
theorem dX11_init_96 : decode cX11_init 96 = .ok (.iconst 0, 1) := by decide +kernel
theorem dX11_init_97 : decode cX11_init 97 = .ok (.iastore, 1) := by decide +kernel
theorem dX11_init_98 : decode cX11_init 98 = .ok (.dup, 1) := by decide +kernel
theorem dX11_init_99 : decode cX11_init 99 = .ok (.iconst 1, 1) := by decide +kernel
theorem dX11_init_100 : decode cX11_init 100 = .ok (.bipush 10, 2) := by decide +kernel
theorem dX11_init_102 : decode cX11_init 102 = .ok (.iastore, 1) := by decide +kernel
theorem dX11_init_103 : decode cX11_init 103 = .ok (.dup, 1) := by decide +kernel
theorem dX11_init_104 : decode cX11_init 104 = .ok (.iconst 2, 1) := by decide +kernel
theorem dX11_init_105 : decode cX11_init 105 = .ok (.bipush 20, 2) := by decide +kernel
theorem dX11_init_107 : decode cX11_init 107 = .ok (.iastore, 1) := by decide +kernel
theorem dX11_init_108 : decode cX11_init 108 = .ok (.dup, 1) := by decide +kernel
theorem dX11_init_109 : decode cX11_init 109 = .ok (.iconst 3, 1) := by decide +kernel
theorem dX11_init_110 : decode cX11_init 110 = .ok (.bipush 30, 2) := by decide +kernel
theorem dX11_init_112 : decode cX11_init 112 = .ok (.iastore, 1) := by decide +kernel
theorem dX11_init_113 : decode cX11_init 113 = .ok (.putfield 30, 3) := by decide +kernel
theorem dX11_init_116 : decode cX11_init 116 = .ok (.aload_n 0, 1) := by decide +kernel
theorem dX11_init_117 : decode cX11_init 117 = .ok (.iconst 4, 1) := by decide +kernel
theorem dX11_init_118 : decode cX11_init 118 = .ok (.newarray .int, 2) := by decide +kernel
theorem dX11_init_120 : decode cX11_init 120 = .ok (.putfield 33, 3) := by decide +kernel
theorem dX11_init_123 : decode cX11_init 123 = .ok (.aload_n 0, 1) := by decide +kernel
theorem dX11_init_124 : decode cX11_init 124 = .ok (.sipush 500, 3) := by decide +kernel
theorem dX11_init_127 : decode cX11_init 127 = .ok (.putfield 36, 3) := by decide +kernel
theorem dX11_init_130 : decode cX11_init 130 = .ok (.aload_n 0, 1) := by decide +kernel
theorem dX11_init_131 : decode cX11_init 131 = .ok (.bipush 30, 2) := by decide +kernel
theorem dX11_init_133 : decode cX11_init 133 = .ok (.newarray .int, 2) := by decide +kernel
theorem dX11_init_135 : decode cX11_init 135 = .ok (.putfield 39, 3) := by decide +kernel
theorem dX11_init_138 : decode cX11_init 138 = .ok (.aload_n 0, 1) := by decide +kernel
theorem dX11_init_139 : decode cX11_init 139 = .ok (.bipush 30, 2) := by decide +kernel
theorem dX11_init_141 : decode cX11_init 141 = .ok (.newarray .int, 2) := by decide +kernel
theorem dX11_init_143 : decode cX11_init 143 = .ok (.putfield 42, 3) := by decide +kernel
theorem dX11_init_146 : decode cX11_init 146 = .ok (.aload_n 0, 1) := by decide +kernel
theorem dX11_init_147 : decode cX11_init 147 = .ok (.bipush 30, 2) := by decide +kernel
theorem dX11_init_149 : decode cX11_init 149 = .ok (.newarray .int, 2) := by decide +kernel
theorem dX11_init_151 : decode cX11_init 151 = .ok (.putfield 45, 3) := by decide +kernel
theorem dX11_init_154 : decode cX11_init 154 = .ok (.aload_n 0, 1) := by decide +kernel
theorem dX11_init_155 : decode cX11_init 155 = .ok (.bipush 6, 2) := by decide +kernel
theorem dX11_init_157 : decode cX11_init 157 = .ok (.newarray .int, 2) := by decide +kernel
theorem dX11_init_159 : decode cX11_init 159 = .ok (.putfield 48, 3) := by decide +kernel
theorem dX11_init_162 : decode cX11_init 162 = .ok (.aload_n 0, 1) := by decide +kernel
theorem dX11_init_163 : decode cX11_init 163 = .ok (.bipush 6, 2) := by decide +kernel
theorem dX11_init_165 : decode cX11_init 165 = .ok (.newarray .int, 2) := by decide +kernel
theorem dX11_init_167 : decode cX11_init 167 = .ok (.putfield 51, 3) := by decide +kernel
theorem dX11_init_170 : decode cX11_init 170 = .ok (.aload_n 0, 1) := by decide +kernel
theorem dX11_init_171 : decode cX11_init 171 = .ok (.bipush 6, 2) := by decide +kernel
theorem dX11_init_173 : decode cX11_init 173 = .ok (.newarray .int, 2) := by decide +kernel
theorem dX11_init_175 : decode cX11_init 175 = .ok (.putfield 54, 3) := by decide +kernel
theorem dX11_init_178 : decode cX11_init 178 = .ok (.aload_n 0, 1) := by decide +kernel
theorem dX11_init_179 : decode cX11_init 179 = .ok (.bipush 6, 2) := by decide +kernel
theorem dX11_init_181 : decode cX11_init 181 = .ok (.newarray .int, 2) := by decide +kernel
theorem dX11_init_183 : decode cX11_init 183 = .ok (.putfield 57, 3) := by decide +kernel
theorem dX11_init_186 : decode cX11_init 186 = .ok (.aload_n 0, 1) := by decide +kernel
theorem dX11_init_187 : decode cX11_init 187 = .ok (.bipush 24, 2) := by decide +kernel
theorem dX11_init_189 : decode cX11_init 189 = .ok (.newarray .int, 2) := by decide +kernel
theorem dX11_init_191 : decode cX11_init 191 = .ok (.putfield 60, 3) := by decide +kernel
theorem dX11_init_194 : decode cX11_init 194 = .ok (.aload_n 0, 1) := by decide +kernel
theorem dX11_init_195 : decode cX11_init 195 = .ok (.bipush 6, 2) := by decide +kernel
theorem dX11_init_197 : decode cX11_init 197 = .ok (.newarray .int, 2) := by decide +kernel
theorem dX11_init_199 : decode cX11_init 199 = .ok (.putfield 63, 3) := by decide +kernel
theorem dX11_init_202 : decode cX11_init 202 = .ok (.aload_n 0, 1) := by decide +kernel
theorem dX11_init_203 : decode cX11_init 203 = .ok (.sipush 600, 3) := by decide +kernel
theorem dX11_init_206 : decode cX11_init 206 = .ok (.newarray .int, 2) := by decide +kernel
theorem dX11_init_208 : decode cX11_init 208 = .ok (.putfield 66, 3) := by decide +kernel
theorem dX11_init_211 : decode cX11_init 211 = .ok (.aload_n 0, 1) := by decide +kernel
theorem dX11_init_212 : decode cX11_init 212 = .ok (.iconst 4, 1) := by decide +kernel
theorem dX11_init_213 : decode cX11_init 213 = .ok (.newarray .int, 2) := by decide +kernel
theorem dX11_init_215 : decode cX11_init 215 = .ok (.dup, 1) := by decide +kernel
theorem dX11_init_216 : decode cX11_init 216 = .ok (.iconst 0, 1) := by decide +kernel
theorem dX11_init_217 : decode cX11_init 217 = .ok (.ldc 69, 2) := by decide +kernel
theorem dX11_init_219 : decode cX11_init 219 = .ok (.iastore, 1) := by decide +kernel
theorem dX11_init_220 : decode cX11_init 220 = .ok (.dup, 1) := by decide +kernel
theorem dX11_init_221 : decode cX11_init 221 = .ok (.iconst 1, 1) := by decide +kernel
theorem dX11_init_222 : decode cX11_init 222 = .ok (.ldc 69, 2) := by decide +kernel
theorem dX11_init_224 : decode cX11_init 224 = .ok (.iastore, 1) := by decide +kernel
theorem dX11_init_225 : decode cX11_init 225 = .ok (.dup, 1) := by decide +kernel
theorem dX11_init_226 : decode cX11_init 226 = .ok (.iconst 2, 1) := by decide +kernel
theorem dX11_init_227 : decode cX11_init 227 = .ok (.ldc 69, 2) := by decide +kernel
theorem dX11_init_229 : decode cX11_init 229 = .ok (.iastore, 1) := by decide +kernel
theorem dX11_init_230 : decode cX11_init 230 = .ok (.dup, 1) := by decide +kernel
theorem dX11_init_231 : decode cX11_init 231 = .ok (.iconst 3, 1) := by decide +kernel
theorem dX11_init_232 : decode cX11_init 232 = .ok (.ldc 69, 2) := by decide +kernel
theorem dX11_init_234 : decode cX11_init 234 = .ok (.iastore, 1) := by decide +kernel
theorem dX11_init_235 : decode cX11_init 235 = .ok (.putfield 70, 3) := by decide +kernel
theorem dX11_init_238 : decode cX11_init 238 = .ok (.aload_n 0, 1) := by decide +kernel
theorem dX11_init_239 : decode cX11_init 239 = .ok (.bipush 30, 2) := by decide +kernel
theorem dX11_init_241 : decode cX11_init 241 = .ok (.newarray .int, 2) := by decide +kernel
theorem dX11_init_243 : decode cX11_init 243 = .ok (.putfield 73, 3) := by decide +kernel
theorem dX11_init_246 : decode cX11_init 246 = .ok (.aload_n 0, 1) := by decide +kernel
theorem dX11_init_247 : decode cX11_init 247 = .ok (.bipush 30, 2) := by decide +kernel
theorem dX11_init_249 : decode cX11_init 249 = .ok (.newarray .int, 2) := by decide +kernel
theorem dX11_init_251 : decode cX11_init 251 = .ok (.putfield 76, 3) := by decide +kernel
theorem dX11_init_254 : decode cX11_init 254 = .ok (.aload_n 0, 1) := by decide +kernel
theorem dX11_init_255 : decode cX11_init 255 = .ok (.bipush 30, 2) := by decide +kernel
theorem dX11_init_257 : decode cX11_init 257 = .ok (.newarray .int, 2) := by decide +kernel
theorem dX11_init_259 : decode cX11_init 259 = .ok (.putfield 79, 3) := by decide +kernel
theorem dX11_init_262 : decode cX11_init 262 = .ok (.aload_n 0, 1) := by decide +kernel
theorem dX11_init_263 : decode cX11_init 263 = .ok (.bipush 30, 2) := by decide +kernel
theorem dX11_init_265 : decode cX11_init 265 = .ok (.newarray .int, 2) := by decide +kernel
theorem dX11_init_267 : decode cX11_init 267 = .ok (.putfield 82, 3) := by decide +kernel
theorem dX11_init_270 : decode cX11_init 270 = .ok (.aload_n 0, 1) := by decide +kernel
theorem dX11_init_271 : decode cX11_init 271 = .ok (.sipush 400, 3) := by decide +kernel
theorem dX11_init_274 : decode cX11_init 274 = .ok (.newarray .int, 2) := by decide +kernel
theorem dX11_init_276 : decode cX11_init 276 = .ok (.putfield 85, 3) := by decide +kernel
theorem dX11_init_279 : decode cX11_init 279 = .ok (.aload_n 0, 1) := by decide +kernel
theorem dX11_init_280 : decode cX11_init 280 = .ok (.iconst 4, 1) := by decide +kernel
theorem dX11_init_281 : decode cX11_init 281 = .ok (.newarray .int, 2) := by decide +kernel
theorem dX11_init_283 : decode cX11_init 283 = .ok (.putfield 88, 3) := by decide +kernel
theorem dX11_init_286 : decode cX11_init 286 = .ok (.aload_n 0, 1) := by decide +kernel
theorem dX11_init_287 : decode cX11_init 287 = .ok (.sipush 132, 3) := by decide +kernel
theorem dX11_init_290 : decode cX11_init 290 = .ok (.newarray .int, 2) := by decide +kernel
theorem dX11_init_292 : decode cX11_init 292 = .ok (.putfield 91, 3) := by decide +kernel
theorem dX11_init_295 : decode cX11_init 295 = .ok (.aload_n 0, 1) := by decide +kernel
theorem dX11_init_296 : decode cX11_init 296 = .ok (.bipush 8, 2) := by decide +kernel
theorem dX11_init_298 : decode cX11_init 298 = .ok (.newarray .int, 2) := by decide +kernel
theorem dX11_init_300 : decode cX11_init 300 = .ok (.putfield 94, 3) := by decide +kernel
theorem dX11_init_303 : decode cX11_init 303 = .ok (.aload_n 0, 1) := by decide +kernel
theorem dX11_init_304 : decode cX11_init 304 = .ok (.bipush 8, 2) := by decide +kernel
theorem dX11_init_306 : decode cX11_init 306 = .ok (.newarray .int, 2) := by decide +kernel
theorem dX11_init_308 : decode cX11_init 308 = .ok (.putfield 97, 3) := by decide +kernel
theorem dX11_init_311 : decode cX11_init 311 = .ok (.aload_n 0, 1) := by decide +kernel
theorem dX11_init_312 : decode cX11_init 312 = .ok (.bipush 8, 2) := by decide +kernel
theorem dX11_init_314 : decode cX11_init 314 = .ok (.newarray .int, 2) := by decide +kernel
theorem dX11_init_316 : decode cX11_init 316 = .ok (.putfield 100, 3) := by decide +kernel
theorem dX11_init_319 : decode cX11_init 319 = .ok (.aload_n 0, 1) := by decide +kernel
theorem dX11_init_320 : decode cX11_init 320 = .ok (.bipush 16, 2) := by decide +kernel
theorem dX11_init_322 : decode cX11_init 322 = .ok (.newarray .int, 2) := by decide +kernel
theorem dX11_init_324 : decode cX11_init 324 = .ok (.putfield 103, 3) := by decide +kernel
theorem dX11_init_327 : decode cX11_init 327 = .ok (.aload_n 0, 1) := by decide +kernel
theorem dX11_init_328 : decode cX11_init 328 = .ok (.bipush 16, 2) := by decide +kernel
theorem dX11_init_330 : decode cX11_init 330 = .ok (.newarray .int, 2) := by decide +kernel
theorem dX11_init_332 : decode cX11_init 332 = .ok (.putfield 106, 3) := by decide +kernel
theorem dX11_init_335 : decode cX11_init 335 = .ok (.aload_n 0, 1) := by decide +kernel
theorem dX11_init_336 : decode cX11_init 336 = .ok (.bipush 16, 2) := by decide +kernel
theorem dX11_init_338 : decode cX11_init 338 = .ok (.newarray .int, 2) := by decide +kernel
theorem dX11_init_340 : decode cX11_init 340 = .ok (.putfield 109, 3) := by decide +kernel
theorem dX11_init_343 : decode cX11_init 343 = .ok (.aload_n 0, 1) := by decide +kernel
theorem dX11_init_344 : decode cX11_init 344 = .ok (.bipush 20, 2) := by decide +kernel
theorem dX11_init_346 : decode cX11_init 346 = .ok (.newarray .int, 2) := by decide +kernel
theorem dX11_init_348 : decode cX11_init 348 = .ok (.putfield 112, 3) := by decide +kernel
theorem dX11_init_351 : decode cX11_init 351 = .ok (.aload_n 0, 1) := by decide +kernel
theorem dX11_init_352 : decode cX11_init 352 = .ok (.bipush 20, 2) := by decide +kernel
theorem dX11_init_354 : decode cX11_init 354 = .ok (.newarray .int, 2) := by decide +kernel
theorem dX11_init_356 : decode cX11_init 356 = .ok (.putfield 115, 3) := by decide +kernel
theorem dX11_init_359 : decode cX11_init 359 = .ok (.aload_n 0, 1) := by decide +kernel
theorem dX11_init_360 : decode cX11_init 360 = .ok (.bipush 20, 2) := by decide +kernel
theorem dX11_init_362 : decode cX11_init 362 = .ok (.newarray .int, 2) := by decide +kernel
theorem dX11_init_364 : decode cX11_init 364 = .ok (.putfield 118, 3) := by decide +kernel
theorem dX11_init_367 : decode cX11_init 367 = .ok (.aload_n 0, 1) := by decide +kernel
theorem dX11_init_368 : decode cX11_init 368 = .ok (.bipush 16, 2) := by decide +kernel
theorem dX11_init_370 : decode cX11_init 370 = .ok (.newarray .int, 2) := by decide +kernel
theorem dX11_init_372 : decode cX11_init 372 = .ok (.putfield 121, 3) := by decide +kernel
theorem dX11_init_375 : decode cX11_init 375 = .ok (.iconst 0, 1) := by decide +kernel
theorem dX11_init_376 : decode cX11_init 376 = .ok (.istore_n 1, 1) := by decide +kernel
theorem dX11_init_377 : decode cX11_init 377 = .ok (.iload_n 1, 1) := by decide +kernel
theorem dX11_init_378 : decode cX11_init 378 = .ok (.sipush 600, 3) := by decide +kernel
theorem dX11_init_381 : decode cX11_init 381 = .ok (.if_icmp .ge 17, 3) := by decide +kernel
theorem dX11_init_384 : decode cX11_init 384 = .ok (.aload_n 0, 1) := by decide +kernel
theorem dX11_init_385 : decode cX11_init 385 = .ok (.getfield 66, 3) := by decide +kernel
theorem dX11_init_388 : decode cX11_init 388 = .ok (.iload_n 1, 1) := by decide +kernel
theorem dX11_init_389 : decode cX11_init 389 = .ok (.ldc 69, 2) := by decide +kernel
theorem dX11_init_391 : decode cX11_init 391 = .ok (.iastore, 1) := by decide +kernel
theorem dX11_init_392 : decode cX11_init 392 = .ok (.iinc 1 1, 3) := by decide +kernel
theorem dX11_init_395 : decode cX11_init 395 = .ok (.goto (-18), 3) := by decide +kernel
theorem dX11_init_398 : decode cX11_init 398 = .ok (.return_, 1) := by decide +kernel
theorem dX11_isSheet_0 : decode cX11_isSheet 0 = .ok (.iload_n 0, 1) := by decide +kernel
theorem dX11_isSheet_1 : decode cX11_isSheet 1 = .ok (.i2l, 1) := by decide +kernel
theorem dX11_isSheet_2 : decode cX11_isSheet 2 = .ok (.lconst 0, 1) := by decide +kernel
theorem dX11_isSheet_3 : decode cX11_isSheet 3 = .ok (.ldc2_w 124, 3) := by decide +kernel
theorem dX11_isSheet_6 : decode cX11_isSheet 6 = .ok (.invokestatic 126, 3) := by decide +kernel
theorem dX11_isSheet_9 : decode cX11_isSheet 9 = .ok (.ireturn, 1) := by decide +kernel
theorem dX11_sheet_0 : decode cX11_sheet 0 = .ok (.aload_n 0, 1) := by decide +kernel
theorem dX11_sheet_1 : decode cX11_sheet 1 = .ok (.iconst 0, 1) := by decide +kernel
theorem dX11_sheet_2 : decode cX11_sheet 2 = .ok (.putfield 1, 3) := by decide +kernel
theorem dX11_sheet_5 : decode cX11_sheet 5 = .ok (.iload_n 1, 1) := by decide +kernel
theorem dX11_sheet_6 : decode cX11_sheet 6 = .ok (.invokestatic 130, 3) := by decide +kernel
theorem dX11_sheet_9 : decode cX11_sheet 9 = .ok (.ifCond .eq 21, 3) := by decide +kernel
theorem dX11_sheet_12 : decode cX11_sheet 12 = .ok (.iload_n 2, 1) := by decide +kernel
theorem dX11_sheet_13 : decode cX11_sheet 13 = .ok (.i2l, 1) := by decide +kernel
theorem dX11_sheet_14 : decode cX11_sheet 14 = .ok (.lconst 0, 1) := by decide +kernel
theorem dX11_sheet_15 : decode cX11_sheet 15 = .ok (.ldc2_w 134, 3) := by decide +kernel
theorem dX11_sheet_18 : decode cX11_sheet 18 = .ok (.invokestatic 126, 3) := by decide +kernel
theorem dX11_sheet_21 : decode cX11_sheet 21 = .ok (.ifCond .eq 9, 3) := by decide +kernel
theorem dX11_sheet_24 : decode cX11_sheet 24 = .ok (.iload_n 3, 1) := by decide +kernel
theorem dX11_sheet_25 : decode cX11_sheet 25 = .ok (.bipush 80, 2) := by decide +kernel
theorem dX11_sheet_27 : decode cX11_sheet 27 = .ok (.if_icmp .le 6, 3) := by decide +kernel
theorem dX11_sheet_30 : decode cX11_sheet 30 = .ok (.ldc 136, 2) := by decide +kernel
theorem dX11_sheet_32 : decode cX11_sheet 32 = .ok (.ireturn, 1) := by decide +kernel
theorem dX11_sheet_33 : decode cX11_sheet 33 = .ok (.aload_n 0, 1) := by decide +kernel
theorem dX11_sheet_34 : decode cX11_sheet 34 = .ok (.iconst 0, 1) := by decide +kernel
theorem dX11_sheet_35 : decode cX11_sheet 35 = .ok (.putfield 7, 3) := by decide +kernel
theorem dX11_sheet_38 : decode cX11_sheet 38 = .ok (.iload_n 3, 1) := by decide +kernel
theorem dX11_sheet_39 : decode cX11_sheet 39 = .ok (.ifCond .ge 9, 3) := by decide +kernel
theorem dX11_sheet_42 : decode cX11_sheet 42 = .ok (.aload_n 0, 1) := by decide +kernel
theorem dX11_sheet_43 : decode cX11_sheet 43 = .ok (.iconst 4, 1) := by decide +kernel
theorem dX11_sheet_44 : decode cX11_sheet 44 = .ok (.invokevirtual 137, 3) := by decide +kernel
theorem dX11_sheet_47 : decode cX11_sheet 47 = .ok (.ireturn, 1) := by decide +kernel
theorem dX11_sheet_48 : decode cX11_sheet 48 = .ok (.aload_n 0, 1) := by decide +kernel
theorem dX11_sheet_49 : decode cX11_sheet 49 = .ok (.getfield 17, 3) := by decide +kernel
theorem dX11_sheet_52 : decode cX11_sheet 52 = .ok (.iload_n 1, 1) := by decide +kernel
theorem dX11_sheet_53 : decode cX11_sheet 53 = .ok (.iload_n 2, 1) := by decide +kernel
theorem dX11_sheet_54 : decode cX11_sheet 54 = .ok (.iastore, 1) := by decide +kernel
theorem dX11_sheet_55 : decode cX11_sheet 55 = .ok (.aload_n 0, 1) := by decide +kernel
theorem dX11_sheet_56 : decode cX11_sheet 56 = .ok (.getfield 21, 3) := by decide +kernel
theorem dX11_sheet_59 : decode cX11_sheet 59 = .ok (.iload_n 1, 1) := by decide +kernel
theorem dX11_sheet_60 : decode cX11_sheet 60 = .ok (.iload_n 3, 1) := by decide +kernel
theorem dX11_sheet_61 : decode cX11_sheet 61 = .ok (.iastore, 1) := by decide +kernel
theorem dX11_sheet_62 : decode cX11_sheet 62 = .ok (.iconst 0, 1) := by decide +kernel
theorem dX11_sheet_63 : decode cX11_sheet 63 = .ok (.istore 4, 2) := by decide +kernel
theorem dX11_sheet_65 : decode cX11_sheet 65 = .ok (.iload 4, 2) := by decide +kernel
theorem dX11_sheet_67 : decode cX11_sheet 67 = .ok (.bipush 80, 2) := by decide +kernel
theorem dX11_sheet_69 : decode cX11_sheet 69 = .ok (.if_icmp .ge 22, 3) := by decide +kernel
theorem dX11_sheet_72 : decode cX11_sheet 72 = .ok (.aload_n 0, 1) := by decide +kernel
theorem dX11_sheet_73 : decode cX11_sheet 73 = .ok (.getfield 24, 3) := by decide +kernel
theorem dX11_sheet_76 : decode cX11_sheet 76 = .ok (.bipush 80, 2) := by decide +kernel
theorem dX11_sheet_78 : decode cX11_sheet 78 = .ok (.iload_n 1, 1) := by decide +kernel
theorem dX11_sheet_79 : decode cX11_sheet 79 = .ok (.imul, 1) := by decide +kernel
theorem dX11_sheet_80 : decode cX11_sheet 80 = .ok (.iload 4, 2) := by decide +kernel
theorem dX11_sheet_82 : decode cX11_sheet 82 = .ok (.iadd, 1) := by decide +kernel
theorem dX11_sheet_83 : decode cX11_sheet 83 = .ok (.iconst 0, 1) := by decide +kernel
theorem dX11_sheet_84 : decode cX11_sheet 84 = .ok (.iastore, 1) := by decide +kernel
theorem dX11_sheet_85 : decode cX11_sheet 85 = .ok (.iinc 4 1, 3) := by decide +kernel
theorem dX11_sheet_88 : decode cX11_sheet 88 = .ok (.goto (-23), 3) := by decide +kernel
theorem dX11_sheet_91 : decode cX11_sheet 91 = .ok (.iload_n 3, 1) := by decide +kernel
theorem dX11_sheet_92 : decode cX11_sheet 92 = .ok (.ireturn, 1) := by decide +kernel
theorem dX11_set_0 : decode cX11_set 0 = .ok (.aload_n 0, 1) := by decide +kernel
theorem dX11_set_1 : decode cX11_set 1 = .ok (.iconst 0, 1) := by decide +kernel
theorem dX11_set_2 : decode cX11_set 2 = .ok (.putfield 1, 3) := by decide +kernel
theorem dX11_set_5 : decode cX11_set 5 = .ok (.iload_n 1, 1) := by decide +kernel
theorem dX11_set_6 : decode cX11_set 6 = .ok (.invokestatic 130, 3) := by decide +kernel
theorem dX11_set_9 : decode cX11_set 9 = .ok (.ifCond .ne 6, 3) := by decide +kernel
theorem dX11_set_12 : decode cX11_set 12 = .ok (.ldc 136, 2) := by decide +kernel
theorem dX11_set_14 : decode cX11_set 14 = .ok (.ireturn, 1) := by decide +kernel
theorem dX11_set_15 : decode cX11_set 15 = .ok (.aload_n 0, 1) := by decide +kernel
theorem dX11_set_16 : decode cX11_set 16 = .ok (.iconst 0, 1) := by decide +kernel
theorem dX11_set_17 : decode cX11_set 17 = .ok (.putfield 7, 3) := by decide +kernel
theorem dX11_set_20 : decode cX11_set 20 = .ok (.aload_n 0, 1) := by decide +kernel
theorem dX11_set_21 : decode cX11_set 21 = .ok (.getfield 17, 3) := by decide +kernel
theorem dX11_set_24 : decode cX11_set 24 = .ok (.iload_n 1, 1) := by decide +kernel
theorem dX11_set_25 : decode cX11_set 25 = .ok (.iaload, 1) := by decide +kernel
theorem dX11_set_26 : decode cX11_set 26 = .ok (.ifCond .ge 9, 3) := by decide +kernel
theorem dX11_set_29 : decode cX11_set 29 = .ok (.aload_n 0, 1) := by decide +kernel
theorem dX11_set_30 : decode cX11_set 30 = .ok (.iconst 1, 1) := by decide +kernel
theorem dX11_set_31 : decode cX11_set 31 = .ok (.invokevirtual 137, 3) := by decide +kernel
theorem dX11_set_34 : decode cX11_set 34 = .ok (.ireturn, 1) := by decide +kernel
theorem dX11_set_35 : decode cX11_set 35 = .ok (.iload_n 2, 1) := by decide +kernel
theorem dX11_set_36 : decode cX11_set 36 = .ok (.i2l, 1) := by decide +kernel
theorem dX11_set_37 : decode cX11_set 37 = .ok (.lconst 0, 1) := by decide +kernel
theorem dX11_set_38 : decode cX11_set 38 = .ok (.aload_n 0, 1) := by decide +kernel
theorem dX11_set_39 : decode cX11_set 39 = .ok (.getfield 21, 3) := by decide +kernel
theorem dX11_set_42 : decode cX11_set 42 = .ok (.iload_n 1, 1) := by decide +kernel
theorem dX11_set_43 : decode cX11_set 43 = .ok (.iaload, 1) := by decide +kernel
theorem dX11_set_44 : decode cX11_set 44 = .ok (.iconst 1, 1) := by decide +kernel
theorem dX11_set_45 : decode cX11_set 45 = .ok (.isub, 1) := by decide +kernel
theorem dX11_set_46 : decode cX11_set 46 = .ok (.i2l, 1) := by decide +kernel
theorem dX11_set_47 : decode cX11_set 47 = .ok (.invokestatic 126, 3) := by decide +kernel
theorem dX11_set_50 : decode cX11_set 50 = .ok (.ifCond .ne 9, 3) := by decide +kernel
theorem dX11_set_53 : decode cX11_set 53 = .ok (.aload_n 0, 1) := by decide +kernel
theorem dX11_set_54 : decode cX11_set 54 = .ok (.iconst 2, 1) := by decide +kernel
theorem dX11_set_55 : decode cX11_set 55 = .ok (.invokevirtual 137, 3) := by decide +kernel
theorem dX11_set_58 : decode cX11_set 58 = .ok (.ireturn, 1) := by decide +kernel
theorem dX11_set_59 : decode cX11_set 59 = .ok (.aload_n 0, 1) := by decide +kernel
theorem dX11_set_60 : decode cX11_set 60 = .ok (.getfield 24, 3) := by decide +kernel
theorem dX11_set_63 : decode cX11_set 63 = .ok (.bipush 80, 2) := by decide +kernel
theorem dX11_set_65 : decode cX11_set 65 = .ok (.iload_n 1, 1) := by decide +kernel
theorem dX11_set_66 : decode cX11_set 66 = .ok (.imul, 1) := by decide +kernel
theorem dX11_set_67 : decode cX11_set 67 = .ok (.iload_n 2, 1) := by decide +kernel
theorem dX11_set_68 : decode cX11_set 68 = .ok (.iadd, 1) := by decide +kernel
theorem dX11_set_69 : decode cX11_set 69 = .ok (.aload_n 0, 1) := by decide +kernel
theorem dX11_set_70 : decode cX11_set 70 = .ok (.getfield 17, 3) := by decide +kernel
theorem dX11_set_73 : decode cX11_set 73 = .ok (.iload_n 1, 1) := by decide +kernel
theorem dX11_set_74 : decode cX11_set 74 = .ok (.iaload, 1) := by decide +kernel
theorem dX11_set_75 : decode cX11_set 75 = .ok (.ifCond .ne 8, 3) := by decide +kernel
theorem dX11_set_78 : decode cX11_set 78 = .ok (.iload_n 3, 1) := by decide +kernel
theorem dX11_set_79 : decode cX11_set 79 = .ok (.i2b, 1) := by decide +kernel
theorem dX11_set_80 : decode cX11_set 80 = .ok (.goto 19, 3) := by decide +kernel
theorem dX11_set_83 : decode cX11_set 83 = .ok (.aload_n 0, 1) := by decide +kernel
theorem dX11_set_84 : decode cX11_set 84 = .ok (.getfield 17, 3) := by decide +kernel
theorem dX11_set_87 : decode cX11_set 87 = .ok (.iload_n 1, 1) := by decide +kernel
theorem dX11_set_88 : decode cX11_set 88 = .ok (.iaload, 1) := by decide +kernel
theorem dX11_set_89 : decode cX11_set 89 = .ok (.iconst 1, 1) := by decide +kernel
theorem dX11_set_90 : decode cX11_set 90 = .ok (.if_icmp .ne 8, 3) := by decide +kernel
theorem dX11_set_93 : decode cX11_set 93 = .ok (.iload_n 3, 1) := by decide +kernel
theorem dX11_set_94 : decode cX11_set 94 = .ok (.i2s, 1) := by decide +kernel
theorem dX11_set_95 : decode cX11_set 95 = .ok (.goto 4, 3) := by decide +kernel
theorem dX11_set_98 : decode cX11_set 98 = .ok (.iload_n 3, 1) := by decide +kernel
theorem dX11_set_99 : decode cX11_set 99 = .ok (.iastore, 1) := by decide +kernel
theorem dX11_set_100 : decode cX11_set 100 = .ok (.aload_n 0, 1) := by decide +kernel
theorem dX11_set_101 : decode cX11_set 101 = .ok (.getfield 24, 3) := by decide +kernel
theorem dX11_set_104 : decode cX11_set 104 = .ok (.bipush 80, 2) := by decide +kernel
theorem dX11_set_106 : decode cX11_set 106 = .ok (.iload_n 1, 1) := by decide +kernel
theorem dX11_set_107 : decode cX11_set 107 = .ok (.imul, 1) := by decide +kernel
theorem dX11_set_108 : decode cX11_set 108 = .ok (.iload_n 2, 1) := by decide +kernel
theorem dX11_set_109 : decode cX11_set 109 = .ok (.iadd, 1) := by decide +kernel
theorem dX11_set_110 : decode cX11_set 110 = .ok (.iaload, 1) := by decide +kernel
theorem dX11_set_111 : decode cX11_set 111 = .ok (.ireturn, 1) := by decide +kernel
theorem dX11_copy_0 : decode cX11_copy 0 = .ok (.aload_n 0, 1) := by decide +kernel
theorem dX11_copy_1 : decode cX11_copy 1 = .ok (.iconst 0, 1) := by decide +kernel
theorem dX11_copy_2 : decode cX11_copy 2 = .ok (.putfield 1, 3) := by decide +kernel
theorem dX11_copy_5 : decode cX11_copy 5 = .ok (.iload_n 1, 1) := by decide +kernel
theorem dX11_copy_6 : decode cX11_copy 6 = .ok (.invokestatic 130, 3) := by decide +kernel
theorem dX11_copy_9 : decode cX11_copy 9 = .ok (.ifCond .eq 10, 3) := by decide +kernel
theorem dX11_copy_12 : decode cX11_copy 12 = .ok (.iload_n 3, 1) := by decide +kernel
theorem dX11_copy_13 : decode cX11_copy 13 = .ok (.invokestatic 130, 3) := by decide +kernel
theorem dX11_copy_16 : decode cX11_copy 16 = .ok (.ifCond .ne 6, 3) := by decide +kernel
theorem dX11_copy_19 : decode cX11_copy 19 = .ok (.ldc 136, 2) := by decide +kernel
theorem dX11_copy_21 : decode cX11_copy 21 = .ok (.ireturn, 1) := by decide +kernel
theorem dX11_copy_22 : decode cX11_copy 22 = .ok (.aload_n 0, 1) := by decide +kernel
theorem dX11_copy_23 : decode cX11_copy 23 = .ok (.iconst 0, 1) := by decide +kernel
theorem dX11_copy_24 : decode cX11_copy 24 = .ok (.putfield 7, 3) := by decide +kernel
theorem dX11_copy_27 : decode cX11_copy 27 = .ok (.aload_n 0, 1) := by decide +kernel
theorem dX11_copy_28 : decode cX11_copy 28 = .ok (.getfield 17, 3) := by decide +kernel
theorem dX11_copy_31 : decode cX11_copy 31 = .ok (.iload_n 1, 1) := by decide +kernel
theorem dX11_copy_32 : decode cX11_copy 32 = .ok (.iaload, 1) := by decide +kernel
theorem dX11_copy_33 : decode cX11_copy 33 = .ok (.ifCond .lt 12, 3) := by decide +kernel
theorem dX11_copy_36 : decode cX11_copy 36 = .ok (.aload_n 0, 1) := by decide +kernel
theorem dX11_copy_37 : decode cX11_copy 37 = .ok (.getfield 17, 3) := by decide +kernel
theorem dX11_copy_40 : decode cX11_copy 40 = .ok (.iload_n 3, 1) := by decide +kernel
theorem dX11_copy_41 : decode cX11_copy 41 = .ok (.iaload, 1) := by decide +kernel
theorem dX11_copy_42 : decode cX11_copy 42 = .ok (.ifCond .ge 9, 3) := by decide +kernel
theorem dX11_copy_45 : decode cX11_copy 45 = .ok (.aload_n 0, 1) := by decide +kernel
theorem dX11_copy_46 : decode cX11_copy 46 = .ok (.iconst 1, 1) := by decide +kernel
theorem dX11_copy_47 : decode cX11_copy 47 = .ok (.invokevirtual 137, 3) := by decide +kernel
theorem dX11_copy_50 : decode cX11_copy 50 = .ok (.ireturn, 1) := by decide +kernel
theorem dX11_copy_51 : decode cX11_copy 51 = .ok (.aload_n 0, 1) := by decide +kernel
theorem dX11_copy_52 : decode cX11_copy 52 = .ok (.getfield 17, 3) := by decide +kernel
theorem dX11_copy_55 : decode cX11_copy 55 = .ok (.iload_n 1, 1) := by decide +kernel
theorem dX11_copy_56 : decode cX11_copy 56 = .ok (.iaload, 1) := by decide +kernel
theorem dX11_copy_57 : decode cX11_copy 57 = .ok (.aload_n 0, 1) := by decide +kernel
theorem dX11_copy_58 : decode cX11_copy 58 = .ok (.getfield 17, 3) := by decide +kernel
theorem dX11_copy_61 : decode cX11_copy 61 = .ok (.iload_n 3, 1) := by decide +kernel
theorem dX11_copy_62 : decode cX11_copy 62 = .ok (.iaload, 1) := by decide +kernel
theorem dX11_copy_63 : decode cX11_copy 63 = .ok (.if_icmp .eq 9, 3) := by decide +kernel
theorem dX11_copy_66 : decode cX11_copy 66 = .ok (.aload_n 0, 1) := by decide +kernel
theorem dX11_copy_67 : decode cX11_copy 67 = .ok (.iconst 5, 1) := by decide +kernel
theorem dX11_copy_68 : decode cX11_copy 68 = .ok (.invokevirtual 137, 3) := by decide +kernel
theorem dX11_copy_71 : decode cX11_copy 71 = .ok (.ireturn, 1) := by decide +kernel
theorem dX11_copy_72 : decode cX11_copy 72 = .ok (.iload_n 2, 1) := by decide +kernel
theorem dX11_copy_73 : decode cX11_copy 73 = .ok (.ifCond .lt 48, 3) := by decide +kernel
theorem dX11_copy_76 : decode cX11_copy 76 = .ok (.iload 4, 2) := by decide +kernel
theorem dX11_copy_78 : decode cX11_copy 78 = .ok (.ifCond .lt 43, 3) := by decide +kernel
theorem dX11_copy_81 : decode cX11_copy 81 = .ok (.iload 5, 2) := by decide +kernel
theorem dX11_copy_83 : decode cX11_copy 83 = .ok (.ifCond .lt 38, 3) := by decide +kernel
theorem dX11_copy_86 : decode cX11_copy 86 = .ok (.iload_n 2, 1) := by decide +kernel
theorem dX11_copy_87 : decode cX11_copy 87 = .ok (.i2l, 1) := by decide +kernel
theorem dX11_copy_88 : decode cX11_copy 88 = .ok (.iload 5, 2) := by decide +kernel
theorem dX11_copy_90 : decode cX11_copy 90 = .ok (.i2l, 1) := by decide +kernel
theorem dX11_copy_91 : decode cX11_copy 91 = .ok (.ladd, 1) := by decide +kernel
theorem dX11_copy_92 : decode cX11_copy 92 = .ok (.aload_n 0, 1) := by decide +kernel
theorem dX11_copy_93 : decode cX11_copy 93 = .ok (.getfield 21, 3) := by decide +kernel
theorem dX11_copy_96 : decode cX11_copy 96 = .ok (.iload_n 1, 1) := by decide +kernel
theorem dX11_copy_97 : decode cX11_copy 97 = .ok (.iaload, 1) := by decide +kernel
theorem dX11_copy_98 : decode cX11_copy 98 = .ok (.i2l, 1) := by decide +kernel
theorem dX11_copy_99 : decode cX11_copy 99 = .ok (.lcmp, 1) := by decide +kernel
theorem dX11_copy_100 : decode cX11_copy 100 = .ok (.ifCond .gt 21, 3) := by decide +kernel
theorem dX11_copy_103 : decode cX11_copy 103 = .ok (.iload 4, 2) := by decide +kernel
theorem dX11_copy_105 : decode cX11_copy 105 = .ok (.i2l, 1) := by decide +kernel
theorem dX11_copy_106 : decode cX11_copy 106 = .ok (.iload 5, 2) := by decide +kernel
theorem dX11_copy_108 : decode cX11_copy 108 = .ok (.i2l, 1) := by decide +kernel
theorem dX11_copy_109 : decode cX11_copy 109 = .ok (.ladd, 1) := by decide +kernel
theorem dX11_copy_110 : decode cX11_copy 110 = .ok (.aload_n 0, 1) := by decide +kernel
theorem dX11_copy_111 : decode cX11_copy 111 = .ok (.getfield 21, 3) := by decide +kernel
theorem dX11_copy_114 : decode cX11_copy 114 = .ok (.iload_n 3, 1) := by decide +kernel
theorem dX11_copy_115 : decode cX11_copy 115 = .ok (.iaload, 1) := by decide +kernel
theorem dX11_copy_116 : decode cX11_copy 116 = .ok (.i2l, 1) := by decide +kernel
theorem dX11_copy_117 : decode cX11_copy 117 = .ok (.lcmp, 1) := by decide +kernel
theorem dX11_copy_118 : decode cX11_copy 118 = .ok (.ifCond .le 9, 3) := by decide +kernel
theorem dX11_copy_121 : decode cX11_copy 121 = .ok (.aload_n 0, 1) := by decide +kernel
theorem dX11_copy_122 : decode cX11_copy 122 = .ok (.iconst 2, 1) := by decide +kernel
theorem dX11_copy_123 : decode cX11_copy 123 = .ok (.invokevirtual 137, 3) := by decide +kernel
theorem dX11_copy_126 : decode cX11_copy 126 = .ok (.ireturn, 1) := by decide +kernel
theorem dX11_copy_127 : decode cX11_copy 127 = .ok (.iload_n 2, 1) := by decide +kernel
theorem dX11_copy_128 : decode cX11_copy 128 = .ok (.iload 4, 2) := by decide +kernel
theorem dX11_copy_130 : decode cX11_copy 130 = .ok (.if_icmp .lt 7, 3) := by decide +kernel
theorem dX11_copy_133 : decode cX11_copy 133 = .ok (.iconst 1, 1) := by decide +kernel
theorem dX11_copy_134 : decode cX11_copy 134 = .ok (.goto 4, 3) := by decide +kernel
theorem dX11_copy_137 : decode cX11_copy 137 = .ok (.iconst 0, 1) := by decide +kernel
theorem dX11_copy_138 : decode cX11_copy 138 = .ok (.istore 6, 2) := by decide +kernel
theorem dX11_copy_140 : decode cX11_copy 140 = .ok (.iconst 0, 1) := by decide +kernel
theorem dX11_copy_141 : decode cX11_copy 141 = .ok (.istore 7, 2) := by decide +kernel
theorem dX11_copy_143 : decode cX11_copy 143 = .ok (.iload 7, 2) := by decide +kernel
theorem dX11_copy_145 : decode cX11_copy 145 = .ok (.iload 5, 2) := by decide +kernel
theorem dX11_copy_147 : decode cX11_copy 147 = .ok (.if_icmp .ge 57, 3) := by decide +kernel
theorem dX11_copy_150 : decode cX11_copy 150 = .ok (.iload 6, 2) := by decide +kernel
theorem dX11_copy_152 : decode cX11_copy 152 = .ok (.ifCond .eq 8, 3) := by decide +kernel
theorem dX11_copy_155 : decode cX11_copy 155 = .ok (.iload 7, 2) := by decide +kernel
theorem dX11_copy_157 : decode cX11_copy 157 = .ok (.goto 10, 3) := by decide +kernel
theorem dX11_copy_160 : decode cX11_copy 160 = .ok (.iload 5, 2) := by decide +kernel
theorem dX11_copy_162 : decode cX11_copy 162 = .ok (.iconst 1, 1) := by decide +kernel
theorem dX11_copy_163 : decode cX11_copy 163 = .ok (.isub, 1) := by decide +kernel
theorem dX11_copy_164 : decode cX11_copy 164 = .ok (.iload 7, 2) := by decide +kernel
theorem dX11_copy_166 : decode cX11_copy 166 = .ok (.isub, 1) := by decide +kernel
theorem dX11_copy_167 : decode cX11_copy 167 = .ok (.istore 8, 2) := by decide +kernel
theorem dX11_copy_169 : decode cX11_copy 169 = .ok (.aload_n 0, 1) := by decide +kernel
theorem dX11_copy_170 : decode cX11_copy 170 = .ok (.getfield 24, 3) := by decide +kernel
theorem dX11_copy_173 : decode cX11_copy 173 = .ok (.bipush 80, 2) := by decide +kernel
theorem dX11_copy_175 : decode cX11_copy 175 = .ok (.iload_n 3, 1) := by decide +kernel
theorem dX11_copy_176 : decode cX11_copy 176 = .ok (.imul, 1) := by decide +kernel
theorem dX11_copy_177 : decode cX11_copy 177 = .ok (.iload 4, 2) := by decide +kernel
theorem dX11_copy_179 : decode cX11_copy 179 = .ok (.iadd, 1) := by decide +kernel
theorem dX11_copy_180 : decode cX11_copy 180 = .ok (.iload 8, 2) := by decide +kernel
theorem dX11_copy_182 : decode cX11_copy 182 = .ok (.iadd, 1) := by decide +kernel
theorem dX11_copy_183 : decode cX11_copy 183 = .ok (.aload_n 0, 1) := by decide +kernel
theorem dX11_copy_184 : decode cX11_copy 184 = .ok (.getfield 24, 3) := by decide +kernel
theorem dX11_copy_187 : decode cX11_copy 187 = .ok (.bipush 80, 2) := by decide +kernel
theorem dX11_copy_189 : decode cX11_copy 189 = .ok (.iload_n 1, 1) := by decide +kernel
theorem dX11_copy_190 : decode cX11_copy 190 = .ok (.imul, 1) := by decide +kernel
theorem dX11_copy_191 : decode cX11_copy 191 = .ok (.iload_n 2, 1) := by decide +kernel
theorem dX11_copy_192 : decode cX11_copy 192 = .ok (.iadd, 1) := by decide +kernel
theorem dX11_copy_193 : decode cX11_copy 193 = .ok (.iload 8, 2) := by decide +kernel
theorem dX11_copy_195 : decode cX11_copy 195 = .ok (.iadd, 1) := by decide +kernel
theorem dX11_copy_196 : decode cX11_copy 196 = .ok (.iaload, 1) := by decide +kernel
theorem dX11_copy_197 : decode cX11_copy 197 = .ok (.iastore, 1) := by decide +kernel
theorem dX11_copy_198 : decode cX11_copy 198 = .ok (.iinc 7 1, 3) := by decide +kernel
theorem dX11_copy_201 : decode cX11_copy 201 = .ok (.goto (-58), 3) := by decide +kernel
theorem dX11_copy_204 : decode cX11_copy 204 = .ok (.iload 5, 2) := by decide +kernel
theorem dX11_copy_206 : decode cX11_copy 206 = .ok (.ireturn, 1) := by decide +kernel
theorem dX11_drop_0 : decode cX11_drop 0 = .ok (.aload_n 0, 1) := by decide +kernel
theorem dX11_drop_1 : decode cX11_drop 1 = .ok (.iconst 0, 1) := by decide +kernel
theorem dX11_drop_2 : decode cX11_drop 2 = .ok (.putfield 1, 3) := by decide +kernel
theorem dX11_drop_5 : decode cX11_drop 5 = .ok (.iload_n 1, 1) := by decide +kernel
theorem dX11_drop_6 : decode cX11_drop 6 = .ok (.invokestatic 130, 3) := by decide +kernel
theorem dX11_drop_9 : decode cX11_drop 9 = .ok (.ifCond .ne 6, 3) := by decide +kernel
theorem dX11_drop_12 : decode cX11_drop 12 = .ok (.ldc 136, 2) := by decide +kernel
theorem dX11_drop_14 : decode cX11_drop 14 = .ok (.ireturn, 1) := by decide +kernel
theorem dX11_drop_15 : decode cX11_drop 15 = .ok (.aload_n 0, 1) := by decide +kernel
theorem dX11_drop_16 : decode cX11_drop 16 = .ok (.iconst 0, 1) := by decide +kernel
theorem dX11_drop_17 : decode cX11_drop 17 = .ok (.putfield 7, 3) := by decide +kernel
theorem dX11_drop_20 : decode cX11_drop 20 = .ok (.aload_n 0, 1) := by decide +kernel
theorem dX11_drop_21 : decode cX11_drop 21 = .ok (.getfield 17, 3) := by decide +kernel
theorem dX11_drop_24 : decode cX11_drop 24 = .ok (.iload_n 1, 1) := by decide +kernel
theorem dX11_drop_25 : decode cX11_drop 25 = .ok (.iaload, 1) := by decide +kernel
theorem dX11_drop_26 : decode cX11_drop 26 = .ok (.ifCond .ge 9, 3) := by decide +kernel
theorem dX11_drop_29 : decode cX11_drop 29 = .ok (.aload_n 0, 1) := by decide +kernel
theorem dX11_drop_30 : decode cX11_drop 30 = .ok (.iconst 1, 1) := by decide +kernel
theorem dX11_drop_31 : decode cX11_drop 31 = .ok (.invokevirtual 137, 3) := by decide +kernel
theorem dX11_drop_34 : decode cX11_drop 34 = .ok (.ireturn, 1) := by decide +kernel
theorem dX11_drop_35 : decode cX11_drop 35 = .ok (.aload_n 0, 1) := by decide +kernel
theorem dX11_drop_36 : decode cX11_drop 36 = .ok (.getfield 17, 3) := by decide +kernel
theorem dX11_drop_39 : decode cX11_drop 39 = .ok (.iload_n 1, 1) := by decide +kernel
theorem dX11_drop_40 : decode cX11_drop 40 = .ok (.iconst (-1), 1) := by decide +kernel
theorem dX11_drop_41 : decode cX11_drop 41 = .ok (.iastore, 1) := by decide +kernel
theorem dX11_drop_42 : decode cX11_drop 42 = .ok (.aload_n 0, 1) := by decide +kernel
theorem dX11_drop_43 : decode cX11_drop 43 = .ok (.getfield 21, 3) := by decide +kernel
theorem dX11_drop_46 : decode cX11_drop 46 = .ok (.iload_n 1, 1) := by decide +kernel
theorem dX11_drop_47 : decode cX11_drop 47 = .ok (.iaload, 1) := by decide +kernel
theorem dX11_drop_48 : decode cX11_drop 48 = .ok (.ireturn, 1) := by decide +kernel
theorem dX11_lookItems_0 : decode cX11_lookItems 0 = .ok (.aload_n 0, 1) := by decide +kernel
theorem dX11_lookItems_1 : decode cX11_lookItems 1 = .ok (.getfield 17, 3) := by decide +kernel
theorem dX11_lookItems_4 : decode cX11_lookItems 4 = .ok (.iload_n 1, 1) := by decide +kernel
theorem dX11_lookItems_5 : decode cX11_lookItems 5 = .ok (.iaload, 1) := by decide +kernel
theorem dX11_lookItems_6 : decode cX11_lookItems 6 = .ok (.ifCond .ge 9, 3) := by decide +kernel
theorem dX11_lookItems_9 : decode cX11_lookItems 9 = .ok (.aload_n 0, 1) := by decide +kernel
theorem dX11_lookItems_10 : decode cX11_lookItems 10 = .ok (.iconst 1, 1) := by decide +kernel
theorem dX11_lookItems_11 : decode cX11_lookItems 11 = .ok (.invokevirtual 137, 3) := by decide +kernel
theorem dX11_lookItems_14 : decode cX11_lookItems 14 = .ok (.ireturn, 1) := by decide +kernel
theorem dX11_lookItems_15 : decode cX11_lookItems 15 = .ok (.iload_n 2, 1) := by decide +kernel
theorem dX11_lookItems_16 : decode cX11_lookItems 16 = .ok (.ifCond .lt 19, 3) := by decide +kernel
theorem dX11_lookItems_19 : decode cX11_lookItems 19 = .ok (.iload_n 2, 1) := by decide +kernel
theorem dX11_lookItems_20 : decode cX11_lookItems 20 = .ok (.i2l, 1) := by decide +kernel
theorem dX11_lookItems_21 : decode cX11_lookItems 21 = .ok (.iload_n 3, 1) := by decide +kernel
theorem dX11_lookItems_22 : decode cX11_lookItems 22 = .ok (.i2l, 1) := by decide +kernel
theorem dX11_lookItems_23 : decode cX11_lookItems 23 = .ok (.ladd, 1) := by decide +kernel
theorem dX11_lookItems_24 : decode cX11_lookItems 24 = .ok (.aload_n 0, 1) := by decide +kernel
theorem dX11_lookItems_25 : decode cX11_lookItems 25 = .ok (.getfield 21, 3) := by decide +kernel
theorem dX11_lookItems_28 : decode cX11_lookItems 28 = .ok (.iload_n 1, 1) := by decide +kernel
theorem dX11_lookItems_29 : decode cX11_lookItems 29 = .ok (.iaload, 1) := by decide +kernel
theorem dX11_lookItems_30 : decode cX11_lookItems 30 = .ok (.i2l, 1) := by decide +kernel
theorem dX11_lookItems_31 : decode cX11_lookItems 31 = .ok (.lcmp, 1) := by decide +kernel
theorem dX11_lookItems_32 : decode cX11_lookItems 32 = .ok (.ifCond .le 11, 3) := by decide +kernel
theorem dX11_lookItems_35 : decode cX11_lookItems 35 = .ok (.aload_n 0, 1) := by decide +kernel
theorem dX11_lookItems_36 : decode cX11_lookItems 36 = .ok (.iconst 2, 1) := by decide +kernel
theorem dX11_lookItems_37 : decode cX11_lookItems 37 = .ok (.invokevirtual 137, 3) := by decide +kernel
theorem dX11_lookItems_40 : decode cX11_lookItems 40 = .ok (.goto 4, 3) := by decide +kernel
theorem dX11_lookItems_43 : decode cX11_lookItems 43 = .ok (.iconst 0, 1) := by decide +kernel
theorem dX11_lookItems_44 : decode cX11_lookItems 44 = .ok (.ireturn, 1) := by decide +kernel
theorem dX11_isSort_0 : decode cX11_isSort 0 = .ok (.iload_n 0, 1) := by decide +kernel
theorem dX11_isSort_1 : decode cX11_isSort 1 = .ok (.i2l, 1) := by decide +kernel
theorem dX11_isSort_2 : decode cX11_isSort 2 = .ok (.lconst 0, 1) := by decide +kernel
theorem dX11_isSort_3 : decode cX11_isSort 3 = .ok (.ldc2_w 141, 3) := by decide +kernel
theorem dX11_isSort_6 : decode cX11_isSort 6 = .ok (.invokestatic 126, 3) := by decide +kernel
theorem dX11_isSort_9 : decode cX11_isSort 9 = .ok (.ireturn, 1) := by decide +kernel
theorem dX11_isWeek_0 : decode cX11_isWeek 0 = .ok (.iload_n 0, 1) := by decide +kernel
theorem dX11_isWeek_1 : decode cX11_isWeek 1 = .ok (.i2l, 1) := by decide +kernel
theorem dX11_isWeek_2 : decode cX11_isWeek 2 = .ok (.lconst 0, 1) := by decide +kernel
theorem dX11_isWeek_3 : decode cX11_isWeek 3 = .ok (.ldc2_w 143, 3) := by decide +kernel
theorem dX11_isWeek_6 : decode cX11_isWeek 6 = .ok (.invokestatic 126, 3) := by decide +kernel
theorem dX11_isWeek_9 : decode cX11_isWeek 9 = .ok (.ireturn, 1) := by decide +kernel
theorem dX11_isMill_0 : decode cX11_isMill 0 = .ok (.iload_n 1, 1) := by decide +kernel
theorem dX11_isMill_1 : decode cX11_isMill 1 = .ok (.i2l, 1) := by decide +kernel
theorem dX11_isMill_2 : decode cX11_isMill 2 = .ok (.lconst 0, 1) := by decide +kernel
theorem dX11_isMill_3 : decode cX11_isMill 3 = .ok (.aload_n 0, 1) := by decide +kernel
theorem dX11_isMill_4 : decode cX11_isMill 4 = .ok (.getfield 145, 3) := by decide +kernel
theorem dX11_isMill_7 : decode cX11_isMill 7 = .ok (.iconst 1, 1) := by decide +kernel
theorem dX11_isMill_8 : decode cX11_isMill 8 = .ok (.isub, 1) := by decide +kernel
theorem dX11_isMill_9 : decode cX11_isMill 9 = .ok (.i2l, 1) := by decide +kernel
theorem dX11_isMill_10 : decode cX11_isMill 10 = .ok (.invokestatic 126, 3) := by decide +kernel
theorem dX11_isMill_13 : decode cX11_isMill 13 = .ok (.ireturn, 1) := by decide +kernel
theorem dX11_stuff_0 : decode cX11_stuff 0 = .ok (.aload_n 0, 1) := by decide +kernel
theorem dX11_stuff_1 : decode cX11_stuff 1 = .ok (.iconst 0, 1) := by decide +kernel
theorem dX11_stuff_2 : decode cX11_stuff 2 = .ok (.putfield 1, 3) := by decide +kernel
theorem dX11_stuff_5 : decode cX11_stuff 5 = .ok (.iload_n 2, 1) := by decide +kernel
theorem dX11_stuff_6 : decode cX11_stuff 6 = .ok (.i2l, 1) := by decide +kernel
theorem dX11_stuff_7 : decode cX11_stuff 7 = .ok (.lconst 0, 1) := by decide +kernel
theorem dX11_stuff_8 : decode cX11_stuff 8 = .ok (.ldc2_w 148, 3) := by decide +kernel
theorem dX11_stuff_11 : decode cX11_stuff 11 = .ok (.invokestatic 126, 3) := by decide +kernel
theorem dX11_stuff_14 : decode cX11_stuff 14 = .ok (.ifCond .eq 78, 3) := by decide +kernel
theorem dX11_stuff_17 : decode cX11_stuff 17 = .ok (.iload_n 2, 1) := by decide +kernel
theorem dX11_stuff_18 : decode cX11_stuff 18 = .ok (.iconst 3, 1) := by decide +kernel
theorem dX11_stuff_19 : decode cX11_stuff 19 = .ok (.if_icmp .ge 10, 3) := by decide +kernel
theorem dX11_stuff_22 : decode cX11_stuff 22 = .ok (.iload_n 1, 1) := by decide +kernel
theorem dX11_stuff_23 : decode cX11_stuff 23 = .ok (.invokestatic 150, 3) := by decide +kernel
theorem dX11_stuff_26 : decode cX11_stuff 26 = .ok (.ifCond .eq 66, 3) := by decide +kernel
theorem dX11_stuff_29 : decode cX11_stuff 29 = .ok (.iload_n 3, 1) := by decide +kernel
theorem dX11_stuff_30 : decode cX11_stuff 30 = .ok (.i2l, 1) := by decide +kernel
theorem dX11_stuff_31 : decode cX11_stuff 31 = .ok (.iload_n 2, 1) := by decide +kernel
theorem dX11_stuff_32 : decode cX11_stuff 32 = .ok (.ifCond .ne 7, 3) := by decide +kernel
theorem dX11_stuff_35 : decode cX11_stuff 35 = .ok (.lconst 1, 1) := by decide +kernel
theorem dX11_stuff_36 : decode cX11_stuff 36 = .ok (.goto 4, 3) := by decide +kernel
theorem dX11_stuff_39 : decode cX11_stuff 39 = .ok (.lconst 0, 1) := by decide +kernel
theorem dX11_stuff_40 : decode cX11_stuff 40 = .ok (.iload_n 2, 1) := by decide +kernel
theorem dX11_stuff_41 : decode cX11_stuff 41 = .ok (.ifCond .ne 9, 3) := by decide +kernel
theorem dX11_stuff_44 : decode cX11_stuff 44 = .ok (.ldc2_w 153, 3) := by decide +kernel
theorem dX11_stuff_47 : decode cX11_stuff 47 = .ok (.goto 39, 3) := by decide +kernel
theorem dX11_stuff_50 : decode cX11_stuff 50 = .ok (.iload_n 2, 1) := by decide +kernel
theorem dX11_stuff_51 : decode cX11_stuff 51 = .ok (.iconst 1, 1) := by decide +kernel
theorem dX11_stuff_52 : decode cX11_stuff 52 = .ok (.if_icmp .ne 9, 3) := by decide +kernel
theorem dX11_stuff_55 : decode cX11_stuff 55 = .ok (.ldc2_w 143, 3) := by decide +kernel
theorem dX11_stuff_58 : decode cX11_stuff 58 = .ok (.goto 28, 3) := by decide +kernel
theorem dX11_stuff_61 : decode cX11_stuff 61 = .ok (.iload_n 2, 1) := by decide +kernel
theorem dX11_stuff_62 : decode cX11_stuff 62 = .ok (.iconst 2, 1) := by decide +kernel
theorem dX11_stuff_63 : decode cX11_stuff 63 = .ok (.if_icmp .ne 9, 3) := by decide +kernel
theorem dX11_stuff_66 : decode cX11_stuff 66 = .ok (.ldc2_w 155, 3) := by decide +kernel
theorem dX11_stuff_69 : decode cX11_stuff 69 = .ok (.goto 17, 3) := by decide +kernel
theorem dX11_stuff_72 : decode cX11_stuff 72 = .ok (.iload_n 2, 1) := by decide +kernel
theorem dX11_stuff_73 : decode cX11_stuff 73 = .ok (.iconst 3, 1) := by decide +kernel
theorem dX11_stuff_74 : decode cX11_stuff 74 = .ok (.if_icmp .ne 9, 3) := by decide +kernel
theorem dX11_stuff_77 : decode cX11_stuff 77 = .ok (.ldc2_w 157, 3) := by decide +kernel
theorem dX11_stuff_80 : decode cX11_stuff 80 = .ok (.goto 6, 3) := by decide +kernel
theorem dX11_stuff_83 : decode cX11_stuff 83 = .ok (.ldc2_w 159, 3) := by decide +kernel
theorem dX11_stuff_86 : decode cX11_stuff 86 = .ok (.invokestatic 126, 3) := by decide +kernel
theorem dX11_stuff_89 : decode cX11_stuff 89 = .ok (.ifCond .ne 6, 3) := by decide +kernel
theorem dX11_stuff_92 : decode cX11_stuff 92 = .ok (.ldc 136, 2) := by decide +kernel
theorem dX11_stuff_94 : decode cX11_stuff 94 = .ok (.ireturn, 1) := by decide +kernel
theorem dX11_stuff_95 : decode cX11_stuff 95 = .ok (.iload_n 2, 1) := by decide +kernel
theorem dX11_stuff_96 : decode cX11_stuff 96 = .ok (.ifCond .ne 12, 3) := by decide +kernel
theorem dX11_stuff_99 : decode cX11_stuff 99 = .ok (.aload_n 0, 1) := by decide +kernel
theorem dX11_stuff_100 : decode cX11_stuff 100 = .ok (.getfield 27, 3) := by decide +kernel
theorem dX11_stuff_103 : decode cX11_stuff 103 = .ok (.iload_n 1, 1) := by decide +kernel
theorem dX11_stuff_104 : decode cX11_stuff 104 = .ok (.iaload, 1) := by decide +kernel
theorem dX11_stuff_105 : decode cX11_stuff 105 = .ok (.goto 47, 3) := by decide +kernel
theorem dX11_stuff_108 : decode cX11_stuff 108 = .ok (.iload_n 2, 1) := by decide +kernel
theorem dX11_stuff_109 : decode cX11_stuff 109 = .ok (.iconst 1, 1) := by decide +kernel
theorem dX11_stuff_110 : decode cX11_stuff 110 = .ok (.if_icmp .ne 12, 3) := by decide +kernel
theorem dX11_stuff_113 : decode cX11_stuff 113 = .ok (.aload_n 0, 1) := by decide +kernel
theorem dX11_stuff_114 : decode cX11_stuff 114 = .ok (.getfield 30, 3) := by decide +kernel
theorem dX11_stuff_117 : decode cX11_stuff 117 = .ok (.iload_n 1, 1) := by decide +kernel
theorem dX11_stuff_118 : decode cX11_stuff 118 = .ok (.iaload, 1) := by decide +kernel
theorem dX11_stuff_119 : decode cX11_stuff 119 = .ok (.goto 33, 3) := by decide +kernel
theorem dX11_stuff_122 : decode cX11_stuff 122 = .ok (.iload_n 2, 1) := by decide +kernel
theorem dX11_stuff_123 : decode cX11_stuff 123 = .ok (.iconst 2, 1) := by decide +kernel
theorem dX11_stuff_124 : decode cX11_stuff 124 = .ok (.if_icmp .ne 12, 3) := by decide +kernel
theorem dX11_stuff_127 : decode cX11_stuff 127 = .ok (.aload_n 0, 1) := by decide +kernel
theorem dX11_stuff_128 : decode cX11_stuff 128 = .ok (.getfield 33, 3) := by decide +kernel
theorem dX11_stuff_131 : decode cX11_stuff 131 = .ok (.iload_n 1, 1) := by decide +kernel
theorem dX11_stuff_132 : decode cX11_stuff 132 = .ok (.iaload, 1) := by decide +kernel
