theorem dX0_init_0 : decode cX0_init 0 = .ok (.aload_n 0, 1) := by decide +kernel
theorem dX0_init_1 : decode cX0_init 1 = .ok (.invokespecial 3, 3) := by decide +kernel
theorem dX0_init_4 : decode cX0_init 4 = .ok (.aload_n 0, 1) := by decide +kernel
theorem dX0_init_5 : decode cX0_init 5 = .ok (.bipush 16, 2) := by decide +kernel
theorem dX0_init_7 : decode cX0_init 7 = .ok (.newarray .int, 2) := by decide +kernel
theorem dX0_init_9 : decode cX0_init 9 = .ok (.putfield 9, 3) := by decide +kernel
theorem dX0_init_12 : decode cX0_init 12 = .ok (.aload_n 0, 1) := by decide +kernel
theorem dX0_init_13 : decode cX0_init 13 = .ok (.bipush 16, 2) := by decide +kernel
theorem dX0_init_15 : decode cX0_init 15 = .ok (.newarray .int, 2) := by decide +kernel
theorem dX0_init_17 : decode cX0_init 17 = .ok (.putfield 15, 3) := by decide +kernel
theorem dX0_init_20 : decode cX0_init 20 = .ok (.aload_n 0, 1) := by decide +kernel
theorem dX0_init_21 : decode cX0_init 21 = .ok (.bipush 16, 2) := by decide +kernel
theorem dX0_init_23 : decode cX0_init 23 = .ok (.newarray .int, 2) := by decide +kernel
theorem dX0_init_25 : decode cX0_init 25 = .ok (.putfield 18, 3) := by decide +kernel
theorem dX0_init_28 : decode cX0_init 28 = .ok (.aload_n 0, 1) := by decide +kernel
theorem dX0_init_29 : decode cX0_init 29 = .ok (.bipush 16, 2) := by decide +kernel
theorem dX0_init_31 : decode cX0_init 31 = .ok (.newarray .int, 2) := by decide +kernel
theorem dX0_init_33 : decode cX0_init 33 = .ok (.putfield 21, 3) := by decide +kernel
theorem dX0_init_36 : decode cX0_init 36 = .ok (.return_, 1) := by decide +kernel
theorem dX0_hasThing_0 : decode cX0_hasThing 0 = .ok (.iload_n 1, 1) := by decide +kernel
theorem dX0_hasThing_1 : decode cX0_hasThing 1 = .ok (.iconst 0, 1) := by decide +kernel
theorem dX0_hasThing_2 : decode cX0_hasThing 2 = .ok (.aload_n 0, 1) := by decide +kernel
theorem dX0_hasThing_3 : decode cX0_hasThing 3 = .ok (.getfield 24, 3) := by decide +kernel
theorem dX0_hasThing_6 : decode cX0_hasThing 6 = .ok (.iconst 1, 1) := by decide +kernel
theorem dX0_hasThing_7 : decode cX0_hasThing 7 = .ok (.isub, 1) := by decide +kernel
theorem dX0_hasThing_8 : decode cX0_hasThing 8 = .ok (.invokestatic 28, 3) := by decide +kernel
theorem dX0_hasThing_11 : decode cX0_hasThing 11 = .ok (.ireturn, 1) := by decide +kernel
theorem dX0_canBeMadeOf_0 : decode cX0_canBeMadeOf 0 = .ok (.getstatic 32, 3) := by decide +kernel
theorem dX0_canBeMadeOf_3 : decode cX0_canBeMadeOf 3 = .ok (.iload_n 1, 1) := by decide +kernel
theorem dX0_canBeMadeOf_4 : decode cX0_canBeMadeOf 4 = .ok (.iaload, 1) := by decide +kernel
theorem dX0_canBeMadeOf_5 : decode cX0_canBeMadeOf 5 = .ok (.ldc 35, 2) := by decide +kernel
theorem dX0_canBeMadeOf_7 : decode cX0_canBeMadeOf 7 = .ok (.if_icmp .ne 15, 3) := by decide +kernel
theorem dX0_canBeMadeOf_10 : decode cX0_canBeMadeOf 10 = .ok (.iload_n 2, 1) := by decide +kernel
theorem dX0_canBeMadeOf_11 : decode cX0_canBeMadeOf 11 = .ok (.ldc 35, 2) := by decide +kernel
theorem dX0_canBeMadeOf_13 : decode cX0_canBeMadeOf 13 = .ok (.if_icmp .ne 7, 3) := by decide +kernel
theorem dX0_canBeMadeOf_16 : decode cX0_canBeMadeOf 16 = .ok (.iconst 1, 1) := by decide +kernel
theorem dX0_canBeMadeOf_17 : decode cX0_canBeMadeOf 17 = .ok (.goto 4, 3) := by decide +kernel
theorem dX0_canBeMadeOf_20 : decode cX0_canBeMadeOf 20 = .ok (.iconst 0, 1) := by decide +kernel
theorem dX0_canBeMadeOf_21 : decode cX0_canBeMadeOf 21 = .ok (.ireturn, 1) := by decide +kernel
theorem dX0_canBeMadeOf_22 : decode cX0_canBeMadeOf 22 = .ok (.aload_n 0, 1) := by decide +kernel
theorem dX0_canBeMadeOf_23 : decode cX0_canBeMadeOf 23 = .ok (.iload_n 2, 1) := by decide +kernel
theorem dX0_canBeMadeOf_24 : decode cX0_canBeMadeOf 24 = .ok (.invokevirtual 36, 3) := by decide +kernel
theorem dX0_canBeMadeOf_27 : decode cX0_canBeMadeOf 27 = .ok (.ifCond .eq 21, 3) := by decide +kernel
theorem dX0_canBeMadeOf_30 : decode cX0_canBeMadeOf 30 = .ok (.aload_n 0, 1) := by decide +kernel
theorem dX0_canBeMadeOf_31 : decode cX0_canBeMadeOf 31 = .ok (.getfield 9, 3) := by decide +kernel
theorem dX0_canBeMadeOf_34 : decode cX0_canBeMadeOf 34 = .ok (.iload_n 2, 1) := by decide +kernel
theorem dX0_canBeMadeOf_35 : decode cX0_canBeMadeOf 35 = .ok (.iaload, 1) := by decide +kernel
theorem dX0_canBeMadeOf_36 : decode cX0_canBeMadeOf 36 = .ok (.getstatic 32, 3) := by decide +kernel
theorem dX0_canBeMadeOf_39 : decode cX0_canBeMadeOf 39 = .ok (.iload_n 1, 1) := by decide +kernel
theorem dX0_canBeMadeOf_40 : decode cX0_canBeMadeOf 40 = .ok (.iaload, 1) := by decide +kernel
theorem dX0_canBeMadeOf_41 : decode cX0_canBeMadeOf 41 = .ok (.if_icmp .ne 7, 3) := by decide +kernel
theorem dX0_canBeMadeOf_44 : decode cX0_canBeMadeOf 44 = .ok (.iconst 1, 1) := by decide +kernel
theorem dX0_canBeMadeOf_45 : decode cX0_canBeMadeOf 45 = .ok (.goto 4, 3) := by decide +kernel
theorem dX0_canBeMadeOf_48 : decode cX0_canBeMadeOf 48 = .ok (.iconst 0, 1) := by decide +kernel
theorem dX0_canBeMadeOf_49 : decode cX0_canBeMadeOf 49 = .ok (.ireturn, 1) := by decide +kernel
theorem dX0_addThing_0 : decode cX0_addThing 0 = .ok (.aload_n 0, 1) := by decide +kernel
theorem dX0_addThing_1 : decode cX0_addThing 1 = .ok (.getfield 24, 3) := by decide +kernel
theorem dX0_addThing_4 : decode cX0_addThing 4 = .ok (.bipush 16, 2) := by decide +kernel
theorem dX0_addThing_6 : decode cX0_addThing 6 = .ok (.if_icmp .lt 6, 3) := by decide +kernel
theorem dX0_addThing_9 : decode cX0_addThing 9 = .ok (.ldc 40, 2) := by decide +kernel
theorem dX0_addThing_11 : decode cX0_addThing 11 = .ok (.ireturn, 1) := by decide +kernel
theorem dX0_addThing_12 : decode cX0_addThing 12 = .ok (.aload_n 0, 1) := by decide +kernel
theorem dX0_addThing_13 : decode cX0_addThing 13 = .ok (.getfield 9, 3) := by decide +kernel
theorem dX0_addThing_16 : decode cX0_addThing 16 = .ok (.aload_n 0, 1) := by decide +kernel
theorem dX0_addThing_17 : decode cX0_addThing 17 = .ok (.getfield 24, 3) := by decide +kernel
theorem dX0_addThing_20 : decode cX0_addThing 20 = .ok (.iload_n 1, 1) := by decide +kernel
theorem dX0_addThing_21 : decode cX0_addThing 21 = .ok (.iastore, 1) := by decide +kernel
theorem dX0_addThing_22 : decode cX0_addThing 22 = .ok (.aload_n 0, 1) := by decide +kernel
theorem dX0_addThing_23 : decode cX0_addThing 23 = .ok (.getfield 15, 3) := by decide +kernel
theorem dX0_addThing_26 : decode cX0_addThing 26 = .ok (.aload_n 0, 1) := by decide +kernel
theorem dX0_addThing_27 : decode cX0_addThing 27 = .ok (.getfield 24, 3) := by decide +kernel
theorem dX0_addThing_30 : decode cX0_addThing 30 = .ok (.iload_n 2, 1) := by decide +kernel
theorem dX0_addThing_31 : decode cX0_addThing 31 = .ok (.iastore, 1) := by decide +kernel
theorem dX0_addThing_32 : decode cX0_addThing 32 = .ok (.aload_n 0, 1) := by decide +kernel
theorem dX0_addThing_33 : decode cX0_addThing 33 = .ok (.getfield 18, 3) := by decide +kernel
theorem dX0_addThing_36 : decode cX0_addThing 36 = .ok (.aload_n 0, 1) := by decide +kernel
theorem dX0_addThing_37 : decode cX0_addThing 37 = .ok (.getfield 24, 3) := by decide +kernel
theorem dX0_addThing_40 : decode cX0_addThing 40 = .ok (.iload_n 3, 1) := by decide +kernel
theorem dX0_addThing_41 : decode cX0_addThing 41 = .ok (.iastore, 1) := by decide +kernel
theorem dX0_addThing_42 : decode cX0_addThing 42 = .ok (.aload_n 0, 1) := by decide +kernel
theorem dX0_addThing_43 : decode cX0_addThing 43 = .ok (.dup, 1) := by decide +kernel
theorem dX0_addThing_44 : decode cX0_addThing 44 = .ok (.getfield 24, 3) := by decide +kernel
theorem dX0_addThing_47 : decode cX0_addThing 47 = .ok (.iconst 1, 1) := by decide +kernel
theorem dX0_addThing_48 : decode cX0_addThing 48 = .ok (.iadd, 1) := by decide +kernel
theorem dX0_addThing_49 : decode cX0_addThing 49 = .ok (.putfield 24, 3) := by decide +kernel
theorem dX0_addThing_52 : decode cX0_addThing 52 = .ok (.aload_n 0, 1) := by decide +kernel
theorem dX0_addThing_53 : decode cX0_addThing 53 = .ok (.getfield 24, 3) := by decide +kernel
theorem dX0_addThing_56 : decode cX0_addThing 56 = .ok (.iconst 1, 1) := by decide +kernel
theorem dX0_addThing_57 : decode cX0_addThing 57 = .ok (.isub, 1) := by decide +kernel
theorem dX0_addThing_58 : decode cX0_addThing 58 = .ok (.ireturn, 1) := by decide +kernel
theorem dX0_isA_0 : decode cX0_isA 0 = .ok (.iload_n 0, 1) := by decide +kernel
theorem dX0_isA_1 : decode cX0_isA 1 = .ok (.istore_n 2, 1) := by decide +kernel
theorem dX0_isA_2 : decode cX0_isA 2 = .ok (.iconst 0, 1) := by decide +kernel
theorem dX0_isA_3 : decode cX0_isA 3 = .ok (.istore_n 3, 1) := by decide +kernel
theorem dX0_isA_4 : decode cX0_isA 4 = .ok (.iload_n 3, 1) := by decide +kernel
theorem dX0_isA_5 : decode cX0_isA 5 = .ok (.getstatic 41, 3) := by decide +kernel
theorem dX0_isA_8 : decode cX0_isA 8 = .ok (.arraylength, 1) := by decide +kernel
theorem dX0_isA_9 : decode cX0_isA 9 = .ok (.if_icmp .ge 28, 3) := by decide +kernel
theorem dX0_isA_12 : decode cX0_isA 12 = .ok (.iload_n 2, 1) := by decide +kernel
theorem dX0_isA_13 : decode cX0_isA 13 = .ok (.ldc 35, 2) := by decide +kernel
theorem dX0_isA_15 : decode cX0_isA 15 = .ok (.if_icmp .eq 22, 3) := by decide +kernel
theorem dX0_isA_18 : decode cX0_isA 18 = .ok (.iload_n 2, 1) := by decide +kernel
theorem dX0_isA_19 : decode cX0_isA 19 = .ok (.iload_n 1, 1) := by decide +kernel
theorem dX0_isA_20 : decode cX0_isA 20 = .ok (.if_icmp .ne 5, 3) := by decide +kernel
theorem dX0_isA_23 : decode cX0_isA 23 = .ok (.iconst 1, 1) := by decide +kernel
theorem dX0_isA_24 : decode cX0_isA 24 = .ok (.ireturn, 1) := by decide +kernel
theorem dX0_isA_25 : decode cX0_isA 25 = .ok (.getstatic 41, 3) := by decide +kernel
theorem dX0_isA_28 : decode cX0_isA 28 = .ok (.iload_n 2, 1) := by decide +kernel
theorem dX0_isA_29 : decode cX0_isA 29 = .ok (.iaload, 1) := by decide +kernel
theorem dX0_isA_30 : decode cX0_isA 30 = .ok (.istore_n 2, 1) := by decide +kernel
theorem dX0_isA_31 : decode cX0_isA 31 = .ok (.iinc 3 1, 3) := by decide +kernel
theorem dX0_isA_34 : decode cX0_isA 34 = .ok (.goto (-30), 3) := by decide +kernel
theorem dX0_isA_37 : decode cX0_isA 37 = .ok (.iconst 0, 1) := by decide +kernel
theorem dX0_isA_38 : decode cX0_isA 38 = .ok (.ireturn, 1) := by decide +kernel
theorem dX0_yarns_0 : decode cX0_yarns 0 = .ok (.iconst 0, 1) := by decide +kernel
theorem dX0_yarns_1 : decode cX0_yarns 1 = .ok (.istore_n 1, 1) := by decide +kernel
theorem dX0_yarns_2 : decode cX0_yarns 2 = .ok (.iconst 0, 1) := by decide +kernel
theorem dX0_yarns_3 : decode cX0_yarns 3 = .ok (.istore_n 2, 1) := by decide +kernel
theorem dX0_yarns_4 : decode cX0_yarns 4 = .ok (.iload_n 2, 1) := by decide +kernel
theorem dX0_yarns_5 : decode cX0_yarns 5 = .ok (.aload_n 0, 1) := by decide +kernel
theorem dX0_yarns_6 : decode cX0_yarns 6 = .ok (.getfield 24, 3) := by decide +kernel
theorem dX0_yarns_9 : decode cX0_yarns 9 = .ok (.if_icmp .ge 25, 3) := by decide +kernel
theorem dX0_yarns_12 : decode cX0_yarns 12 = .ok (.aload_n 0, 1) := by decide +kernel
theorem dX0_yarns_13 : decode cX0_yarns 13 = .ok (.getfield 9, 3) := by decide +kernel
theorem dX0_yarns_16 : decode cX0_yarns 16 = .ok (.iload_n 2, 1) := by decide +kernel
theorem dX0_yarns_17 : decode cX0_yarns 17 = .ok (.iaload, 1) := by decide +kernel
theorem dX0_yarns_18 : decode cX0_yarns 18 = .ok (.iconst 2, 1) := by decide +kernel
theorem dX0_yarns_19 : decode cX0_yarns 19 = .ok (.invokestatic 44, 3) := by decide +kernel
theorem dX0_yarns_22 : decode cX0_yarns 22 = .ok (.ifCond .eq 6, 3) := by decide +kernel
theorem dX0_yarns_25 : decode cX0_yarns 25 = .ok (.iinc 1 1, 3) := by decide +kernel
theorem dX0_yarns_28 : decode cX0_yarns 28 = .ok (.iinc 2 1, 3) := by decide +kernel
theorem dX0_yarns_31 : decode cX0_yarns 31 = .ok (.goto (-27), 3) := by decide +kernel
theorem dX0_yarns_34 : decode cX0_yarns 34 = .ok (.iload_n 1, 1) := by decide +kernel
theorem dX0_yarns_35 : decode cX0_yarns 35 = .ok (.ireturn, 1) := by decide +kernel
theorem dX0_answer_0 : decode cX0_answer 0 = .ok (.aload_n 0, 1) := by decide +kernel
theorem dX0_answer_1 : decode cX0_answer 1 = .ok (.iconst 0, 1) := by decide +kernel
theorem dX0_answer_2 : decode cX0_answer 2 = .ok (.putfield 48, 3) := by decide +kernel
theorem dX0_answer_5 : decode cX0_answer 5 = .ok (.aload_n 0, 1) := by decide +kernel
theorem dX0_answer_6 : decode cX0_answer 6 = .ok (.iload_n 3, 1) := by decide +kernel
theorem dX0_answer_7 : decode cX0_answer 7 = .ok (.putfield 51, 3) := by decide +kernel
theorem dX0_answer_10 : decode cX0_answer 10 = .ok (.aload_n 0, 1) := by decide +kernel
theorem dX0_answer_11 : decode cX0_answer 11 = .ok (.iload 4, 2) := by decide +kernel
theorem dX0_answer_13 : decode cX0_answer 13 = .ok (.putfield 54, 3) := by decide +kernel
theorem dX0_answer_16 : decode cX0_answer 16 = .ok (.aload_n 0, 1) := by decide +kernel
theorem dX0_answer_17 : decode cX0_answer 17 = .ok (.aload_n 0, 1) := by decide +kernel
theorem dX0_answer_18 : decode cX0_answer 18 = .ok (.iload_n 1, 1) := by decide +kernel
theorem dX0_answer_19 : decode cX0_answer 19 = .ok (.iload_n 2, 1) := by decide +kernel
theorem dX0_answer_20 : decode cX0_answer 20 = .ok (.invokevirtual 57, 3) := by decide +kernel
theorem dX0_answer_23 : decode cX0_answer 23 = .ok (.iload_n 1, 1) := by decide +kernel
theorem dX0_answer_24 : decode cX0_answer 24 = .ok (.iconst 0, 1) := by decide +kernel
theorem dX0_answer_25 : decode cX0_answer 25 = .ok (.invokevirtual 61, 3) := by decide +kernel
theorem dX0_answer_28 : decode cX0_answer 28 = .ok (.ireturn, 1) := by decide +kernel
theorem dX0_bodyFor_0 : decode cX0_bodyFor 0 = .ok (.iload_n 2, 1) := by decide +kernel
theorem dX0_bodyFor_1 : decode cX0_bodyFor 1 = .ok (.ifCond .ne 16, 3) := by decide +kernel
theorem dX0_bodyFor_4 : decode cX0_bodyFor 4 = .ok (.getstatic 65, 3) := by decide +kernel
theorem dX0_bodyFor_7 : decode cX0_bodyFor 7 = .ok (.aload_n 0, 1) := by decide +kernel
theorem dX0_bodyFor_8 : decode cX0_bodyFor 8 = .ok (.getfield 9, 3) := by decide +kernel
theorem dX0_bodyFor_11 : decode cX0_bodyFor 11 = .ok (.iload_n 1, 1) := by decide +kernel
theorem dX0_bodyFor_12 : decode cX0_bodyFor 12 = .ok (.iaload, 1) := by decide +kernel
theorem dX0_bodyFor_13 : decode cX0_bodyFor 13 = .ok (.iaload, 1) := by decide +kernel
theorem dX0_bodyFor_14 : decode cX0_bodyFor 14 = .ok (.goto 13, 3) := by decide +kernel
theorem dX0_bodyFor_17 : decode cX0_bodyFor 17 = .ok (.getstatic 68, 3) := by decide +kernel
theorem dX0_bodyFor_20 : decode cX0_bodyFor 20 = .ok (.aload_n 0, 1) := by decide +kernel
theorem dX0_bodyFor_21 : decode cX0_bodyFor 21 = .ok (.getfield 9, 3) := by decide +kernel
theorem dX0_bodyFor_24 : decode cX0_bodyFor 24 = .ok (.iload_n 1, 1) := by decide +kernel
theorem dX0_bodyFor_25 : decode cX0_bodyFor 25 = .ok (.iaload, 1) := by decide +kernel
theorem dX0_bodyFor_26 : decode cX0_bodyFor 26 = .ok (.iaload, 1) := by decide +kernel
theorem dX0_bodyFor_27 : decode cX0_bodyFor 27 = .ok (.ireturn, 1) := by decide +kernel
theorem dX0_begin_0 : decode cX0_begin 0 = .ok (.iload_n 3, 1) := by decide +kernel
theorem dX0_begin_1 : decode cX0_begin 1 = .ok (.bipush 20, 2) := by decide +kernel
theorem dX0_begin_3 : decode cX0_begin 3 = .ok (.if_icmp .le 5, 3) := by decide +kernel
theorem dX0_begin_6 : decode cX0_begin 6 = .ok (.iconst 0, 1) := by decide +kernel
theorem dX0_begin_7 : decode cX0_begin 7 = .ok (.ireturn, 1) := by decide +kernel
theorem dX0_begin_8 : decode cX0_begin 8 = .ok (.aload_n 0, 1) := by decide +kernel
theorem dX0_begin_9 : decode cX0_begin 9 = .ok (.iload_n 1, 1) := by decide +kernel
theorem dX0_begin_10 : decode cX0_begin 10 = .ok (.invokevirtual 71, 3) := by decide +kernel
theorem dX0_begin_13 : decode cX0_begin 13 = .ok (.iload_n 3, 1) := by decide +kernel
theorem dX0_begin_14 : decode cX0_begin 14 = .ok (.iconst 1, 1) := by decide +kernel
theorem dX0_begin_15 : decode cX0_begin 15 = .ok (.iadd, 1) := by decide +kernel
theorem dX0_begin_16 : decode cX0_begin 16 = .ok (.istore 4, 2) := by decide +kernel
theorem dX0_begin_18 : decode cX0_begin 18 = .ok (.iload_n 1, 1) := by decide +kernel
theorem dX0_begin_19 : decode cX0_begin 19 = .ok (.tableswitch 202 10 23 #[69, 76, 100, 121, 133, 202, 202, 202, 202, 202, 145, 150, 163, 178], 69) := by decide +kernel
theorem dX0_begin_88 : decode cX0_begin 88 = .ok (.aload_n 0, 1) := by decide +kernel
theorem dX0_begin_89 : decode cX0_begin 89 = .ok (.getfield 15, 3) := by decide +kernel
theorem dX0_begin_92 : decode cX0_begin 92 = .ok (.iload_n 2, 1) := by decide +kernel
theorem dX0_begin_93 : decode cX0_begin 93 = .ok (.iaload, 1) := by decide +kernel
theorem dX0_begin_94 : decode cX0_begin 94 = .ok (.ireturn, 1) := by decide +kernel
theorem dX0_begin_95 : decode cX0_begin 95 = .ok (.aload_n 0, 1) := by decide +kernel
theorem dX0_begin_96 : decode cX0_begin 96 = .ok (.bipush 10, 2) := by decide +kernel
theorem dX0_begin_98 : decode cX0_begin 98 = .ok (.iload_n 2, 1) := by decide +kernel
theorem dX0_begin_99 : decode cX0_begin 99 = .ok (.iload 4, 2) := by decide +kernel
theorem dX0_begin_101 : decode cX0_begin 101 = .ok (.invokevirtual 61, 3) := by decide +kernel
theorem dX0_begin_104 : decode cX0_begin 104 = .ok (.aload_n 0, 1) := by decide +kernel
theorem dX0_begin_105 : decode cX0_begin 105 = .ok (.aload_n 0, 1) := by decide +kernel
theorem dX0_begin_106 : decode cX0_begin 106 = .ok (.iload_n 2, 1) := by decide +kernel
theorem dX0_begin_107 : decode cX0_begin 107 = .ok (.iconst 1, 1) := by decide +kernel
theorem dX0_begin_108 : decode cX0_begin 108 = .ok (.invokevirtual 57, 3) := by decide +kernel
theorem dX0_begin_111 : decode cX0_begin 111 = .ok (.iload_n 2, 1) := by decide +kernel
theorem dX0_begin_112 : decode cX0_begin 112 = .ok (.iload 4, 2) := by decide +kernel
theorem dX0_begin_114 : decode cX0_begin 114 = .ok (.invokevirtual 61, 3) := by decide +kernel
theorem dX0_begin_117 : decode cX0_begin 117 = .ok (.iadd, 1) := by decide +kernel
theorem dX0_begin_118 : decode cX0_begin 118 = .ok (.ireturn, 1) := by decide +kernel
theorem dX0_begin_119 : decode cX0_begin 119 = .ok (.aload_n 0, 1) := by decide +kernel
theorem dX0_begin_120 : decode cX0_begin 120 = .ok (.bipush 11, 2) := by decide +kernel
theorem dX0_begin_122 : decode cX0_begin 122 = .ok (.iload_n 2, 1) := by decide +kernel
theorem dX0_begin_123 : decode cX0_begin 123 = .ok (.iload 4, 2) := by decide +kernel
theorem dX0_begin_125 : decode cX0_begin 125 = .ok (.invokevirtual 61, 3) := by decide +kernel
theorem dX0_begin_128 : decode cX0_begin 128 = .ok (.aload_n 0, 1) := by decide +kernel
theorem dX0_begin_129 : decode cX0_begin 129 = .ok (.aload_n 0, 1) := by decide +kernel
theorem dX0_begin_130 : decode cX0_begin 130 = .ok (.getfield 18, 3) := by decide +kernel
theorem dX0_begin_133 : decode cX0_begin 133 = .ok (.iload_n 2, 1) := by decide +kernel
theorem dX0_begin_134 : decode cX0_begin 134 = .ok (.iaload, 1) := by decide +kernel
theorem dX0_begin_135 : decode cX0_begin 135 = .ok (.invokevirtual 75, 3) := by decide +kernel
theorem dX0_begin_138 : decode cX0_begin 138 = .ok (.iadd, 1) := by decide +kernel
theorem dX0_begin_139 : decode cX0_begin 139 = .ok (.ireturn, 1) := by decide +kernel
theorem dX0_begin_140 : decode cX0_begin 140 = .ok (.iconst 2, 1) := by decide +kernel
theorem dX0_begin_141 : decode cX0_begin 141 = .ok (.aload_n 0, 1) := by decide +kernel
theorem dX0_begin_142 : decode cX0_begin 142 = .ok (.bipush 12, 2) := by decide +kernel
theorem dX0_begin_144 : decode cX0_begin 144 = .ok (.iload_n 2, 1) := by decide +kernel
theorem dX0_begin_145 : decode cX0_begin 145 = .ok (.iload 4, 2) := by decide +kernel
theorem dX0_begin_147 : decode cX0_begin 147 = .ok (.invokevirtual 61, 3) := by decide +kernel
theorem dX0_begin_150 : decode cX0_begin 150 = .ok (.imul, 1) := by decide +kernel
theorem dX0_begin_151 : decode cX0_begin 151 = .ok (.ireturn, 1) := by decide +kernel
theorem dX0_begin_152 : decode cX0_begin 152 = .ok (.aload_n 0, 1) := by decide +kernel
theorem dX0_begin_153 : decode cX0_begin 153 = .ok (.bipush 10, 2) := by decide +kernel
theorem dX0_begin_155 : decode cX0_begin 155 = .ok (.iload_n 2, 1) := by decide +kernel
theorem dX0_begin_156 : decode cX0_begin 156 = .ok (.iload 4, 2) := by decide +kernel
theorem dX0_begin_158 : decode cX0_begin 158 = .ok (.invokevirtual 61, 3) := by decide +kernel
theorem dX0_begin_161 : decode cX0_begin 161 = .ok (.iconst 2, 1) := by decide +kernel
theorem dX0_begin_162 : decode cX0_begin 162 = .ok (.idiv, 1) := by decide +kernel
theorem dX0_begin_163 : decode cX0_begin 163 = .ok (.ireturn, 1) := by decide +kernel
theorem dX0_begin_164 : decode cX0_begin 164 = .ok (.aload_n 0, 1) := by decide +kernel
theorem dX0_begin_165 : decode cX0_begin 165 = .ok (.getfield 51, 3) := by decide +kernel
theorem dX0_begin_168 : decode cX0_begin 168 = .ok (.ireturn, 1) := by decide +kernel
theorem dX0_begin_169 : decode cX0_begin 169 = .ok (.aload_n 0, 1) := by decide +kernel
theorem dX0_begin_170 : decode cX0_begin 170 = .ok (.bipush 20, 2) := by decide +kernel
theorem dX0_begin_172 : decode cX0_begin 172 = .ok (.iload_n 2, 1) := by decide +kernel
theorem dX0_begin_173 : decode cX0_begin 173 = .ok (.iload 4, 2) := by decide +kernel
theorem dX0_begin_175 : decode cX0_begin 175 = .ok (.invokevirtual 61, 3) := by decide +kernel
theorem dX0_begin_178 : decode cX0_begin 178 = .ok (.bipush 100, 2) := by decide +kernel
theorem dX0_begin_180 : decode cX0_begin 180 = .ok (.iadd, 1) := by decide +kernel
theorem dX0_begin_181 : decode cX0_begin 181 = .ok (.ireturn, 1) := by decide +kernel
theorem dX0_begin_182 : decode cX0_begin 182 = .ok (.aload_n 0, 1) := by decide +kernel
theorem dX0_begin_183 : decode cX0_begin 183 = .ok (.bipush 20, 2) := by decide +kernel
theorem dX0_begin_185 : decode cX0_begin 185 = .ok (.iload_n 2, 1) := by decide +kernel
theorem dX0_begin_186 : decode cX0_begin 186 = .ok (.iload 4, 2) := by decide +kernel
theorem dX0_begin_188 : decode cX0_begin 188 = .ok (.invokevirtual 61, 3) := by decide +kernel
theorem dX0_begin_191 : decode cX0_begin 191 = .ok (.aload_n 0, 1) := by decide +kernel
theorem dX0_begin_192 : decode cX0_begin 192 = .ok (.getfield 54, 3) := by decide +kernel
theorem dX0_begin_195 : decode cX0_begin 195 = .ok (.iadd, 1) := by decide +kernel
theorem dX0_begin_196 : decode cX0_begin 196 = .ok (.ireturn, 1) := by decide +kernel
theorem dX0_begin_197 : decode cX0_begin 197 = .ok (.aload_n 0, 1) := by decide +kernel
theorem dX0_begin_198 : decode cX0_begin 198 = .ok (.bipush 22, 2) := by decide +kernel
theorem dX0_begin_200 : decode cX0_begin 200 = .ok (.iload_n 2, 1) := by decide +kernel
theorem dX0_begin_201 : decode cX0_begin 201 = .ok (.iload 4, 2) := by decide +kernel
theorem dX0_begin_203 : decode cX0_begin 203 = .ok (.invokevirtual 61, 3) := by decide +kernel
theorem dX0_begin_206 : decode cX0_begin 206 = .ok (.aload_n 0, 1) := by decide +kernel
theorem dX0_begin_207 : decode cX0_begin 207 = .ok (.aload_n 0, 1) := by decide +kernel
theorem dX0_begin_208 : decode cX0_begin 208 = .ok (.iload_n 2, 1) := by decide +kernel
theorem dX0_begin_209 : decode cX0_begin 209 = .ok (.iconst 0, 1) := by decide +kernel
theorem dX0_begin_210 : decode cX0_begin 210 = .ok (.invokevirtual 57, 3) := by decide +kernel
theorem dX0_begin_213 : decode cX0_begin 213 = .ok (.iload_n 2, 1) := by decide +kernel
theorem dX0_begin_214 : decode cX0_begin 214 = .ok (.iload 4, 2) := by decide +kernel
theorem dX0_begin_216 : decode cX0_begin 216 = .ok (.invokevirtual 61, 3) := by decide +kernel
theorem dX0_begin_219 : decode cX0_begin 219 = .ok (.iadd, 1) := by decide +kernel
theorem dX0_begin_220 : decode cX0_begin 220 = .ok (.ireturn, 1) := by decide +kernel
theorem dX0_begin_221 : decode cX0_begin 221 = .ok (.iconst 0, 1) := by decide +kernel
theorem dX0_begin_222 : decode cX0_begin 222 = .ok (.ireturn, 1) := by decide +kernel
theorem dX0_leaveTrace_0 : decode cX0_leaveTrace 0 = .ok (.aload_n 0, 1) := by decide +kernel
theorem dX0_leaveTrace_1 : decode cX0_leaveTrace 1 = .ok (.getfield 48, 3) := by decide +kernel
theorem dX0_leaveTrace_4 : decode cX0_leaveTrace 4 = .ok (.bipush 16, 2) := by decide +kernel
theorem dX0_leaveTrace_6 : decode cX0_leaveTrace 6 = .ok (.if_icmp .ge 23, 3) := by decide +kernel
theorem dX0_leaveTrace_9 : decode cX0_leaveTrace 9 = .ok (.aload_n 0, 1) := by decide +kernel
theorem dX0_leaveTrace_10 : decode cX0_leaveTrace 10 = .ok (.getfield 21, 3) := by decide +kernel
theorem dX0_leaveTrace_13 : decode cX0_leaveTrace 13 = .ok (.aload_n 0, 1) := by decide +kernel
theorem dX0_leaveTrace_14 : decode cX0_leaveTrace 14 = .ok (.getfield 48, 3) := by decide +kernel
theorem dX0_leaveTrace_17 : decode cX0_leaveTrace 17 = .ok (.iload_n 1, 1) := by decide +kernel
theorem dX0_leaveTrace_18 : decode cX0_leaveTrace 18 = .ok (.iastore, 1) := by decide +kernel
theorem dX0_leaveTrace_19 : decode cX0_leaveTrace 19 = .ok (.aload_n 0, 1) := by decide +kernel
theorem dX0_leaveTrace_20 : decode cX0_leaveTrace 20 = .ok (.dup, 1) := by decide +kernel
theorem dX0_leaveTrace_21 : decode cX0_leaveTrace 21 = .ok (.getfield 48, 3) := by decide +kernel
theorem dX0_leaveTrace_24 : decode cX0_leaveTrace 24 = .ok (.iconst 1, 1) := by decide +kernel
theorem dX0_leaveTrace_25 : decode cX0_leaveTrace 25 = .ok (.iadd, 1) := by decide +kernel
theorem dX0_leaveTrace_26 : decode cX0_leaveTrace 26 = .ok (.putfield 48, 3) := by decide +kernel
theorem dX0_leaveTrace_29 : decode cX0_leaveTrace 29 = .ok (.return_, 1) := by decide +kernel
theorem dX0_numberOf_0 : decode cX0_numberOf 0 = .ok (.aload_n 0, 1) := by decide +kernel
theorem dX0_numberOf_1 : decode cX0_numberOf 1 = .ok (.iload_n 1, 1) := by decide +kernel
theorem dX0_numberOf_2 : decode cX0_numberOf 2 = .ok (.invokevirtual 36, 3) := by decide +kernel
theorem dX0_numberOf_5 : decode cX0_numberOf 5 = .ok (.ifCond .eq 12, 3) := by decide +kernel
theorem dX0_numberOf_8 : decode cX0_numberOf 8 = .ok (.aload_n 0, 1) := by decide +kernel
theorem dX0_numberOf_9 : decode cX0_numberOf 9 = .ok (.getfield 15, 3) := by decide +kernel
theorem dX0_numberOf_12 : decode cX0_numberOf 12 = .ok (.iload_n 1, 1) := by decide +kernel
theorem dX0_numberOf_13 : decode cX0_numberOf 13 = .ok (.iaload, 1) := by decide +kernel
theorem dX0_numberOf_14 : decode cX0_numberOf 14 = .ok (.goto 4, 3) := by decide +kernel
theorem dX0_numberOf_17 : decode cX0_numberOf 17 = .ok (.iconst 0, 1) := by decide +kernel
theorem dX0_numberOf_18 : decode cX0_numberOf 18 = .ok (.ireturn, 1) := by decide +kernel
theorem dX1_init_0 : decode cX1_init 0 = .ok (.aload_n 0, 1) := by decide +kernel
theorem dX1_init_1 : decode cX1_init 1 = .ok (.invokespecial 3, 3) := by decide +kernel
theorem dX1_init_4 : decode cX1_init 4 = .ok (.aload_n 0, 1) := by decide +kernel
theorem dX1_init_5 : decode cX1_init 5 = .ok (.iconst 4, 1) := by decide +kernel
theorem dX1_init_6 : decode cX1_init 6 = .ok (.newarray .int, 2) := by decide +kernel
theorem dX1_init_8 : decode cX1_init 8 = .ok (.dup, 1) := by decide +kernel
theorem dX1_init_9 : decode cX1_init 9 = .ok (.iconst 0, 1) := by decide +kernel
theorem dX1_init_10 : decode cX1_init 10 = .ok (.bipush 100, 2) := by decide +kernel
theorem dX1_init_12 : decode cX1_init 12 = .ok (.iastore, 1) := by decide +kernel
theorem dX1_init_13 : decode cX1_init 13 = .ok (.dup, 1) := by decide +kernel
theorem dX1_init_14 : decode cX1_init 14 = .ok (.iconst 1, 1) := by decide +kernel
theorem dX1_init_15 : decode cX1_init 15 = .ok (.bipush 100, 2) := by decide +kernel
theorem dX1_init_17 : decode cX1_init 17 = .ok (.iastore, 1) := by decide +kernel
theorem dX1_init_18 : decode cX1_init 18 = .ok (.dup, 1) := by decide +kernel
theorem dX1_init_19 : decode cX1_init 19 = .ok (.iconst 2, 1) := by decide +kernel
theorem dX1_init_20 : decode cX1_init 20 = .ok (.bipush 100, 2) := by decide +kernel
theorem dX1_init_22 : decode cX1_init 22 = .ok (.iastore, 1) := by decide +kernel
theorem dX1_init_23 : decode cX1_init 23 = .ok (.dup, 1) := by decide +kernel
theorem dX1_init_24 : decode cX1_init 24 = .ok (.iconst 3, 1) := by decide +kernel
theorem dX1_init_25 : decode cX1_init 25 = .ok (.bipush 100, 2) := by decide +kernel
theorem dX1_init_27 : decode cX1_init 27 = .ok (.iastore, 1) := by decide +kernel
theorem dX1_init_28 : decode cX1_init 28 = .ok (.putfield 9, 3) := by decide +kernel
theorem dX1_init_31 : decode cX1_init 31 = .ok (.aload_n 0, 1) := by decide +kernel
theorem dX1_init_32 : decode cX1_init 32 = .ok (.iconst 4, 1) := by decide +kernel
theorem dX1_init_33 : decode cX1_init 33 = .ok (.newarray .int, 2) := by decide +kernel
theorem dX1_init_35 : decode cX1_init 35 = .ok (.dup, 1) := by decide +kernel
theorem dX1_init_36 : decode cX1_init 36 = .ok (.iconst 0, 1) := by decide +kernel
theorem dX1_init_37 : decode cX1_init 37 = .ok (.iconst 0, 1) := by decide +kernel
theorem dX1_init_38 : decode cX1_init 38 = .ok (.iastore, 1) := by decide +kernel
theorem dX1_init_39 : decode cX1_init 39 = .ok (.dup, 1) := by decide +kernel
theorem dX1_init_40 : decode cX1_init 40 = .ok (.iconst 1, 1) := by decide +kernel
theorem dX1_init_41 : decode cX1_init 41 = .ok (.bipush 10, 2) := by decide +kernel
theorem dX1_init_43 : decode cX1_init 43 = .ok (.iastore, 1) := by decide +kernel
theorem dX1_init_44 : decode cX1_init 44 = .ok (.dup, 1) := by decide +kernel
theorem dX1_init_45 : decode cX1_init 45 = .ok (.iconst 2, 1) := by decide +kernel
theorem dX1_init_46 : decode cX1_init 46 = .ok (.bipush 20, 2) := by decide +kernel
theorem dX1_init_48 : decode cX1_init 48 = .ok (.iastore, 1) := by decide +kernel
theorem dX1_init_49 : decode cX1_init 49 = .ok (.dup, 1) := by decide +kernel
theorem dX1_init_50 : decode cX1_init 50 = .ok (.iconst 3, 1) := by decide +kernel
theorem dX1_init_51 : decode cX1_init 51 = .ok (.bipush 30, 2) := by decide +kernel
theorem dX1_init_53 : decode cX1_init 53 = .ok (.iastore, 1) := by decide +kernel
theorem dX1_init_54 : decode cX1_init 54 = .ok (.putfield 15, 3) := by decide +kernel
theorem dX1_init_57 : decode cX1_init 57 = .ok (.aload_n 0, 1) := by decide +kernel
theorem dX1_init_58 : decode cX1_init 58 = .ok (.iconst 4, 1) := by decide +kernel
theorem dX1_init_59 : decode cX1_init 59 = .ok (.newarray .int, 2) := by decide +kernel
theorem dX1_init_61 : decode cX1_init 61 = .ok (.putfield 18, 3) := by decide +kernel
theorem dX1_init_64 : decode cX1_init 64 = .ok (.aload_n 0, 1) := by decide +kernel
theorem dX1_init_65 : decode cX1_init 65 = .ok (.iconst 4, 1) := by decide +kernel
theorem dX1_init_66 : decode cX1_init 66 = .ok (.newarray .int, 2) := by decide +kernel
theorem dX1_init_68 : decode cX1_init 68 = .ok (.putfield 21, 3) := by decide +kernel
theorem dX1_init_71 : decode cX1_init 71 = .ok (.aload_n 0, 1) := by decide +kernel
theorem dX1_init_72 : decode cX1_init 72 = .ok (.sipush 500, 3) := by decide +kernel
theorem dX1_init_75 : decode cX1_init 75 = .ok (.putfield 24, 3) := by decide +kernel
theorem dX1_init_78 : decode cX1_init 78 = .ok (.aload_n 0, 1) := by decide +kernel
theorem dX1_init_79 : decode cX1_init 79 = .ok (.bipush 30, 2) := by decide +kernel
theorem dX1_init_81 : decode cX1_init 81 = .ok (.newarray .int, 2) := by decide +kernel
theorem dX1_init_83 : decode cX1_init 83 = .ok (.putfield 28, 3) := by decide +kernel
theorem dX1_init_86 : decode cX1_init 86 = .ok (.aload_n 0, 1) := by decide +kernel
theorem dX1_init_87 : decode cX1_init 87 = .ok (.bipush 30, 2) := by decide +kernel
theorem dX1_init_89 : decode cX1_init 89 = .ok (.newarray .int, 2) := by decide +kernel
theorem dX1_init_91 : decode cX1_init 91 = .ok (.putfield 31, 3) := by decide +kernel
theorem dX1_init_94 : decode cX1_init 94 = .ok (.aload_n 0, 1) := by decide +kernel
theorem dX1_init_95 : decode cX1_init 95 = .ok (.bipush 30, 2) := by decide +kernel
theorem dX1_init_97 : decode cX1_init 97 = .ok (.newarray .int, 2) := by decide +kernel
theorem dX1_init_99 : decode cX1_init 99 = .ok (.putfield 34, 3) := by decide +kernel
theorem dX1_init_102 : decode cX1_init 102 = .ok (.aload_n 0, 1) := by decide +kernel
theorem dX1_init_103 : decode cX1_init 103 = .ok (.bipush 30, 2) := by decide +kernel
theorem dX1_init_105 : decode cX1_init 105 = .ok (.newarray .int, 2) := by decide +kernel
theorem dX1_init_107 : decode cX1_init 107 = .ok (.putfield 37, 3) := by decide +kernel
theorem dX1_init_110 : decode cX1_init 110 = .ok (.aload_n 0, 1) := by decide +kernel
theorem dX1_init_111 : decode cX1_init 111 = .ok (.bipush 6, 2) := by decide +kernel
theorem dX1_init_113 : decode cX1_init 113 = .ok (.anewarray 40, 3) := by decide +kernel
theorem dX1_init_116 : decode cX1_init 116 = .ok (.putfield 42, 3) := by decide +kernel
theorem dX1_init_119 : decode cX1_init 119 = .ok (.return_, 1) := by decide +kernel
theorem dX1_changeCloth_0 : decode cX1_changeCloth 0 = .ok (.aload_n 0, 1) := by decide +kernel
theorem dX1_changeCloth_1 : decode cX1_changeCloth 1 = .ok (.getfield 24, 3) := by decide +kernel
theorem dX1_changeCloth_4 : decode cX1_changeCloth 4 = .ok (.istore_n 2, 1) := by decide +kernel
theorem dX1_changeCloth_5 : decode cX1_changeCloth 5 = .ok (.aload_n 0, 1) := by decide +kernel
theorem dX1_changeCloth_6 : decode cX1_changeCloth 6 = .ok (.iload_n 1, 1) := by decide +kernel
theorem dX1_changeCloth_7 : decode cX1_changeCloth 7 = .ok (.putfield 24, 3) := by decide +kernel
theorem dX1_changeCloth_10 : decode cX1_changeCloth 10 = .ok (.iload_n 2, 1) := by decide +kernel
theorem dX1_changeCloth_11 : decode cX1_changeCloth 11 = .ok (.ireturn, 1) := by decide +kernel
theorem dX1_changeFear_0 : decode cX1_changeFear 0 = .ok (.aload_n 0, 1) := by decide +kernel
theorem dX1_changeFear_1 : decode cX1_changeFear 1 = .ok (.getfield 46, 3) := by decide +kernel
theorem dX1_changeFear_4 : decode cX1_changeFear 4 = .ok (.istore_n 2, 1) := by decide +kernel
theorem dX1_changeFear_5 : decode cX1_changeFear 5 = .ok (.aload_n 0, 1) := by decide +kernel
theorem dX1_changeFear_6 : decode cX1_changeFear 6 = .ok (.iload_n 1, 1) := by decide +kernel
theorem dX1_changeFear_7 : decode cX1_changeFear 7 = .ok (.putfield 46, 3) := by decide +kernel
theorem dX1_changeFear_10 : decode cX1_changeFear 10 = .ok (.iload_n 2, 1) := by decide +kernel
theorem dX1_changeFear_11 : decode cX1_changeFear 11 = .ok (.ireturn, 1) := by decide +kernel
theorem dX1_addShip_0 : decode cX1_addShip 0 = .ok (.aload_n 0, 1) := by decide +kernel
theorem dX1_addShip_1 : decode cX1_addShip 1 = .ok (.getfield 49, 3) := by decide +kernel
theorem dX1_addShip_4 : decode cX1_addShip 4 = .ok (.bipush 30, 2) := by decide +kernel
theorem dX1_addShip_6 : decode cX1_addShip 6 = .ok (.if_icmp .lt 6, 3) := by decide +kernel
theorem dX1_addShip_9 : decode cX1_addShip 9 = .ok (.ldc 52, 2) := by decide +kernel
theorem dX1_addShip_11 : decode cX1_addShip 11 = .ok (.ireturn, 1) := by decide +kernel
theorem dX1_addShip_12 : decode cX1_addShip 12 = .ok (.aload_n 0, 1) := by decide +kernel
theorem dX1_addShip_13 : decode cX1_addShip 13 = .ok (.getfield 28, 3) := by decide +kernel
theorem dX1_addShip_16 : decode cX1_addShip 16 = .ok (.aload_n 0, 1) := by decide +kernel
theorem dX1_addShip_17 : decode cX1_addShip 17 = .ok (.getfield 49, 3) := by decide +kernel
theorem dX1_addShip_20 : decode cX1_addShip 20 = .ok (.iload_n 1, 1) := by decide +kernel
theorem dX1_addShip_21 : decode cX1_addShip 21 = .ok (.iastore, 1) := by decide +kernel
theorem dX1_addShip_22 : decode cX1_addShip 22 = .ok (.aload_n 0, 1) := by decide +kernel
theorem dX1_addShip_23 : decode cX1_addShip 23 = .ok (.getfield 31, 3) := by decide +kernel
theorem dX1_addShip_26 : decode cX1_addShip 26 = .ok (.aload_n 0, 1) := by decide +kernel
theorem dX1_addShip_27 : decode cX1_addShip 27 = .ok (.getfield 49, 3) := by decide +kernel
theorem dX1_addShip_30 : decode cX1_addShip 30 = .ok (.iload_n 2, 1) := by decide +kernel
theorem dX1_addShip_31 : decode cX1_addShip 31 = .ok (.iastore, 1) := by decide +kernel
theorem dX1_addShip_32 : decode cX1_addShip 32 = .ok (.aload_n 0, 1) := by decide +kernel
theorem dX1_addShip_33 : decode cX1_addShip 33 = .ok (.getfield 34, 3) := by decide +kernel
theorem dX1_addShip_36 : decode cX1_addShip 36 = .ok (.aload_n 0, 1) := by decide +kernel
theorem dX1_addShip_37 : decode cX1_addShip 37 = .ok (.getfield 49, 3) := by decide +kernel
theorem dX1_addShip_40 : decode cX1_addShip 40 = .ok (.iload_n 3, 1) := by decide +kernel
theorem dX1_addShip_41 : decode cX1_addShip 41 = .ok (.iastore, 1) := by decide +kernel
theorem dX1_addShip_42 : decode cX1_addShip 42 = .ok (.aload_n 0, 1) := by decide +kernel
theorem dX1_addShip_43 : decode cX1_addShip 43 = .ok (.getfield 37, 3) := by decide +kernel
theorem dX1_addShip_46 : decode cX1_addShip 46 = .ok (.aload_n 0, 1) := by decide +kernel
theorem dX1_addShip_47 : decode cX1_addShip 47 = .ok (.getfield 49, 3) := by decide +kernel
theorem dX1_addShip_50 : decode cX1_addShip 50 = .ok (.iload 4, 2) := by decide +kernel
theorem dX1_addShip_52 : decode cX1_addShip 52 = .ok (.iastore, 1) := by decide +kernel
theorem dX1_addShip_53 : decode cX1_addShip 53 = .ok (.aload_n 0, 1) := by decide +kernel
theorem dX1_addShip_54 : decode cX1_addShip 54 = .ok (.dup, 1) := by decide +kernel
theorem dX1_addShip_55 : decode cX1_addShip 55 = .ok (.getfield 49, 3) := by decide +kernel
theorem dX1_addShip_58 : decode cX1_addShip 58 = .ok (.iconst 1, 1) := by decide +kernel
theorem dX1_addShip_59 : decode cX1_addShip 59 = .ok (.iadd, 1) := by decide +kernel
theorem dX1_addShip_60 : decode cX1_addShip 60 = .ok (.putfield 49, 3) := by decide +kernel
theorem dX1_addShip_63 : decode cX1_addShip 63 = .ok (.aload_n 0, 1) := by decide +kernel
theorem dX1_addShip_64 : decode cX1_addShip 64 = .ok (.getfield 49, 3) := by decide +kernel
theorem dX1_addShip_67 : decode cX1_addShip 67 = .ok (.ireturn, 1) := by decide +kernel
theorem dX1_addMill_0 : decode cX1_addMill 0 = .ok (.aload_n 0, 1) := by decide +kernel
theorem dX1_addMill_1 : decode cX1_addMill 1 = .ok (.getfield 53, 3) := by decide +kernel
theorem dX1_addMill_4 : decode cX1_addMill 4 = .ok (.bipush 6, 2) := by decide +kernel
theorem dX1_addMill_6 : decode cX1_addMill 6 = .ok (.if_icmp .lt 6, 3) := by decide +kernel
theorem dX1_addMill_9 : decode cX1_addMill 9 = .ok (.ldc 52, 2) := by decide +kernel
theorem dX1_addMill_11 : decode cX1_addMill 11 = .ok (.ireturn, 1) := by decide +kernel
theorem dX1_addMill_12 : decode cX1_addMill 12 = .ok (.aload_n 0, 1) := by decide +kernel
theorem dX1_addMill_13 : decode cX1_addMill 13 = .ok (.getfield 42, 3) := by decide +kernel
theorem dX1_addMill_16 : decode cX1_addMill 16 = .ok (.aload_n 0, 1) := by decide +kernel
theorem dX1_addMill_17 : decode cX1_addMill 17 = .ok (.getfield 53, 3) := by decide +kernel
theorem dX1_addMill_20 : decode cX1_addMill 20 = .ok (.new 40, 3) := by decide +kernel
theorem dX1_addMill_23 : decode cX1_addMill 23 = .ok (.dup, 1) := by decide +kernel
theorem dX1_addMill_24 : decode cX1_addMill 24 = .ok (.iload_n 1, 1) := by decide +kernel
theorem dX1_addMill_25 : decode cX1_addMill 25 = .ok (.iload_n 2, 1) := by decide +kernel
theorem dX1_addMill_26 : decode cX1_addMill 26 = .ok (.iload_n 3, 1) := by decide +kernel
theorem dX1_addMill_27 : decode cX1_addMill 27 = .ok (.iload 4, 2) := by decide +kernel
theorem dX1_addMill_29 : decode cX1_addMill 29 = .ok (.invokespecial 56, 3) := by decide +kernel
theorem dX1_addMill_32 : decode cX1_addMill 32 = .ok (.aastore, 1) := by decide +kernel
theorem dX1_addMill_33 : decode cX1_addMill 33 = .ok (.aload_n 0, 1) := by decide +kernel
theorem dX1_addMill_34 : decode cX1_addMill 34 = .ok (.dup, 1) := by decide +kernel
theorem dX1_addMill_35 : decode cX1_addMill 35 = .ok (.getfield 53, 3) := by decide +kernel
theorem dX1_addMill_38 : decode cX1_addMill 38 = .ok (.iconst 1, 1) := by decide +kernel
theorem dX1_addMill_39 : decode cX1_addMill 39 = .ok (.iadd, 1) := by decide +kernel
theorem dX1_addMill_40 : decode cX1_addMill 40 = .ok (.putfield 53, 3) := by decide +kernel
theorem dX1_addMill_43 : decode cX1_addMill 43 = .ok (.aload_n 0, 1) := by decide +kernel
theorem dX1_addMill_44 : decode cX1_addMill 44 = .ok (.getfield 53, 3) := by decide +kernel
theorem dX1_addMill_47 : decode cX1_addMill 47 = .ok (.iconst 1, 1) := by decide +kernel
theorem dX1_addMill_48 : decode cX1_addMill 48 = .ok (.isub, 1) := by decide +kernel
theorem dX1_addMill_49 : decode cX1_addMill 49 = .ok (.ireturn, 1) := by decide +kernel
theorem dX1_hasMill_0 : decode cX1_hasMill 0 = .ok (.iload_n 1, 1) := by decide +kernel
theorem dX1_hasMill_1 : decode cX1_hasMill 1 = .ok (.iconst 0, 1) := by decide +kernel
theorem dX1_hasMill_2 : decode cX1_hasMill 2 = .ok (.aload_n 0, 1) := by decide +kernel
theorem dX1_hasMill_3 : decode cX1_hasMill 3 = .ok (.getfield 53, 3) := by decide +kernel
theorem dX1_hasMill_6 : decode cX1_hasMill 6 = .ok (.iconst 1, 1) := by decide +kernel
theorem dX1_hasMill_7 : decode cX1_hasMill 7 = .ok (.isub, 1) := by decide +kernel
theorem dX1_hasMill_8 : decode cX1_hasMill 8 = .ok (.invokestatic 59, 3) := by decide +kernel
theorem dX1_hasMill_11 : decode cX1_hasMill 11 = .ok (.ireturn, 1) := by decide +kernel
theorem dX1_sortRun_0 : decode cX1_sortRun 0 = .ok (.aload_n 0, 1) := by decide +kernel
theorem dX1_sortRun_1 : decode cX1_sortRun 1 = .ok (.iload_n 1, 1) := by decide +kernel
theorem dX1_sortRun_2 : decode cX1_sortRun 2 = .ok (.invokevirtual 63, 3) := by decide +kernel
theorem dX1_sortRun_5 : decode cX1_sortRun 5 = .ok (.ifCond .eq 24, 3) := by decide +kernel
theorem dX1_sortRun_8 : decode cX1_sortRun 8 = .ok (.iload_n 2, 1) := by decide +kernel
theorem dX1_sortRun_9 : decode cX1_sortRun 9 = .ok (.invokestatic 67, 3) := by decide +kernel
theorem dX1_sortRun_12 : decode cX1_sortRun 12 = .ok (.ifCond .eq 17, 3) := by decide +kernel
theorem dX1_sortRun_15 : decode cX1_sortRun 15 = .ok (.aload_n 0, 1) := by decide +kernel
theorem dX1_sortRun_16 : decode cX1_sortRun 16 = .ok (.getfield 42, 3) := by decide +kernel
theorem dX1_sortRun_19 : decode cX1_sortRun 19 = .ok (.iload_n 1, 1) := by decide +kernel
theorem dX1_sortRun_20 : decode cX1_sortRun 20 = .ok (.aaload, 1) := by decide +kernel
theorem dX1_sortRun_21 : decode cX1_sortRun 21 = .ok (.getfield 70, 3) := by decide +kernel
theorem dX1_sortRun_24 : decode cX1_sortRun 24 = .ok (.iload_n 2, 1) := by decide +kernel
theorem dX1_sortRun_25 : decode cX1_sortRun 25 = .ok (.iaload, 1) := by decide +kernel
theorem dX1_sortRun_26 : decode cX1_sortRun 26 = .ok (.goto 5, 3) := by decide +kernel
theorem dX1_sortRun_29 : decode cX1_sortRun 29 = .ok (.ldc 73, 2) := by decide +kernel
theorem dX1_sortRun_31 : decode cX1_sortRun 31 = .ok (.ireturn, 1) := by decide +kernel
theorem dX1_balesOf_0 : decode cX1_balesOf 0 = .ok (.aload_n 0, 1) := by decide +kernel
theorem dX1_balesOf_1 : decode cX1_balesOf 1 = .ok (.getfield 18, 3) := by decide +kernel
theorem dX1_balesOf_4 : decode cX1_balesOf 4 = .ok (.iload_n 1, 1) := by decide +kernel
theorem dX1_balesOf_5 : decode cX1_balesOf 5 = .ok (.iaload, 1) := by decide +kernel
theorem dX1_balesOf_6 : decode cX1_balesOf 6 = .ok (.istore_n 2, 1) := by decide +kernel
theorem dX1_balesOf_7 : decode cX1_balesOf 7 = .ok (.iconst 0, 1) := by decide +kernel
theorem dX1_balesOf_8 : decode cX1_balesOf 8 = .ok (.istore_n 3, 1) := by decide +kernel
theorem dX1_balesOf_9 : decode cX1_balesOf 9 = .ok (.iload_n 3, 1) := by decide +kernel
theorem dX1_balesOf_10 : decode cX1_balesOf 10 = .ok (.aload_n 0, 1) := by decide +kernel
theorem dX1_balesOf_11 : decode cX1_balesOf 11 = .ok (.getfield 53, 3) := by decide +kernel
theorem dX1_balesOf_14 : decode cX1_balesOf 14 = .ok (.if_icmp .ge 23, 3) := by decide +kernel
theorem dX1_balesOf_17 : decode cX1_balesOf 17 = .ok (.iload_n 2, 1) := by decide +kernel
theorem dX1_balesOf_18 : decode cX1_balesOf 18 = .ok (.aload_n 0, 1) := by decide +kernel
theorem dX1_balesOf_19 : decode cX1_balesOf 19 = .ok (.getfield 42, 3) := by decide +kernel
theorem dX1_balesOf_22 : decode cX1_balesOf 22 = .ok (.iload_n 3, 1) := by decide +kernel
theorem dX1_balesOf_23 : decode cX1_balesOf 23 = .ok (.aaload, 1) := by decide +kernel
theorem dX1_balesOf_24 : decode cX1_balesOf 24 = .ok (.getfield 74, 3) := by decide +kernel
theorem dX1_balesOf_27 : decode cX1_balesOf 27 = .ok (.iload_n 1, 1) := by decide +kernel
theorem dX1_balesOf_28 : decode cX1_balesOf 28 = .ok (.iaload, 1) := by decide +kernel
theorem dX1_balesOf_29 : decode cX1_balesOf 29 = .ok (.iadd, 1) := by decide +kernel
theorem dX1_balesOf_30 : decode cX1_balesOf 30 = .ok (.istore_n 2, 1) := by decide +kernel
theorem dX1_balesOf_31 : decode cX1_balesOf 31 = .ok (.iinc 3 1, 3) := by decide +kernel
theorem dX1_balesOf_34 : decode cX1_balesOf 34 = .ok (.goto (-25), 3) := by decide +kernel
theorem dX1_balesOf_37 : decode cX1_balesOf 37 = .ok (.iload_n 2, 1) := by decide +kernel
theorem dX1_balesOf_38 : decode cX1_balesOf 38 = .ok (.ireturn, 1) := by decide +kernel
theorem dX1_allBales_0 : decode cX1_allBales 0 = .ok (.iconst 0, 1) := by decide +kernel
theorem dX1_allBales_1 : decode cX1_allBales 1 = .ok (.istore_n 1, 1) := by decide +kernel
theorem dX1_allBales_2 : decode cX1_allBales 2 = .ok (.iconst 0, 1) := by decide +kernel
theorem dX1_allBales_3 : decode cX1_allBales 3 = .ok (.istore_n 2, 1) := by decide +kernel
theorem dX1_allBales_4 : decode cX1_allBales 4 = .ok (.iload_n 2, 1) := by decide +kernel
theorem dX1_allBales_5 : decode cX1_allBales 5 = .ok (.iconst 4, 1) := by decide +kernel
theorem dX1_allBales_6 : decode cX1_allBales 6 = .ok (.if_icmp .ge 17, 3) := by decide +kernel
theorem dX1_allBales_9 : decode cX1_allBales 9 = .ok (.iload_n 1, 1) := by decide +kernel
theorem dX1_allBales_10 : decode cX1_allBales 10 = .ok (.aload_n 0, 1) := by decide +kernel
theorem dX1_allBales_11 : decode cX1_allBales 11 = .ok (.iload_n 2, 1) := by decide +kernel
theorem dX1_allBales_12 : decode cX1_allBales 12 = .ok (.invokevirtual 77, 3) := by decide +kernel
theorem dX1_allBales_15 : decode cX1_allBales 15 = .ok (.iadd, 1) := by decide +kernel
theorem dX1_allBales_16 : decode cX1_allBales 16 = .ok (.istore_n 1, 1) := by decide +kernel
theorem dX1_allBales_17 : decode cX1_allBales 17 = .ok (.iinc 2 1, 3) := by decide +kernel
theorem dX1_allBales_20 : decode cX1_allBales 20 = .ok (.goto (-16), 3) := by decide +kernel
theorem dX1_allBales_23 : decode cX1_allBales 23 = .ok (.iload_n 1, 1) := by decide +kernel
theorem dX1_allBales_24 : decode cX1_allBales 24 = .ok (.ireturn, 1) := by decide +kernel
theorem dX1_priceNow_0 : decode cX1_priceNow 0 = .ok (.iconst 0, 1) := by decide +kernel
theorem dX1_priceNow_1 : decode cX1_priceNow 1 = .ok (.istore_n 2, 1) := by decide +kernel
theorem dX1_priceNow_2 : decode cX1_priceNow 2 = .ok (.iconst 0, 1) := by decide +kernel
theorem dX1_priceNow_3 : decode cX1_priceNow 3 = .ok (.istore_n 3, 1) := by decide +kernel
theorem dX1_priceNow_4 : decode cX1_priceNow 4 = .ok (.iload_n 3, 1) := by decide +kernel
theorem dX1_priceNow_5 : decode cX1_priceNow 5 = .ok (.aload_n 0, 1) := by decide +kernel
theorem dX1_priceNow_6 : decode cX1_priceNow 6 = .ok (.getfield 53, 3) := by decide +kernel
theorem dX1_priceNow_9 : decode cX1_priceNow 9 = .ok (.if_icmp .ge 34, 3) := by decide +kernel
theorem dX1_priceNow_12 : decode cX1_priceNow 12 = .ok (.aload_n 0, 1) := by decide +kernel
theorem dX1_priceNow_13 : decode cX1_priceNow 13 = .ok (.getfield 42, 3) := by decide +kernel
theorem dX1_priceNow_16 : decode cX1_priceNow 16 = .ok (.iload_n 3, 1) := by decide +kernel
theorem dX1_priceNow_17 : decode cX1_priceNow 17 = .ok (.aaload, 1) := by decide +kernel
theorem dX1_priceNow_18 : decode cX1_priceNow 18 = .ok (.iload_n 1, 1) := by decide +kernel
theorem dX1_priceNow_19 : decode cX1_priceNow 19 = .ok (.invokevirtual 81, 3) := by decide +kernel
theorem dX1_priceNow_22 : decode cX1_priceNow 22 = .ok (.ifCond .eq 15, 3) := by decide +kernel
theorem dX1_priceNow_25 : decode cX1_priceNow 25 = .ok (.iload_n 2, 1) := by decide +kernel
theorem dX1_priceNow_26 : decode cX1_priceNow 26 = .ok (.aload_n 0, 1) := by decide +kernel
theorem dX1_priceNow_27 : decode cX1_priceNow 27 = .ok (.getfield 42, 3) := by decide +kernel
theorem dX1_priceNow_30 : decode cX1_priceNow 30 = .ok (.iload_n 3, 1) := by decide +kernel
theorem dX1_priceNow_31 : decode cX1_priceNow 31 = .ok (.aaload, 1) := by decide +kernel
theorem dX1_priceNow_32 : decode cX1_priceNow 32 = .ok (.getfield 84, 3) := by decide +kernel
theorem dX1_priceNow_35 : decode cX1_priceNow 35 = .ok (.iadd, 1) := by decide +kernel
theorem dX1_priceNow_36 : decode cX1_priceNow 36 = .ok (.istore_n 2, 1) := by decide +kernel
theorem dX1_priceNow_37 : decode cX1_priceNow 37 = .ok (.iinc 3 1, 3) := by decide +kernel
theorem dX1_priceNow_40 : decode cX1_priceNow 40 = .ok (.goto (-36), 3) := by decide +kernel
theorem dX1_priceNow_43 : decode cX1_priceNow 43 = .ok (.aload_n 0, 1) := by decide +kernel
theorem dX1_priceNow_44 : decode cX1_priceNow 44 = .ok (.getfield 9, 3) := by decide +kernel
theorem dX1_priceNow_47 : decode cX1_priceNow 47 = .ok (.iload_n 1, 1) := by decide +kernel
theorem dX1_priceNow_48 : decode cX1_priceNow 48 = .ok (.iaload, 1) := by decide +kernel
theorem dX1_priceNow_49 : decode cX1_priceNow 49 = .ok (.iconst 4, 1) := by decide +kernel
theorem dX1_priceNow_50 : decode cX1_priceNow 50 = .ok (.iload_n 2, 1) := by decide +kernel
theorem dX1_priceNow_51 : decode cX1_priceNow 51 = .ok (.imul, 1) := by decide +kernel
theorem dX1_priceNow_52 : decode cX1_priceNow 52 = .ok (.aload_n 0, 1) := by decide +kernel
theorem dX1_priceNow_53 : decode cX1_priceNow 53 = .ok (.getfield 46, 3) := by decide +kernel
theorem dX1_priceNow_56 : decode cX1_priceNow 56 = .ok (.iadd, 1) := by decide +kernel
theorem dX1_priceNow_57 : decode cX1_priceNow 57 = .ok (.imul, 1) := by decide +kernel
theorem dX1_priceNow_58 : decode cX1_priceNow 58 = .ok (.iconst 1, 1) := by decide +kernel
theorem dX1_priceNow_59 : decode cX1_priceNow 59 = .ok (.iconst 1, 1) := by decide +kernel
theorem dX1_priceNow_60 : decode cX1_priceNow 60 = .ok (.aload_n 0, 1) := by decide +kernel
theorem dX1_priceNow_61 : decode cX1_priceNow 61 = .ok (.iload_n 1, 1) := by decide +kernel
theorem dX1_priceNow_62 : decode cX1_priceNow 62 = .ok (.invokevirtual 77, 3) := by decide +kernel
theorem dX1_priceNow_65 : decode cX1_priceNow 65 = .ok (.iadd, 1) := by decide +kernel
theorem dX1_priceNow_66 : decode cX1_priceNow 66 = .ok (.invokestatic 87, 3) := by decide +kernel
theorem dX1_priceNow_69 : decode cX1_priceNow 69 = .ok (.idiv, 1) := by decide +kernel
theorem dX1_priceNow_70 : decode cX1_priceNow 70 = .ok (.istore_n 3, 1) := by decide +kernel
theorem dX1_priceNow_71 : decode cX1_priceNow 71 = .ok (.sipush 5000, 3) := by decide +kernel
theorem dX1_priceNow_74 : decode cX1_priceNow 74 = .ok (.iconst 1, 1) := by decide +kernel
theorem dX1_priceNow_75 : decode cX1_priceNow 75 = .ok (.iload_n 3, 1) := by decide +kernel
theorem dX1_priceNow_76 : decode cX1_priceNow 76 = .ok (.invokestatic 87, 3) := by decide +kernel
theorem dX1_priceNow_79 : decode cX1_priceNow 79 = .ok (.invokestatic 93, 3) := by decide +kernel
theorem dX1_priceNow_82 : decode cX1_priceNow 82 = .ok (.ireturn, 1) := by decide +kernel
theorem dX1_landShips_0 : decode cX1_landShips 0 = .ok (.iconst 0, 1) := by decide +kernel
theorem dX1_landShips_1 : decode cX1_landShips 1 = .ok (.istore_n 1, 1) := by decide +kernel
theorem dX1_landShips_2 : decode cX1_landShips 2 = .ok (.iload_n 1, 1) := by decide +kernel
theorem dX1_landShips_3 : decode cX1_landShips 3 = .ok (.aload_n 0, 1) := by decide +kernel
theorem dX1_landShips_4 : decode cX1_landShips 4 = .ok (.getfield 49, 3) := by decide +kernel
theorem dX1_landShips_7 : decode cX1_landShips 7 = .ok (.if_icmp .ge 52, 3) := by decide +kernel
theorem dX1_landShips_10 : decode cX1_landShips 10 = .ok (.aload_n 0, 1) := by decide +kernel
theorem dX1_landShips_11 : decode cX1_landShips 11 = .ok (.getfield 28, 3) := by decide +kernel
theorem dX1_landShips_14 : decode cX1_landShips 14 = .ok (.iload_n 1, 1) := by decide +kernel
theorem dX1_landShips_15 : decode cX1_landShips 15 = .ok (.iaload, 1) := by decide +kernel
theorem dX1_landShips_16 : decode cX1_landShips 16 = .ok (.aload_n 0, 1) := by decide +kernel
theorem dX1_landShips_17 : decode cX1_landShips 17 = .ok (.getfield 96, 3) := by decide +kernel
theorem dX1_landShips_20 : decode cX1_landShips 20 = .ok (.if_icmp .ne 33, 3) := by decide +kernel
theorem dX1_landShips_23 : decode cX1_landShips 23 = .ok (.aload_n 0, 1) := by decide +kernel
theorem dX1_landShips_24 : decode cX1_landShips 24 = .ok (.getfield 37, 3) := by decide +kernel
theorem dX1_landShips_27 : decode cX1_landShips 27 = .ok (.iload_n 1, 1) := by decide +kernel
theorem dX1_landShips_28 : decode cX1_landShips 28 = .ok (.iaload, 1) := by decide +kernel
theorem dX1_landShips_29 : decode cX1_landShips 29 = .ok (.iconst 1, 1) := by decide +kernel
theorem dX1_landShips_30 : decode cX1_landShips 30 = .ok (.if_icmp .ne 23, 3) := by decide +kernel
theorem dX1_landShips_33 : decode cX1_landShips 33 = .ok (.aload_n 0, 1) := by decide +kernel
theorem dX1_landShips_34 : decode cX1_landShips 34 = .ok (.getfield 18, 3) := by decide +kernel
theorem dX1_landShips_37 : decode cX1_landShips 37 = .ok (.aload_n 0, 1) := by decide +kernel
theorem dX1_landShips_38 : decode cX1_landShips 38 = .ok (.getfield 31, 3) := by decide +kernel
theorem dX1_landShips_41 : decode cX1_landShips 41 = .ok (.iload_n 1, 1) := by decide +kernel
theorem dX1_landShips_42 : decode cX1_landShips 42 = .ok (.iaload, 1) := by decide +kernel
theorem dX1_landShips_43 : decode cX1_landShips 43 = .ok (.dup2, 1) := by decide +kernel
theorem dX1_landShips_44 : decode cX1_landShips 44 = .ok (.iaload, 1) := by decide +kernel
theorem dX1_landShips_45 : decode cX1_landShips 45 = .ok (.aload_n 0, 1) := by decide +kernel
theorem dX1_landShips_46 : decode cX1_landShips 46 = .ok (.getfield 34, 3) := by decide +kernel
theorem dX1_landShips_49 : decode cX1_landShips 49 = .ok (.iload_n 1, 1) := by decide +kernel
theorem dX1_landShips_50 : decode cX1_landShips 50 = .ok (.iaload, 1) := by decide +kernel
theorem dX1_landShips_51 : decode cX1_landShips 51 = .ok (.iadd, 1) := by decide +kernel
theorem dX1_landShips_52 : decode cX1_landShips 52 = .ok (.iastore, 1) := by decide +kernel
theorem dX1_landShips_53 : decode cX1_landShips 53 = .ok (.iinc 1 1, 3) := by decide +kernel
theorem dX1_landShips_56 : decode cX1_landShips 56 = .ok (.goto (-54), 3) := by decide +kernel
theorem dX1_landShips_59 : decode cX1_landShips 59 = .ok (.return_, 1) := by decide +kernel
theorem dX1_fixPrices_0 : decode cX1_fixPrices 0 = .ok (.iconst 0, 1) := by decide +kernel
theorem dX1_fixPrices_1 : decode cX1_fixPrices 1 = .ok (.istore_n 1, 1) := by decide +kernel
theorem dX1_fixPrices_2 : decode cX1_fixPrices 2 = .ok (.iload_n 1, 1) := by decide +kernel
theorem dX1_fixPrices_3 : decode cX1_fixPrices 3 = .ok (.iconst 4, 1) := by decide +kernel
theorem dX1_fixPrices_4 : decode cX1_fixPrices 4 = .ok (.if_icmp .ge 20, 3) := by decide +kernel
theorem dX1_fixPrices_7 : decode cX1_fixPrices 7 = .ok (.aload_n 0, 1) := by decide +kernel
theorem dX1_fixPrices_8 : decode cX1_fixPrices 8 = .ok (.getfield 21, 3) := by decide +kernel
theorem dX1_fixPrices_11 : decode cX1_fixPrices 11 = .ok (.iload_n 1, 1) := by decide +kernel
theorem dX1_fixPrices_12 : decode cX1_fixPrices 12 = .ok (.aload_n 0, 1) := by decide +kernel
theorem dX1_fixPrices_13 : decode cX1_fixPrices 13 = .ok (.iload_n 1, 1) := by decide +kernel
theorem dX1_fixPrices_14 : decode cX1_fixPrices 14 = .ok (.invokevirtual 99, 3) := by decide +kernel
theorem dX1_fixPrices_17 : decode cX1_fixPrices 17 = .ok (.iastore, 1) := by decide +kernel
theorem dX1_fixPrices_18 : decode cX1_fixPrices 18 = .ok (.iinc 1 1, 3) := by decide +kernel
theorem dX1_fixPrices_21 : decode cX1_fixPrices 21 = .ok (.goto (-19), 3) := by decide +kernel
theorem dX1_fixPrices_24 : decode cX1_fixPrices 24 = .ok (.return_, 1) := by decide +kernel
theorem dX1_workMills_0 : decode cX1_workMills 0 = .ok (.iconst 0, 1) := by decide +kernel
theorem dX1_workMills_1 : decode cX1_workMills 1 = .ok (.istore_n 1, 1) := by decide +kernel
theorem dX1_workMills_2 : decode cX1_workMills 2 = .ok (.iload_n 1, 1) := by decide +kernel
theorem dX1_workMills_3 : decode cX1_workMills 3 = .ok (.aload_n 0, 1) := by decide +kernel
theorem dX1_workMills_4 : decode cX1_workMills 4 = .ok (.getfield 53, 3) := by decide +kernel
theorem dX1_workMills_7 : decode cX1_workMills 7 = .ok (.if_icmp .ge 60, 3) := by decide +kernel
theorem dX1_workMills_10 : decode cX1_workMills 10 = .ok (.aload_n 0, 1) := by decide +kernel
theorem dX1_workMills_11 : decode cX1_workMills 11 = .ok (.getfield 42, 3) := by decide +kernel
theorem dX1_workMills_14 : decode cX1_workMills 14 = .ok (.iload_n 1, 1) := by decide +kernel
theorem dX1_workMills_15 : decode cX1_workMills 15 = .ok (.aaload, 1) := by decide +kernel
theorem dX1_workMills_16 : decode cX1_workMills 16 = .ok (.astore_n 2, 1) := by decide +kernel
theorem dX1_workMills_17 : decode cX1_workMills 17 = .ok (.aload_n 0, 1) := by decide +kernel
theorem dX1_workMills_18 : decode cX1_workMills 18 = .ok (.aload_n 2, 1) := by decide +kernel
theorem dX1_workMills_19 : decode cX1_workMills 19 = .ok (.invokevirtual 102, 3) := by decide +kernel
theorem dX1_workMills_22 : decode cX1_workMills 22 = .ok (.istore_n 3, 1) := by decide +kernel
theorem dX1_workMills_23 : decode cX1_workMills 23 = .ok (.iload_n 3, 1) := by decide +kernel
theorem dX1_workMills_24 : decode cX1_workMills 24 = .ok (.ldc 73, 2) := by decide +kernel
theorem dX1_workMills_26 : decode cX1_workMills 26 = .ok (.if_icmp .eq 30, 3) := by decide +kernel
theorem dX1_workMills_29 : decode cX1_workMills 29 = .ok (.aload_n 0, 1) := by decide +kernel
theorem dX1_workMills_30 : decode cX1_workMills 30 = .ok (.getfield 24, 3) := by decide +kernel
theorem dX1_workMills_33 : decode cX1_workMills 33 = .ok (.aload_n 0, 1) := by decide +kernel
theorem dX1_workMills_34 : decode cX1_workMills 34 = .ok (.getfield 21, 3) := by decide +kernel
theorem dX1_workMills_37 : decode cX1_workMills 37 = .ok (.iload_n 3, 1) := by decide +kernel
theorem dX1_workMills_38 : decode cX1_workMills 38 = .ok (.iaload, 1) := by decide +kernel
theorem dX1_workMills_39 : decode cX1_workMills 39 = .ok (.isub, 1) := by decide +kernel
theorem dX1_workMills_40 : decode cX1_workMills 40 = .ok (.aload_n 2, 1) := by decide +kernel
theorem dX1_workMills_41 : decode cX1_workMills 41 = .ok (.getfield 106, 3) := by decide +kernel
theorem dX1_workMills_44 : decode cX1_workMills 44 = .ok (.if_icmp .lt 12, 3) := by decide +kernel
theorem dX1_workMills_47 : decode cX1_workMills 47 = .ok (.aload_n 0, 1) := by decide +kernel
theorem dX1_workMills_48 : decode cX1_workMills 48 = .ok (.aload_n 2, 1) := by decide +kernel
theorem dX1_workMills_49 : decode cX1_workMills 49 = .ok (.iload_n 3, 1) := by decide +kernel
theorem dX1_workMills_50 : decode cX1_workMills 50 = .ok (.invokevirtual 109, 3) := by decide +kernel
theorem dX1_workMills_53 : decode cX1_workMills 53 = .ok (.goto 8, 3) := by decide +kernel
theorem dX1_workMills_56 : decode cX1_workMills 56 = .ok (.aload_n 0, 1) := by decide +kernel
theorem dX1_workMills_57 : decode cX1_workMills 57 = .ok (.aload_n 2, 1) := by decide +kernel
theorem dX1_workMills_58 : decode cX1_workMills 58 = .ok (.invokevirtual 113, 3) := by decide +kernel
theorem dX1_workMills_61 : decode cX1_workMills 61 = .ok (.iinc 1 1, 3) := by decide +kernel
theorem dX1_workMills_64 : decode cX1_workMills 64 = .ok (.goto (-62), 3) := by decide +kernel
theorem dX1_workMills_67 : decode cX1_workMills 67 = .ok (.return_, 1) := by decide +kernel
theorem dX1_cheapestFor_0 : decode cX1_cheapestFor 0 = .ok (.ldc 73, 2) := by decide +kernel
theorem dX1_cheapestFor_2 : decode cX1_cheapestFor 2 = .ok (.istore_n 2, 1) := by decide +kernel
theorem dX1_cheapestFor_3 : decode cX1_cheapestFor 3 = .ok (.iconst 0, 1) := by decide +kernel
theorem dX1_cheapestFor_4 : decode cX1_cheapestFor 4 = .ok (.istore_n 3, 1) := by decide +kernel
theorem dX1_cheapestFor_5 : decode cX1_cheapestFor 5 = .ok (.iload_n 3, 1) := by decide +kernel
theorem dX1_cheapestFor_6 : decode cX1_cheapestFor 6 = .ok (.iconst 4, 1) := by decide +kernel
theorem dX1_cheapestFor_7 : decode cX1_cheapestFor 7 = .ok (.if_icmp .ge 72, 3) := by decide +kernel
theorem dX1_cheapestFor_10 : decode cX1_cheapestFor 10 = .ok (.aload_n 1, 1) := by decide +kernel
theorem dX1_cheapestFor_11 : decode cX1_cheapestFor 11 = .ok (.iload_n 3, 1) := by decide +kernel
theorem dX1_cheapestFor_12 : decode cX1_cheapestFor 12 = .ok (.invokevirtual 81, 3) := by decide +kernel
theorem dX1_cheapestFor_15 : decode cX1_cheapestFor 15 = .ok (.ifCond .eq 27, 3) := by decide +kernel
theorem dX1_cheapestFor_18 : decode cX1_cheapestFor 18 = .ok (.aload_n 1, 1) := by decide +kernel
theorem dX1_cheapestFor_19 : decode cX1_cheapestFor 19 = .ok (.getfield 74, 3) := by decide +kernel
theorem dX1_cheapestFor_22 : decode cX1_cheapestFor 22 = .ok (.iload_n 3, 1) := by decide +kernel
theorem dX1_cheapestFor_23 : decode cX1_cheapestFor 23 = .ok (.iaload, 1) := by decide +kernel
theorem dX1_cheapestFor_24 : decode cX1_cheapestFor 24 = .ok (.aload_n 0, 1) := by decide +kernel
theorem dX1_cheapestFor_25 : decode cX1_cheapestFor 25 = .ok (.getfield 18, 3) := by decide +kernel
theorem dX1_cheapestFor_28 : decode cX1_cheapestFor 28 = .ok (.iload_n 3, 1) := by decide +kernel
theorem dX1_cheapestFor_29 : decode cX1_cheapestFor 29 = .ok (.iaload, 1) := by decide +kernel
theorem dX1_cheapestFor_30 : decode cX1_cheapestFor 30 = .ok (.iadd, 1) := by decide +kernel
theorem dX1_cheapestFor_31 : decode cX1_cheapestFor 31 = .ok (.aload_n 1, 1) := by decide +kernel
theorem dX1_cheapestFor_32 : decode cX1_cheapestFor 32 = .ok (.getfield 84, 3) := by decide +kernel
theorem dX1_cheapestFor_35 : decode cX1_cheapestFor 35 = .ok (.if_icmp .lt 7, 3) := by decide +kernel
theorem dX1_cheapestFor_38 : decode cX1_cheapestFor 38 = .ok (.iconst 1, 1) := by decide +kernel
theorem dX1_cheapestFor_39 : decode cX1_cheapestFor 39 = .ok (.goto 4, 3) := by decide +kernel
theorem dX1_cheapestFor_42 : decode cX1_cheapestFor 42 = .ok (.iconst 0, 1) := by decide +kernel
theorem dX1_cheapestFor_43 : decode cX1_cheapestFor 43 = .ok (.istore 4, 2) := by decide +kernel
theorem dX1_cheapestFor_45 : decode cX1_cheapestFor 45 = .ok (.iload 4, 2) := by decide +kernel
theorem dX1_cheapestFor_47 : decode cX1_cheapestFor 47 = .ok (.ifCond .eq 26, 3) := by decide +kernel
theorem dX1_cheapestFor_50 : decode cX1_cheapestFor 50 = .ok (.iload_n 2, 1) := by decide +kernel
theorem dX1_cheapestFor_51 : decode cX1_cheapestFor 51 = .ok (.ldc 73, 2) := by decide +kernel
theorem dX1_cheapestFor_53 : decode cX1_cheapestFor 53 = .ok (.if_icmp .eq 18, 3) := by decide +kernel
theorem dX1_cheapestFor_56 : decode cX1_cheapestFor 56 = .ok (.aload_n 0, 1) := by decide +kernel
theorem dX1_cheapestFor_57 : decode cX1_cheapestFor 57 = .ok (.getfield 21, 3) := by decide +kernel
theorem dX1_cheapestFor_60 : decode cX1_cheapestFor 60 = .ok (.iload_n 3, 1) := by decide +kernel
theorem dX1_cheapestFor_61 : decode cX1_cheapestFor 61 = .ok (.iaload, 1) := by decide +kernel
theorem dX1_cheapestFor_62 : decode cX1_cheapestFor 62 = .ok (.aload_n 0, 1) := by decide +kernel
theorem dX1_cheapestFor_63 : decode cX1_cheapestFor 63 = .ok (.getfield 21, 3) := by decide +kernel
theorem dX1_cheapestFor_66 : decode cX1_cheapestFor 66 = .ok (.iload_n 2, 1) := by decide +kernel
theorem dX1_cheapestFor_67 : decode cX1_cheapestFor 67 = .ok (.iaload, 1) := by decide +kernel
theorem dX1_cheapestFor_68 : decode cX1_cheapestFor 68 = .ok (.if_icmp .ge 5, 3) := by decide +kernel
theorem dX1_cheapestFor_71 : decode cX1_cheapestFor 71 = .ok (.iload_n 3, 1) := by decide +kernel
theorem dX1_cheapestFor_72 : decode cX1_cheapestFor 72 = .ok (.istore_n 2, 1) := by decide +kernel
theorem dX1_cheapestFor_73 : decode cX1_cheapestFor 73 = .ok (.iinc 3 1, 3) := by decide +kernel
theorem dX1_cheapestFor_76 : decode cX1_cheapestFor 76 = .ok (.goto (-71), 3) := by decide +kernel
theorem dX1_cheapestFor_79 : decode cX1_cheapestFor 79 = .ok (.iload_n 2, 1) := by decide +kernel
theorem dX1_cheapestFor_80 : decode cX1_cheapestFor 80 = .ok (.ireturn, 1) := by decide +kernel
theorem dX1_runMill_0 : decode cX1_runMill 0 = .ok (.aload_n 1, 1) := by decide +kernel
theorem dX1_runMill_1 : decode cX1_runMill 1 = .ok (.getfield 84, 3) := by decide +kernel
theorem dX1_runMill_4 : decode cX1_runMill 4 = .ok (.aload_n 1, 1) := by decide +kernel
theorem dX1_runMill_5 : decode cX1_runMill 5 = .ok (.getfield 74, 3) := by decide +kernel
theorem dX1_runMill_8 : decode cX1_runMill 8 = .ok (.iload_n 2, 1) := by decide +kernel
theorem dX1_runMill_9 : decode cX1_runMill 9 = .ok (.iaload, 1) := by decide +kernel
theorem dX1_runMill_10 : decode cX1_runMill 10 = .ok (.invokestatic 93, 3) := by decide +kernel
theorem dX1_runMill_13 : decode cX1_runMill 13 = .ok (.istore_n 3, 1) := by decide +kernel
theorem dX1_runMill_14 : decode cX1_runMill 14 = .ok (.aload_n 1, 1) := by decide +kernel
theorem dX1_runMill_15 : decode cX1_runMill 15 = .ok (.getfield 84, 3) := by decide +kernel
theorem dX1_runMill_18 : decode cX1_runMill 18 = .ok (.iload_n 3, 1) := by decide +kernel
theorem dX1_runMill_19 : decode cX1_runMill 19 = .ok (.isub, 1) := by decide +kernel
theorem dX1_runMill_20 : decode cX1_runMill 20 = .ok (.istore 4, 2) := by decide +kernel
theorem dX1_runMill_22 : decode cX1_runMill 22 = .ok (.aload_n 1, 1) := by decide +kernel
theorem dX1_runMill_23 : decode cX1_runMill 23 = .ok (.getfield 74, 3) := by decide +kernel
theorem dX1_runMill_26 : decode cX1_runMill 26 = .ok (.iload_n 2, 1) := by decide +kernel
theorem dX1_runMill_27 : decode cX1_runMill 27 = .ok (.dup2, 1) := by decide +kernel
theorem dX1_runMill_28 : decode cX1_runMill 28 = .ok (.iaload, 1) := by decide +kernel
theorem dX1_runMill_29 : decode cX1_runMill 29 = .ok (.iload_n 3, 1) := by decide +kernel
theorem dX1_runMill_30 : decode cX1_runMill 30 = .ok (.isub, 1) := by decide +kernel
theorem dX1_runMill_31 : decode cX1_runMill 31 = .ok (.iastore, 1) := by decide +kernel
theorem dX1_runMill_32 : decode cX1_runMill 32 = .ok (.aload_n 0, 1) := by decide +kernel
theorem dX1_runMill_33 : decode cX1_runMill 33 = .ok (.getfield 18, 3) := by decide +kernel
theorem dX1_runMill_36 : decode cX1_runMill 36 = .ok (.iload_n 2, 1) := by decide +kernel
theorem dX1_runMill_37 : decode cX1_runMill 37 = .ok (.dup2, 1) := by decide +kernel
theorem dX1_runMill_38 : decode cX1_runMill 38 = .ok (.iaload, 1) := by decide +kernel
theorem dX1_runMill_39 : decode cX1_runMill 39 = .ok (.iload 4, 2) := by decide +kernel
theorem dX1_runMill_41 : decode cX1_runMill 41 = .ok (.isub, 1) := by decide +kernel
theorem dX1_runMill_42 : decode cX1_runMill 42 = .ok (.iastore, 1) := by decide +kernel
theorem dX1_runMill_43 : decode cX1_runMill 43 = .ok (.aload_n 1, 1) := by decide +kernel
theorem dX1_runMill_44 : decode cX1_runMill 44 = .ok (.iload 4, 2) := by decide +kernel
theorem dX1_runMill_46 : decode cX1_runMill 46 = .ok (.i2l, 1) := by decide +kernel
theorem dX1_runMill_47 : decode cX1_runMill 47 = .ok (.lneg, 1) := by decide +kernel
theorem dX1_runMill_48 : decode cX1_runMill 48 = .ok (.aload_n 0, 1) := by decide +kernel
theorem dX1_runMill_49 : decode cX1_runMill 49 = .ok (.getfield 21, 3) := by decide +kernel
theorem dX1_runMill_52 : decode cX1_runMill 52 = .ok (.iload_n 2, 1) := by decide +kernel
theorem dX1_runMill_53 : decode cX1_runMill 53 = .ok (.iaload, 1) := by decide +kernel
theorem dX1_runMill_54 : decode cX1_runMill 54 = .ok (.i2l, 1) := by decide +kernel
theorem dX1_runMill_55 : decode cX1_runMill 55 = .ok (.lmul, 1) := by decide +kernel
theorem dX1_runMill_56 : decode cX1_runMill 56 = .ok (.invokevirtual 117, 3) := by decide +kernel
theorem dX1_runMill_59 : decode cX1_runMill 59 = .ok (.aload_n 1, 1) := by decide +kernel
theorem dX1_runMill_60 : decode cX1_runMill 60 = .ok (.aload_n 1, 1) := by decide +kernel
theorem dX1_runMill_61 : decode cX1_runMill 61 = .ok (.getfield 84, 3) := by decide +kernel
theorem dX1_runMill_64 : decode cX1_runMill 64 = .ok (.i2l, 1) := by decide +kernel
theorem dX1_runMill_65 : decode cX1_runMill 65 = .ok (.aload_n 0, 1) := by decide +kernel
theorem dX1_runMill_66 : decode cX1_runMill 66 = .ok (.getfield 24, 3) := by decide +kernel
theorem dX1_runMill_69 : decode cX1_runMill 69 = .ok (.i2l, 1) := by decide +kernel
theorem dX1_runMill_70 : decode cX1_runMill 70 = .ok (.lmul, 1) := by decide +kernel
theorem dX1_runMill_71 : decode cX1_runMill 71 = .ok (.invokevirtual 117, 3) := by decide +kernel
theorem dX1_runMill_74 : decode cX1_runMill 74 = .ok (.aload_n 1, 1) := by decide +kernel
theorem dX1_runMill_75 : decode cX1_runMill 75 = .ok (.getfield 70, 3) := by decide +kernel
theorem dX1_runMill_78 : decode cX1_runMill 78 = .ok (.aload_n 0, 1) := by decide +kernel
theorem dX1_runMill_79 : decode cX1_runMill 79 = .ok (.getfield 96, 3) := by decide +kernel
theorem dX1_runMill_82 : decode cX1_runMill 82 = .ok (.iload_n 2, 1) := by decide +kernel
theorem dX1_runMill_83 : decode cX1_runMill 83 = .ok (.iastore, 1) := by decide +kernel
theorem dX1_runMill_84 : decode cX1_runMill 84 = .ok (.aload_n 1, 1) := by decide +kernel
theorem dX1_runMill_85 : decode cX1_runMill 85 = .ok (.dup, 1) := by decide +kernel
theorem dX1_runMill_86 : decode cX1_runMill 86 = .ok (.getfield 121, 3) := by decide +kernel
theorem dX1_runMill_89 : decode cX1_runMill 89 = .ok (.iconst 1, 1) := by decide +kernel
theorem dX1_runMill_90 : decode cX1_runMill 90 = .ok (.iadd, 1) := by decide +kernel
theorem dX1_runMill_91 : decode cX1_runMill 91 = .ok (.putfield 121, 3) := by decide +kernel
theorem dX1_runMill_94 : decode cX1_runMill 94 = .ok (.return_, 1) := by decide +kernel
theorem dX1_sellOut_0 : decode cX1_sellOut 0 = .ok (.aload_n 1, 1) := by decide +kernel
theorem dX1_sellOut_1 : decode cX1_sellOut 1 = .ok (.getfield 124, 3) := by decide +kernel
theorem dX1_sellOut_4 : decode cX1_sellOut 4 = .ok (.ifCond .ne 4, 3) := by decide +kernel
theorem dX1_sellOut_7 : decode cX1_sellOut 7 = .ok (.return_, 1) := by decide +kernel
theorem dX1_sellOut_8 : decode cX1_sellOut 8 = .ok (.iconst 0, 1) := by decide +kernel
theorem dX1_sellOut_9 : decode cX1_sellOut 9 = .ok (.istore_n 2, 1) := by decide +kernel
theorem dX1_sellOut_10 : decode cX1_sellOut 10 = .ok (.iload_n 2, 1) := by decide +kernel
theorem dX1_sellOut_11 : decode cX1_sellOut 11 = .ok (.iconst 4, 1) := by decide +kernel
theorem dX1_sellOut_12 : decode cX1_sellOut 12 = .ok (.if_icmp .ge 56, 3) := by decide +kernel
theorem dX1_sellOut_15 : decode cX1_sellOut 15 = .ok (.aload_n 0, 1) := by decide +kernel
theorem dX1_sellOut_16 : decode cX1_sellOut 16 = .ok (.getfield 21, 3) := by decide +kernel
theorem dX1_sellOut_19 : decode cX1_sellOut 19 = .ok (.iload_n 2, 1) := by decide +kernel
theorem dX1_sellOut_20 : decode cX1_sellOut 20 = .ok (.iaload, 1) := by decide +kernel
theorem dX1_sellOut_21 : decode cX1_sellOut 21 = .ok (.aload_n 1, 1) := by decide +kernel
theorem dX1_sellOut_22 : decode cX1_sellOut 22 = .ok (.getfield 124, 3) := by decide +kernel
theorem dX1_sellOut_25 : decode cX1_sellOut 25 = .ok (.if_icmp .lt 37, 3) := by decide +kernel
theorem dX1_sellOut_28 : decode cX1_sellOut 28 = .ok (.aload_n 1, 1) := by decide +kernel
theorem dX1_sellOut_29 : decode cX1_sellOut 29 = .ok (.getfield 74, 3) := by decide +kernel
theorem dX1_sellOut_32 : decode cX1_sellOut 32 = .ok (.iload_n 2, 1) := by decide +kernel
theorem dX1_sellOut_33 : decode cX1_sellOut 33 = .ok (.iconst 0, 1) := by decide +kernel
theorem dX1_sellOut_34 : decode cX1_sellOut 34 = .ok (.invokestatic 127, 3) := by decide +kernel
theorem dX1_sellOut_37 : decode cX1_sellOut 37 = .ok (.istore_n 3, 1) := by decide +kernel
theorem dX1_sellOut_38 : decode cX1_sellOut 38 = .ok (.aload_n 0, 1) := by decide +kernel
theorem dX1_sellOut_39 : decode cX1_sellOut 39 = .ok (.getfield 18, 3) := by decide +kernel
theorem dX1_sellOut_42 : decode cX1_sellOut 42 = .ok (.iload_n 2, 1) := by decide +kernel
theorem dX1_sellOut_43 : decode cX1_sellOut 43 = .ok (.dup2, 1) := by decide +kernel
theorem dX1_sellOut_44 : decode cX1_sellOut 44 = .ok (.iaload, 1) := by decide +kernel
theorem dX1_sellOut_45 : decode cX1_sellOut 45 = .ok (.iload_n 3, 1) := by decide +kernel
theorem dX1_sellOut_46 : decode cX1_sellOut 46 = .ok (.iadd, 1) := by decide +kernel
theorem dX1_sellOut_47 : decode cX1_sellOut 47 = .ok (.iastore, 1) := by decide +kernel
theorem dX1_sellOut_48 : decode cX1_sellOut 48 = .ok (.aload_n 1, 1) := by decide +kernel
theorem dX1_sellOut_49 : decode cX1_sellOut 49 = .ok (.iload_n 3, 1) := by decide +kernel
theorem dX1_sellOut_50 : decode cX1_sellOut 50 = .ok (.i2l, 1) := by decide +kernel
theorem dX1_sellOut_51 : decode cX1_sellOut 51 = .ok (.aload_n 0, 1) := by decide +kernel
theorem dX1_sellOut_52 : decode cX1_sellOut 52 = .ok (.getfield 21, 3) := by decide +kernel
theorem dX1_sellOut_55 : decode cX1_sellOut 55 = .ok (.iload_n 2, 1) := by decide +kernel
theorem dX1_sellOut_56 : decode cX1_sellOut 56 = .ok (.iaload, 1) := by decide +kernel
theorem dX1_sellOut_57 : decode cX1_sellOut 57 = .ok (.i2l, 1) := by decide +kernel
theorem dX1_sellOut_58 : decode cX1_sellOut 58 = .ok (.lmul, 1) := by decide +kernel
theorem dX1_sellOut_59 : decode cX1_sellOut 59 = .ok (.invokevirtual 117, 3) := by decide +kernel
theorem dX1_sellOut_62 : decode cX1_sellOut 62 = .ok (.iinc 2 1, 3) := by decide +kernel
theorem dX1_sellOut_65 : decode cX1_sellOut 65 = .ok (.goto (-55), 3) := by decide +kernel
theorem dX1_sellOut_68 : decode cX1_sellOut 68 = .ok (.return_, 1) := by decide +kernel
theorem dX2_init_0 : decode cX2_init 0 = .ok (.aload_n 0, 1) := by decide +kernel
theorem dX2_init_1 : decode cX2_init 1 = .ok (.invokespecial 3, 3) := by decide +kernel
theorem dX2_init_4 : decode cX2_init 4 = .ok (.aload_n 0, 1) := by decide +kernel
theorem dX2_init_5 : decode cX2_init 5 = .ok (.bipush 8, 2) := by decide +kernel
theorem dX2_init_7 : decode cX2_init 7 = .ok (.newarray .int, 2) := by decide +kernel
theorem dX2_init_9 : decode cX2_init 9 = .ok (.putfield 9, 3) := by decide +kernel
theorem dX2_init_12 : decode cX2_init 12 = .ok (.aload_n 0, 1) := by decide +kernel
theorem dX2_init_13 : decode cX2_init 13 = .ok (.bipush 8, 2) := by decide +kernel
theorem dX2_init_15 : decode cX2_init 15 = .ok (.bipush 8, 2) := by decide +kernel
theorem dX2_init_17 : decode cX2_init 17 = .ok (.multianewarray 15 2, 4) := by decide +kernel
theorem dX2_init_21 : decode cX2_init 21 = .ok (.putfield 17, 3) := by decide +kernel
theorem dX2_init_24 : decode cX2_init 24 = .ok (.aload_n 0, 1) := by decide +kernel
theorem dX2_init_25 : decode cX2_init 25 = .ok (.bipush 8, 2) := by decide +kernel
theorem dX2_init_27 : decode cX2_init 27 = .ok (.newarray .int, 2) := by decide +kernel
theorem dX2_init_29 : decode cX2_init 29 = .ok (.putfield 20, 3) := by decide +kernel
theorem dX2_init_32 : decode cX2_init 32 = .ok (.aload_n 0, 1) := by decide +kernel
theorem dX2_init_33 : decode cX2_init 33 = .ok (.bipush 8, 2) := by decide +kernel
theorem dX2_init_35 : decode cX2_init 35 = .ok (.newarray .int, 2) := by decide +kernel
theorem dX2_init_37 : decode cX2_init 37 = .ok (.putfield 23, 3) := by decide +kernel
theorem dX2_init_40 : decode cX2_init 40 = .ok (.aload_n 0, 1) := by decide +kernel
theorem dX2_init_41 : decode cX2_init 41 = .ok (.bipush 8, 2) := by decide +kernel
theorem dX2_init_43 : decode cX2_init 43 = .ok (.newarray .int, 2) := by decide +kernel
theorem dX2_init_45 : decode cX2_init 45 = .ok (.putfield 26, 3) := by decide +kernel
theorem dX2_init_48 : decode cX2_init 48 = .ok (.return_, 1) := by decide +kernel
theorem dX2_take_0 : decode cX2_take 0 = .ok (.iconst 0, 1) := by decide +kernel
theorem dX2_take_1 : decode cX2_take 1 = .ok (.istore 4, 2) := by decide +kernel
theorem dX2_take_3 : decode cX2_take 3 = .ok (.iload 4, 2) := by decide +kernel
theorem dX2_take_5 : decode cX2_take 5 = .ok (.iload_n 3, 1) := by decide +kernel
theorem dX2_take_6 : decode cX2_take 6 = .ok (.if_icmp .ge 60, 3) := by decide +kernel
theorem dX2_take_9 : decode cX2_take 9 = .ok (.aload_n 0, 1) := by decide +kernel
theorem dX2_take_10 : decode cX2_take 10 = .ok (.getfield 9, 3) := by decide +kernel
theorem dX2_take_13 : decode cX2_take 13 = .ok (.iload 4, 2) := by decide +kernel
theorem dX2_take_15 : decode cX2_take 15 = .ok (.aload_n 1, 1) := by decide +kernel
theorem dX2_take_16 : decode cX2_take 16 = .ok (.iload_n 2, 1) := by decide +kernel
theorem dX2_take_17 : decode cX2_take 17 = .ok (.iload 4, 2) := by decide +kernel
theorem dX2_take_19 : decode cX2_take 19 = .ok (.iadd, 1) := by decide +kernel
theorem dX2_take_20 : decode cX2_take 20 = .ok (.iaload, 1) := by decide +kernel
theorem dX2_take_21 : decode cX2_take 21 = .ok (.iastore, 1) := by decide +kernel
theorem dX2_take_22 : decode cX2_take 22 = .ok (.aload_n 0, 1) := by decide +kernel
theorem dX2_take_23 : decode cX2_take 23 = .ok (.getfield 9, 3) := by decide +kernel
theorem dX2_take_26 : decode cX2_take 26 = .ok (.iload 4, 2) := by decide +kernel
theorem dX2_take_28 : decode cX2_take 28 = .ok (.iaload, 1) := by decide +kernel
theorem dX2_take_29 : decode cX2_take 29 = .ok (.iconst 0, 1) := by decide +kernel
theorem dX2_take_30 : decode cX2_take 30 = .ok (.sipush 1000, 3) := by decide +kernel
theorem dX2_take_33 : decode cX2_take 33 = .ok (.invokestatic 29, 3) := by decide +kernel
theorem dX2_take_36 : decode cX2_take 36 = .ok (.ifCond .eq 22, 3) := by decide +kernel
theorem dX2_take_39 : decode cX2_take 39 = .ok (.aload_n 0, 1) := by decide +kernel
theorem dX2_take_40 : decode cX2_take 40 = .ok (.aload_n 1, 1) := by decide +kernel
theorem dX2_take_41 : decode cX2_take 41 = .ok (.iload_n 2, 1) := by decide +kernel
theorem dX2_take_42 : decode cX2_take 42 = .ok (.iload_n 3, 1) := by decide +kernel
theorem dX2_take_43 : decode cX2_take 43 = .ok (.iadd, 1) := by decide +kernel
theorem dX2_take_44 : decode cX2_take 44 = .ok (.iload 4, 2) := by decide +kernel
theorem dX2_take_46 : decode cX2_take 46 = .ok (.iload_n 3, 1) := by decide +kernel
theorem dX2_take_47 : decode cX2_take 47 = .ok (.imul, 1) := by decide +kernel
theorem dX2_take_48 : decode cX2_take 48 = .ok (.iadd, 1) := by decide +kernel
theorem dX2_take_49 : decode cX2_take 49 = .ok (.iload 4, 2) := by decide +kernel
theorem dX2_take_51 : decode cX2_take 51 = .ok (.iload_n 3, 1) := by decide +kernel
theorem dX2_take_52 : decode cX2_take 52 = .ok (.invokevirtual 33, 3) := by decide +kernel
theorem dX2_take_55 : decode cX2_take 55 = .ok (.ifCond .ne 5, 3) := by decide +kernel
theorem dX2_take_58 : decode cX2_take 58 = .ok (.iconst 0, 1) := by decide +kernel
theorem dX2_take_59 : decode cX2_take 59 = .ok (.ireturn, 1) := by decide +kernel
theorem dX2_take_60 : decode cX2_take 60 = .ok (.iinc 4 1, 3) := by decide +kernel
theorem dX2_take_63 : decode cX2_take 63 = .ok (.goto (-60), 3) := by decide +kernel
theorem dX2_take_66 : decode cX2_take 66 = .ok (.iconst 1, 1) := by decide +kernel
theorem dX2_take_67 : decode cX2_take 67 = .ok (.ireturn, 1) := by decide +kernel
theorem dX2_takeRow_0 : decode cX2_takeRow 0 = .ok (.aload_n 0, 1) := by decide +kernel
theorem dX2_takeRow_1 : decode cX2_takeRow 1 = .ok (.getfield 20, 3) := by decide +kernel
theorem dX2_takeRow_4 : decode cX2_takeRow 4 = .ok (.iload_n 3, 1) := by decide +kernel
theorem dX2_takeRow_5 : decode cX2_takeRow 5 = .ok (.iconst 0, 1) := by decide +kernel
theorem dX2_takeRow_6 : decode cX2_takeRow 6 = .ok (.iastore, 1) := by decide +kernel
theorem dX2_takeRow_7 : decode cX2_takeRow 7 = .ok (.iconst 0, 1) := by decide +kernel
theorem dX2_takeRow_8 : decode cX2_takeRow 8 = .ok (.istore 5, 2) := by decide +kernel
theorem dX2_takeRow_10 : decode cX2_takeRow 10 = .ok (.iload 5, 2) := by decide +kernel
theorem dX2_takeRow_12 : decode cX2_takeRow 12 = .ok (.iload 4, 2) := by decide +kernel
theorem dX2_takeRow_14 : decode cX2_takeRow 14 = .ok (.if_icmp .ge 63, 3) := by decide +kernel
theorem dX2_takeRow_17 : decode cX2_takeRow 17 = .ok (.aload_n 1, 1) := by decide +kernel
theorem dX2_takeRow_18 : decode cX2_takeRow 18 = .ok (.iload_n 2, 1) := by decide +kernel
theorem dX2_takeRow_19 : decode cX2_takeRow 19 = .ok (.iload 5, 2) := by decide +kernel
theorem dX2_takeRow_21 : decode cX2_takeRow 21 = .ok (.iadd, 1) := by decide +kernel
theorem dX2_takeRow_22 : decode cX2_takeRow 22 = .ok (.iaload, 1) := by decide +kernel
theorem dX2_takeRow_23 : decode cX2_takeRow 23 = .ok (.istore 6, 2) := by decide +kernel
theorem dX2_takeRow_25 : decode cX2_takeRow 25 = .ok (.iload 6, 2) := by decide +kernel
theorem dX2_takeRow_27 : decode cX2_takeRow 27 = .ok (.iconst 0, 1) := by decide +kernel
theorem dX2_takeRow_28 : decode cX2_takeRow 28 = .ok (.iload 5, 2) := by decide +kernel
theorem dX2_takeRow_30 : decode cX2_takeRow 30 = .ok (.iload_n 3, 1) := by decide +kernel
theorem dX2_takeRow_31 : decode cX2_takeRow 31 = .ok (.if_icmp .ne 7, 3) := by decide +kernel
theorem dX2_takeRow_34 : decode cX2_takeRow 34 = .ok (.iconst 0, 1) := by decide +kernel
theorem dX2_takeRow_35 : decode cX2_takeRow 35 = .ok (.goto 6, 3) := by decide +kernel
theorem dX2_takeRow_38 : decode cX2_takeRow 38 = .ok (.sipush 1000, 3) := by decide +kernel
theorem dX2_takeRow_41 : decode cX2_takeRow 41 = .ok (.invokestatic 29, 3) := by decide +kernel
theorem dX2_takeRow_44 : decode cX2_takeRow 44 = .ok (.ifCond .ne 5, 3) := by decide +kernel
theorem dX2_takeRow_47 : decode cX2_takeRow 47 = .ok (.iconst 0, 1) := by decide +kernel
theorem dX2_takeRow_48 : decode cX2_takeRow 48 = .ok (.ireturn, 1) := by decide +kernel
theorem dX2_takeRow_49 : decode cX2_takeRow 49 = .ok (.aload_n 0, 1) := by decide +kernel
theorem dX2_takeRow_50 : decode cX2_takeRow 50 = .ok (.getfield 17, 3) := by decide +kernel
theorem dX2_takeRow_53 : decode cX2_takeRow 53 = .ok (.iload_n 3, 1) := by decide +kernel
theorem dX2_takeRow_54 : decode cX2_takeRow 54 = .ok (.aaload, 1) := by decide +kernel
theorem dX2_takeRow_55 : decode cX2_takeRow 55 = .ok (.iload 5, 2) := by decide +kernel
theorem dX2_takeRow_57 : decode cX2_takeRow 57 = .ok (.iload 6, 2) := by decide +kernel
theorem dX2_takeRow_59 : decode cX2_takeRow 59 = .ok (.iastore, 1) := by decide +kernel
theorem dX2_takeRow_60 : decode cX2_takeRow 60 = .ok (.aload_n 0, 1) := by decide +kernel
theorem dX2_takeRow_61 : decode cX2_takeRow 61 = .ok (.getfield 20, 3) := by decide +kernel
theorem dX2_takeRow_64 : decode cX2_takeRow 64 = .ok (.iload_n 3, 1) := by decide +kernel
theorem dX2_takeRow_65 : decode cX2_takeRow 65 = .ok (.dup2, 1) := by decide +kernel
theorem dX2_takeRow_66 : decode cX2_takeRow 66 = .ok (.iaload, 1) := by decide +kernel
theorem dX2_takeRow_67 : decode cX2_takeRow 67 = .ok (.iload 6, 2) := by decide +kernel
theorem dX2_takeRow_69 : decode cX2_takeRow 69 = .ok (.iadd, 1) := by decide +kernel
theorem dX2_takeRow_70 : decode cX2_takeRow 70 = .ok (.iastore, 1) := by decide +kernel
theorem dX2_takeRow_71 : decode cX2_takeRow 71 = .ok (.iinc 5 1, 3) := by decide +kernel
theorem dX2_takeRow_74 : decode cX2_takeRow 74 = .ok (.goto (-64), 3) := by decide +kernel
theorem dX2_takeRow_77 : decode cX2_takeRow 77 = .ok (.iconst 1, 1) := by decide +kernel
theorem dX2_takeRow_78 : decode cX2_takeRow 78 = .ok (.ireturn, 1) := by decide +kernel
theorem dX2_settle_0 : decode cX2_settle 0 = .ok (.aload_n 0, 1) := by decide +kernel
theorem dX2_settle_1 : decode cX2_settle 1 = .ok (.getfield 20, 3) := by decide +kernel
theorem dX2_settle_4 : decode cX2_settle 4 = .ok (.iconst 0, 1) := by decide +kernel
theorem dX2_settle_5 : decode cX2_settle 5 = .ok (.aload_n 0, 1) := by decide +kernel
theorem dX2_settle_6 : decode cX2_settle 6 = .ok (.getfield 23, 3) := by decide +kernel
theorem dX2_settle_9 : decode cX2_settle 9 = .ok (.iconst 0, 1) := by decide +kernel
theorem dX2_settle_10 : decode cX2_settle 10 = .ok (.iload_n 1, 1) := by decide +kernel
theorem dX2_settle_11 : decode cX2_settle 11 = .ok (.invokestatic 37, 3) := by decide +kernel
theorem dX2_settle_14 : decode cX2_settle 14 = .ok (.iconst 0, 1) := by decide +kernel
theorem dX2_settle_15 : decode cX2_settle 15 = .ok (.istore_n 2, 1) := by decide +kernel
theorem dX2_settle_16 : decode cX2_settle 16 = .ok (.iload_n 2, 1) := by decide +kernel
theorem dX2_settle_17 : decode cX2_settle 17 = .ok (.ldc 43, 2) := by decide +kernel
theorem dX2_settle_19 : decode cX2_settle 19 = .ok (.if_icmp .ge 17, 3) := by decide +kernel
theorem dX2_settle_22 : decode cX2_settle 22 = .ok (.aload_n 0, 1) := by decide +kernel
theorem dX2_settle_23 : decode cX2_settle 23 = .ok (.iload_n 1, 1) := by decide +kernel
theorem dX2_settle_24 : decode cX2_settle 24 = .ok (.invokevirtual 44, 3) := by decide +kernel
theorem dX2_settle_27 : decode cX2_settle 27 = .ok (.ifCond .eq 9, 3) := by decide +kernel
theorem dX2_settle_30 : decode cX2_settle 30 = .ok (.iinc 2 1, 3) := by decide +kernel
theorem dX2_settle_33 : decode cX2_settle 33 = .ok (.goto (-17), 3) := by decide +kernel
theorem dX2_settle_36 : decode cX2_settle 36 = .ok (.iload_n 2, 1) := by decide +kernel
theorem dX2_settle_37 : decode cX2_settle 37 = .ok (.ireturn, 1) := by decide +kernel
theorem dX2_roundChanges_0 : decode cX2_roundChanges 0 = .ok (.iconst 0, 1) := by decide +kernel
theorem dX2_roundChanges_1 : decode cX2_roundChanges 1 = .ok (.istore_n 2, 1) := by decide +kernel
theorem dX2_roundChanges_2 : decode cX2_roundChanges 2 = .ok (.iconst 0, 1) := by decide +kernel
theorem dX2_roundChanges_3 : decode cX2_roundChanges 3 = .ok (.istore_n 3, 1) := by decide +kernel
theorem dX2_roundChanges_4 : decode cX2_roundChanges 4 = .ok (.iload_n 3, 1) := by decide +kernel
theorem dX2_roundChanges_5 : decode cX2_roundChanges 5 = .ok (.iload_n 1, 1) := by decide +kernel
theorem dX2_roundChanges_6 : decode cX2_roundChanges 6 = .ok (.if_icmp .ge 62, 3) := by decide +kernel
theorem dX2_roundChanges_9 : decode cX2_roundChanges 9 = .ok (.aload_n 0, 1) := by decide +kernel
theorem dX2_roundChanges_10 : decode cX2_roundChanges 10 = .ok (.getfield 26, 3) := by decide +kernel
theorem dX2_roundChanges_13 : decode cX2_roundChanges 13 = .ok (.iload_n 3, 1) := by decide +kernel
theorem dX2_roundChanges_14 : decode cX2_roundChanges 14 = .ok (.aload_n 0, 1) := by decide +kernel
theorem dX2_roundChanges_15 : decode cX2_roundChanges 15 = .ok (.getfield 20, 3) := by decide +kernel
theorem dX2_roundChanges_18 : decode cX2_roundChanges 18 = .ok (.iload_n 3, 1) := by decide +kernel
theorem dX2_roundChanges_19 : decode cX2_roundChanges 19 = .ok (.iaload, 1) := by decide +kernel
theorem dX2_roundChanges_20 : decode cX2_roundChanges 20 = .ok (.aload_n 0, 1) := by decide +kernel
theorem dX2_roundChanges_21 : decode cX2_roundChanges 21 = .ok (.getfield 9, 3) := by decide +kernel
theorem dX2_roundChanges_24 : decode cX2_roundChanges 24 = .ok (.iload_n 3, 1) := by decide +kernel
theorem dX2_roundChanges_25 : decode cX2_roundChanges 25 = .ok (.iaload, 1) := by decide +kernel
theorem dX2_roundChanges_26 : decode cX2_roundChanges 26 = .ok (.aload_n 0, 1) := by decide +kernel
theorem dX2_roundChanges_27 : decode cX2_roundChanges 27 = .ok (.iload_n 3, 1) := by decide +kernel
theorem dX2_roundChanges_28 : decode cX2_roundChanges 28 = .ok (.iload_n 1, 1) := by decide +kernel
theorem dX2_roundChanges_29 : decode cX2_roundChanges 29 = .ok (.invokevirtual 48, 3) := by decide +kernel
theorem dX2_roundChanges_32 : decode cX2_roundChanges 32 = .ok (.iadd, 1) := by decide +kernel
theorem dX2_roundChanges_33 : decode cX2_roundChanges 33 = .ok (.invokestatic 52, 3) := by decide +kernel
theorem dX2_roundChanges_36 : decode cX2_roundChanges 36 = .ok (.iastore, 1) := by decide +kernel
theorem dX2_roundChanges_37 : decode cX2_roundChanges 37 = .ok (.iload_n 2, 1) := by decide +kernel
theorem dX2_roundChanges_38 : decode cX2_roundChanges 38 = .ok (.ifCond .ne 18, 3) := by decide +kernel
theorem dX2_roundChanges_41 : decode cX2_roundChanges 41 = .ok (.aload_n 0, 1) := by decide +kernel
theorem dX2_roundChanges_42 : decode cX2_roundChanges 42 = .ok (.getfield 26, 3) := by decide +kernel
theorem dX2_roundChanges_45 : decode cX2_roundChanges 45 = .ok (.iload_n 3, 1) := by decide +kernel
theorem dX2_roundChanges_46 : decode cX2_roundChanges 46 = .ok (.iaload, 1) := by decide +kernel
theorem dX2_roundChanges_47 : decode cX2_roundChanges 47 = .ok (.aload_n 0, 1) := by decide +kernel
theorem dX2_roundChanges_48 : decode cX2_roundChanges 48 = .ok (.getfield 23, 3) := by decide +kernel
theorem dX2_roundChanges_51 : decode cX2_roundChanges 51 = .ok (.iload_n 3, 1) := by decide +kernel
theorem dX2_roundChanges_52 : decode cX2_roundChanges 52 = .ok (.iaload, 1) := by decide +kernel
theorem dX2_roundChanges_53 : decode cX2_roundChanges 53 = .ok (.if_icmp .eq 7, 3) := by decide +kernel
theorem dX2_roundChanges_56 : decode cX2_roundChanges 56 = .ok (.iconst 1, 1) := by decide +kernel
theorem dX2_roundChanges_57 : decode cX2_roundChanges 57 = .ok (.goto 4, 3) := by decide +kernel
theorem dX2_roundChanges_60 : decode cX2_roundChanges 60 = .ok (.iconst 0, 1) := by decide +kernel
theorem dX2_roundChanges_61 : decode cX2_roundChanges 61 = .ok (.istore_n 2, 1) := by decide +kernel
theorem dX2_roundChanges_62 : decode cX2_roundChanges 62 = .ok (.iinc 3 1, 3) := by decide +kernel
theorem dX2_roundChanges_65 : decode cX2_roundChanges 65 = .ok (.goto (-61), 3) := by decide +kernel
theorem dX2_roundChanges_68 : decode cX2_roundChanges 68 = .ok (.aload_n 0, 1) := by decide +kernel
theorem dX2_roundChanges_69 : decode cX2_roundChanges 69 = .ok (.getfield 26, 3) := by decide +kernel
theorem dX2_roundChanges_72 : decode cX2_roundChanges 72 = .ok (.iconst 0, 1) := by decide +kernel
theorem dX2_roundChanges_73 : decode cX2_roundChanges 73 = .ok (.aload_n 0, 1) := by decide +kernel
theorem dX2_roundChanges_74 : decode cX2_roundChanges 74 = .ok (.getfield 23, 3) := by decide +kernel
theorem dX2_roundChanges_77 : decode cX2_roundChanges 77 = .ok (.iconst 0, 1) := by decide +kernel
theorem dX2_roundChanges_78 : decode cX2_roundChanges 78 = .ok (.iload_n 1, 1) := by decide +kernel
theorem dX2_roundChanges_79 : decode cX2_roundChanges 79 = .ok (.invokestatic 37, 3) := by decide +kernel
theorem dX2_roundChanges_82 : decode cX2_roundChanges 82 = .ok (.iload_n 2, 1) := by decide +kernel
theorem dX2_roundChanges_83 : decode cX2_roundChanges 83 = .ok (.ireturn, 1) := by decide +kernel
theorem dX2_paidTo_0 : decode cX2_paidTo 0 = .ok (.iconst 0, 1) := by decide +kernel
theorem dX2_paidTo_1 : decode cX2_paidTo 1 = .ok (.istore_n 3, 1) := by decide +kernel
theorem dX2_paidTo_2 : decode cX2_paidTo 2 = .ok (.iconst 0, 1) := by decide +kernel
theorem dX2_paidTo_3 : decode cX2_paidTo 3 = .ok (.istore 4, 2) := by decide +kernel
theorem dX2_paidTo_5 : decode cX2_paidTo 5 = .ok (.iload 4, 2) := by decide +kernel
theorem dX2_paidTo_7 : decode cX2_paidTo 7 = .ok (.iload_n 2, 1) := by decide +kernel
theorem dX2_paidTo_8 : decode cX2_paidTo 8 = .ok (.if_icmp .ge 53, 3) := by decide +kernel
theorem dX2_paidTo_11 : decode cX2_paidTo 11 = .ok (.iload 4, 2) := by decide +kernel
theorem dX2_paidTo_13 : decode cX2_paidTo 13 = .ok (.iload_n 1, 1) := by decide +kernel
theorem dX2_paidTo_14 : decode cX2_paidTo 14 = .ok (.if_icmp .eq 41, 3) := by decide +kernel
theorem dX2_paidTo_17 : decode cX2_paidTo 17 = .ok (.aload_n 0, 1) := by decide +kernel
theorem dX2_paidTo_18 : decode cX2_paidTo 18 = .ok (.getfield 20, 3) := by decide +kernel
theorem dX2_paidTo_21 : decode cX2_paidTo 21 = .ok (.iload 4, 2) := by decide +kernel
theorem dX2_paidTo_23 : decode cX2_paidTo 23 = .ok (.iaload, 1) := by decide +kernel
theorem dX2_paidTo_24 : decode cX2_paidTo 24 = .ok (.ifCond .le 31, 3) := by decide +kernel
theorem dX2_paidTo_27 : decode cX2_paidTo 27 = .ok (.iload_n 3, 1) := by decide +kernel
theorem dX2_paidTo_28 : decode cX2_paidTo 28 = .ok (.aload_n 0, 1) := by decide +kernel
theorem dX2_paidTo_29 : decode cX2_paidTo 29 = .ok (.getfield 23, 3) := by decide +kernel
theorem dX2_paidTo_32 : decode cX2_paidTo 32 = .ok (.iload 4, 2) := by decide +kernel
theorem dX2_paidTo_34 : decode cX2_paidTo 34 = .ok (.iaload, 1) := by decide +kernel
theorem dX2_paidTo_35 : decode cX2_paidTo 35 = .ok (.aload_n 0, 1) := by decide +kernel
theorem dX2_paidTo_36 : decode cX2_paidTo 36 = .ok (.getfield 17, 3) := by decide +kernel
theorem dX2_paidTo_39 : decode cX2_paidTo 39 = .ok (.iload 4, 2) := by decide +kernel
theorem dX2_paidTo_41 : decode cX2_paidTo 41 = .ok (.aaload, 1) := by decide +kernel
theorem dX2_paidTo_42 : decode cX2_paidTo 42 = .ok (.iload_n 1, 1) := by decide +kernel
theorem dX2_paidTo_43 : decode cX2_paidTo 43 = .ok (.iaload, 1) := by decide +kernel
theorem dX2_paidTo_44 : decode cX2_paidTo 44 = .ok (.imul, 1) := by decide +kernel
theorem dX2_paidTo_45 : decode cX2_paidTo 45 = .ok (.aload_n 0, 1) := by decide +kernel
theorem dX2_paidTo_46 : decode cX2_paidTo 46 = .ok (.getfield 20, 3) := by decide +kernel
theorem dX2_paidTo_49 : decode cX2_paidTo 49 = .ok (.iload 4, 2) := by decide +kernel
theorem dX2_paidTo_51 : decode cX2_paidTo 51 = .ok (.iaload, 1) := by decide +kernel
theorem dX2_paidTo_52 : decode cX2_paidTo 52 = .ok (.idiv, 1) := by decide +kernel
theorem dX2_paidTo_53 : decode cX2_paidTo 53 = .ok (.iadd, 1) := by decide +kernel
theorem dX2_paidTo_54 : decode cX2_paidTo 54 = .ok (.istore_n 3, 1) := by decide +kernel
theorem dX2_paidTo_55 : decode cX2_paidTo 55 = .ok (.iinc 4 1, 3) := by decide +kernel
theorem dX2_paidTo_58 : decode cX2_paidTo 58 = .ok (.goto (-53), 3) := by decide +kernel
theorem dX2_paidTo_61 : decode cX2_paidTo 61 = .ok (.iload_n 3, 1) := by decide +kernel
theorem dX2_paidTo_62 : decode cX2_paidTo 62 = .ok (.ireturn, 1) := by decide +kernel
theorem dX3_init_0 : decode cX3_init 0 = .ok (.aload_n 0, 1) := by decide +kernel
theorem dX3_init_1 : decode cX3_init 1 = .ok (.invokespecial 3, 3) := by decide +kernel
theorem dX3_init_4 : decode cX3_init 4 = .ok (.aload_n 0, 1) := by decide +kernel
theorem dX3_init_5 : decode cX3_init 5 = .ok (.iconst 4, 1) := by decide +kernel
theorem dX3_init_6 : decode cX3_init 6 = .ok (.newarray .int, 2) := by decide +kernel
theorem dX3_init_8 : decode cX3_init 8 = .ok (.putfield 9, 3) := by decide +kernel
theorem dX3_init_11 : decode cX3_init 11 = .ok (.aload_n 0, 1) := by decide +kernel
theorem dX3_init_12 : decode cX3_init 12 = .ok (.aload_n 1, 1) := by decide +kernel
theorem dX3_init_13 : decode cX3_init 13 = .ok (.iload_n 2, 1) := by decide +kernel
theorem dX3_init_14 : decode cX3_init 14 = .ok (.iaload, 1) := by decide +kernel
theorem dX3_init_15 : decode cX3_init 15 = .ok (.putfield 15, 3) := by decide +kernel
theorem dX3_init_18 : decode cX3_init 18 = .ok (.aload_n 0, 1) := by decide +kernel
theorem dX3_init_19 : decode cX3_init 19 = .ok (.aload_n 1, 1) := by decide +kernel
theorem dX3_init_20 : decode cX3_init 20 = .ok (.iload_n 2, 1) := by decide +kernel
theorem dX3_init_21 : decode cX3_init 21 = .ok (.iconst 1, 1) := by decide +kernel
theorem dX3_init_22 : decode cX3_init 22 = .ok (.iadd, 1) := by decide +kernel
theorem dX3_init_23 : decode cX3_init 23 = .ok (.iaload, 1) := by decide +kernel
theorem dX3_init_24 : decode cX3_init 24 = .ok (.putfield 19, 3) := by decide +kernel
theorem dX3_init_27 : decode cX3_init 27 = .ok (.aload_n 0, 1) := by decide +kernel
theorem dX3_init_28 : decode cX3_init 28 = .ok (.aload_n 1, 1) := by decide +kernel
theorem dX3_init_29 : decode cX3_init 29 = .ok (.iload_n 2, 1) := by decide +kernel
theorem dX3_init_30 : decode cX3_init 30 = .ok (.iconst 2, 1) := by decide +kernel
theorem dX3_init_31 : decode cX3_init 31 = .ok (.iadd, 1) := by decide +kernel
theorem dX3_init_32 : decode cX3_init 32 = .ok (.iaload, 1) := by decide +kernel
theorem dX3_init_33 : decode cX3_init 33 = .ok (.putfield 22, 3) := by decide +kernel
theorem dX3_init_36 : decode cX3_init 36 = .ok (.aload_n 0, 1) := by decide +kernel
theorem dX3_init_37 : decode cX3_init 37 = .ok (.aload_n 1, 1) := by decide +kernel
theorem dX3_init_38 : decode cX3_init 38 = .ok (.iload_n 2, 1) := by decide +kernel
theorem dX3_init_39 : decode cX3_init 39 = .ok (.iconst 3, 1) := by decide +kernel
theorem dX3_init_40 : decode cX3_init 40 = .ok (.iadd, 1) := by decide +kernel
theorem dX3_init_41 : decode cX3_init 41 = .ok (.iaload, 1) := by decide +kernel
theorem dX3_init_42 : decode cX3_init 42 = .ok (.putfield 25, 3) := by decide +kernel
theorem dX3_init_45 : decode cX3_init 45 = .ok (.aload_n 0, 1) := by decide +kernel
theorem dX3_init_46 : decode cX3_init 46 = .ok (.aload_n 1, 1) := by decide +kernel
theorem dX3_init_47 : decode cX3_init 47 = .ok (.iload_n 2, 1) := by decide +kernel
theorem dX3_init_48 : decode cX3_init 48 = .ok (.iconst 4, 1) := by decide +kernel
theorem dX3_init_49 : decode cX3_init 49 = .ok (.iadd, 1) := by decide +kernel
theorem dX3_init_50 : decode cX3_init 50 = .ok (.iaload, 1) := by decide +kernel
theorem dX3_init_51 : decode cX3_init 51 = .ok (.putfield 28, 3) := by decide +kernel
theorem dX3_init_54 : decode cX3_init 54 = .ok (.aload_n 1, 1) := by decide +kernel
theorem dX3_init_55 : decode cX3_init 55 = .ok (.iload_n 2, 1) := by decide +kernel
theorem dX3_init_56 : decode cX3_init 56 = .ok (.iconst 5, 1) := by decide +kernel
theorem dX3_init_57 : decode cX3_init 57 = .ok (.iadd, 1) := by decide +kernel
theorem dX3_init_58 : decode cX3_init 58 = .ok (.aload_n 0, 1) := by decide +kernel
theorem dX3_init_59 : decode cX3_init 59 = .ok (.getfield 9, 3) := by decide +kernel
theorem dX3_init_62 : decode cX3_init 62 = .ok (.iconst 0, 1) := by decide +kernel
theorem dX3_init_63 : decode cX3_init 63 = .ok (.iconst 4, 1) := by decide +kernel
theorem dX3_init_64 : decode cX3_init 64 = .ok (.invokestatic 31, 3) := by decide +kernel
theorem dX3_init_67 : decode cX3_init 67 = .ok (.return_, 1) := by decide +kernel
theorem dX3_spend_0 : decode cX3_spend 0 = .ok (.aload_n 0, 1) := by decide +kernel
theorem dX3_spend_1 : decode cX3_spend 1 = .ok (.dup, 1) := by decide +kernel
theorem dX3_spend_2 : decode cX3_spend 2 = .ok (.getfield 25, 3) := by decide +kernel
theorem dX3_spend_5 : decode cX3_spend 5 = .ok (.aload_n 0, 1) := by decide +kernel
theorem dX3_spend_6 : decode cX3_spend 6 = .ok (.getfield 19, 3) := by decide +kernel
theorem dX3_spend_9 : decode cX3_spend 9 = .ok (.iload_n 1, 1) := by decide +kernel
theorem dX3_spend_10 : decode cX3_spend 10 = .ok (.imul, 1) := by decide +kernel
theorem dX3_spend_11 : decode cX3_spend 11 = .ok (.aload_n 0, 1) := by decide +kernel
theorem dX3_spend_12 : decode cX3_spend 12 = .ok (.getfield 28, 3) := by decide +kernel
theorem dX3_spend_15 : decode cX3_spend 15 = .ok (.iadd, 1) := by decide +kernel
theorem dX3_spend_16 : decode cX3_spend 16 = .ok (.isub, 1) := by decide +kernel
theorem dX3_spend_17 : decode cX3_spend 17 = .ok (.putfield 25, 3) := by decide +kernel
theorem dX3_spend_20 : decode cX3_spend 20 = .ok (.return_, 1) := by decide +kernel
theorem dX3_beRelieved_0 : decode cX3_beRelieved 0 = .ok (.aload_n 0, 1) := by decide +kernel
theorem dX3_beRelieved_1 : decode cX3_beRelieved 1 = .ok (.getfield 25, 3) := by decide +kernel
theorem dX3_beRelieved_4 : decode cX3_beRelieved 4 = .ok (.istore 5, 2) := by decide +kernel
theorem dX3_beRelieved_6 : decode cX3_beRelieved 6 = .ok (.iconst 0, 1) := by decide +kernel
theorem dX3_beRelieved_7 : decode cX3_beRelieved 7 = .ok (.istore 6, 2) := by decide +kernel
theorem dX3_beRelieved_9 : decode cX3_beRelieved 9 = .ok (.iload 6, 2) := by decide +kernel
theorem dX3_beRelieved_11 : decode cX3_beRelieved 11 = .ok (.iload 4, 2) := by decide +kernel
theorem dX3_beRelieved_13 : decode cX3_beRelieved 13 = .ok (.if_icmp .ge 23, 3) := by decide +kernel
theorem dX3_beRelieved_16 : decode cX3_beRelieved 16 = .ok (.iload 5, 2) := by decide +kernel
theorem dX3_beRelieved_18 : decode cX3_beRelieved 18 = .ok (.aload_n 0, 1) := by decide +kernel
theorem dX3_beRelieved_19 : decode cX3_beRelieved 19 = .ok (.getfield 9, 3) := by decide +kernel
theorem dX3_beRelieved_22 : decode cX3_beRelieved 22 = .ok (.aload_n 3, 1) := by decide +kernel
theorem dX3_beRelieved_23 : decode cX3_beRelieved 23 = .ok (.iload 6, 2) := by decide +kernel
theorem dX3_beRelieved_25 : decode cX3_beRelieved 25 = .ok (.iaload, 1) := by decide +kernel
theorem dX3_beRelieved_26 : decode cX3_beRelieved 26 = .ok (.iaload, 1) := by decide +kernel
theorem dX3_beRelieved_27 : decode cX3_beRelieved 27 = .ok (.iadd, 1) := by decide +kernel
theorem dX3_beRelieved_28 : decode cX3_beRelieved 28 = .ok (.istore 5, 2) := by decide +kernel
theorem dX3_beRelieved_30 : decode cX3_beRelieved 30 = .ok (.iinc 6 1, 3) := by decide +kernel
theorem dX3_beRelieved_33 : decode cX3_beRelieved 33 = .ok (.goto (-24), 3) := by decide +kernel
theorem dX3_beRelieved_36 : decode cX3_beRelieved 36 = .ok (.iload 5, 2) := by decide +kernel
theorem dX3_beRelieved_38 : decode cX3_beRelieved 38 = .ok (.iload_n 2, 1) := by decide +kernel
theorem dX3_beRelieved_39 : decode cX3_beRelieved 39 = .ok (.if_icmp .gt 33, 3) := by decide +kernel
theorem dX3_beRelieved_42 : decode cX3_beRelieved 42 = .ok (.aload_n 0, 1) := by decide +kernel
theorem dX3_beRelieved_43 : decode cX3_beRelieved 43 = .ok (.dup, 1) := by decide +kernel
theorem dX3_beRelieved_44 : decode cX3_beRelieved 44 = .ok (.getfield 25, 3) := by decide +kernel
theorem dX3_beRelieved_47 : decode cX3_beRelieved 47 = .ok (.iload_n 1, 1) := by decide +kernel
theorem dX3_beRelieved_48 : decode cX3_beRelieved 48 = .ok (.aload_n 0, 1) := by decide +kernel
theorem dX3_beRelieved_49 : decode cX3_beRelieved 49 = .ok (.getfield 19, 3) := by decide +kernel
theorem dX3_beRelieved_52 : decode cX3_beRelieved 52 = .ok (.imul, 1) := by decide +kernel
theorem dX3_beRelieved_53 : decode cX3_beRelieved 53 = .ok (.iadd, 1) := by decide +kernel
theorem dX3_beRelieved_54 : decode cX3_beRelieved 54 = .ok (.putfield 25, 3) := by decide +kernel
theorem dX3_beRelieved_57 : decode cX3_beRelieved 57 = .ok (.aload_n 0, 1) := by decide +kernel
theorem dX3_beRelieved_58 : decode cX3_beRelieved 58 = .ok (.dup, 1) := by decide +kernel
theorem dX3_beRelieved_59 : decode cX3_beRelieved 59 = .ok (.getfield 37, 3) := by decide +kernel
theorem dX3_beRelieved_62 : decode cX3_beRelieved 62 = .ok (.iload_n 1, 1) := by decide +kernel
theorem dX3_beRelieved_63 : decode cX3_beRelieved 63 = .ok (.aload_n 0, 1) := by decide +kernel
theorem dX3_beRelieved_64 : decode cX3_beRelieved 64 = .ok (.getfield 19, 3) := by decide +kernel
theorem dX3_beRelieved_67 : decode cX3_beRelieved 67 = .ok (.imul, 1) := by decide +kernel
theorem dX3_beRelieved_68 : decode cX3_beRelieved 68 = .ok (.iadd, 1) := by decide +kernel
theorem dX3_beRelieved_69 : decode cX3_beRelieved 69 = .ok (.putfield 37, 3) := by decide +kernel
theorem dX3_beRelieved_72 : decode cX3_beRelieved 72 = .ok (.return_, 1) := by decide +kernel
theorem dX3_sellGoods_0 : decode cX3_sellGoods 0 = .ok (.iconst 0, 1) := by decide +kernel
theorem dX3_sellGoods_1 : decode cX3_sellGoods 1 = .ok (.istore_n 2, 1) := by decide +kernel
theorem dX3_sellGoods_2 : decode cX3_sellGoods 2 = .ok (.iload_n 2, 1) := by decide +kernel
theorem dX3_sellGoods_3 : decode cX3_sellGoods 3 = .ok (.iconst 4, 1) := by decide +kernel
theorem dX3_sellGoods_4 : decode cX3_sellGoods 4 = .ok (.if_icmp .ge 36, 3) := by decide +kernel
theorem dX3_sellGoods_7 : decode cX3_sellGoods 7 = .ok (.aload_n 0, 1) := by decide +kernel
theorem dX3_sellGoods_8 : decode cX3_sellGoods 8 = .ok (.getfield 25, 3) := by decide +kernel
theorem dX3_sellGoods_11 : decode cX3_sellGoods 11 = .ok (.ifCond .ge 29, 3) := by decide +kernel
theorem dX3_sellGoods_14 : decode cX3_sellGoods 14 = .ok (.aload_n 0, 1) := by decide +kernel
theorem dX3_sellGoods_15 : decode cX3_sellGoods 15 = .ok (.dup, 1) := by decide +kernel
theorem dX3_sellGoods_16 : decode cX3_sellGoods 16 = .ok (.getfield 25, 3) := by decide +kernel
theorem dX3_sellGoods_19 : decode cX3_sellGoods 19 = .ok (.aload_n 0, 1) := by decide +kernel
theorem dX3_sellGoods_20 : decode cX3_sellGoods 20 = .ok (.getfield 9, 3) := by decide +kernel
theorem dX3_sellGoods_23 : decode cX3_sellGoods 23 = .ok (.aload_n 1, 1) := by decide +kernel
theorem dX3_sellGoods_24 : decode cX3_sellGoods 24 = .ok (.iload_n 2, 1) := by decide +kernel
theorem dX3_sellGoods_25 : decode cX3_sellGoods 25 = .ok (.iaload, 1) := by decide +kernel
theorem dX3_sellGoods_26 : decode cX3_sellGoods 26 = .ok (.iconst 0, 1) := by decide +kernel
theorem dX3_sellGoods_27 : decode cX3_sellGoods 27 = .ok (.invokestatic 40, 3) := by decide +kernel
theorem dX3_sellGoods_30 : decode cX3_sellGoods 30 = .ok (.iadd, 1) := by decide +kernel
theorem dX3_sellGoods_31 : decode cX3_sellGoods 31 = .ok (.putfield 25, 3) := by decide +kernel
theorem dX3_sellGoods_34 : decode cX3_sellGoods 34 = .ok (.iinc 2 1, 3) := by decide +kernel
theorem dX3_sellGoods_37 : decode cX3_sellGoods 37 = .ok (.goto (-35), 3) := by decide +kernel
theorem dX3_sellGoods_40 : decode cX3_sellGoods 40 = .ok (.return_, 1) := by decide +kernel
theorem dX3_hungerIfShort_0 : decode cX3_hungerIfShort 0 = .ok (.aload_n 0, 1) := by decide +kernel
theorem dX3_hungerIfShort_1 : decode cX3_hungerIfShort 1 = .ok (.getfield 25, 3) := by decide +kernel
theorem dX3_hungerIfShort_4 : decode cX3_hungerIfShort 4 = .ok (.ifCond .ge 18, 3) := by decide +kernel
theorem dX3_hungerIfShort_7 : decode cX3_hungerIfShort 7 = .ok (.aload_n 0, 1) := by decide +kernel
theorem dX3_hungerIfShort_8 : decode cX3_hungerIfShort 8 = .ok (.iconst 0, 1) := by decide +kernel
theorem dX3_hungerIfShort_9 : decode cX3_hungerIfShort 9 = .ok (.putfield 25, 3) := by decide +kernel
theorem dX3_hungerIfShort_12 : decode cX3_hungerIfShort 12 = .ok (.aload_n 0, 1) := by decide +kernel
theorem dX3_hungerIfShort_13 : decode cX3_hungerIfShort 13 = .ok (.dup, 1) := by decide +kernel
theorem dX3_hungerIfShort_14 : decode cX3_hungerIfShort 14 = .ok (.getfield 44, 3) := by decide +kernel
theorem dX3_hungerIfShort_17 : decode cX3_hungerIfShort 17 = .ok (.iconst 1, 1) := by decide +kernel
theorem dX3_hungerIfShort_18 : decode cX3_hungerIfShort 18 = .ok (.iadd, 1) := by decide +kernel
theorem dX3_hungerIfShort_19 : decode cX3_hungerIfShort 19 = .ok (.putfield 44, 3) := by decide +kernel
theorem dX3_hungerIfShort_22 : decode cX3_hungerIfShort 22 = .ok (.return_, 1) := by decide +kernel
theorem dX3_tells_0 : decode cX3_tells 0 = .ok (.iload_n 1, 1) := by decide +kernel
theorem dX3_tells_1 : decode cX3_tells 1 = .ok (.tableswitch 94 0 10 #[59, 64, 69, 74, 79, 94, 94, 94, 94, 84, 89], 59) := by decide +kernel
theorem dX3_tells_60 : decode cX3_tells 60 = .ok (.aload_n 0, 1) := by decide +kernel
theorem dX3_tells_61 : decode cX3_tells 61 = .ok (.getfield 15, 3) := by decide +kernel
theorem dX3_tells_64 : decode cX3_tells 64 = .ok (.ireturn, 1) := by decide +kernel
theorem dX3_tells_65 : decode cX3_tells 65 = .ok (.aload_n 0, 1) := by decide +kernel
theorem dX3_tells_66 : decode cX3_tells 66 = .ok (.getfield 19, 3) := by decide +kernel
theorem dX3_tells_69 : decode cX3_tells 69 = .ok (.ireturn, 1) := by decide +kernel
theorem dX3_tells_70 : decode cX3_tells 70 = .ok (.aload_n 0, 1) := by decide +kernel
theorem dX3_tells_71 : decode cX3_tells 71 = .ok (.getfield 22, 3) := by decide +kernel
theorem dX3_tells_74 : decode cX3_tells 74 = .ok (.ireturn, 1) := by decide +kernel
theorem dX3_tells_75 : decode cX3_tells 75 = .ok (.aload_n 0, 1) := by decide +kernel
theorem dX3_tells_76 : decode cX3_tells 76 = .ok (.getfield 25, 3) := by decide +kernel
theorem dX3_tells_79 : decode cX3_tells 79 = .ok (.ireturn, 1) := by decide +kernel
theorem dX3_tells_80 : decode cX3_tells 80 = .ok (.aload_n 0, 1) := by decide +kernel
theorem dX3_tells_81 : decode cX3_tells 81 = .ok (.getfield 28, 3) := by decide +kernel
theorem dX3_tells_84 : decode cX3_tells 84 = .ok (.ireturn, 1) := by decide +kernel
theorem dX3_tells_85 : decode cX3_tells 85 = .ok (.aload_n 0, 1) := by decide +kernel
theorem dX3_tells_86 : decode cX3_tells 86 = .ok (.getfield 44, 3) := by decide +kernel
theorem dX3_tells_89 : decode cX3_tells 89 = .ok (.ireturn, 1) := by decide +kernel
theorem dX3_tells_90 : decode cX3_tells 90 = .ok (.aload_n 0, 1) := by decide +kernel
theorem dX3_tells_91 : decode cX3_tells 91 = .ok (.getfield 37, 3) := by decide +kernel
theorem dX3_tells_94 : decode cX3_tells 94 = .ok (.ireturn, 1) := by decide +kernel
theorem dX3_tells_95 : decode cX3_tells 95 = .ok (.iload_n 1, 1) := by decide +kernel
theorem dX3_tells_96 : decode cX3_tells 96 = .ok (.iconst 5, 1) := by decide +kernel
theorem dX3_tells_97 : decode cX3_tells 97 = .ok (.bipush 8, 2) := by decide +kernel
theorem dX3_tells_99 : decode cX3_tells 99 = .ok (.invokestatic 47, 3) := by decide +kernel
theorem dX3_tells_102 : decode cX3_tells 102 = .ok (.ifCond .eq 14, 3) := by decide +kernel
theorem dX3_tells_105 : decode cX3_tells 105 = .ok (.aload_n 0, 1) := by decide +kernel
theorem dX3_tells_106 : decode cX3_tells 106 = .ok (.getfield 9, 3) := by decide +kernel
theorem dX3_tells_109 : decode cX3_tells 109 = .ok (.iload_n 1, 1) := by decide +kernel
theorem dX3_tells_110 : decode cX3_tells 110 = .ok (.iconst 5, 1) := by decide +kernel
theorem dX3_tells_111 : decode cX3_tells 111 = .ok (.isub, 1) := by decide +kernel
theorem dX3_tells_112 : decode cX3_tells 112 = .ok (.iaload, 1) := by decide +kernel
theorem dX3_tells_113 : decode cX3_tells 113 = .ok (.goto 5, 3) := by decide +kernel
theorem dX3_tells_116 : decode cX3_tells 116 = .ok (.ldc 51, 2) := by decide +kernel
theorem dX3_tells_118 : decode cX3_tells 118 = .ok (.ireturn, 1) := by decide +kernel
theorem dX4_init_0 : decode cX4_init 0 = .ok (.aload_n 0, 1) := by decide +kernel
theorem dX4_init_1 : decode cX4_init 1 = .ok (.invokespecial 3, 3) := by decide +kernel
theorem dX4_init_4 : decode cX4_init 4 = .ok (.aload_n 0, 1) := by decide +kernel
theorem dX4_init_5 : decode cX4_init 5 = .ok (.iconst 4, 1) := by decide +kernel
theorem dX4_init_6 : decode cX4_init 6 = .ok (.newarray .int, 2) := by decide +kernel
theorem dX4_init_8 : decode cX4_init 8 = .ok (.putfield 9, 3) := by decide +kernel
theorem dX4_init_11 : decode cX4_init 11 = .ok (.aload_n 0, 1) := by decide +kernel
theorem dX4_init_12 : decode cX4_init 12 = .ok (.bipush 100, 2) := by decide +kernel
theorem dX4_init_14 : decode cX4_init 14 = .ok (.newarray .int, 2) := by decide +kernel
theorem dX4_init_16 : decode cX4_init 16 = .ok (.putfield 15, 3) := by decide +kernel
theorem dX4_init_19 : decode cX4_init 19 = .ok (.aload_n 0, 1) := by decide +kernel
theorem dX4_init_20 : decode cX4_init 20 = .ok (.iload_n 1, 1) := by decide +kernel
theorem dX4_init_21 : decode cX4_init 21 = .ok (.putfield 18, 3) := by decide +kernel
theorem dX4_init_24 : decode cX4_init 24 = .ok (.aload_n 0, 1) := by decide +kernel
theorem dX4_init_25 : decode cX4_init 25 = .ok (.iload_n 2, 1) := by decide +kernel
theorem dX4_init_26 : decode cX4_init 26 = .ok (.putfield 22, 3) := by decide +kernel
theorem dX4_init_29 : decode cX4_init 29 = .ok (.aload_n 0, 1) := by decide +kernel
theorem dX4_init_30 : decode cX4_init 30 = .ok (.iload_n 3, 1) := by decide +kernel
theorem dX4_init_31 : decode cX4_init 31 = .ok (.putfield 25, 3) := by decide +kernel
theorem dX4_init_34 : decode cX4_init 34 = .ok (.aload_n 0, 1) := by decide +kernel
theorem dX4_init_35 : decode cX4_init 35 = .ok (.iload 4, 2) := by decide +kernel
theorem dX4_init_37 : decode cX4_init 37 = .ok (.putfield 28, 3) := by decide +kernel
theorem dX4_init_40 : decode cX4_init 40 = .ok (.aload_n 0, 1) := by decide +kernel
theorem dX4_init_41 : decode cX4_init 41 = .ok (.getfield 15, 3) := by decide +kernel
theorem dX4_init_44 : decode cX4_init 44 = .ok (.ldc 31, 2) := by decide +kernel
theorem dX4_init_46 : decode cX4_init 46 = .ok (.invokestatic 32, 3) := by decide +kernel
theorem dX4_init_49 : decode cX4_init 49 = .ok (.return_, 1) := by decide +kernel
theorem dX4_canUse_0 : decode cX4_canUse 0 = .ok (.aload_n 0, 1) := by decide +kernel
theorem dX4_canUse_1 : decode cX4_canUse 1 = .ok (.getfield 22, 3) := by decide +kernel
theorem dX4_canUse_4 : decode cX4_canUse 4 = .ok (.iload_n 1, 1) := by decide +kernel
theorem dX4_canUse_5 : decode cX4_canUse 5 = .ok (.ishr, 1) := by decide +kernel
theorem dX4_canUse_6 : decode cX4_canUse 6 = .ok (.iconst 1, 1) := by decide +kernel
theorem dX4_canUse_7 : decode cX4_canUse 7 = .ok (.iand, 1) := by decide +kernel
theorem dX4_canUse_8 : decode cX4_canUse 8 = .ok (.iconst 1, 1) := by decide +kernel
theorem dX4_canUse_9 : decode cX4_canUse 9 = .ok (.if_icmp .ne 7, 3) := by decide +kernel
theorem dX4_canUse_12 : decode cX4_canUse 12 = .ok (.iconst 1, 1) := by decide +kernel
theorem dX4_canUse_13 : decode cX4_canUse 13 = .ok (.goto 4, 3) := by decide +kernel
theorem dX4_canUse_16 : decode cX4_canUse 16 = .ok (.iconst 0, 1) := by decide +kernel
theorem dX4_canUse_17 : decode cX4_canUse 17 = .ok (.ireturn, 1) := by decide +kernel
theorem dX4_gain_0 : decode cX4_gain 0 = .ok (.aload_n 0, 1) := by decide +kernel
theorem dX4_gain_1 : decode cX4_gain 1 = .ok (.ldc2_w 38, 3) := by decide +kernel
theorem dX4_gain_4 : decode cX4_gain 4 = .ok (.aload_n 0, 1) := by decide +kernel
theorem dX4_gain_5 : decode cX4_gain 5 = .ok (.getfield 40, 3) := by decide +kernel
theorem dX4_gain_8 : decode cX4_gain 8 = .ok (.i2l, 1) := by decide +kernel
theorem dX4_gain_9 : decode cX4_gain 9 = .ok (.lload_n 1, 1) := by decide +kernel
theorem dX4_gain_10 : decode cX4_gain 10 = .ok (.ladd, 1) := by decide +kernel
theorem dX4_gain_11 : decode cX4_gain 11 = .ok (.invokestatic 43, 3) := by decide +kernel
theorem dX4_gain_14 : decode cX4_gain 14 = .ok (.l2i, 1) := by decide +kernel
theorem dX4_gain_15 : decode cX4_gain 15 = .ok (.putfield 40, 3) := by decide +kernel
theorem dX4_gain_18 : decode cX4_gain 18 = .ok (.return_, 1) := by decide +kernel
theorem dX4_tells_0 : decode cX4_tells 0 = .ok (.iload_n 1, 1) := by decide +kernel
theorem dX4_tells_1 : decode cX4_tells 1 = .ok (.tableswitch 85 0 9 #[55, 60, 65, 70, 85, 85, 85, 85, 75, 80], 55) := by decide +kernel
theorem dX4_tells_56 : decode cX4_tells 56 = .ok (.aload_n 0, 1) := by decide +kernel
theorem dX4_tells_57 : decode cX4_tells 57 = .ok (.getfield 18, 3) := by decide +kernel
theorem dX4_tells_60 : decode cX4_tells 60 = .ok (.ireturn, 1) := by decide +kernel
theorem dX4_tells_61 : decode cX4_tells 61 = .ok (.aload_n 0, 1) := by decide +kernel
theorem dX4_tells_62 : decode cX4_tells 62 = .ok (.getfield 22, 3) := by decide +kernel
theorem dX4_tells_65 : decode cX4_tells 65 = .ok (.ireturn, 1) := by decide +kernel
theorem dX4_tells_66 : decode cX4_tells 66 = .ok (.aload_n 0, 1) := by decide +kernel
theorem dX4_tells_67 : decode cX4_tells 67 = .ok (.getfield 25, 3) := by decide +kernel
theorem dX4_tells_70 : decode cX4_tells 70 = .ok (.ireturn, 1) := by decide +kernel
theorem dX4_tells_71 : decode cX4_tells 71 = .ok (.aload_n 0, 1) := by decide +kernel
theorem dX4_tells_72 : decode cX4_tells 72 = .ok (.getfield 28, 3) := by decide +kernel
theorem dX4_tells_75 : decode cX4_tells 75 = .ok (.ireturn, 1) := by decide +kernel
theorem dX4_tells_76 : decode cX4_tells 76 = .ok (.aload_n 0, 1) := by decide +kernel
theorem dX4_tells_77 : decode cX4_tells 77 = .ok (.getfield 40, 3) := by decide +kernel
theorem dX4_tells_80 : decode cX4_tells 80 = .ok (.ireturn, 1) := by decide +kernel
theorem dX4_tells_81 : decode cX4_tells 81 = .ok (.aload_n 0, 1) := by decide +kernel
theorem dX4_tells_82 : decode cX4_tells 82 = .ok (.getfield 49, 3) := by decide +kernel
theorem dX4_tells_85 : decode cX4_tells 85 = .ok (.ireturn, 1) := by decide +kernel
theorem dX4_tells_86 : decode cX4_tells 86 = .ok (.iload_n 1, 1) := by decide +kernel
theorem dX4_tells_87 : decode cX4_tells 87 = .ok (.iconst 4, 1) := by decide +kernel
theorem dX4_tells_88 : decode cX4_tells 88 = .ok (.bipush 7, 2) := by decide +kernel
theorem dX4_tells_90 : decode cX4_tells 90 = .ok (.invokestatic 52, 3) := by decide +kernel
theorem dX4_tells_93 : decode cX4_tells 93 = .ok (.ifCond .eq 14, 3) := by decide +kernel
theorem dX4_tells_96 : decode cX4_tells 96 = .ok (.aload_n 0, 1) := by decide +kernel
theorem dX4_tells_97 : decode cX4_tells 97 = .ok (.getfield 9, 3) := by decide +kernel
theorem dX4_tells_100 : decode cX4_tells 100 = .ok (.iload_n 1, 1) := by decide +kernel
theorem dX4_tells_101 : decode cX4_tells 101 = .ok (.iconst 4, 1) := by decide +kernel
theorem dX4_tells_102 : decode cX4_tells 102 = .ok (.isub, 1) := by decide +kernel
theorem dX4_tells_103 : decode cX4_tells 103 = .ok (.iaload, 1) := by decide +kernel
theorem dX4_tells_104 : decode cX4_tells 104 = .ok (.goto 5, 3) := by decide +kernel
theorem dX4_tells_107 : decode cX4_tells 107 = .ok (.ldc 56, 2) := by decide +kernel
theorem dX4_tells_109 : decode cX4_tells 109 = .ok (.ireturn, 1) := by decide +kernel
theorem dX5_init_0 : decode cX5_init 0 = .ok (.aload_n 0, 1) := by decide +kernel
theorem dX5_init_1 : decode cX5_init 1 = .ok (.invokespecial 3, 3) := by decide +kernel
theorem dX5_init_4 : decode cX5_init 4 = .ok (.aload_n 0, 1) := by decide +kernel
theorem dX5_init_5 : decode cX5_init 5 = .ok (.bipush 20, 2) := by decide +kernel
theorem dX5_init_7 : decode cX5_init 7 = .ok (.newarray .int, 2) := by decide +kernel
theorem dX5_init_9 : decode cX5_init 9 = .ok (.putfield 9, 3) := by decide +kernel
theorem dX5_init_12 : decode cX5_init 12 = .ok (.aload_n 0, 1) := by decide +kernel
theorem dX5_init_13 : decode cX5_init 13 = .ok (.bipush 20, 2) := by decide +kernel
theorem dX5_init_15 : decode cX5_init 15 = .ok (.newarray .int, 2) := by decide +kernel
theorem dX5_init_17 : decode cX5_init 17 = .ok (.putfield 15, 3) := by decide +kernel
theorem dX5_init_20 : decode cX5_init 20 = .ok (.aload_n 0, 1) := by decide +kernel
theorem dX5_init_21 : decode cX5_init 21 = .ok (.bipush 20, 2) := by decide +kernel
theorem dX5_init_23 : decode cX5_init 23 = .ok (.newarray .int, 2) := by decide +kernel
theorem dX5_init_25 : decode cX5_init 25 = .ok (.putfield 18, 3) := by decide +kernel
theorem dX5_init_28 : decode cX5_init 28 = .ok (.return_, 1) := by decide +kernel
theorem dX5_print_0 : decode cX5_print 0 = .ok (.aload_n 0, 1) := by decide +kernel
theorem dX5_print_1 : decode cX5_print 1 = .ok (.getfield 21, 3) := by decide +kernel
theorem dX5_print_4 : decode cX5_print 4 = .ok (.bipush 20, 2) := by decide +kernel
theorem dX5_print_6 : decode cX5_print 6 = .ok (.if_icmp .lt 6, 3) := by decide +kernel
theorem dX5_print_9 : decode cX5_print 9 = .ok (.ldc 25, 2) := by decide +kernel
theorem dX5_print_11 : decode cX5_print 11 = .ok (.ireturn, 1) := by decide +kernel
theorem dX5_print_12 : decode cX5_print 12 = .ok (.aload_n 0, 1) := by decide +kernel
theorem dX5_print_13 : decode cX5_print 13 = .ok (.getfield 9, 3) := by decide +kernel
theorem dX5_print_16 : decode cX5_print 16 = .ok (.aload_n 0, 1) := by decide +kernel
theorem dX5_print_17 : decode cX5_print 17 = .ok (.getfield 21, 3) := by decide +kernel
theorem dX5_print_20 : decode cX5_print 20 = .ok (.iload_n 1, 1) := by decide +kernel
theorem dX5_print_21 : decode cX5_print 21 = .ok (.iastore, 1) := by decide +kernel
theorem dX5_print_22 : decode cX5_print 22 = .ok (.aload_n 0, 1) := by decide +kernel
theorem dX5_print_23 : decode cX5_print 23 = .ok (.getfield 15, 3) := by decide +kernel
theorem dX5_print_26 : decode cX5_print 26 = .ok (.aload_n 0, 1) := by decide +kernel
theorem dX5_print_27 : decode cX5_print 27 = .ok (.getfield 21, 3) := by decide +kernel
theorem dX5_print_30 : decode cX5_print 30 = .ok (.iload_n 2, 1) := by decide +kernel
theorem dX5_print_31 : decode cX5_print 31 = .ok (.iastore, 1) := by decide +kernel
theorem dX5_print_32 : decode cX5_print 32 = .ok (.aload_n 0, 1) := by decide +kernel
theorem dX5_print_33 : decode cX5_print 33 = .ok (.getfield 18, 3) := by decide +kernel
theorem dX5_print_36 : decode cX5_print 36 = .ok (.aload_n 0, 1) := by decide +kernel
theorem dX5_print_37 : decode cX5_print 37 = .ok (.getfield 21, 3) := by decide +kernel
theorem dX5_print_40 : decode cX5_print 40 = .ok (.iload_n 3, 1) := by decide +kernel
theorem dX5_print_41 : decode cX5_print 41 = .ok (.iastore, 1) := by decide +kernel
theorem dX5_print_42 : decode cX5_print 42 = .ok (.aload_n 0, 1) := by decide +kernel
theorem dX5_print_43 : decode cX5_print 43 = .ok (.dup, 1) := by decide +kernel
theorem dX5_print_44 : decode cX5_print 44 = .ok (.getfield 21, 3) := by decide +kernel
theorem dX5_print_47 : decode cX5_print 47 = .ok (.iconst 1, 1) := by decide +kernel
theorem dX5_print_48 : decode cX5_print 48 = .ok (.iadd, 1) := by decide +kernel
theorem dX5_print_49 : decode cX5_print 49 = .ok (.putfield 21, 3) := by decide +kernel
theorem dX5_print_52 : decode cX5_print 52 = .ok (.aload_n 0, 1) := by decide +kernel
theorem dX5_print_53 : decode cX5_print 53 = .ok (.getfield 21, 3) := by decide +kernel
theorem dX5_print_56 : decode cX5_print 56 = .ok (.ireturn, 1) := by decide +kernel
theorem dX5_readBy_0 : decode cX5_readBy 0 = .ok (.iconst 0, 1) := by decide +kernel
theorem dX5_readBy_1 : decode cX5_readBy 1 = .ok (.istore_n 3, 1) := by decide +kernel
theorem dX5_readBy_2 : decode cX5_readBy 2 = .ok (.iconst 0, 1) := by decide +kernel
theorem dX5_readBy_3 : decode cX5_readBy 3 = .ok (.istore 4, 2) := by decide +kernel
theorem dX5_readBy_5 : decode cX5_readBy 5 = .ok (.iload 4, 2) := by decide +kernel
theorem dX5_readBy_7 : decode cX5_readBy 7 = .ok (.aload_n 0, 1) := by decide +kernel
theorem dX5_readBy_8 : decode cX5_readBy 8 = .ok (.getfield 21, 3) := by decide +kernel
theorem dX5_readBy_11 : decode cX5_readBy 11 = .ok (.if_icmp .ge 43, 3) := by decide +kernel
theorem dX5_readBy_14 : decode cX5_readBy 14 = .ok (.aload_n 0, 1) := by decide +kernel
theorem dX5_readBy_15 : decode cX5_readBy 15 = .ok (.getfield 15, 3) := by decide +kernel
theorem dX5_readBy_18 : decode cX5_readBy 18 = .ok (.iload 4, 2) := by decide +kernel
theorem dX5_readBy_20 : decode cX5_readBy 20 = .ok (.iaload, 1) := by decide +kernel
theorem dX5_readBy_21 : decode cX5_readBy 21 = .ok (.iload_n 1, 1) := by decide +kernel
theorem dX5_readBy_22 : decode cX5_readBy 22 = .ok (.if_icmp .ne 26, 3) := by decide +kernel
theorem dX5_readBy_25 : decode cX5_readBy 25 = .ok (.aload_n 0, 1) := by decide +kernel
theorem dX5_readBy_26 : decode cX5_readBy 26 = .ok (.getfield 18, 3) := by decide +kernel
theorem dX5_readBy_29 : decode cX5_readBy 29 = .ok (.iload 4, 2) := by decide +kernel
theorem dX5_readBy_31 : decode cX5_readBy 31 = .ok (.iaload, 1) := by decide +kernel
theorem dX5_readBy_32 : decode cX5_readBy 32 = .ok (.iload_n 2, 1) := by decide +kernel
theorem dX5_readBy_33 : decode cX5_readBy 33 = .ok (.if_icmp .gt 15, 3) := by decide +kernel
theorem dX5_readBy_36 : decode cX5_readBy 36 = .ok (.iload_n 3, 1) := by decide +kernel
theorem dX5_readBy_37 : decode cX5_readBy 37 = .ok (.iconst 1, 1) := by decide +kernel
theorem dX5_readBy_38 : decode cX5_readBy 38 = .ok (.aload_n 0, 1) := by decide +kernel
theorem dX5_readBy_39 : decode cX5_readBy 39 = .ok (.getfield 9, 3) := by decide +kernel
theorem dX5_readBy_42 : decode cX5_readBy 42 = .ok (.iload 4, 2) := by decide +kernel
theorem dX5_readBy_44 : decode cX5_readBy 44 = .ok (.iaload, 1) := by decide +kernel
theorem dX5_readBy_45 : decode cX5_readBy 45 = .ok (.ishl, 1) := by decide +kernel
theorem dX5_readBy_46 : decode cX5_readBy 46 = .ok (.ior, 1) := by decide +kernel
theorem dX5_readBy_47 : decode cX5_readBy 47 = .ok (.istore_n 3, 1) := by decide +kernel
theorem dX5_readBy_48 : decode cX5_readBy 48 = .ok (.iinc 4 1, 3) := by decide +kernel
theorem dX5_readBy_51 : decode cX5_readBy 51 = .ok (.goto (-46), 3) := by decide +kernel
theorem dX5_readBy_54 : decode cX5_readBy 54 = .ok (.iload_n 3, 1) := by decide +kernel
theorem dX5_readBy_55 : decode cX5_readBy 55 = .ok (.ireturn, 1) := by decide +kernel
theorem dX6_init_0 : decode cX6_init 0 = .ok (.aload_n 0, 1) := by decide +kernel
theorem dX6_init_1 : decode cX6_init 1 = .ok (.invokespecial 3, 3) := by decide +kernel
theorem dX6_init_4 : decode cX6_init 4 = .ok (.aload_n 0, 1) := by decide +kernel
theorem dX6_init_5 : decode cX6_init 5 = .ok (.bipush 30, 2) := by decide +kernel
theorem dX6_init_7 : decode cX6_init 7 = .ok (.newarray .int, 2) := by decide +kernel
theorem dX6_init_9 : decode cX6_init 9 = .ok (.putfield 11, 3) := by decide +kernel
theorem dX6_init_12 : decode cX6_init 12 = .ok (.aload_n 0, 1) := by decide +kernel
theorem dX6_init_13 : decode cX6_init 13 = .ok (.bipush 30, 2) := by decide +kernel
theorem dX6_init_15 : decode cX6_init 15 = .ok (.newarray .int, 2) := by decide +kernel
theorem dX6_init_17 : decode cX6_init 17 = .ok (.putfield 15, 3) := by decide +kernel
theorem dX6_init_20 : decode cX6_init 20 = .ok (.aload_n 0, 1) := by decide +kernel
theorem dX6_init_21 : decode cX6_init 21 = .ok (.bipush 30, 2) := by decide +kernel
theorem dX6_init_23 : decode cX6_init 23 = .ok (.newarray .int, 2) := by decide +kernel
theorem dX6_init_25 : decode cX6_init 25 = .ok (.putfield 18, 3) := by decide +kernel
theorem dX6_init_28 : decode cX6_init 28 = .ok (.aload_n 0, 1) := by decide +kernel
theorem dX6_init_29 : decode cX6_init 29 = .ok (.iconst 4, 1) := by decide +kernel
theorem dX6_init_30 : decode cX6_init 30 = .ok (.newarray .int, 2) := by decide +kernel
theorem dX6_init_32 : decode cX6_init 32 = .ok (.putfield 21, 3) := by decide +kernel
theorem dX6_init_35 : decode cX6_init 35 = .ok (.aload_n 0, 1) := by decide +kernel
theorem dX6_init_36 : decode cX6_init 36 = .ok (.iconst 4, 1) := by decide +kernel
theorem dX6_init_37 : decode cX6_init 37 = .ok (.newarray .int, 2) := by decide +kernel
theorem dX6_init_39 : decode cX6_init 39 = .ok (.putfield 24, 3) := by decide +kernel
theorem dX6_init_42 : decode cX6_init 42 = .ok (.return_, 1) := by decide +kernel
theorem dX6_stageNone_0 : decode cX6_stageNone 0 = .ok (.aload_n 0, 1) := by decide +kernel
theorem dX6_stageNone_1 : decode cX6_stageNone 1 = .ok (.aload_n 0, 1) := by decide +kernel
theorem dX6_stageNone_2 : decode cX6_stageNone 2 = .ok (.getfield 27, 3) := by decide +kernel
theorem dX6_stageNone_5 : decode cX6_stageNone 5 = .ok (.putfield 31, 3) := by decide +kernel
theorem dX6_stageNone_8 : decode cX6_stageNone 8 = .ok (.return_, 1) := by decide +kernel
theorem dX6_hasRoom_0 : decode cX6_hasRoom 0 = .ok (.aload_n 0, 1) := by decide +kernel
theorem dX6_hasRoom_1 : decode cX6_hasRoom 1 = .ok (.getfield 31, 3) := by decide +kernel
theorem dX6_hasRoom_4 : decode cX6_hasRoom 4 = .ok (.bipush 30, 2) := by decide +kernel
theorem dX6_hasRoom_6 : decode cX6_hasRoom 6 = .ok (.if_icmp .ge 7, 3) := by decide +kernel
theorem dX6_hasRoom_9 : decode cX6_hasRoom 9 = .ok (.iconst 1, 1) := by decide +kernel
theorem dX6_hasRoom_10 : decode cX6_hasRoom 10 = .ok (.goto 4, 3) := by decide +kernel
theorem dX6_hasRoom_13 : decode cX6_hasRoom 13 = .ok (.iconst 0, 1) := by decide +kernel
theorem dX6_hasRoom_14 : decode cX6_hasRoom 14 = .ok (.ireturn, 1) := by decide +kernel
theorem dX6_stage_0 : decode cX6_stage 0 = .ok (.aload_n 0, 1) := by decide +kernel
theorem dX6_stage_1 : decode cX6_stage 1 = .ok (.invokevirtual 34, 3) := by decide +kernel
theorem dX6_stage_4 : decode cX6_stage 4 = .ok (.ifCond .eq 43, 3) := by decide +kernel
theorem dX6_stage_7 : decode cX6_stage 7 = .ok (.aload_n 0, 1) := by decide +kernel
theorem dX6_stage_8 : decode cX6_stage 8 = .ok (.getfield 11, 3) := by decide +kernel
theorem dX6_stage_11 : decode cX6_stage 11 = .ok (.aload_n 0, 1) := by decide +kernel
theorem dX6_stage_12 : decode cX6_stage 12 = .ok (.getfield 31, 3) := by decide +kernel
theorem dX6_stage_15 : decode cX6_stage 15 = .ok (.iload_n 1, 1) := by decide +kernel
theorem dX6_stage_16 : decode cX6_stage 16 = .ok (.iastore, 1) := by decide +kernel
theorem dX6_stage_17 : decode cX6_stage 17 = .ok (.aload_n 0, 1) := by decide +kernel
theorem dX6_stage_18 : decode cX6_stage 18 = .ok (.getfield 15, 3) := by decide +kernel
theorem dX6_stage_21 : decode cX6_stage 21 = .ok (.aload_n 0, 1) := by decide +kernel
theorem dX6_stage_22 : decode cX6_stage 22 = .ok (.getfield 31, 3) := by decide +kernel
theorem dX6_stage_25 : decode cX6_stage 25 = .ok (.iload_n 2, 1) := by decide +kernel
theorem dX6_stage_26 : decode cX6_stage 26 = .ok (.iastore, 1) := by decide +kernel
theorem dX6_stage_27 : decode cX6_stage 27 = .ok (.aload_n 0, 1) := by decide +kernel
theorem dX6_stage_28 : decode cX6_stage 28 = .ok (.getfield 18, 3) := by decide +kernel
theorem dX6_stage_31 : decode cX6_stage 31 = .ok (.aload_n 0, 1) := by decide +kernel
theorem dX6_stage_32 : decode cX6_stage 32 = .ok (.getfield 31, 3) := by decide +kernel
theorem dX6_stage_35 : decode cX6_stage 35 = .ok (.iload_n 3, 1) := by decide +kernel
theorem dX6_stage_36 : decode cX6_stage 36 = .ok (.iastore, 1) := by decide +kernel
theorem dX6_stage_37 : decode cX6_stage 37 = .ok (.aload_n 0, 1) := by decide +kernel
theorem dX6_stage_38 : decode cX6_stage 38 = .ok (.dup, 1) := by decide +kernel
theorem dX6_stage_39 : decode cX6_stage 39 = .ok (.getfield 31, 3) := by decide +kernel
theorem dX6_stage_42 : decode cX6_stage 42 = .ok (.iconst 1, 1) := by decide +kernel
theorem dX6_stage_43 : decode cX6_stage 43 = .ok (.iadd, 1) := by decide +kernel
theorem dX6_stage_44 : decode cX6_stage 44 = .ok (.putfield 31, 3) := by decide +kernel
theorem dX6_stage_47 : decode cX6_stage 47 = .ok (.return_, 1) := by decide +kernel
theorem dX6_keepStaged_0 : decode cX6_keepStaged 0 = .ok (.aload_n 0, 1) := by decide +kernel
theorem dX6_keepStaged_1 : decode cX6_keepStaged 1 = .ok (.aload_n 0, 1) := by decide +kernel
theorem dX6_keepStaged_2 : decode cX6_keepStaged 2 = .ok (.getfield 31, 3) := by decide +kernel
theorem dX6_keepStaged_5 : decode cX6_keepStaged 5 = .ok (.putfield 27, 3) := by decide +kernel
theorem dX6_keepStaged_8 : decode cX6_keepStaged 8 = .ok (.return_, 1) := by decide +kernel
theorem dX6_inForce_0 : decode cX6_inForce 0 = .ok (.iconst (-1), 1) := by decide +kernel
theorem dX6_inForce_1 : decode cX6_inForce 1 = .ok (.istore_n 3, 1) := by decide +kernel
theorem dX6_inForce_2 : decode cX6_inForce 2 = .ok (.iconst 0, 1) := by decide +kernel
theorem dX6_inForce_3 : decode cX6_inForce 3 = .ok (.istore 4, 2) := by decide +kernel
theorem dX6_inForce_5 : decode cX6_inForce 5 = .ok (.iconst 0, 1) := by decide +kernel
theorem dX6_inForce_6 : decode cX6_inForce 6 = .ok (.istore 5, 2) := by decide +kernel
theorem dX6_inForce_8 : decode cX6_inForce 8 = .ok (.iload 5, 2) := by decide +kernel
theorem dX6_inForce_10 : decode cX6_inForce 10 = .ok (.aload_n 0, 1) := by decide +kernel
theorem dX6_inForce_11 : decode cX6_inForce 11 = .ok (.getfield 27, 3) := by decide +kernel
theorem dX6_inForce_14 : decode cX6_inForce 14 = .ok (.if_icmp .ge 59, 3) := by decide +kernel
theorem dX6_inForce_17 : decode cX6_inForce 17 = .ok (.aload_n 0, 1) := by decide +kernel
theorem dX6_inForce_18 : decode cX6_inForce 18 = .ok (.getfield 15, 3) := by decide +kernel
theorem dX6_inForce_21 : decode cX6_inForce 21 = .ok (.iload 5, 2) := by decide +kernel
theorem dX6_inForce_23 : decode cX6_inForce 23 = .ok (.iaload, 1) := by decide +kernel
theorem dX6_inForce_24 : decode cX6_inForce 24 = .ok (.iload_n 2, 1) := by decide +kernel
theorem dX6_inForce_25 : decode cX6_inForce 25 = .ok (.if_icmp .ne 42, 3) := by decide +kernel
theorem dX6_inForce_28 : decode cX6_inForce 28 = .ok (.aload_n 0, 1) := by decide +kernel
theorem dX6_inForce_29 : decode cX6_inForce 29 = .ok (.getfield 11, 3) := by decide +kernel
theorem dX6_inForce_32 : decode cX6_inForce 32 = .ok (.iload 5, 2) := by decide +kernel
theorem dX6_inForce_34 : decode cX6_inForce 34 = .ok (.iaload, 1) := by decide +kernel
theorem dX6_inForce_35 : decode cX6_inForce 35 = .ok (.iload_n 1, 1) := by decide +kernel
theorem dX6_inForce_36 : decode cX6_inForce 36 = .ok (.if_icmp .gt 31, 3) := by decide +kernel
theorem dX6_inForce_39 : decode cX6_inForce 39 = .ok (.aload_n 0, 1) := by decide +kernel
theorem dX6_inForce_40 : decode cX6_inForce 40 = .ok (.getfield 11, 3) := by decide +kernel
theorem dX6_inForce_43 : decode cX6_inForce 43 = .ok (.iload 5, 2) := by decide +kernel
theorem dX6_inForce_45 : decode cX6_inForce 45 = .ok (.iaload, 1) := by decide +kernel
theorem dX6_inForce_46 : decode cX6_inForce 46 = .ok (.iload_n 3, 1) := by decide +kernel
theorem dX6_inForce_47 : decode cX6_inForce 47 = .ok (.if_icmp .lt 20, 3) := by decide +kernel
theorem dX6_inForce_50 : decode cX6_inForce 50 = .ok (.aload_n 0, 1) := by decide +kernel
theorem dX6_inForce_51 : decode cX6_inForce 51 = .ok (.getfield 11, 3) := by decide +kernel
theorem dX6_inForce_54 : decode cX6_inForce 54 = .ok (.iload 5, 2) := by decide +kernel
theorem dX6_inForce_56 : decode cX6_inForce 56 = .ok (.iaload, 1) := by decide +kernel
theorem dX6_inForce_57 : decode cX6_inForce 57 = .ok (.istore_n 3, 1) := by decide +kernel
theorem dX6_inForce_58 : decode cX6_inForce 58 = .ok (.aload_n 0, 1) := by decide +kernel
theorem dX6_inForce_59 : decode cX6_inForce 59 = .ok (.getfield 18, 3) := by decide +kernel
theorem dX6_inForce_62 : decode cX6_inForce 62 = .ok (.iload 5, 2) := by decide +kernel
theorem dX6_inForce_64 : decode cX6_inForce 64 = .ok (.iaload, 1) := by decide +kernel
theorem dX6_inForce_65 : decode cX6_inForce 65 = .ok (.istore 4, 2) := by decide +kernel
theorem dX6_inForce_67 : decode cX6_inForce 67 = .ok (.iinc 5 1, 3) := by decide +kernel
theorem dX6_inForce_70 : decode cX6_inForce 70 = .ok (.goto (-62), 3) := by decide +kernel
theorem dX6_inForce_73 : decode cX6_inForce 73 = .ok (.iload 4, 2) := by decide +kernel
theorem dX6_inForce_75 : decode cX6_inForce 75 = .ok (.ireturn, 1) := by decide +kernel
theorem dX6_orderGoods_0 : decode cX6_orderGoods 0 = .ok (.aload_n 0, 1) := by decide +kernel
theorem dX6_orderGoods_1 : decode cX6_orderGoods 1 = .ok (.iload_n 1, 1) := by decide +kernel
theorem dX6_orderGoods_2 : decode cX6_orderGoods 2 = .ok (.invokevirtual 38, 3) := by decide +kernel
theorem dX6_orderGoods_5 : decode cX6_orderGoods 5 = .ok (.iconst 0, 1) := by decide +kernel
theorem dX6_orderGoods_6 : decode cX6_orderGoods 6 = .ok (.istore_n 2, 1) := by decide +kernel
theorem dX6_orderGoods_7 : decode cX6_orderGoods 7 = .ok (.iconst 0, 1) := by decide +kernel
theorem dX6_orderGoods_8 : decode cX6_orderGoods 8 = .ok (.istore_n 3, 1) := by decide +kernel
theorem dX6_orderGoods_9 : decode cX6_orderGoods 9 = .ok (.iload_n 3, 1) := by decide +kernel
theorem dX6_orderGoods_10 : decode cX6_orderGoods 10 = .ok (.iconst 4, 1) := by decide +kernel
theorem dX6_orderGoods_11 : decode cX6_orderGoods 11 = .ok (.if_icmp .ge 68, 3) := by decide +kernel
theorem dX6_orderGoods_14 : decode cX6_orderGoods 14 = .ok (.iconst 0, 1) := by decide +kernel
theorem dX6_orderGoods_15 : decode cX6_orderGoods 15 = .ok (.istore 4, 2) := by decide +kernel
theorem dX6_orderGoods_17 : decode cX6_orderGoods 17 = .ok (.iconst 0, 1) := by decide +kernel
theorem dX6_orderGoods_18 : decode cX6_orderGoods 18 = .ok (.istore 5, 2) := by decide +kernel
theorem dX6_orderGoods_20 : decode cX6_orderGoods 20 = .ok (.iload 5, 2) := by decide +kernel
theorem dX6_orderGoods_22 : decode cX6_orderGoods 22 = .ok (.iconst 4, 1) := by decide +kernel
theorem dX6_orderGoods_23 : decode cX6_orderGoods 23 = .ok (.if_icmp .ge 28, 3) := by decide +kernel
theorem dX6_orderGoods_26 : decode cX6_orderGoods 26 = .ok (.aload_n 0, 1) := by decide +kernel
theorem dX6_orderGoods_27 : decode cX6_orderGoods 27 = .ok (.getfield 24, 3) := by decide +kernel
theorem dX6_orderGoods_30 : decode cX6_orderGoods 30 = .ok (.iload 5, 2) := by decide +kernel
theorem dX6_orderGoods_32 : decode cX6_orderGoods 32 = .ok (.iaload, 1) := by decide +kernel
theorem dX6_orderGoods_33 : decode cX6_orderGoods 33 = .ok (.aload_n 0, 1) := by decide +kernel
theorem dX6_orderGoods_34 : decode cX6_orderGoods 34 = .ok (.getfield 24, 3) := by decide +kernel
theorem dX6_orderGoods_37 : decode cX6_orderGoods 37 = .ok (.iload_n 3, 1) := by decide +kernel
theorem dX6_orderGoods_38 : decode cX6_orderGoods 38 = .ok (.iaload, 1) := by decide +kernel
theorem dX6_orderGoods_39 : decode cX6_orderGoods 39 = .ok (.if_icmp .ge 6, 3) := by decide +kernel
theorem dX6_orderGoods_42 : decode cX6_orderGoods 42 = .ok (.iinc 4 1, 3) := by decide +kernel
theorem dX6_orderGoods_45 : decode cX6_orderGoods 45 = .ok (.iinc 5 1, 3) := by decide +kernel
theorem dX6_orderGoods_48 : decode cX6_orderGoods 48 = .ok (.goto (-28), 3) := by decide +kernel
theorem dX6_orderGoods_51 : decode cX6_orderGoods 51 = .ok (.aload_n 0, 1) := by decide +kernel
theorem dX6_orderGoods_52 : decode cX6_orderGoods 52 = .ok (.getfield 21, 3) := by decide +kernel
theorem dX6_orderGoods_55 : decode cX6_orderGoods 55 = .ok (.iload 4, 2) := by decide +kernel
theorem dX6_orderGoods_57 : decode cX6_orderGoods 57 = .ok (.iload_n 3, 1) := by decide +kernel
theorem dX6_orderGoods_58 : decode cX6_orderGoods 58 = .ok (.iastore, 1) := by decide +kernel
theorem dX6_orderGoods_59 : decode cX6_orderGoods 59 = .ok (.aload_n 0, 1) := by decide +kernel
theorem dX6_orderGoods_60 : decode cX6_orderGoods 60 = .ok (.getfield 24, 3) := by decide +kernel
theorem dX6_orderGoods_63 : decode cX6_orderGoods 63 = .ok (.iload_n 3, 1) := by decide +kernel
theorem dX6_orderGoods_64 : decode cX6_orderGoods 64 = .ok (.iaload, 1) := by decide +kernel
theorem dX6_orderGoods_65 : decode cX6_orderGoods 65 = .ok (.ldc 42, 2) := by decide +kernel
theorem dX6_orderGoods_67 : decode cX6_orderGoods 67 = .ok (.if_icmp .ge 6, 3) := by decide +kernel
theorem dX6_orderGoods_70 : decode cX6_orderGoods 70 = .ok (.iinc 2 1, 3) := by decide +kernel
theorem dX6_orderGoods_73 : decode cX6_orderGoods 73 = .ok (.iinc 3 1, 3) := by decide +kernel
theorem dX6_orderGoods_76 : decode cX6_orderGoods 76 = .ok (.goto (-67), 3) := by decide +kernel
theorem dX6_orderGoods_79 : decode cX6_orderGoods 79 = .ok (.iload_n 2, 1) := by decide +kernel
theorem dX6_orderGoods_80 : decode cX6_orderGoods 80 = .ok (.ireturn, 1) := by decide +kernel
theorem dX6_rankGoods_0 : decode cX6_rankGoods 0 = .ok (.iconst 0, 1) := by decide +kernel
theorem dX6_rankGoods_1 : decode cX6_rankGoods 1 = .ok (.istore_n 2, 1) := by decide +kernel
theorem dX6_rankGoods_2 : decode cX6_rankGoods 2 = .ok (.iload_n 2, 1) := by decide +kernel
theorem dX6_rankGoods_3 : decode cX6_rankGoods 3 = .ok (.iconst 4, 1) := by decide +kernel
theorem dX6_rankGoods_4 : decode cX6_rankGoods 4 = .ok (.if_icmp .ge 19, 3) := by decide +kernel
theorem dX6_rankGoods_7 : decode cX6_rankGoods 7 = .ok (.aload_n 0, 1) := by decide +kernel
theorem dX6_rankGoods_8 : decode cX6_rankGoods 8 = .ok (.getfield 24, 3) := by decide +kernel
theorem dX6_rankGoods_11 : decode cX6_rankGoods 11 = .ok (.iload_n 2, 1) := by decide +kernel
theorem dX6_rankGoods_12 : decode cX6_rankGoods 12 = .ok (.ldc 42, 2) := by decide +kernel
theorem dX6_rankGoods_14 : decode cX6_rankGoods 14 = .ok (.iload_n 2, 1) := by decide +kernel
theorem dX6_rankGoods_15 : decode cX6_rankGoods 15 = .ok (.iadd, 1) := by decide +kernel
theorem dX6_rankGoods_16 : decode cX6_rankGoods 16 = .ok (.iastore, 1) := by decide +kernel
theorem dX6_rankGoods_17 : decode cX6_rankGoods 17 = .ok (.iinc 2 1, 3) := by decide +kernel
theorem dX6_rankGoods_20 : decode cX6_rankGoods 20 = .ok (.goto (-18), 3) := by decide +kernel
theorem dX6_rankGoods_23 : decode cX6_rankGoods 23 = .ok (.iconst 0, 1) := by decide +kernel
theorem dX6_rankGoods_24 : decode cX6_rankGoods 24 = .ok (.istore_n 2, 1) := by decide +kernel
theorem dX6_rankGoods_25 : decode cX6_rankGoods 25 = .ok (.iload_n 2, 1) := by decide +kernel
theorem dX6_rankGoods_26 : decode cX6_rankGoods 26 = .ok (.aload_n 0, 1) := by decide +kernel
theorem dX6_rankGoods_27 : decode cX6_rankGoods 27 = .ok (.getfield 27, 3) := by decide +kernel
theorem dX6_rankGoods_30 : decode cX6_rankGoods 30 = .ok (.if_icmp .ge 63, 3) := by decide +kernel
theorem dX6_rankGoods_33 : decode cX6_rankGoods 33 = .ok (.aload_n 0, 1) := by decide +kernel
theorem dX6_rankGoods_34 : decode cX6_rankGoods 34 = .ok (.getfield 15, 3) := by decide +kernel
theorem dX6_rankGoods_37 : decode cX6_rankGoods 37 = .ok (.iload_n 2, 1) := by decide +kernel
theorem dX6_rankGoods_38 : decode cX6_rankGoods 38 = .ok (.iaload, 1) := by decide +kernel
theorem dX6_rankGoods_39 : decode cX6_rankGoods 39 = .ok (.bipush 7, 2) := by decide +kernel
theorem dX6_rankGoods_41 : decode cX6_rankGoods 41 = .ok (.if_icmp .ne 46, 3) := by decide +kernel
theorem dX6_rankGoods_44 : decode cX6_rankGoods 44 = .ok (.aload_n 0, 1) := by decide +kernel
theorem dX6_rankGoods_45 : decode cX6_rankGoods 45 = .ok (.getfield 11, 3) := by decide +kernel
theorem dX6_rankGoods_48 : decode cX6_rankGoods 48 = .ok (.iload_n 2, 1) := by decide +kernel
theorem dX6_rankGoods_49 : decode cX6_rankGoods 49 = .ok (.iaload, 1) := by decide +kernel
theorem dX6_rankGoods_50 : decode cX6_rankGoods 50 = .ok (.iload_n 1, 1) := by decide +kernel
theorem dX6_rankGoods_51 : decode cX6_rankGoods 51 = .ok (.if_icmp .gt 36, 3) := by decide +kernel
theorem dX6_rankGoods_54 : decode cX6_rankGoods 54 = .ok (.aload_n 0, 1) := by decide +kernel
theorem dX6_rankGoods_55 : decode cX6_rankGoods 55 = .ok (.getfield 18, 3) := by decide +kernel
theorem dX6_rankGoods_58 : decode cX6_rankGoods 58 = .ok (.iload_n 2, 1) := by decide +kernel
theorem dX6_rankGoods_59 : decode cX6_rankGoods 59 = .ok (.iaload, 1) := by decide +kernel
theorem dX6_rankGoods_60 : decode cX6_rankGoods 60 = .ok (.istore_n 3, 1) := by decide +kernel
theorem dX6_rankGoods_61 : decode cX6_rankGoods 61 = .ok (.aload_n 0, 1) := by decide +kernel
theorem dX6_rankGoods_62 : decode cX6_rankGoods 62 = .ok (.getfield 24, 3) := by decide +kernel
theorem dX6_rankGoods_65 : decode cX6_rankGoods 65 = .ok (.iload_n 3, 1) := by decide +kernel
theorem dX6_rankGoods_66 : decode cX6_rankGoods 66 = .ok (.aload_n 0, 1) := by decide +kernel
theorem dX6_rankGoods_67 : decode cX6_rankGoods 67 = .ok (.getfield 24, 3) := by decide +kernel
theorem dX6_rankGoods_70 : decode cX6_rankGoods 70 = .ok (.iload_n 3, 1) := by decide +kernel
theorem dX6_rankGoods_71 : decode cX6_rankGoods 71 = .ok (.iaload, 1) := by decide +kernel
theorem dX6_rankGoods_72 : decode cX6_rankGoods 72 = .ok (.aload_n 0, 1) := by decide +kernel
theorem dX6_rankGoods_73 : decode cX6_rankGoods 73 = .ok (.getfield 11, 3) := by decide +kernel
theorem dX6_rankGoods_76 : decode cX6_rankGoods 76 = .ok (.iload_n 2, 1) := by decide +kernel
theorem dX6_rankGoods_77 : decode cX6_rankGoods 77 = .ok (.iaload, 1) := by decide +kernel
theorem dX6_rankGoods_78 : decode cX6_rankGoods 78 = .ok (.bipush 30, 2) := by decide +kernel
theorem dX6_rankGoods_80 : decode cX6_rankGoods 80 = .ok (.imul, 1) := by decide +kernel
theorem dX6_rankGoods_81 : decode cX6_rankGoods 81 = .ok (.iload_n 2, 1) := by decide +kernel
theorem dX6_rankGoods_82 : decode cX6_rankGoods 82 = .ok (.iadd, 1) := by decide +kernel
theorem dX6_rankGoods_83 : decode cX6_rankGoods 83 = .ok (.invokestatic 43, 3) := by decide +kernel
theorem dX6_rankGoods_86 : decode cX6_rankGoods 86 = .ok (.iastore, 1) := by decide +kernel
theorem dX6_rankGoods_87 : decode cX6_rankGoods 87 = .ok (.iinc 2 1, 3) := by decide +kernel
theorem dX6_rankGoods_90 : decode cX6_rankGoods 90 = .ok (.goto (-65), 3) := by decide +kernel
theorem dX6_rankGoods_93 : decode cX6_rankGoods 93 = .ok (.return_, 1) := by decide +kernel
theorem dX6_firstSet_0 : decode cX6_firstSet 0 = .ok (.aload_n 0, 1) := by decide +kernel
theorem dX6_firstSet_1 : decode cX6_firstSet 1 = .ok (.iload_n 1, 1) := by decide +kernel
theorem dX6_firstSet_2 : decode cX6_firstSet 2 = .ok (.invokevirtual 49, 3) := by decide +kernel
theorem dX6_firstSet_5 : decode cX6_firstSet 5 = .ok (.istore_n 2, 1) := by decide +kernel
theorem dX6_firstSet_6 : decode cX6_firstSet 6 = .ok (.iconst 0, 1) := by decide +kernel
theorem dX6_firstSet_7 : decode cX6_firstSet 7 = .ok (.istore_n 3, 1) := by decide +kernel
theorem dX6_firstSet_8 : decode cX6_firstSet 8 = .ok (.iconst 0, 1) := by decide +kernel
theorem dX6_firstSet_9 : decode cX6_firstSet 9 = .ok (.istore 4, 2) := by decide +kernel
theorem dX6_firstSet_11 : decode cX6_firstSet 11 = .ok (.iload 4, 2) := by decide +kernel
theorem dX6_firstSet_13 : decode cX6_firstSet 13 = .ok (.iload_n 2, 1) := by decide +kernel
theorem dX6_firstSet_14 : decode cX6_firstSet 14 = .ok (.if_icmp .ge 21, 3) := by decide +kernel
theorem dX6_firstSet_17 : decode cX6_firstSet 17 = .ok (.iload_n 3, 1) := by decide +kernel
theorem dX6_firstSet_18 : decode cX6_firstSet 18 = .ok (.iconst 1, 1) := by decide +kernel
theorem dX6_firstSet_19 : decode cX6_firstSet 19 = .ok (.aload_n 0, 1) := by decide +kernel
theorem dX6_firstSet_20 : decode cX6_firstSet 20 = .ok (.getfield 21, 3) := by decide +kernel
theorem dX6_firstSet_23 : decode cX6_firstSet 23 = .ok (.iload 4, 2) := by decide +kernel
theorem dX6_firstSet_25 : decode cX6_firstSet 25 = .ok (.iaload, 1) := by decide +kernel
theorem dX6_firstSet_26 : decode cX6_firstSet 26 = .ok (.ishl, 1) := by decide +kernel
theorem dX6_firstSet_27 : decode cX6_firstSet 27 = .ok (.ior, 1) := by decide +kernel
theorem dX6_firstSet_28 : decode cX6_firstSet 28 = .ok (.istore_n 3, 1) := by decide +kernel
theorem dX6_firstSet_29 : decode cX6_firstSet 29 = .ok (.iinc 4 1, 3) := by decide +kernel
theorem dX6_firstSet_32 : decode cX6_firstSet 32 = .ok (.goto (-21), 3) := by decide +kernel
theorem dX6_firstSet_35 : decode cX6_firstSet 35 = .ok (.iload_n 3, 1) := by decide +kernel
theorem dX6_firstSet_36 : decode cX6_firstSet 36 = .ok (.ireturn, 1) := by decide +kernel
theorem dX7_init_0 : decode cX7_init 0 = .ok (.aload_n 0, 1) := by decide +kernel
theorem dX7_init_1 : decode cX7_init 1 = .ok (.invokespecial 3, 3) := by decide +kernel
theorem dX7_init_4 : decode cX7_init 4 = .ok (.aload_n 0, 1) := by decide +kernel
theorem dX7_init_5 : decode cX7_init 5 = .ok (.bipush 80, 2) := by decide +kernel
theorem dX7_init_7 : decode cX7_init 7 = .ok (.newarray .int, 2) := by decide +kernel
theorem dX7_init_9 : decode cX7_init 9 = .ok (.putfield 9, 3) := by decide +kernel
theorem dX7_init_12 : decode cX7_init 12 = .ok (.aload_n 0, 1) := by decide +kernel
theorem dX7_init_13 : decode cX7_init 13 = .ok (.iconst 1, 1) := by decide +kernel
theorem dX7_init_14 : decode cX7_init 14 = .ok (.putfield 15, 3) := by decide +kernel
theorem dX7_init_17 : decode cX7_init 17 = .ok (.return_, 1) := by decide +kernel
theorem dX7_begin_0 : decode cX7_begin 0 = .ok (.aload_n 0, 1) := by decide +kernel
theorem dX7_begin_1 : decode cX7_begin 1 = .ok (.getfield 9, 3) := by decide +kernel
theorem dX7_begin_4 : decode cX7_begin 4 = .ok (.iconst 0, 1) := by decide +kernel
theorem dX7_begin_5 : decode cX7_begin 5 = .ok (.invokestatic 19, 3) := by decide +kernel
theorem dX7_begin_8 : decode cX7_begin 8 = .ok (.aload_n 0, 1) := by decide +kernel
theorem dX7_begin_9 : decode cX7_begin 9 = .ok (.iconst 0, 1) := by decide +kernel
theorem dX7_begin_10 : decode cX7_begin 10 = .ok (.putfield 15, 3) := by decide +kernel
theorem dX7_begin_13 : decode cX7_begin 13 = .ok (.aload_n 0, 1) := by decide +kernel
theorem dX7_begin_14 : decode cX7_begin 14 = .ok (.iload_n 1, 1) := by decide +kernel
theorem dX7_begin_15 : decode cX7_begin 15 = .ok (.putfield 25, 3) := by decide +kernel
theorem dX7_begin_18 : decode cX7_begin 18 = .ok (.aload_n 0, 1) := by decide +kernel
theorem dX7_begin_19 : decode cX7_begin 19 = .ok (.iload_n 2, 1) := by decide +kernel
theorem dX7_begin_20 : decode cX7_begin 20 = .ok (.putfield 29, 3) := by decide +kernel
theorem dX7_begin_23 : decode cX7_begin 23 = .ok (.return_, 1) := by decide +kernel
theorem dX7_reaches_0 : decode cX7_reaches 0 = .ok (.iload_n 1, 1) := by decide +kernel
theorem dX7_reaches_1 : decode cX7_reaches 1 = .ok (.ifCond .lt 25, 3) := by decide +kernel
theorem dX7_reaches_4 : decode cX7_reaches 4 = .ok (.iload_n 2, 1) := by decide +kernel
theorem dX7_reaches_5 : decode cX7_reaches 5 = .ok (.ifCond .lt 21, 3) := by decide +kernel
theorem dX7_reaches_8 : decode cX7_reaches 8 = .ok (.iload_n 1, 1) := by decide +kernel
theorem dX7_reaches_9 : decode cX7_reaches 9 = .ok (.i2l, 1) := by decide +kernel
theorem dX7_reaches_10 : decode cX7_reaches 10 = .ok (.iload_n 2, 1) := by decide +kernel
theorem dX7_reaches_11 : decode cX7_reaches 11 = .ok (.i2l, 1) := by decide +kernel
theorem dX7_reaches_12 : decode cX7_reaches 12 = .ok (.ladd, 1) := by decide +kernel
theorem dX7_reaches_13 : decode cX7_reaches 13 = .ok (.aload_n 0, 1) := by decide +kernel
theorem dX7_reaches_14 : decode cX7_reaches 14 = .ok (.getfield 29, 3) := by decide +kernel
theorem dX7_reaches_17 : decode cX7_reaches 17 = .ok (.i2l, 1) := by decide +kernel
theorem dX7_reaches_18 : decode cX7_reaches 18 = .ok (.lcmp, 1) := by decide +kernel
theorem dX7_reaches_19 : decode cX7_reaches 19 = .ok (.ifCond .gt 7, 3) := by decide +kernel
theorem dX7_reaches_22 : decode cX7_reaches 22 = .ok (.iconst 1, 1) := by decide +kernel
theorem dX7_reaches_23 : decode cX7_reaches 23 = .ok (.goto 4, 3) := by decide +kernel
theorem dX7_reaches_26 : decode cX7_reaches 26 = .ok (.iconst 0, 1) := by decide +kernel
theorem dX7_reaches_27 : decode cX7_reaches 27 = .ok (.ireturn, 1) := by decide +kernel
theorem dX7_findingAt_0 : decode cX7_findingAt 0 = .ok (.aload_n 0, 1) := by decide +kernel
theorem dX7_findingAt_1 : decode cX7_findingAt 1 = .ok (.getfield 15, 3) := by decide +kernel
theorem dX7_findingAt_4 : decode cX7_findingAt 4 = .ok (.ifCond .eq 5, 3) := by decide +kernel
theorem dX7_findingAt_7 : decode cX7_findingAt 7 = .ok (.iconst 1, 1) := by decide +kernel
theorem dX7_findingAt_8 : decode cX7_findingAt 8 = .ok (.ireturn, 1) := by decide +kernel
theorem dX7_findingAt_9 : decode cX7_findingAt 9 = .ok (.aload_n 0, 1) := by decide +kernel
theorem dX7_findingAt_10 : decode cX7_findingAt 10 = .ok (.iload_n 1, 1) := by decide +kernel
theorem dX7_findingAt_11 : decode cX7_findingAt 11 = .ok (.iload_n 2, 1) := by decide +kernel
theorem dX7_findingAt_12 : decode cX7_findingAt 12 = .ok (.invokevirtual 32, 3) := by decide +kernel
theorem dX7_findingAt_15 : decode cX7_findingAt 15 = .ok (.ifCond .eq 7, 3) := by decide +kernel
theorem dX7_findingAt_18 : decode cX7_findingAt 18 = .ok (.iconst 0, 1) := by decide +kernel
theorem dX7_findingAt_19 : decode cX7_findingAt 19 = .ok (.goto 4, 3) := by decide +kernel
theorem dX7_findingAt_22 : decode cX7_findingAt 22 = .ok (.iconst 2, 1) := by decide +kernel
theorem dX7_findingAt_23 : decode cX7_findingAt 23 = .ok (.ireturn, 1) := by decide +kernel
theorem dX7_put_0 : decode cX7_put 0 = .ok (.aload_n 0, 1) := by decide +kernel
theorem dX7_put_1 : decode cX7_put 1 = .ok (.getfield 25, 3) := by decide +kernel
theorem dX7_put_4 : decode cX7_put 4 = .ok (.ifCond .ne 14, 3) := by decide +kernel
theorem dX7_put_7 : decode cX7_put 7 = .ok (.aload_n 0, 1) := by decide +kernel
theorem dX7_put_8 : decode cX7_put 8 = .ok (.getfield 9, 3) := by decide +kernel
theorem dX7_put_11 : decode cX7_put 11 = .ok (.iload_n 1, 1) := by decide +kernel
theorem dX7_put_12 : decode cX7_put 12 = .ok (.iload_n 2, 1) := by decide +kernel
theorem dX7_put_13 : decode cX7_put 13 = .ok (.i2b, 1) := by decide +kernel
theorem dX7_put_14 : decode cX7_put 14 = .ok (.iastore, 1) := by decide +kernel
theorem dX7_put_15 : decode cX7_put 15 = .ok (.goto 29, 3) := by decide +kernel
theorem dX7_put_18 : decode cX7_put 18 = .ok (.aload_n 0, 1) := by decide +kernel
theorem dX7_put_19 : decode cX7_put 19 = .ok (.getfield 25, 3) := by decide +kernel
theorem dX7_put_22 : decode cX7_put 22 = .ok (.iconst 1, 1) := by decide +kernel
theorem dX7_put_23 : decode cX7_put 23 = .ok (.if_icmp .ne 14, 3) := by decide +kernel
theorem dX7_put_26 : decode cX7_put 26 = .ok (.aload_n 0, 1) := by decide +kernel
theorem dX7_put_27 : decode cX7_put 27 = .ok (.getfield 9, 3) := by decide +kernel
theorem dX7_put_30 : decode cX7_put 30 = .ok (.iload_n 1, 1) := by decide +kernel
theorem dX7_put_31 : decode cX7_put 31 = .ok (.iload_n 2, 1) := by decide +kernel
theorem dX7_put_32 : decode cX7_put 32 = .ok (.i2s, 1) := by decide +kernel
theorem dX7_put_33 : decode cX7_put 33 = .ok (.iastore, 1) := by decide +kernel
theorem dX7_put_34 : decode cX7_put 34 = .ok (.goto 10, 3) := by decide +kernel
theorem dX7_put_37 : decode cX7_put 37 = .ok (.aload_n 0, 1) := by decide +kernel
theorem dX7_put_38 : decode cX7_put 38 = .ok (.getfield 9, 3) := by decide +kernel
theorem dX7_put_41 : decode cX7_put 41 = .ok (.iload_n 1, 1) := by decide +kernel
theorem dX7_put_42 : decode cX7_put 42 = .ok (.iload_n 2, 1) := by decide +kernel
theorem dX7_put_43 : decode cX7_put 43 = .ok (.iastore, 1) := by decide +kernel
theorem dX7_put_44 : decode cX7_put 44 = .ok (.aload_n 0, 1) := by decide +kernel
theorem dX7_put_45 : decode cX7_put 45 = .ok (.getfield 9, 3) := by decide +kernel
theorem dX7_put_48 : decode cX7_put 48 = .ok (.iload_n 1, 1) := by decide +kernel
theorem dX7_put_49 : decode cX7_put 49 = .ok (.iaload, 1) := by decide +kernel
theorem dX7_put_50 : decode cX7_put 50 = .ok (.ireturn, 1) := by decide +kernel
theorem dX8_init_0 : decode cX8_init 0 = .ok (.aload_n 0, 1) := by decide +kernel
theorem dX8_init_1 : decode cX8_init 1 = .ok (.invokespecial 3, 3) := by decide +kernel
theorem dX8_init_4 : decode cX8_init 4 = .ok (.aload_n 0, 1) := by decide +kernel
theorem dX8_init_5 : decode cX8_init 5 = .ok (.sipush 400, 3) := by decide +kernel
theorem dX8_init_8 : decode cX8_init 8 = .ok (.newarray .int, 2) := by decide +kernel
theorem dX8_init_10 : decode cX8_init 10 = .ok (.putfield 11, 3) := by decide +kernel
theorem dX8_init_13 : decode cX8_init 13 = .ok (.return_, 1) := by decide +kernel
theorem dX8_append_0 : decode cX8_append 0 = .ok (.aload_n 0, 1) := by decide +kernel
theorem dX8_append_1 : decode cX8_append 1 = .ok (.getfield 15, 3) := by decide +kernel
theorem dX8_append_4 : decode cX8_append 4 = .ok (.iload_n 3, 1) := by decide +kernel
theorem dX8_append_5 : decode cX8_append 5 = .ok (.iadd, 1) := by decide +kernel
theorem dX8_append_6 : decode cX8_append 6 = .ok (.sipush 400, 3) := by decide +kernel
theorem dX8_append_9 : decode cX8_append 9 = .ok (.if_icmp .le 6, 3) := by decide +kernel
theorem dX8_append_12 : decode cX8_append 12 = .ok (.ldc 19, 2) := by decide +kernel
theorem dX8_append_14 : decode cX8_append 14 = .ok (.ireturn, 1) := by decide +kernel
theorem dX8_append_15 : decode cX8_append 15 = .ok (.iload_n 3, 1) := by decide +kernel
theorem dX8_append_16 : decode cX8_append 16 = .ok (.iconst 1, 1) := by decide +kernel
theorem dX8_append_17 : decode cX8_append 17 = .ok (.isub, 1) := by decide +kernel
theorem dX8_append_18 : decode cX8_append 18 = .ok (.istore 4, 2) := by decide +kernel
theorem dX8_append_20 : decode cX8_append 20 = .ok (.iload 4, 2) := by decide +kernel
theorem dX8_append_22 : decode cX8_append 22 = .ok (.ifCond .lt 40, 3) := by decide +kernel
theorem dX8_append_25 : decode cX8_append 25 = .ok (.aload_n 0, 1) := by decide +kernel
theorem dX8_append_26 : decode cX8_append 26 = .ok (.getfield 11, 3) := by decide +kernel
theorem dX8_append_29 : decode cX8_append 29 = .ok (.aload_n 0, 1) := by decide +kernel
theorem dX8_append_30 : decode cX8_append 30 = .ok (.getfield 15, 3) := by decide +kernel
theorem dX8_append_33 : decode cX8_append 33 = .ok (.lload_n 1, 1) := by decide +kernel
theorem dX8_append_34 : decode cX8_append 34 = .ok (.bipush 8, 2) := by decide +kernel
theorem dX8_append_36 : decode cX8_append 36 = .ok (.iload 4, 2) := by decide +kernel
theorem dX8_append_38 : decode cX8_append 38 = .ok (.imul, 1) := by decide +kernel
theorem dX8_append_39 : decode cX8_append 39 = .ok (.lshr, 1) := by decide +kernel
theorem dX8_append_40 : decode cX8_append 40 = .ok (.l2i, 1) := by decide +kernel
theorem dX8_append_41 : decode cX8_append 41 = .ok (.sipush 255, 3) := by decide +kernel
theorem dX8_append_44 : decode cX8_append 44 = .ok (.iand, 1) := by decide +kernel
theorem dX8_append_45 : decode cX8_append 45 = .ok (.iastore, 1) := by decide +kernel
theorem dX8_append_46 : decode cX8_append 46 = .ok (.aload_n 0, 1) := by decide +kernel
theorem dX8_append_47 : decode cX8_append 47 = .ok (.dup, 1) := by decide +kernel
theorem dX8_append_48 : decode cX8_append 48 = .ok (.getfield 15, 3) := by decide +kernel
theorem dX8_append_51 : decode cX8_append 51 = .ok (.iconst 1, 1) := by decide +kernel
theorem dX8_append_52 : decode cX8_append 52 = .ok (.iadd, 1) := by decide +kernel
theorem dX8_append_53 : decode cX8_append 53 = .ok (.putfield 15, 3) := by decide +kernel
theorem dX8_append_56 : decode cX8_append 56 = .ok (.iinc 4 (-1), 3) := by decide +kernel
theorem dX8_append_59 : decode cX8_append 59 = .ok (.goto (-39), 3) := by decide +kernel
theorem dX8_append_62 : decode cX8_append 62 = .ok (.aload_n 0, 1) := by decide +kernel
theorem dX8_append_63 : decode cX8_append 63 = .ok (.getfield 15, 3) := by decide +kernel
theorem dX8_append_66 : decode cX8_append 66 = .ok (.ireturn, 1) := by decide +kernel
theorem dX8_readInto_0 : decode cX8_readInto 0 = .ok (.aload_n 1, 1) := by decide +kernel
theorem dX8_readInto_1 : decode cX8_readInto 1 = .ok (.invokevirtual 20, 3) := by decide +kernel
theorem dX8_readInto_4 : decode cX8_readInto 4 = .ok (.aload_n 0, 1) := by decide +kernel
theorem dX8_readInto_5 : decode cX8_readInto 5 = .ok (.iconst 0, 1) := by decide +kernel
theorem dX8_readInto_6 : decode cX8_readInto 6 = .ok (.putfield 25, 3) := by decide +kernel
theorem dX8_readInto_9 : decode cX8_readInto 9 = .ok (.aload_n 0, 1) := by decide +kernel
theorem dX8_readInto_10 : decode cX8_readInto 10 = .ok (.invokevirtual 28, 3) := by decide +kernel
theorem dX8_readInto_13 : decode cX8_readInto 13 = .ok (.iconst 0, 1) := by decide +kernel
theorem dX8_readInto_14 : decode cX8_readInto 14 = .ok (.istore_n 2, 1) := by decide +kernel
theorem dX8_readInto_15 : decode cX8_readInto 15 = .ok (.iload_n 2, 1) := by decide +kernel
theorem dX8_readInto_16 : decode cX8_readInto 16 = .ok (.aload_n 0, 1) := by decide +kernel
theorem dX8_readInto_17 : decode cX8_readInto 17 = .ok (.getfield 15, 3) := by decide +kernel
theorem dX8_readInto_20 : decode cX8_readInto 20 = .ok (.if_icmp .gt 26, 3) := by decide +kernel
theorem dX8_readInto_23 : decode cX8_readInto 23 = .ok (.aload_n 0, 1) := by decide +kernel
theorem dX8_readInto_24 : decode cX8_readInto 24 = .ok (.getfield 31, 3) := by decide +kernel
theorem dX8_readInto_27 : decode cX8_readInto 27 = .ok (.ifCond .eq 19, 3) := by decide +kernel
theorem dX8_readInto_30 : decode cX8_readInto 30 = .ok (.aload_n 0, 1) := by decide +kernel
theorem dX8_readInto_31 : decode cX8_readInto 31 = .ok (.aload_n 1, 1) := by decide +kernel
theorem dX8_readInto_32 : decode cX8_readInto 32 = .ok (.invokevirtual 34, 3) := by decide +kernel
theorem dX8_readInto_35 : decode cX8_readInto 35 = .ok (.ifCond .ne 5, 3) := by decide +kernel
theorem dX8_readInto_38 : decode cX8_readInto 38 = .ok (.iconst 0, 1) := by decide +kernel
theorem dX8_readInto_39 : decode cX8_readInto 39 = .ok (.ireturn, 1) := by decide +kernel
theorem dX8_readInto_40 : decode cX8_readInto 40 = .ok (.iinc 2 1, 3) := by decide +kernel
theorem dX8_readInto_43 : decode cX8_readInto 43 = .ok (.goto (-28), 3) := by decide +kernel
theorem dX8_readInto_46 : decode cX8_readInto 46 = .ok (.iconst 1, 1) := by decide +kernel
theorem dX8_readInto_47 : decode cX8_readInto 47 = .ok (.ireturn, 1) := by decide +kernel
theorem dX8_readList_0 : decode cX8_readList 0 = .ok (.aload_n 0, 1) := by decide +kernel
theorem dX8_readList_1 : decode cX8_readList 1 = .ok (.ldc 38, 2) := by decide +kernel
theorem dX8_readList_3 : decode cX8_readList 3 = .ok (.invokevirtual 40, 3) := by decide +kernel
theorem dX8_readList_6 : decode cX8_readList 6 = .ok (.ifCond .ne 9, 3) := by decide +kernel
theorem dX8_readList_9 : decode cX8_readList 9 = .ok (.aload_n 0, 1) := by decide +kernel
theorem dX8_readList_10 : decode cX8_readList 10 = .ok (.iconst 1, 1) := by decide +kernel
theorem dX8_readList_11 : decode cX8_readList 11 = .ok (.invokevirtual 44, 3) := by decide +kernel
theorem dX8_readList_14 : decode cX8_readList 14 = .ok (.ireturn, 1) := by decide +kernel
theorem dX8_readList_15 : decode cX8_readList 15 = .ok (.aload_n 0, 1) := by decide +kernel
theorem dX8_readList_16 : decode cX8_readList 16 = .ok (.invokevirtual 28, 3) := by decide +kernel
theorem dX8_readList_19 : decode cX8_readList 19 = .ok (.aload_n 0, 1) := by decide +kernel
theorem dX8_readList_20 : decode cX8_readList 20 = .ok (.bipush 99, 2) := by decide +kernel
theorem dX8_readList_22 : decode cX8_readList 22 = .ok (.invokevirtual 48, 3) := by decide +kernel
theorem dX8_readList_25 : decode cX8_readList 25 = .ok (.ifCond .ne 5, 3) := by decide +kernel
theorem dX8_readList_28 : decode cX8_readList 28 = .ok (.iconst 0, 1) := by decide +kernel
theorem dX8_readList_29 : decode cX8_readList 29 = .ok (.ireturn, 1) := by decide +kernel
theorem dX8_readList_30 : decode cX8_readList 30 = .ok (.aload_n 0, 1) := by decide +kernel
theorem dX8_readList_31 : decode cX8_readList 31 = .ok (.getfield 51, 3) := by decide +kernel
theorem dX8_readList_34 : decode cX8_readList 34 = .ok (.istore_n 2, 1) := by decide +kernel
theorem dX8_readList_35 : decode cX8_readList 35 = .ok (.aload_n 0, 1) := by decide +kernel
theorem dX8_readList_36 : decode cX8_readList 36 = .ok (.invokevirtual 28, 3) := by decide +kernel
theorem dX8_readList_39 : decode cX8_readList 39 = .ok (.iconst 0, 1) := by decide +kernel
theorem dX8_readList_40 : decode cX8_readList 40 = .ok (.istore_n 3, 1) := by decide +kernel
theorem dX8_readList_41 : decode cX8_readList 41 = .ok (.iload_n 3, 1) := by decide +kernel
theorem dX8_readList_42 : decode cX8_readList 42 = .ok (.aload_n 0, 1) := by decide +kernel
theorem dX8_readList_43 : decode cX8_readList 43 = .ok (.getfield 15, 3) := by decide +kernel
theorem dX8_readList_46 : decode cX8_readList 46 = .ok (.if_icmp .gt 38, 3) := by decide +kernel
theorem dX8_readList_49 : decode cX8_readList 49 = .ok (.iload_n 3, 1) := by decide +kernel
theorem dX8_readList_50 : decode cX8_readList 50 = .ok (.ifCond .le 17, 3) := by decide +kernel
theorem dX8_readList_53 : decode cX8_readList 53 = .ok (.aload_n 0, 1) := by decide +kernel
theorem dX8_readList_54 : decode cX8_readList 54 = .ok (.getfield 31, 3) := by decide +kernel
theorem dX8_readList_57 : decode cX8_readList 57 = .ok (.iconst 3, 1) := by decide +kernel
theorem dX8_readList_58 : decode cX8_readList 58 = .ok (.if_icmp .ne 9, 3) := by decide +kernel
theorem dX8_readList_61 : decode cX8_readList 61 = .ok (.aload_n 0, 1) := by decide +kernel
theorem dX8_readList_62 : decode cX8_readList 62 = .ok (.invokevirtual 28, 3) := by decide +kernel
theorem dX8_readList_65 : decode cX8_readList 65 = .ok (.iconst 1, 1) := by decide +kernel
theorem dX8_readList_66 : decode cX8_readList 66 = .ok (.ireturn, 1) := by decide +kernel
theorem dX8_readList_67 : decode cX8_readList 67 = .ok (.aload_n 0, 1) := by decide +kernel
theorem dX8_readList_68 : decode cX8_readList 68 = .ok (.aload_n 1, 1) := by decide +kernel
theorem dX8_readList_69 : decode cX8_readList 69 = .ok (.iload_n 2, 1) := by decide +kernel
theorem dX8_readList_70 : decode cX8_readList 70 = .ok (.invokevirtual 54, 3) := by decide +kernel
theorem dX8_readList_73 : decode cX8_readList 73 = .ok (.ifCond .ne 5, 3) := by decide +kernel
theorem dX8_readList_76 : decode cX8_readList 76 = .ok (.iconst 0, 1) := by decide +kernel
theorem dX8_readList_77 : decode cX8_readList 77 = .ok (.ireturn, 1) := by decide +kernel
theorem dX8_readList_78 : decode cX8_readList 78 = .ok (.iinc 3 1, 3) := by decide +kernel
theorem dX8_readList_81 : decode cX8_readList 81 = .ok (.goto (-40), 3) := by decide +kernel
theorem dX8_readList_84 : decode cX8_readList 84 = .ok (.aload_n 0, 1) := by decide +kernel
theorem dX8_readList_85 : decode cX8_readList 85 = .ok (.iconst 1, 1) := by decide +kernel
theorem dX8_readList_86 : decode cX8_readList 86 = .ok (.invokevirtual 44, 3) := by decide +kernel
theorem dX8_readList_89 : decode cX8_readList 89 = .ok (.ireturn, 1) := by decide +kernel
theorem dX8_readRule_0 : decode cX8_readRule 0 = .ok (.aload_n 0, 1) := by decide +kernel
theorem dX8_readRule_1 : decode cX8_readRule 1 = .ok (.invokevirtual 58, 3) := by decide +kernel
theorem dX8_readRule_4 : decode cX8_readRule 4 = .ok (.istore_n 3, 1) := by decide +kernel
theorem dX8_readRule_5 : decode cX8_readRule 5 = .ok (.iload_n 3, 1) := by decide +kernel
theorem dX8_readRule_6 : decode cX8_readRule 6 = .ok (.ldc 62, 2) := by decide +kernel
theorem dX8_readRule_8 : decode cX8_readRule 8 = .ok (.if_icmp .ne 9, 3) := by decide +kernel
theorem dX8_readRule_11 : decode cX8_readRule 11 = .ok (.aload_n 0, 1) := by decide +kernel
theorem dX8_readRule_12 : decode cX8_readRule 12 = .ok (.iconst 1, 1) := by decide +kernel
theorem dX8_readRule_13 : decode cX8_readRule 13 = .ok (.invokevirtual 44, 3) := by decide +kernel
theorem dX8_readRule_16 : decode cX8_readRule 16 = .ok (.ireturn, 1) := by decide +kernel
theorem dX8_readRule_17 : decode cX8_readRule 17 = .ok (.aload_n 1, 1) := by decide +kernel
theorem dX8_readRule_18 : decode cX8_readRule 18 = .ok (.invokevirtual 63, 3) := by decide +kernel
theorem dX8_readRule_21 : decode cX8_readRule 21 = .ok (.ifCond .ne 9, 3) := by decide +kernel
theorem dX8_readRule_24 : decode cX8_readRule 24 = .ok (.aload_n 0, 1) := by decide +kernel
theorem dX8_readRule_25 : decode cX8_readRule 25 = .ok (.iconst 3, 1) := by decide +kernel
theorem dX8_readRule_26 : decode cX8_readRule 26 = .ok (.invokevirtual 44, 3) := by decide +kernel
theorem dX8_readRule_29 : decode cX8_readRule 29 = .ok (.ireturn, 1) := by decide +kernel
theorem dX8_readRule_30 : decode cX8_readRule 30 = .ok (.aload_n 0, 1) := by decide +kernel
theorem dX8_readRule_31 : decode cX8_readRule 31 = .ok (.invokevirtual 28, 3) := by decide +kernel
theorem dX8_readRule_34 : decode cX8_readRule 34 = .ok (.iload_n 3, 1) := by decide +kernel
theorem dX8_readRule_35 : decode cX8_readRule 35 = .ok (.ifCond .ne 22, 3) := by decide +kernel
theorem dX8_readRule_38 : decode cX8_readRule 38 = .ok (.aload_n 0, 1) := by decide +kernel
theorem dX8_readRule_39 : decode cX8_readRule 39 = .ok (.iconst 3, 1) := by decide +kernel
theorem dX8_readRule_40 : decode cX8_readRule 40 = .ok (.invokevirtual 48, 3) := by decide +kernel
theorem dX8_readRule_43 : decode cX8_readRule 43 = .ok (.ifCond .ne 5, 3) := by decide +kernel
theorem dX8_readRule_46 : decode cX8_readRule 46 = .ok (.iconst 0, 1) := by decide +kernel
theorem dX8_readRule_47 : decode cX8_readRule 47 = .ok (.ireturn, 1) := by decide +kernel
theorem dX8_readRule_48 : decode cX8_readRule 48 = .ok (.aload_n 0, 1) := by decide +kernel
theorem dX8_readRule_49 : decode cX8_readRule 49 = .ok (.getfield 51, 3) := by decide +kernel
theorem dX8_readRule_52 : decode cX8_readRule 52 = .ok (.istore_n 3, 1) := by decide +kernel
theorem dX8_readRule_53 : decode cX8_readRule 53 = .ok (.aload_n 0, 1) := by decide +kernel
theorem dX8_readRule_54 : decode cX8_readRule 54 = .ok (.invokevirtual 28, 3) := by decide +kernel
theorem dX8_readRule_57 : decode cX8_readRule 57 = .ok (.aload_n 0, 1) := by decide +kernel
theorem dX8_readRule_58 : decode cX8_readRule 58 = .ok (.getstatic 67, 3) := by decide +kernel
theorem dX8_readRule_61 : decode cX8_readRule 61 = .ok (.iload_n 3, 1) := by decide +kernel
theorem dX8_readRule_62 : decode cX8_readRule 62 = .ok (.iaload, 1) := by decide +kernel
theorem dX8_readRule_63 : decode cX8_readRule 63 = .ok (.invokevirtual 48, 3) := by decide +kernel
theorem dX8_readRule_66 : decode cX8_readRule 66 = .ok (.ifCond .ne 5, 3) := by decide +kernel
theorem dX8_readRule_69 : decode cX8_readRule 69 = .ok (.iconst 0, 1) := by decide +kernel
theorem dX8_readRule_70 : decode cX8_readRule 70 = .ok (.ireturn, 1) := by decide +kernel
theorem dX8_readRule_71 : decode cX8_readRule 71 = .ok (.aload_n 1, 1) := by decide +kernel
theorem dX8_readRule_72 : decode cX8_readRule 72 = .ok (.iload_n 2, 1) := by decide +kernel
theorem dX8_readRule_73 : decode cX8_readRule 73 = .ok (.iload_n 3, 1) := by decide +kernel
theorem dX8_readRule_74 : decode cX8_readRule 74 = .ok (.aload_n 0, 1) := by decide +kernel
theorem dX8_readRule_75 : decode cX8_readRule 75 = .ok (.getfield 51, 3) := by decide +kernel
theorem dX8_readRule_78 : decode cX8_readRule 78 = .ok (.invokevirtual 70, 3) := by decide +kernel
theorem dX8_readRule_81 : decode cX8_readRule 81 = .ok (.aload_n 0, 1) := by decide +kernel
theorem dX8_readRule_82 : decode cX8_readRule 82 = .ok (.invokevirtual 28, 3) := by decide +kernel
theorem dX8_readRule_85 : decode cX8_readRule 85 = .ok (.iconst 1, 1) := by decide +kernel
theorem dX8_readRule_86 : decode cX8_readRule 86 = .ok (.ireturn, 1) := by decide +kernel
theorem dX8_ruleOfWord_0 : decode cX8_ruleOfWord 0 = .ok (.aload_n 0, 1) := by decide +kernel
theorem dX8_ruleOfWord_1 : decode cX8_ruleOfWord 1 = .ok (.ldc 74, 2) := by decide +kernel
theorem dX8_ruleOfWord_3 : decode cX8_ruleOfWord 3 = .ok (.invokevirtual 40, 3) := by decide +kernel
theorem dX8_ruleOfWord_6 : decode cX8_ruleOfWord 6 = .ok (.ifCond .eq 5, 3) := by decide +kernel
theorem dX8_ruleOfWord_9 : decode cX8_ruleOfWord 9 = .ok (.iconst 0, 1) := by decide +kernel
theorem dX8_ruleOfWord_10 : decode cX8_ruleOfWord 10 = .ok (.ireturn, 1) := by decide +kernel
theorem dX8_ruleOfWord_11 : decode cX8_ruleOfWord 11 = .ok (.aload_n 0, 1) := by decide +kernel
theorem dX8_ruleOfWord_12 : decode cX8_ruleOfWord 12 = .ok (.ldc 76, 2) := by decide +kernel
theorem dX8_ruleOfWord_14 : decode cX8_ruleOfWord 14 = .ok (.invokevirtual 40, 3) := by decide +kernel
theorem dX8_ruleOfWord_17 : decode cX8_ruleOfWord 17 = .ok (.ifCond .eq 5, 3) := by decide +kernel
theorem dX8_ruleOfWord_20 : decode cX8_ruleOfWord 20 = .ok (.iconst 4, 1) := by decide +kernel
theorem dX8_ruleOfWord_21 : decode cX8_ruleOfWord 21 = .ok (.ireturn, 1) := by decide +kernel
theorem dX8_ruleOfWord_22 : decode cX8_ruleOfWord 22 = .ok (.aload_n 0, 1) := by decide +kernel
theorem dX8_ruleOfWord_23 : decode cX8_ruleOfWord 23 = .ok (.ldc 78, 2) := by decide +kernel
theorem dX8_ruleOfWord_25 : decode cX8_ruleOfWord 25 = .ok (.invokevirtual 40, 3) := by decide +kernel
theorem dX8_ruleOfWord_28 : decode cX8_ruleOfWord 28 = .ok (.ifCond .eq 5, 3) := by decide +kernel
theorem dX8_ruleOfWord_31 : decode cX8_ruleOfWord 31 = .ok (.iconst 5, 1) := by decide +kernel
theorem dX8_ruleOfWord_32 : decode cX8_ruleOfWord 32 = .ok (.ireturn, 1) := by decide +kernel
theorem dX8_ruleOfWord_33 : decode cX8_ruleOfWord 33 = .ok (.aload_n 0, 1) := by decide +kernel
theorem dX8_ruleOfWord_34 : decode cX8_ruleOfWord 34 = .ok (.ldc 80, 2) := by decide +kernel
theorem dX8_ruleOfWord_36 : decode cX8_ruleOfWord 36 = .ok (.invokevirtual 40, 3) := by decide +kernel
theorem dX8_ruleOfWord_39 : decode cX8_ruleOfWord 39 = .ok (.ifCond .eq 6, 3) := by decide +kernel
theorem dX8_ruleOfWord_42 : decode cX8_ruleOfWord 42 = .ok (.bipush 6, 2) := by decide +kernel
theorem dX8_ruleOfWord_44 : decode cX8_ruleOfWord 44 = .ok (.ireturn, 1) := by decide +kernel
theorem dX8_ruleOfWord_45 : decode cX8_ruleOfWord 45 = .ok (.aload_n 0, 1) := by decide +kernel
theorem dX8_ruleOfWord_46 : decode cX8_ruleOfWord 46 = .ok (.ldc 82, 2) := by decide +kernel
theorem dX8_ruleOfWord_48 : decode cX8_ruleOfWord 48 = .ok (.invokevirtual 40, 3) := by decide +kernel
theorem dX8_ruleOfWord_51 : decode cX8_ruleOfWord 51 = .ok (.ifCond .eq 8, 3) := by decide +kernel
theorem dX8_ruleOfWord_54 : decode cX8_ruleOfWord 54 = .ok (.bipush 7, 2) := by decide +kernel
theorem dX8_ruleOfWord_56 : decode cX8_ruleOfWord 56 = .ok (.goto 5, 3) := by decide +kernel
theorem dX8_ruleOfWord_59 : decode cX8_ruleOfWord 59 = .ok (.ldc 62, 2) := by decide +kernel
theorem dX8_ruleOfWord_61 : decode cX8_ruleOfWord 61 = .ok (.ireturn, 1) := by decide +kernel
theorem dX8_isWord_0 : decode cX8_isWord 0 = .ok (.aload_n 0, 1) := by decide +kernel
theorem dX8_isWord_1 : decode cX8_isWord 1 = .ok (.getfield 31, 3) := by decide +kernel
theorem dX8_isWord_4 : decode cX8_isWord 4 = .ok (.iconst 1, 1) := by decide +kernel
theorem dX8_isWord_5 : decode cX8_isWord 5 = .ok (.if_icmp .ne 19, 3) := by decide +kernel
theorem dX8_isWord_8 : decode cX8_isWord 8 = .ok (.aload_n 0, 1) := by decide +kernel
theorem dX8_isWord_9 : decode cX8_isWord 9 = .ok (.getfield 25, 3) := by decide +kernel
theorem dX8_isWord_12 : decode cX8_isWord 12 = .ok (.aload_n 0, 1) := by decide +kernel
theorem dX8_isWord_13 : decode cX8_isWord 13 = .ok (.getfield 84, 3) := by decide +kernel
theorem dX8_isWord_16 : decode cX8_isWord 16 = .ok (.isub, 1) := by decide +kernel
theorem dX8_isWord_17 : decode cX8_isWord 17 = .ok (.aload_n 1, 1) := by decide +kernel
theorem dX8_isWord_18 : decode cX8_isWord 18 = .ok (.invokevirtual 87, 3) := by decide +kernel
theorem dX8_isWord_21 : decode cX8_isWord 21 = .ok (.if_icmp .eq 5, 3) := by decide +kernel
theorem dX8_isWord_24 : decode cX8_isWord 24 = .ok (.iconst 0, 1) := by decide +kernel
theorem dX8_isWord_25 : decode cX8_isWord 25 = .ok (.ireturn, 1) := by decide +kernel
theorem dX8_isWord_26 : decode cX8_isWord 26 = .ok (.iconst 0, 1) := by decide +kernel
theorem dX8_isWord_27 : decode cX8_isWord 27 = .ok (.istore_n 2, 1) := by decide +kernel
theorem dX8_isWord_28 : decode cX8_isWord 28 = .ok (.iload_n 2, 1) := by decide +kernel
theorem dX8_isWord_29 : decode cX8_isWord 29 = .ok (.aload_n 1, 1) := by decide +kernel
theorem dX8_isWord_30 : decode cX8_isWord 30 = .ok (.invokevirtual 87, 3) := by decide +kernel
theorem dX8_isWord_33 : decode cX8_isWord 33 = .ok (.if_icmp .ge 30, 3) := by decide +kernel
theorem dX8_isWord_36 : decode cX8_isWord 36 = .ok (.aload_n 0, 1) := by decide +kernel
theorem dX8_isWord_37 : decode cX8_isWord 37 = .ok (.getfield 11, 3) := by decide +kernel
theorem dX8_isWord_40 : decode cX8_isWord 40 = .ok (.aload_n 0, 1) := by decide +kernel
theorem dX8_isWord_41 : decode cX8_isWord 41 = .ok (.getfield 84, 3) := by decide +kernel
theorem dX8_isWord_44 : decode cX8_isWord 44 = .ok (.iload_n 2, 1) := by decide +kernel
theorem dX8_isWord_45 : decode cX8_isWord 45 = .ok (.iadd, 1) := by decide +kernel
theorem dX8_isWord_46 : decode cX8_isWord 46 = .ok (.iaload, 1) := by decide +kernel
theorem dX8_isWord_47 : decode cX8_isWord 47 = .ok (.aload_n 1, 1) := by decide +kernel
theorem dX8_isWord_48 : decode cX8_isWord 48 = .ok (.iload_n 2, 1) := by decide +kernel
theorem dX8_isWord_49 : decode cX8_isWord 49 = .ok (.invokevirtual 91, 3) := by decide +kernel
theorem dX8_isWord_52 : decode cX8_isWord 52 = .ok (.if_icmp .eq 5, 3) := by decide +kernel
theorem dX8_isWord_55 : decode cX8_isWord 55 = .ok (.iconst 0, 1) := by decide +kernel
theorem dX8_isWord_56 : decode cX8_isWord 56 = .ok (.ireturn, 1) := by decide +kernel
theorem dX8_isWord_57 : decode cX8_isWord 57 = .ok (.iinc 2 1, 3) := by decide +kernel
theorem dX8_isWord_60 : decode cX8_isWord 60 = .ok (.goto (-32), 3) := by decide +kernel
theorem dX8_isWord_63 : decode cX8_isWord 63 = .ok (.iconst 1, 1) := by decide +kernel
theorem dX8_isWord_64 : decode cX8_isWord 64 = .ok (.ireturn, 1) := by decide +kernel
theorem dX8_isNumberTo_0 : decode cX8_isNumberTo 0 = .ok (.aload_n 0, 1) := by decide +kernel
theorem dX8_isNumberTo_1 : decode cX8_isNumberTo 1 = .ok (.getfield 31, 3) := by decide +kernel
theorem dX8_isNumberTo_4 : decode cX8_isNumberTo 4 = .ok (.iconst 2, 1) := by decide +kernel
theorem dX8_isNumberTo_5 : decode cX8_isNumberTo 5 = .ok (.if_icmp .eq 9, 3) := by decide +kernel
theorem dX8_isNumberTo_8 : decode cX8_isNumberTo 8 = .ok (.aload_n 0, 1) := by decide +kernel
theorem dX8_isNumberTo_9 : decode cX8_isNumberTo 9 = .ok (.iconst 1, 1) := by decide +kernel
theorem dX8_isNumberTo_10 : decode cX8_isNumberTo 10 = .ok (.invokevirtual 44, 3) := by decide +kernel
theorem dX8_isNumberTo_13 : decode cX8_isNumberTo 13 = .ok (.ireturn, 1) := by decide +kernel
theorem dX8_isNumberTo_14 : decode cX8_isNumberTo 14 = .ok (.aload_n 0, 1) := by decide +kernel
theorem dX8_isNumberTo_15 : decode cX8_isNumberTo 15 = .ok (.getfield 51, 3) := by decide +kernel
theorem dX8_isNumberTo_18 : decode cX8_isNumberTo 18 = .ok (.iload_n 1, 1) := by decide +kernel
theorem dX8_isNumberTo_19 : decode cX8_isNumberTo 19 = .ok (.if_icmp .le 11, 3) := by decide +kernel
theorem dX8_isNumberTo_22 : decode cX8_isNumberTo 22 = .ok (.aload_n 0, 1) := by decide +kernel
theorem dX8_isNumberTo_23 : decode cX8_isNumberTo 23 = .ok (.iconst 2, 1) := by decide +kernel
theorem dX8_isNumberTo_24 : decode cX8_isNumberTo 24 = .ok (.invokevirtual 44, 3) := by decide +kernel
theorem dX8_isNumberTo_27 : decode cX8_isNumberTo 27 = .ok (.ifCond .eq 7, 3) := by decide +kernel
theorem dX8_isNumberTo_30 : decode cX8_isNumberTo 30 = .ok (.iconst 1, 1) := by decide +kernel
theorem dX8_isNumberTo_31 : decode cX8_isNumberTo 31 = .ok (.goto 4, 3) := by decide +kernel
theorem dX8_isNumberTo_34 : decode cX8_isNumberTo 34 = .ok (.iconst 0, 1) := by decide +kernel
theorem dX8_isNumberTo_35 : decode cX8_isNumberTo 35 = .ok (.ireturn, 1) := by decide +kernel
theorem dX8_faulty_0 : decode cX8_faulty 0 = .ok (.aload_n 0, 1) := by decide +kernel
theorem dX8_faulty_1 : decode cX8_faulty 1 = .ok (.iload_n 1, 1) := by decide +kernel
theorem dX8_faulty_2 : decode cX8_faulty 2 = .ok (.putfield 95, 3) := by decide +kernel
theorem dX8_faulty_5 : decode cX8_faulty 5 = .ok (.aload_n 0, 1) := by decide +kernel
theorem dX8_faulty_6 : decode cX8_faulty 6 = .ok (.aload_n 0, 1) := by decide +kernel
theorem dX8_faulty_7 : decode cX8_faulty 7 = .ok (.getfield 84, 3) := by decide +kernel
theorem dX8_faulty_10 : decode cX8_faulty 10 = .ok (.putfield 98, 3) := by decide +kernel
theorem dX8_faulty_13 : decode cX8_faulty 13 = .ok (.iconst 0, 1) := by decide +kernel
theorem dX8_faulty_14 : decode cX8_faulty 14 = .ok (.ireturn, 1) := by decide +kernel
theorem dX8_takeToken_0 : decode cX8_takeToken 0 = .ok (.aload_n 0, 1) := by decide +kernel
theorem dX8_takeToken_1 : decode cX8_takeToken 1 = .ok (.aload_n 0, 1) := by decide +kernel
theorem dX8_takeToken_2 : decode cX8_takeToken 2 = .ok (.getfield 25, 3) := by decide +kernel
theorem dX8_takeToken_5 : decode cX8_takeToken 5 = .ok (.putfield 84, 3) := by decide +kernel
theorem dX8_takeToken_8 : decode cX8_takeToken 8 = .ok (.aload_n 0, 1) := by decide +kernel
theorem dX8_takeToken_9 : decode cX8_takeToken 9 = .ok (.getfield 84, 3) := by decide +kernel
theorem dX8_takeToken_12 : decode cX8_takeToken 12 = .ok (.aload_n 0, 1) := by decide +kernel
theorem dX8_takeToken_13 : decode cX8_takeToken 13 = .ok (.getfield 15, 3) := by decide +kernel
theorem dX8_takeToken_16 : decode cX8_takeToken 16 = .ok (.if_icmp .ge 31, 3) := by decide +kernel
theorem dX8_takeToken_19 : decode cX8_takeToken 19 = .ok (.aload_n 0, 1) := by decide +kernel
theorem dX8_takeToken_20 : decode cX8_takeToken 20 = .ok (.getfield 11, 3) := by decide +kernel
theorem dX8_takeToken_23 : decode cX8_takeToken 23 = .ok (.aload_n 0, 1) := by decide +kernel
theorem dX8_takeToken_24 : decode cX8_takeToken 24 = .ok (.getfield 84, 3) := by decide +kernel
theorem dX8_takeToken_27 : decode cX8_takeToken 27 = .ok (.iaload, 1) := by decide +kernel
theorem dX8_takeToken_28 : decode cX8_takeToken 28 = .ok (.invokestatic 101, 3) := by decide +kernel
theorem dX8_takeToken_31 : decode cX8_takeToken 31 = .ok (.ifCond .eq 16, 3) := by decide +kernel
theorem dX8_takeToken_34 : decode cX8_takeToken 34 = .ok (.aload_n 0, 1) := by decide +kernel
theorem dX8_takeToken_35 : decode cX8_takeToken 35 = .ok (.dup, 1) := by decide +kernel
theorem dX8_takeToken_36 : decode cX8_takeToken 36 = .ok (.getfield 84, 3) := by decide +kernel
theorem dX8_takeToken_39 : decode cX8_takeToken 39 = .ok (.iconst 1, 1) := by decide +kernel
theorem dX8_takeToken_40 : decode cX8_takeToken 40 = .ok (.iadd, 1) := by decide +kernel
theorem dX8_takeToken_41 : decode cX8_takeToken 41 = .ok (.putfield 84, 3) := by decide +kernel
theorem dX8_takeToken_44 : decode cX8_takeToken 44 = .ok (.goto (-36), 3) := by decide +kernel
theorem dX8_takeToken_47 : decode cX8_takeToken 47 = .ok (.aload_n 0, 1) := by decide +kernel
theorem dX8_takeToken_48 : decode cX8_takeToken 48 = .ok (.aload_n 0, 1) := by decide +kernel
theorem dX8_takeToken_49 : decode cX8_takeToken 49 = .ok (.getfield 84, 3) := by decide +kernel
theorem dX8_takeToken_52 : decode cX8_takeToken 52 = .ok (.putfield 25, 3) := by decide +kernel
theorem dX8_takeToken_55 : decode cX8_takeToken 55 = .ok (.aload_n 0, 1) := by decide +kernel
theorem dX8_takeToken_56 : decode cX8_takeToken 56 = .ok (.getfield 84, 3) := by decide +kernel
theorem dX8_takeToken_59 : decode cX8_takeToken 59 = .ok (.aload_n 0, 1) := by decide +kernel
theorem dX8_takeToken_60 : decode cX8_takeToken 60 = .ok (.getfield 15, 3) := by decide +kernel
theorem dX8_takeToken_63 : decode cX8_takeToken 63 = .ok (.if_icmp .lt 11, 3) := by decide +kernel
theorem dX8_takeToken_66 : decode cX8_takeToken 66 = .ok (.aload_n 0, 1) := by decide +kernel
theorem dX8_takeToken_67 : decode cX8_takeToken 67 = .ok (.iconst 0, 1) := by decide +kernel
theorem dX8_takeToken_68 : decode cX8_takeToken 68 = .ok (.putfield 31, 3) := by decide +kernel
theorem dX8_takeToken_71 : decode cX8_takeToken 71 = .ok (.goto 80, 3) := by decide +kernel
theorem dX8_takeToken_74 : decode cX8_takeToken 74 = .ok (.aload_n 0, 1) := by decide +kernel
theorem dX8_takeToken_75 : decode cX8_takeToken 75 = .ok (.getfield 11, 3) := by decide +kernel
theorem dX8_takeToken_78 : decode cX8_takeToken 78 = .ok (.aload_n 0, 1) := by decide +kernel
theorem dX8_takeToken_79 : decode cX8_takeToken 79 = .ok (.getfield 84, 3) := by decide +kernel
theorem dX8_takeToken_82 : decode cX8_takeToken 82 = .ok (.iaload, 1) := by decide +kernel
theorem dX8_takeToken_83 : decode cX8_takeToken 83 = .ok (.invokestatic 104, 3) := by decide +kernel
theorem dX8_takeToken_86 : decode cX8_takeToken 86 = .ok (.ifCond .eq 10, 3) := by decide +kernel
theorem dX8_takeToken_89 : decode cX8_takeToken 89 = .ok (.aload_n 0, 1) := by decide +kernel
theorem dX8_takeToken_90 : decode cX8_takeToken 90 = .ok (.invokevirtual 107, 3) := by decide +kernel
theorem dX8_takeToken_93 : decode cX8_takeToken 93 = .ok (.goto 58, 3) := by decide +kernel
theorem dX8_takeToken_96 : decode cX8_takeToken 96 = .ok (.aload_n 0, 1) := by decide +kernel
theorem dX8_takeToken_97 : decode cX8_takeToken 97 = .ok (.getfield 11, 3) := by decide +kernel
theorem dX8_takeToken_100 : decode cX8_takeToken 100 = .ok (.aload_n 0, 1) := by decide +kernel
theorem dX8_takeToken_101 : decode cX8_takeToken 101 = .ok (.getfield 84, 3) := by decide +kernel
theorem dX8_takeToken_104 : decode cX8_takeToken 104 = .ok (.iaload, 1) := by decide +kernel
theorem dX8_takeToken_105 : decode cX8_takeToken 105 = .ok (.invokestatic 110, 3) := by decide +kernel
theorem dX8_takeToken_108 : decode cX8_takeToken 108 = .ok (.ifCond .eq 10, 3) := by decide +kernel
theorem dX8_takeToken_111 : decode cX8_takeToken 111 = .ok (.aload_n 0, 1) := by decide +kernel
theorem dX8_takeToken_112 : decode cX8_takeToken 112 = .ok (.invokevirtual 113, 3) := by decide +kernel
theorem dX8_takeToken_115 : decode cX8_takeToken 115 = .ok (.goto 36, 3) := by decide +kernel
theorem dX8_takeToken_118 : decode cX8_takeToken 118 = .ok (.aload_n 0, 1) := by decide +kernel
theorem dX8_takeToken_119 : decode cX8_takeToken 119 = .ok (.aload_n 0, 1) := by decide +kernel
theorem dX8_takeToken_120 : decode cX8_takeToken 120 = .ok (.getfield 11, 3) := by decide +kernel
theorem dX8_takeToken_123 : decode cX8_takeToken 123 = .ok (.aload_n 0, 1) := by decide +kernel
theorem dX8_takeToken_124 : decode cX8_takeToken 124 = .ok (.getfield 84, 3) := by decide +kernel
theorem dX8_takeToken_127 : decode cX8_takeToken 127 = .ok (.iaload, 1) := by decide +kernel
theorem dX8_takeToken_128 : decode cX8_takeToken 128 = .ok (.bipush 59, 2) := by decide +kernel
theorem dX8_takeToken_130 : decode cX8_takeToken 130 = .ok (.if_icmp .ne 7, 3) := by decide +kernel
theorem dX8_takeToken_133 : decode cX8_takeToken 133 = .ok (.iconst 3, 1) := by decide +kernel
theorem dX8_takeToken_134 : decode cX8_takeToken 134 = .ok (.goto 4, 3) := by decide +kernel
theorem dX8_takeToken_137 : decode cX8_takeToken 137 = .ok (.iconst 4, 1) := by decide +kernel
theorem dX8_takeToken_138 : decode cX8_takeToken 138 = .ok (.putfield 31, 3) := by decide +kernel
theorem dX8_takeToken_141 : decode cX8_takeToken 141 = .ok (.aload_n 0, 1) := by decide +kernel
theorem dX8_takeToken_142 : decode cX8_takeToken 142 = .ok (.dup, 1) := by decide +kernel
theorem dX8_takeToken_143 : decode cX8_takeToken 143 = .ok (.getfield 25, 3) := by decide +kernel
theorem dX8_takeToken_146 : decode cX8_takeToken 146 = .ok (.iconst 1, 1) := by decide +kernel
theorem dX8_takeToken_147 : decode cX8_takeToken 147 = .ok (.iadd, 1) := by decide +kernel
theorem dX8_takeToken_148 : decode cX8_takeToken 148 = .ok (.putfield 25, 3) := by decide +kernel
theorem dX8_takeToken_151 : decode cX8_takeToken 151 = .ok (.return_, 1) := by decide +kernel
theorem dX8_takeName_0 : decode cX8_takeName 0 = .ok (.aload_n 0, 1) := by decide +kernel
theorem dX8_takeName_1 : decode cX8_takeName 1 = .ok (.getfield 25, 3) := by decide +kernel
theorem dX8_takeName_4 : decode cX8_takeName 4 = .ok (.aload_n 0, 1) := by decide +kernel
theorem dX8_takeName_5 : decode cX8_takeName 5 = .ok (.getfield 15, 3) := by decide +kernel
theorem dX8_takeName_8 : decode cX8_takeName 8 = .ok (.if_icmp .ge 31, 3) := by decide +kernel
theorem dX8_takeName_11 : decode cX8_takeName 11 = .ok (.aload_n 0, 1) := by decide +kernel
theorem dX8_takeName_12 : decode cX8_takeName 12 = .ok (.getfield 11, 3) := by decide +kernel
theorem dX8_takeName_15 : decode cX8_takeName 15 = .ok (.aload_n 0, 1) := by decide +kernel
theorem dX8_takeName_16 : decode cX8_takeName 16 = .ok (.getfield 25, 3) := by decide +kernel
theorem dX8_takeName_19 : decode cX8_takeName 19 = .ok (.iaload, 1) := by decide +kernel
theorem dX8_takeName_20 : decode cX8_takeName 20 = .ok (.invokestatic 104, 3) := by decide +kernel
theorem dX8_takeName_23 : decode cX8_takeName 23 = .ok (.ifCond .eq 16, 3) := by decide +kernel
theorem dX8_takeName_26 : decode cX8_takeName 26 = .ok (.aload_n 0, 1) := by decide +kernel
theorem dX8_takeName_27 : decode cX8_takeName 27 = .ok (.dup, 1) := by decide +kernel
theorem dX8_takeName_28 : decode cX8_takeName 28 = .ok (.getfield 25, 3) := by decide +kernel
theorem dX8_takeName_31 : decode cX8_takeName 31 = .ok (.iconst 1, 1) := by decide +kernel
theorem dX8_takeName_32 : decode cX8_takeName 32 = .ok (.iadd, 1) := by decide +kernel
theorem dX8_takeName_33 : decode cX8_takeName 33 = .ok (.putfield 25, 3) := by decide +kernel
theorem dX8_takeName_36 : decode cX8_takeName 36 = .ok (.goto (-36), 3) := by decide +kernel
theorem dX8_takeName_39 : decode cX8_takeName 39 = .ok (.aload_n 0, 1) := by decide +kernel
theorem dX8_takeName_40 : decode cX8_takeName 40 = .ok (.iconst 1, 1) := by decide +kernel
theorem dX8_takeName_41 : decode cX8_takeName 41 = .ok (.putfield 31, 3) := by decide +kernel
theorem dX8_takeName_44 : decode cX8_takeName 44 = .ok (.return_, 1) := by decide +kernel
theorem dX8_takeNumber_0 : decode cX8_takeNumber 0 = .ok (.aload_n 0, 1) := by decide +kernel
theorem dX8_takeNumber_1 : decode cX8_takeNumber 1 = .ok (.iconst 0, 1) := by decide +kernel
theorem dX8_takeNumber_2 : decode cX8_takeNumber 2 = .ok (.putfield 51, 3) := by decide +kernel
theorem dX8_takeNumber_5 : decode cX8_takeNumber 5 = .ok (.aload_n 0, 1) := by decide +kernel
theorem dX8_takeNumber_6 : decode cX8_takeNumber 6 = .ok (.getfield 25, 3) := by decide +kernel
theorem dX8_takeNumber_9 : decode cX8_takeNumber 9 = .ok (.aload_n 0, 1) := by decide +kernel
theorem dX8_takeNumber_10 : decode cX8_takeNumber 10 = .ok (.getfield 15, 3) := by decide +kernel
theorem dX8_takeNumber_13 : decode cX8_takeNumber 13 = .ok (.if_icmp .ge 55, 3) := by decide +kernel
theorem dX8_takeNumber_16 : decode cX8_takeNumber 16 = .ok (.aload_n 0, 1) := by decide +kernel
theorem dX8_takeNumber_17 : decode cX8_takeNumber 17 = .ok (.getfield 11, 3) := by decide +kernel
theorem dX8_takeNumber_20 : decode cX8_takeNumber 20 = .ok (.aload_n 0, 1) := by decide +kernel
theorem dX8_takeNumber_21 : decode cX8_takeNumber 21 = .ok (.getfield 25, 3) := by decide +kernel
theorem dX8_takeNumber_24 : decode cX8_takeNumber 24 = .ok (.iaload, 1) := by decide +kernel
theorem dX8_takeNumber_25 : decode cX8_takeNumber 25 = .ok (.invokestatic 110, 3) := by decide +kernel
theorem dX8_takeNumber_28 : decode cX8_takeNumber 28 = .ok (.ifCond .eq 40, 3) := by decide +kernel
theorem dX8_takeNumber_31 : decode cX8_takeNumber 31 = .ok (.aload_n 0, 1) := by decide +kernel
theorem dX8_takeNumber_32 : decode cX8_takeNumber 32 = .ok (.aload_n 0, 1) := by decide +kernel
theorem dX8_takeNumber_33 : decode cX8_takeNumber 33 = .ok (.getfield 51, 3) := by decide +kernel
theorem dX8_takeNumber_36 : decode cX8_takeNumber 36 = .ok (.bipush 10, 2) := by decide +kernel
theorem dX8_takeNumber_38 : decode cX8_takeNumber 38 = .ok (.imul, 1) := by decide +kernel
theorem dX8_takeNumber_39 : decode cX8_takeNumber 39 = .ok (.aload_n 0, 1) := by decide +kernel
theorem dX8_takeNumber_40 : decode cX8_takeNumber 40 = .ok (.getfield 11, 3) := by decide +kernel
theorem dX8_takeNumber_43 : decode cX8_takeNumber 43 = .ok (.aload_n 0, 1) := by decide +kernel
theorem dX8_takeNumber_44 : decode cX8_takeNumber 44 = .ok (.getfield 25, 3) := by decide +kernel
theorem dX8_takeNumber_47 : decode cX8_takeNumber 47 = .ok (.iaload, 1) := by decide +kernel
theorem dX8_takeNumber_48 : decode cX8_takeNumber 48 = .ok (.iadd, 1) := by decide +kernel
theorem dX8_takeNumber_49 : decode cX8_takeNumber 49 = .ok (.bipush 48, 2) := by decide +kernel
theorem dX8_takeNumber_51 : decode cX8_takeNumber 51 = .ok (.isub, 1) := by decide +kernel
theorem dX8_takeNumber_52 : decode cX8_takeNumber 52 = .ok (.putfield 51, 3) := by decide +kernel
theorem dX8_takeNumber_55 : decode cX8_takeNumber 55 = .ok (.aload_n 0, 1) := by decide +kernel
theorem dX8_takeNumber_56 : decode cX8_takeNumber 56 = .ok (.dup, 1) := by decide +kernel
