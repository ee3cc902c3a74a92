theorem dX8_isBetween_0 : decode cX8_isBetween 0 = .ok (.iload_n 1, 1) := by decide +kernel
theorem dX8_isBetween_1 : decode cX8_isBetween 1 = .ok (.iload_n 0, 1) := by decide +kernel
theorem dX8_isBetween_2 : decode cX8_isBetween 2 = .ok (.if_icmp .gt 12, 3) := by decide +kernel
theorem dX8_isBetween_5 : decode cX8_isBetween 5 = .ok (.iload_n 0, 1) := by decide +kernel
theorem dX8_isBetween_6 : decode cX8_isBetween 6 = .ok (.iload_n 2, 1) := by decide +kernel
theorem dX8_isBetween_7 : decode cX8_isBetween 7 = .ok (.if_icmp .gt 7, 3) := by decide +kernel
theorem dX8_isBetween_10 : decode cX8_isBetween 10 = .ok (.iconst 1, 1) := by decide +kernel
theorem dX8_isBetween_11 : decode cX8_isBetween 11 = .ok (.goto 4, 3) := by decide +kernel
theorem dX8_isBetween_14 : decode cX8_isBetween 14 = .ok (.iconst 0, 1) := by decide +kernel
theorem dX8_isBetween_15 : decode cX8_isBetween 15 = .ok (.ireturn, 1) := by decide +kernel
theorem dX8_isNot_0 : decode cX8_isNot 0 = .ok (.aload_n 0, 1) := by decide +kernel
theorem dX8_isNot_1 : decode cX8_isNot 1 = .ok (.iload_n 1, 1) := by decide +kernel
theorem dX8_isNot_2 : decode cX8_isNot 2 = .ok (.putfield 1, 3) := by decide +kernel
theorem dX8_isNot_5 : decode cX8_isNot 5 = .ok (.aload_n 0, 1) := by decide +kernel
theorem dX8_isNot_6 : decode cX8_isNot 6 = .ok (.iload_n 2, 1) := by decide +kernel
theorem dX8_isNot_7 : decode cX8_isNot 7 = .ok (.putfield 7, 3) := by decide +kernel
theorem dX8_isNot_10 : decode cX8_isNot 10 = .ok (.bipush (-5), 2) := by decide +kernel
theorem dX8_isNot_12 : decode cX8_isNot 12 = .ok (.ireturn, 1) := by decide +kernel
theorem dX8_answers_0 : decode cX8_answers 0 = .ok (.iload_n 1, 1) := by decide +kernel
theorem dX8_answers_1 : decode cX8_answers 1 = .ok (.bipush (-5), 2) := by decide +kernel
theorem dX8_answers_3 : decode cX8_answers 3 = .ok (.if_icmp .eq 5, 3) := by decide +kernel
theorem dX8_answers_6 : decode cX8_answers 6 = .ok (.iload_n 1, 1) := by decide +kernel
theorem dX8_answers_7 : decode cX8_answers 7 = .ok (.ireturn, 1) := by decide +kernel
theorem dX8_answers_8 : decode cX8_answers 8 = .ok (.aload_n 0, 1) := by decide +kernel
theorem dX8_answers_9 : decode cX8_answers 9 = .ok (.aload_n 0, 1) := by decide +kernel
theorem dX8_answers_10 : decode cX8_answers 10 = .ok (.getfield 1, 3) := by decide +kernel
theorem dX8_answers_13 : decode cX8_answers 13 = .ok (.putfield 10, 3) := by decide +kernel
theorem dX8_answers_16 : decode cX8_answers 16 = .ok (.aload_n 0, 1) := by decide +kernel
theorem dX8_answers_17 : decode cX8_answers 17 = .ok (.aload_n 0, 1) := by decide +kernel
theorem dX8_answers_18 : decode cX8_answers 18 = .ok (.getfield 7, 3) := by decide +kernel
theorem dX8_answers_21 : decode cX8_answers 21 = .ok (.putfield 13, 3) := by decide +kernel
theorem dX8_answers_24 : decode cX8_answers 24 = .ok (.aload_n 0, 1) := by decide +kernel
theorem dX8_answers_25 : decode cX8_answers 25 = .ok (.iconst 0, 1) := by decide +kernel
theorem dX8_answers_26 : decode cX8_answers 26 = .ok (.putfield 16, 3) := by decide +kernel
theorem dX8_answers_29 : decode cX8_answers 29 = .ok (.iload_n 1, 1) := by decide +kernel
theorem dX8_answers_30 : decode cX8_answers 30 = .ok (.ireturn, 1) := by decide +kernel
theorem dX8_reason_0 : decode cX8_reason 0 = .ok (.iload_n 1, 1) := by decide +kernel
theorem dX8_reason_1 : decode cX8_reason 1 = .ok (.iconst 0, 1) := by decide +kernel
theorem dX8_reason_2 : decode cX8_reason 2 = .ok (.iconst 1, 1) := by decide +kernel
theorem dX8_reason_3 : decode cX8_reason 3 = .ok (.invokestatic 19, 3) := by decide +kernel
theorem dX8_reason_6 : decode cX8_reason 6 = .ok (.ifCond .ne 6, 3) := by decide +kernel
theorem dX8_reason_9 : decode cX8_reason 9 = .ok (.bipush (-2), 2) := by decide +kernel
theorem dX8_reason_11 : decode cX8_reason 11 = .ok (.ireturn, 1) := by decide +kernel
theorem dX8_reason_12 : decode cX8_reason 12 = .ok (.aload_n 0, 1) := by decide +kernel
theorem dX8_reason_13 : decode cX8_reason 13 = .ok (.getfield 10, 3) := by decide +kernel
theorem dX8_reason_16 : decode cX8_reason 16 = .ok (.ifCond .ne 6, 3) := by decide +kernel
theorem dX8_reason_19 : decode cX8_reason 19 = .ok (.bipush (-3), 2) := by decide +kernel
theorem dX8_reason_21 : decode cX8_reason 21 = .ok (.ireturn, 1) := by decide +kernel
theorem dX8_reason_22 : decode cX8_reason 22 = .ok (.iload_n 1, 1) := by decide +kernel
theorem dX8_reason_23 : decode cX8_reason 23 = .ok (.ifCond .ne 19, 3) := by decide +kernel
theorem dX8_reason_26 : decode cX8_reason 26 = .ok (.iload_n 2, 1) := by decide +kernel
theorem dX8_reason_27 : decode cX8_reason 27 = .ok (.ifCond .eq 10, 3) := by decide +kernel
theorem dX8_reason_30 : decode cX8_reason 30 = .ok (.aload_n 0, 1) := by decide +kernel
theorem dX8_reason_31 : decode cX8_reason 31 = .ok (.getfield 13, 3) := by decide +kernel
theorem dX8_reason_34 : decode cX8_reason 34 = .ok (.goto 7, 3) := by decide +kernel
theorem dX8_reason_37 : decode cX8_reason 37 = .ok (.aload_n 0, 1) := by decide +kernel
theorem dX8_reason_38 : decode cX8_reason 38 = .ok (.getfield 10, 3) := by decide +kernel
theorem dX8_reason_41 : decode cX8_reason 41 = .ok (.ireturn, 1) := by decide +kernel
theorem dX8_reason_42 : decode cX8_reason 42 = .ok (.aload_n 0, 1) := by decide +kernel
theorem dX8_reason_43 : decode cX8_reason 43 = .ok (.getfield 16, 3) := by decide +kernel
theorem dX8_reason_46 : decode cX8_reason 46 = .ok (.ifCond .ne 6, 3) := by decide +kernel
theorem dX8_reason_49 : decode cX8_reason 49 = .ok (.bipush (-6), 2) := by decide +kernel
theorem dX8_reason_51 : decode cX8_reason 51 = .ok (.ireturn, 1) := by decide +kernel
theorem dX8_reason_52 : decode cX8_reason 52 = .ok (.iload_n 2, 1) := by decide +kernel
theorem dX8_reason_53 : decode cX8_reason 53 = .ok (.ifCond .eq 10, 3) := by decide +kernel
theorem dX8_reason_56 : decode cX8_reason 56 = .ok (.aload_n 0, 1) := by decide +kernel
theorem dX8_reason_57 : decode cX8_reason 57 = .ok (.getfield 23, 3) := by decide +kernel
theorem dX8_reason_60 : decode cX8_reason 60 = .ok (.goto 7, 3) := by decide +kernel
theorem dX8_reason_63 : decode cX8_reason 63 = .ok (.aload_n 0, 1) := by decide +kernel
theorem dX8_reason_64 : decode cX8_reason 64 = .ok (.getfield 16, 3) := by decide +kernel
theorem dX8_reason_67 : decode cX8_reason 67 = .ok (.ireturn, 1) := by decide +kernel
theorem dX8_init_0 : decode cX8_init 0 = .ok (.aload_n 0, 1) := by decide +kernel
theorem dX8_init_1 : decode cX8_init 1 = .ok (.invokespecial 26, 3) := by decide +kernel
theorem dX8_init_4 : decode cX8_init 4 = .ok (.aload_n 0, 1) := by decide +kernel
theorem dX8_init_5 : decode cX8_init 5 = .ok (.sipush 274, 3) := by decide +kernel
theorem dX8_init_8 : decode cX8_init 8 = .ok (.newarray .int, 2) := by decide +kernel
theorem dX8_init_10 : decode cX8_init 10 = .ok (.putfield 32, 3) := by decide +kernel
theorem dX8_init_13 : decode cX8_init 13 = .ok (.aload_n 0, 1) := by decide +kernel
theorem dX8_init_14 : decode cX8_init 14 = .ok (.sipush 2192, 3) := by decide +kernel
theorem dX8_init_17 : decode cX8_init 17 = .ok (.newarray .int, 2) := by decide +kernel
theorem dX8_init_19 : decode cX8_init 19 = .ok (.putfield 36, 3) := by decide +kernel
theorem dX8_init_22 : decode cX8_init 22 = .ok (.aload_n 0, 1) := by decide +kernel
theorem dX8_init_23 : decode cX8_init 23 = .ok (.sipush 274, 3) := by decide +kernel
theorem dX8_init_26 : decode cX8_init 26 = .ok (.newarray .int, 2) := by decide +kernel
theorem dX8_init_28 : decode cX8_init 28 = .ok (.putfield 39, 3) := by decide +kernel
theorem dX8_init_31 : decode cX8_init 31 = .ok (.aload_n 0, 1) := by decide +kernel
theorem dX8_init_32 : decode cX8_init 32 = .ok (.sipush 274, 3) := by decide +kernel
theorem dX8_init_35 : decode cX8_init 35 = .ok (.newarray .int, 2) := by decide +kernel
theorem dX8_init_37 : decode cX8_init 37 = .ok (.putfield 42, 3) := by decide +kernel
theorem dX8_init_40 : decode cX8_init 40 = .ok (.aload_n 0, 1) := by decide +kernel
theorem dX8_init_41 : decode cX8_init 41 = .ok (.sipush 274, 3) := by decide +kernel
theorem dX8_init_44 : decode cX8_init 44 = .ok (.newarray .int, 2) := by decide +kernel
theorem dX8_init_46 : decode cX8_init 46 = .ok (.putfield 45, 3) := by decide +kernel
theorem dX8_init_49 : decode cX8_init 49 = .ok (.aload_n 0, 1) := by decide +kernel
theorem dX8_init_50 : decode cX8_init 50 = .ok (.bipush 60, 2) := by decide +kernel
theorem dX8_init_52 : decode cX8_init 52 = .ok (.newarray .char, 2) := by decide +kernel
theorem dX8_init_54 : decode cX8_init 54 = .ok (.putfield 48, 3) := by decide +kernel
theorem dX8_init_57 : decode cX8_init 57 = .ok (.aload_n 0, 1) := by decide +kernel
theorem dX8_init_58 : decode cX8_init 58 = .ok (.bipush 60, 2) := by decide +kernel
theorem dX8_init_60 : decode cX8_init 60 = .ok (.newarray .char, 2) := by decide +kernel
theorem dX8_init_62 : decode cX8_init 62 = .ok (.putfield 52, 3) := by decide +kernel
theorem dX8_init_65 : decode cX8_init 65 = .ok (.aload_n 0, 1) := by decide +kernel
theorem dX8_init_66 : decode cX8_init 66 = .ok (.iconst (-1), 1) := by decide +kernel
theorem dX8_init_67 : decode cX8_init 67 = .ok (.putfield 55, 3) := by decide +kernel
theorem dX8_init_70 : decode cX8_init 70 = .ok (.aload_n 0, 1) := by decide +kernel
theorem dX8_init_71 : decode cX8_init 71 = .ok (.iconst 4, 1) := by decide +kernel
theorem dX8_init_72 : decode cX8_init 72 = .ok (.newarray .int, 2) := by decide +kernel
theorem dX8_init_74 : decode cX8_init 74 = .ok (.putfield 58, 3) := by decide +kernel
theorem dX8_init_77 : decode cX8_init 77 = .ok (.aload_n 0, 1) := by decide +kernel
theorem dX8_init_78 : decode cX8_init 78 = .ok (.getfield 32, 3) := by decide +kernel
theorem dX8_init_81 : decode cX8_init 81 = .ok (.iconst 2, 1) := by decide +kernel
theorem dX8_init_82 : decode cX8_init 82 = .ok (.iconst 3, 1) := by decide +kernel
theorem dX8_init_83 : decode cX8_init 83 = .ok (.iastore, 1) := by decide +kernel
theorem dX8_init_84 : decode cX8_init 84 = .ok (.aload_n 0, 1) := by decide +kernel
theorem dX8_init_85 : decode cX8_init 85 = .ok (.getfield 32, 3) := by decide +kernel
theorem dX8_init_88 : decode cX8_init 88 = .ok (.iconst 5, 1) := by decide +kernel
theorem dX8_init_89 : decode cX8_init 89 = .ok (.bipush 9, 2) := by decide +kernel
theorem dX8_init_91 : decode cX8_init 91 = .ok (.iastore, 1) := by decide +kernel
theorem dX8_init_92 : decode cX8_init 92 = .ok (.iconst 0, 1) := by decide +kernel
theorem dX8_init_93 : decode cX8_init 93 = .ok (.istore_n 1, 1) := by decide +kernel
theorem dX8_init_94 : decode cX8_init 94 = .ok (.iload_n 1, 1) := by decide +kernel
theorem dX8_init_95 : decode cX8_init 95 = .ok (.iconst 4, 1) := by decide +kernel
theorem dX8_init_96 : decode cX8_init 96 = .ok (.if_icmp .ge 19, 3) := by decide +kernel
theorem dX8_init_99 : decode cX8_init 99 = .ok (.aload_n 0, 1) := by decide +kernel
theorem dX8_init_100 : decode cX8_init 100 = .ok (.getfield 32, 3) := by decide +kernel
theorem dX8_init_103 : decode cX8_init 103 = .ok (.bipush 14, 2) := by decide +kernel
theorem dX8_init_105 : decode cX8_init 105 = .ok (.iload_n 1, 1) := by decide +kernel
theorem dX8_init_106 : decode cX8_init 106 = .ok (.iadd, 1) := by decide +kernel
theorem dX8_init_107 : decode cX8_init 107 = .ok (.iconst 2, 1) := by decide +kernel
theorem dX8_init_108 : decode cX8_init 108 = .ok (.iastore, 1) := by decide +kernel
theorem dX8_init_109 : decode cX8_init 109 = .ok (.iinc 1 1, 3) := by decide +kernel
theorem dX8_init_112 : decode cX8_init 112 = .ok (.goto (-18), 3) := by decide +kernel
theorem dX8_init_115 : decode cX8_init 115 = .ok (.return_, 1) := by decide +kernel
theorem dX8_thinks_0 : decode cX8_thinks 0 = .ok (.iconst 0, 1) := by decide +kernel
theorem dX8_thinks_1 : decode cX8_thinks 1 = .ok (.istore_n 1, 1) := by decide +kernel
theorem dX8_thinks_2 : decode cX8_thinks 2 = .ok (.iload_n 1, 1) := by decide +kernel
theorem dX8_thinks_3 : decode cX8_thinks 3 = .ok (.sipush 274, 3) := by decide +kernel
theorem dX8_thinks_6 : decode cX8_thinks 6 = .ok (.if_icmp .ge 21, 3) := by decide +kernel
theorem dX8_thinks_9 : decode cX8_thinks 9 = .ok (.aload_n 0, 1) := by decide +kernel
theorem dX8_thinks_10 : decode cX8_thinks 10 = .ok (.getfield 42, 3) := by decide +kernel
theorem dX8_thinks_13 : decode cX8_thinks 13 = .ok (.iload_n 1, 1) := by decide +kernel
theorem dX8_thinks_14 : decode cX8_thinks 14 = .ok (.aload_n 0, 1) := by decide +kernel
theorem dX8_thinks_15 : decode cX8_thinks 15 = .ok (.getfield 32, 3) := by decide +kernel
theorem dX8_thinks_18 : decode cX8_thinks 18 = .ok (.iload_n 1, 1) := by decide +kernel
theorem dX8_thinks_19 : decode cX8_thinks 19 = .ok (.iaload, 1) := by decide +kernel
theorem dX8_thinks_20 : decode cX8_thinks 20 = .ok (.iastore, 1) := by decide +kernel
theorem dX8_thinks_21 : decode cX8_thinks 21 = .ok (.iinc 1 1, 3) := by decide +kernel
theorem dX8_thinks_24 : decode cX8_thinks 24 = .ok (.goto (-22), 3) := by decide +kernel
theorem dX8_thinks_27 : decode cX8_thinks 27 = .ok (.return_, 1) := by decide +kernel
theorem dX8_forgets_0 : decode cX8_forgets 0 = .ok (.iconst 0, 1) := by decide +kernel
theorem dX8_forgets_1 : decode cX8_forgets 1 = .ok (.istore_n 1, 1) := by decide +kernel
theorem dX8_forgets_2 : decode cX8_forgets 2 = .ok (.iload_n 1, 1) := by decide +kernel
theorem dX8_forgets_3 : decode cX8_forgets 3 = .ok (.sipush 274, 3) := by decide +kernel
theorem dX8_forgets_6 : decode cX8_forgets 6 = .ok (.if_icmp .ge 21, 3) := by decide +kernel
theorem dX8_forgets_9 : decode cX8_forgets 9 = .ok (.aload_n 0, 1) := by decide +kernel
theorem dX8_forgets_10 : decode cX8_forgets 10 = .ok (.getfield 32, 3) := by decide +kernel
theorem dX8_forgets_13 : decode cX8_forgets 13 = .ok (.iload_n 1, 1) := by decide +kernel
theorem dX8_forgets_14 : decode cX8_forgets 14 = .ok (.aload_n 0, 1) := by decide +kernel
theorem dX8_forgets_15 : decode cX8_forgets 15 = .ok (.getfield 42, 3) := by decide +kernel
theorem dX8_forgets_18 : decode cX8_forgets 18 = .ok (.iload_n 1, 1) := by decide +kernel
theorem dX8_forgets_19 : decode cX8_forgets 19 = .ok (.iaload, 1) := by decide +kernel
theorem dX8_forgets_20 : decode cX8_forgets 20 = .ok (.iastore, 1) := by decide +kernel
theorem dX8_forgets_21 : decode cX8_forgets 21 = .ok (.iinc 1 1, 3) := by decide +kernel
theorem dX8_forgets_24 : decode cX8_forgets 24 = .ok (.goto (-22), 3) := by decide +kernel
theorem dX8_forgets_27 : decode cX8_forgets 27 = .ok (.return_, 1) := by decide +kernel
theorem dX8_keepsMind_0 : decode cX8_keepsMind 0 = .ok (.aload_n 0, 1) := by decide +kernel
theorem dX8_keepsMind_1 : decode cX8_keepsMind 1 = .ok (.getfield 61, 3) := by decide +kernel
theorem dX8_keepsMind_4 : decode cX8_keepsMind 4 = .ok (.bipush 8, 2) := by decide +kernel
theorem dX8_keepsMind_6 : decode cX8_keepsMind 6 = .ok (.if_icmp .ne 26, 3) := by decide +kernel
theorem dX8_keepsMind_9 : decode cX8_keepsMind 9 = .ok (.aload_n 0, 1) := by decide +kernel
theorem dX8_keepsMind_10 : decode cX8_keepsMind 10 = .ok (.aload_n 0, 1) := by decide +kernel
theorem dX8_keepsMind_11 : decode cX8_keepsMind 11 = .ok (.getfield 64, 3) := by decide +kernel
theorem dX8_keepsMind_14 : decode cX8_keepsMind 14 = .ok (.iconst 1, 1) := by decide +kernel
theorem dX8_keepsMind_15 : decode cX8_keepsMind 15 = .ok (.iadd, 1) := by decide +kernel
theorem dX8_keepsMind_16 : decode cX8_keepsMind 16 = .ok (.bipush 8, 2) := by decide +kernel
theorem dX8_keepsMind_18 : decode cX8_keepsMind 18 = .ok (.irem, 1) := by decide +kernel
theorem dX8_keepsMind_19 : decode cX8_keepsMind 19 = .ok (.putfield 64, 3) := by decide +kernel
theorem dX8_keepsMind_22 : decode cX8_keepsMind 22 = .ok (.aload_n 0, 1) := by decide +kernel
theorem dX8_keepsMind_23 : decode cX8_keepsMind 23 = .ok (.dup, 1) := by decide +kernel
theorem dX8_keepsMind_24 : decode cX8_keepsMind 24 = .ok (.getfield 61, 3) := by decide +kernel
theorem dX8_keepsMind_27 : decode cX8_keepsMind 27 = .ok (.iconst 1, 1) := by decide +kernel
theorem dX8_keepsMind_28 : decode cX8_keepsMind 28 = .ok (.isub, 1) := by decide +kernel
theorem dX8_keepsMind_29 : decode cX8_keepsMind 29 = .ok (.putfield 61, 3) := by decide +kernel
theorem dX8_keepsMind_32 : decode cX8_keepsMind 32 = .ok (.aload_n 0, 1) := by decide +kernel
theorem dX8_keepsMind_33 : decode cX8_keepsMind 33 = .ok (.getfield 64, 3) := by decide +kernel
theorem dX8_keepsMind_36 : decode cX8_keepsMind 36 = .ok (.aload_n 0, 1) := by decide +kernel
theorem dX8_keepsMind_37 : decode cX8_keepsMind 37 = .ok (.getfield 61, 3) := by decide +kernel
theorem dX8_keepsMind_40 : decode cX8_keepsMind 40 = .ok (.iadd, 1) := by decide +kernel
theorem dX8_keepsMind_41 : decode cX8_keepsMind 41 = .ok (.bipush 8, 2) := by decide +kernel
theorem dX8_keepsMind_43 : decode cX8_keepsMind 43 = .ok (.irem, 1) := by decide +kernel
theorem dX8_keepsMind_44 : decode cX8_keepsMind 44 = .ok (.istore_n 1, 1) := by decide +kernel
theorem dX8_keepsMind_45 : decode cX8_keepsMind 45 = .ok (.iconst 0, 1) := by decide +kernel
theorem dX8_keepsMind_46 : decode cX8_keepsMind 46 = .ok (.istore_n 2, 1) := by decide +kernel
theorem dX8_keepsMind_47 : decode cX8_keepsMind 47 = .ok (.iload_n 2, 1) := by decide +kernel
theorem dX8_keepsMind_48 : decode cX8_keepsMind 48 = .ok (.sipush 274, 3) := by decide +kernel
theorem dX8_keepsMind_51 : decode cX8_keepsMind 51 = .ok (.if_icmp .ge 27, 3) := by decide +kernel
theorem dX8_keepsMind_54 : decode cX8_keepsMind 54 = .ok (.aload_n 0, 1) := by decide +kernel
theorem dX8_keepsMind_55 : decode cX8_keepsMind 55 = .ok (.getfield 36, 3) := by decide +kernel
theorem dX8_keepsMind_58 : decode cX8_keepsMind 58 = .ok (.sipush 274, 3) := by decide +kernel
theorem dX8_keepsMind_61 : decode cX8_keepsMind 61 = .ok (.iload_n 1, 1) := by decide +kernel
theorem dX8_keepsMind_62 : decode cX8_keepsMind 62 = .ok (.imul, 1) := by decide +kernel
theorem dX8_keepsMind_63 : decode cX8_keepsMind 63 = .ok (.iload_n 2, 1) := by decide +kernel
theorem dX8_keepsMind_64 : decode cX8_keepsMind 64 = .ok (.iadd, 1) := by decide +kernel
theorem dX8_keepsMind_65 : decode cX8_keepsMind 65 = .ok (.aload_n 0, 1) := by decide +kernel
theorem dX8_keepsMind_66 : decode cX8_keepsMind 66 = .ok (.getfield 42, 3) := by decide +kernel
theorem dX8_keepsMind_69 : decode cX8_keepsMind 69 = .ok (.iload_n 2, 1) := by decide +kernel
theorem dX8_keepsMind_70 : decode cX8_keepsMind 70 = .ok (.iaload, 1) := by decide +kernel
theorem dX8_keepsMind_71 : decode cX8_keepsMind 71 = .ok (.iastore, 1) := by decide +kernel
theorem dX8_keepsMind_72 : decode cX8_keepsMind 72 = .ok (.iinc 2 1, 3) := by decide +kernel
theorem dX8_keepsMind_75 : decode cX8_keepsMind 75 = .ok (.goto (-28), 3) := by decide +kernel
theorem dX8_keepsMind_78 : decode cX8_keepsMind 78 = .ok (.aload_n 0, 1) := by decide +kernel
theorem dX8_keepsMind_79 : decode cX8_keepsMind 79 = .ok (.dup, 1) := by decide +kernel
theorem dX8_keepsMind_80 : decode cX8_keepsMind 80 = .ok (.getfield 61, 3) := by decide +kernel
theorem dX8_keepsMind_83 : decode cX8_keepsMind 83 = .ok (.iconst 1, 1) := by decide +kernel
theorem dX8_keepsMind_84 : decode cX8_keepsMind 84 = .ok (.iadd, 1) := by decide +kernel
theorem dX8_keepsMind_85 : decode cX8_keepsMind 85 = .ok (.putfield 61, 3) := by decide +kernel
theorem dX8_keepsMind_88 : decode cX8_keepsMind 88 = .ok (.return_, 1) := by decide +kernel
theorem dX8_remembers_0 : decode cX8_remembers 0 = .ok (.aload_n 0, 1) := by decide +kernel
theorem dX8_remembers_1 : decode cX8_remembers 1 = .ok (.invokevirtual 67, 3) := by decide +kernel
theorem dX8_remembers_4 : decode cX8_remembers 4 = .ok (.aload_n 0, 1) := by decide +kernel
theorem dX8_remembers_5 : decode cX8_remembers 5 = .ok (.invokevirtual 70, 3) := by decide +kernel
theorem dX8_remembers_8 : decode cX8_remembers 8 = .ok (.return_, 1) := by decide +kernel
theorem dX8_is_0 : decode cX8_is 0 = .ok (.aload_n 0, 1) := by decide +kernel
theorem dX8_is_1 : decode cX8_is 1 = .ok (.getfield 32, 3) := by decide +kernel
theorem dX8_is_4 : decode cX8_is 4 = .ok (.bipush 22, 2) := by decide +kernel
theorem dX8_is_6 : decode cX8_is 6 = .ok (.iconst 5, 1) := by decide +kernel
theorem dX8_is_7 : decode cX8_is 7 = .ok (.iload_n 1, 1) := by decide +kernel
theorem dX8_is_8 : decode cX8_is 8 = .ok (.imul, 1) := by decide +kernel
theorem dX8_is_9 : decode cX8_is 9 = .ok (.iadd, 1) := by decide +kernel
theorem dX8_is_10 : decode cX8_is 10 = .ok (.iload_n 2, 1) := by decide +kernel
theorem dX8_is_11 : decode cX8_is 11 = .ok (.iadd, 1) := by decide +kernel
theorem dX8_is_12 : decode cX8_is 12 = .ok (.iaload, 1) := by decide +kernel
theorem dX8_is_13 : decode cX8_is 13 = .ok (.ireturn, 1) := by decide +kernel
theorem dX8_isJoke_0 : decode cX8_isJoke 0 = .ok (.iload_n 1, 1) := by decide +kernel
theorem dX8_isJoke_1 : decode cX8_isJoke 1 = .ok (.iconst 0, 1) := by decide +kernel
theorem dX8_isJoke_2 : decode cX8_isJoke 2 = .ok (.aload_n 0, 1) := by decide +kernel
theorem dX8_isJoke_3 : decode cX8_isJoke 3 = .ok (.getfield 32, 3) := by decide +kernel
theorem dX8_isJoke_6 : decode cX8_isJoke 6 = .ok (.iconst 0, 1) := by decide +kernel
theorem dX8_isJoke_7 : decode cX8_isJoke 7 = .ok (.iaload, 1) := by decide +kernel
theorem dX8_isJoke_8 : decode cX8_isJoke 8 = .ok (.iconst 1, 1) := by decide +kernel
theorem dX8_isJoke_9 : decode cX8_isJoke 9 = .ok (.isub, 1) := by decide +kernel
theorem dX8_isJoke_10 : decode cX8_isJoke 10 = .ok (.invokestatic 19, 3) := by decide +kernel
theorem dX8_isJoke_13 : decode cX8_isJoke 13 = .ok (.ireturn, 1) := by decide +kernel
theorem dX8_isWell_0 : decode cX8_isWell 0 = .ok (.iload_n 0, 1) := by decide +kernel
theorem dX8_isWell_1 : decode cX8_isWell 1 = .ok (.iconst 0, 1) := by decide +kernel
theorem dX8_isWell_2 : decode cX8_isWell 2 = .ok (.iconst 3, 1) := by decide +kernel
theorem dX8_isWell_3 : decode cX8_isWell 3 = .ok (.invokestatic 19, 3) := by decide +kernel
theorem dX8_isWell_6 : decode cX8_isWell 6 = .ok (.ireturn, 1) := by decide +kernel
theorem dX8_isKnownSign_0 : decode cX8_isKnownSign 0 = .ok (.aload_n 0, 1) := by decide +kernel
theorem dX8_isKnownSign_1 : decode cX8_isKnownSign 1 = .ok (.getfield 32, 3) := by decide +kernel
theorem dX8_isKnownSign_4 : decode cX8_isKnownSign 4 = .ok (.bipush 12, 2) := by decide +kernel
theorem dX8_isKnownSign_6 : decode cX8_isKnownSign 6 = .ok (.iload_n 1, 1) := by decide +kernel
theorem dX8_isKnownSign_7 : decode cX8_isKnownSign 7 = .ok (.bipush 32, 2) := by decide +kernel
theorem dX8_isKnownSign_9 : decode cX8_isKnownSign 9 = .ok (.idiv, 1) := by decide +kernel
theorem dX8_isKnownSign_10 : decode cX8_isKnownSign 10 = .ok (.iadd, 1) := by decide +kernel
theorem dX8_isKnownSign_11 : decode cX8_isKnownSign 11 = .ok (.iaload, 1) := by decide +kernel
theorem dX8_isKnownSign_12 : decode cX8_isKnownSign 12 = .ok (.iload_n 1, 1) := by decide +kernel
theorem dX8_isKnownSign_13 : decode cX8_isKnownSign 13 = .ok (.bipush 32, 2) := by decide +kernel
theorem dX8_isKnownSign_15 : decode cX8_isKnownSign 15 = .ok (.irem, 1) := by decide +kernel
theorem dX8_isKnownSign_16 : decode cX8_isKnownSign 16 = .ok (.ishr, 1) := by decide +kernel
theorem dX8_isKnownSign_17 : decode cX8_isKnownSign 17 = .ok (.iconst 1, 1) := by decide +kernel
theorem dX8_isKnownSign_18 : decode cX8_isKnownSign 18 = .ok (.iand, 1) := by decide +kernel
theorem dX8_isKnownSign_19 : decode cX8_isKnownSign 19 = .ok (.iconst 1, 1) := by decide +kernel
theorem dX8_isKnownSign_20 : decode cX8_isKnownSign 20 = .ok (.if_icmp .ne 7, 3) := by decide +kernel
theorem dX8_isKnownSign_23 : decode cX8_isKnownSign 23 = .ok (.iconst 1, 1) := by decide +kernel
theorem dX8_isKnownSign_24 : decode cX8_isKnownSign 24 = .ok (.goto 4, 3) := by decide +kernel
theorem dX8_isKnownSign_27 : decode cX8_isKnownSign 27 = .ok (.iconst 0, 1) := by decide +kernel
theorem dX8_isKnownSign_28 : decode cX8_isKnownSign 28 = .ok (.ireturn, 1) := by decide +kernel
theorem dX8_jokesIn_0 : decode cX8_jokesIn 0 = .ok (.iconst 0, 1) := by decide +kernel
theorem dX8_jokesIn_1 : decode cX8_jokesIn 1 = .ok (.istore_n 2, 1) := by decide +kernel
theorem dX8_jokesIn_2 : decode cX8_jokesIn 2 = .ok (.iconst 0, 1) := by decide +kernel
theorem dX8_jokesIn_3 : decode cX8_jokesIn 3 = .ok (.istore_n 3, 1) := by decide +kernel
theorem dX8_jokesIn_4 : decode cX8_jokesIn 4 = .ok (.iload_n 3, 1) := by decide +kernel
theorem dX8_jokesIn_5 : decode cX8_jokesIn 5 = .ok (.aload_n 0, 1) := by decide +kernel
theorem dX8_jokesIn_6 : decode cX8_jokesIn 6 = .ok (.getfield 32, 3) := by decide +kernel
theorem dX8_jokesIn_9 : decode cX8_jokesIn 9 = .ok (.iconst 0, 1) := by decide +kernel
theorem dX8_jokesIn_10 : decode cX8_jokesIn 10 = .ok (.iaload, 1) := by decide +kernel
theorem dX8_jokesIn_11 : decode cX8_jokesIn 11 = .ok (.if_icmp .ge 27, 3) := by decide +kernel
theorem dX8_jokesIn_14 : decode cX8_jokesIn 14 = .ok (.iload_n 2, 1) := by decide +kernel
theorem dX8_jokesIn_15 : decode cX8_jokesIn 15 = .ok (.aload_n 0, 1) := by decide +kernel
theorem dX8_jokesIn_16 : decode cX8_jokesIn 16 = .ok (.iload_n 3, 1) := by decide +kernel
theorem dX8_jokesIn_17 : decode cX8_jokesIn 17 = .ok (.iconst 0, 1) := by decide +kernel
theorem dX8_jokesIn_18 : decode cX8_jokesIn 18 = .ok (.invokevirtual 73, 3) := by decide +kernel
theorem dX8_jokesIn_21 : decode cX8_jokesIn 21 = .ok (.iload_n 1, 1) := by decide +kernel
theorem dX8_jokesIn_22 : decode cX8_jokesIn 22 = .ok (.if_icmp .ne 7, 3) := by decide +kernel
theorem dX8_jokesIn_25 : decode cX8_jokesIn 25 = .ok (.iconst 1, 1) := by decide +kernel
theorem dX8_jokesIn_26 : decode cX8_jokesIn 26 = .ok (.goto 4, 3) := by decide +kernel
theorem dX8_jokesIn_29 : decode cX8_jokesIn 29 = .ok (.iconst 0, 1) := by decide +kernel
theorem dX8_jokesIn_30 : decode cX8_jokesIn 30 = .ok (.iadd, 1) := by decide +kernel
theorem dX8_jokesIn_31 : decode cX8_jokesIn 31 = .ok (.istore_n 2, 1) := by decide +kernel
theorem dX8_jokesIn_32 : decode cX8_jokesIn 32 = .ok (.iinc 3 1, 3) := by decide +kernel
theorem dX8_jokesIn_35 : decode cX8_jokesIn 35 = .ok (.goto (-31), 3) := by decide +kernel
theorem dX8_jokesIn_38 : decode cX8_jokesIn 38 = .ok (.iload_n 2, 1) := by decide +kernel
theorem dX8_jokesIn_39 : decode cX8_jokesIn 39 = .ok (.ireturn, 1) := by decide +kernel
theorem dX8_jokeWith_0 : decode cX8_jokeWith 0 = .ok (.iconst 0, 1) := by decide +kernel
theorem dX8_jokeWith_1 : decode cX8_jokeWith 1 = .ok (.istore_n 2, 1) := by decide +kernel
theorem dX8_jokeWith_2 : decode cX8_jokeWith 2 = .ok (.iload_n 2, 1) := by decide +kernel
theorem dX8_jokeWith_3 : decode cX8_jokeWith 3 = .ok (.aload_n 0, 1) := by decide +kernel
theorem dX8_jokeWith_4 : decode cX8_jokeWith 4 = .ok (.getfield 32, 3) := by decide +kernel
theorem dX8_jokeWith_7 : decode cX8_jokeWith 7 = .ok (.iconst 0, 1) := by decide +kernel
theorem dX8_jokeWith_8 : decode cX8_jokeWith 8 = .ok (.iaload, 1) := by decide +kernel
theorem dX8_jokeWith_9 : decode cX8_jokeWith 9 = .ok (.if_icmp .ge 21, 3) := by decide +kernel
theorem dX8_jokeWith_12 : decode cX8_jokeWith 12 = .ok (.aload_n 0, 1) := by decide +kernel
theorem dX8_jokeWith_13 : decode cX8_jokeWith 13 = .ok (.iload_n 2, 1) := by decide +kernel
theorem dX8_jokeWith_14 : decode cX8_jokeWith 14 = .ok (.iconst 2, 1) := by decide +kernel
theorem dX8_jokeWith_15 : decode cX8_jokeWith 15 = .ok (.invokevirtual 73, 3) := by decide +kernel
theorem dX8_jokeWith_18 : decode cX8_jokeWith 18 = .ok (.iload_n 1, 1) := by decide +kernel
theorem dX8_jokeWith_19 : decode cX8_jokeWith 19 = .ok (.if_icmp .ne 5, 3) := by decide +kernel
theorem dX8_jokeWith_22 : decode cX8_jokeWith 22 = .ok (.iload_n 2, 1) := by decide +kernel
theorem dX8_jokeWith_23 : decode cX8_jokeWith 23 = .ok (.ireturn, 1) := by decide +kernel
theorem dX8_jokeWith_24 : decode cX8_jokeWith 24 = .ok (.iinc 2 1, 3) := by decide +kernel
theorem dX8_jokeWith_27 : decode cX8_jokeWith 27 = .ok (.goto (-25), 3) := by decide +kernel
theorem dX8_jokeWith_30 : decode cX8_jokeWith 30 = .ok (.iconst (-1), 1) := by decide +kernel
theorem dX8_jokeWith_31 : decode cX8_jokeWith 31 = .ok (.ireturn, 1) := by decide +kernel
theorem dX8_jokeAt_0 : decode cX8_jokeAt 0 = .ok (.iconst 0, 1) := by decide +kernel
theorem dX8_jokeAt_1 : decode cX8_jokeAt 1 = .ok (.istore_n 3, 1) := by decide +kernel
theorem dX8_jokeAt_2 : decode cX8_jokeAt 2 = .ok (.iload_n 3, 1) := by decide +kernel
theorem dX8_jokeAt_3 : decode cX8_jokeAt 3 = .ok (.aload_n 0, 1) := by decide +kernel
theorem dX8_jokeAt_4 : decode cX8_jokeAt 4 = .ok (.getfield 32, 3) := by decide +kernel
theorem dX8_jokeAt_7 : decode cX8_jokeAt 7 = .ok (.iconst 0, 1) := by decide +kernel
theorem dX8_jokeAt_8 : decode cX8_jokeAt 8 = .ok (.iaload, 1) := by decide +kernel
theorem dX8_jokeAt_9 : decode cX8_jokeAt 9 = .ok (.if_icmp .ge 31, 3) := by decide +kernel
theorem dX8_jokeAt_12 : decode cX8_jokeAt 12 = .ok (.aload_n 0, 1) := by decide +kernel
theorem dX8_jokeAt_13 : decode cX8_jokeAt 13 = .ok (.iload_n 3, 1) := by decide +kernel
theorem dX8_jokeAt_14 : decode cX8_jokeAt 14 = .ok (.iconst 0, 1) := by decide +kernel
theorem dX8_jokeAt_15 : decode cX8_jokeAt 15 = .ok (.invokevirtual 73, 3) := by decide +kernel
theorem dX8_jokeAt_18 : decode cX8_jokeAt 18 = .ok (.iload_n 1, 1) := by decide +kernel
theorem dX8_jokeAt_19 : decode cX8_jokeAt 19 = .ok (.if_icmp .ne 15, 3) := by decide +kernel
theorem dX8_jokeAt_22 : decode cX8_jokeAt 22 = .ok (.aload_n 0, 1) := by decide +kernel
theorem dX8_jokeAt_23 : decode cX8_jokeAt 23 = .ok (.iload_n 3, 1) := by decide +kernel
theorem dX8_jokeAt_24 : decode cX8_jokeAt 24 = .ok (.iconst 1, 1) := by decide +kernel
theorem dX8_jokeAt_25 : decode cX8_jokeAt 25 = .ok (.invokevirtual 73, 3) := by decide +kernel
theorem dX8_jokeAt_28 : decode cX8_jokeAt 28 = .ok (.iload_n 2, 1) := by decide +kernel
theorem dX8_jokeAt_29 : decode cX8_jokeAt 29 = .ok (.if_icmp .ne 5, 3) := by decide +kernel
theorem dX8_jokeAt_32 : decode cX8_jokeAt 32 = .ok (.iload_n 3, 1) := by decide +kernel
theorem dX8_jokeAt_33 : decode cX8_jokeAt 33 = .ok (.ireturn, 1) := by decide +kernel
theorem dX8_jokeAt_34 : decode cX8_jokeAt 34 = .ok (.iinc 3 1, 3) := by decide +kernel
theorem dX8_jokeAt_37 : decode cX8_jokeAt 37 = .ok (.goto (-35), 3) := by decide +kernel
theorem dX8_jokeAt_40 : decode cX8_jokeAt 40 = .ok (.iconst (-1), 1) := by decide +kernel
theorem dX8_jokeAt_41 : decode cX8_jokeAt 41 = .ok (.ireturn, 1) := by decide +kernel
theorem dX8_above_0 : decode cX8_above 0 = .ok (.iconst 0, 1) := by decide +kernel
theorem dX8_above_1 : decode cX8_above 1 = .ok (.istore_n 2, 1) := by decide +kernel
theorem dX8_above_2 : decode cX8_above 2 = .ok (.iconst 0, 1) := by decide +kernel
theorem dX8_above_3 : decode cX8_above 3 = .ok (.istore_n 3, 1) := by decide +kernel
theorem dX8_above_4 : decode cX8_above 4 = .ok (.iload_n 3, 1) := by decide +kernel
theorem dX8_above_5 : decode cX8_above 5 = .ok (.aload_n 0, 1) := by decide +kernel
theorem dX8_above_6 : decode cX8_above 6 = .ok (.getfield 32, 3) := by decide +kernel
theorem dX8_above_9 : decode cX8_above 9 = .ok (.iconst 0, 1) := by decide +kernel
theorem dX8_above_10 : decode cX8_above 10 = .ok (.iaload, 1) := by decide +kernel
theorem dX8_above_11 : decode cX8_above 11 = .ok (.if_icmp .ge 47, 3) := by decide +kernel
theorem dX8_above_14 : decode cX8_above 14 = .ok (.iload_n 2, 1) := by decide +kernel
theorem dX8_above_15 : decode cX8_above 15 = .ok (.aload_n 0, 1) := by decide +kernel
theorem dX8_above_16 : decode cX8_above 16 = .ok (.iload_n 3, 1) := by decide +kernel
theorem dX8_above_17 : decode cX8_above 17 = .ok (.iconst 0, 1) := by decide +kernel
theorem dX8_above_18 : decode cX8_above 18 = .ok (.invokevirtual 73, 3) := by decide +kernel
theorem dX8_above_21 : decode cX8_above 21 = .ok (.aload_n 0, 1) := by decide +kernel
theorem dX8_above_22 : decode cX8_above 22 = .ok (.iload_n 1, 1) := by decide +kernel
theorem dX8_above_23 : decode cX8_above 23 = .ok (.iconst 0, 1) := by decide +kernel
theorem dX8_above_24 : decode cX8_above 24 = .ok (.invokevirtual 73, 3) := by decide +kernel
theorem dX8_above_27 : decode cX8_above 27 = .ok (.if_icmp .ne 22, 3) := by decide +kernel
theorem dX8_above_30 : decode cX8_above 30 = .ok (.aload_n 0, 1) := by decide +kernel
theorem dX8_above_31 : decode cX8_above 31 = .ok (.iload_n 3, 1) := by decide +kernel
theorem dX8_above_32 : decode cX8_above 32 = .ok (.iconst 1, 1) := by decide +kernel
theorem dX8_above_33 : decode cX8_above 33 = .ok (.invokevirtual 73, 3) := by decide +kernel
theorem dX8_above_36 : decode cX8_above 36 = .ok (.aload_n 0, 1) := by decide +kernel
theorem dX8_above_37 : decode cX8_above 37 = .ok (.iload_n 1, 1) := by decide +kernel
theorem dX8_above_38 : decode cX8_above 38 = .ok (.iconst 1, 1) := by decide +kernel
theorem dX8_above_39 : decode cX8_above 39 = .ok (.invokevirtual 73, 3) := by decide +kernel
theorem dX8_above_42 : decode cX8_above 42 = .ok (.if_icmp .ge 7, 3) := by decide +kernel
theorem dX8_above_45 : decode cX8_above 45 = .ok (.iconst 1, 1) := by decide +kernel
theorem dX8_above_46 : decode cX8_above 46 = .ok (.goto 4, 3) := by decide +kernel
theorem dX8_above_49 : decode cX8_above 49 = .ok (.iconst 0, 1) := by decide +kernel
theorem dX8_above_50 : decode cX8_above 50 = .ok (.iadd, 1) := by decide +kernel
theorem dX8_above_51 : decode cX8_above 51 = .ok (.istore_n 2, 1) := by decide +kernel
theorem dX8_above_52 : decode cX8_above 52 = .ok (.iinc 3 1, 3) := by decide +kernel
theorem dX8_above_55 : decode cX8_above 55 = .ok (.goto (-51), 3) := by decide +kernel
theorem dX8_above_58 : decode cX8_above 58 = .ok (.iload_n 2, 1) := by decide +kernel
theorem dX8_above_59 : decode cX8_above 59 = .ok (.ireturn, 1) := by decide +kernel
theorem dX8_atPlace_0 : decode cX8_atPlace 0 = .ok (.iconst 0, 1) := by decide +kernel
theorem dX8_atPlace_1 : decode cX8_atPlace 1 = .ok (.istore_n 3, 1) := by decide +kernel
theorem dX8_atPlace_2 : decode cX8_atPlace 2 = .ok (.iload_n 3, 1) := by decide +kernel
theorem dX8_atPlace_3 : decode cX8_atPlace 3 = .ok (.aload_n 0, 1) := by decide +kernel
theorem dX8_atPlace_4 : decode cX8_atPlace 4 = .ok (.getfield 32, 3) := by decide +kernel
theorem dX8_atPlace_7 : decode cX8_atPlace 7 = .ok (.iconst 0, 1) := by decide +kernel
theorem dX8_atPlace_8 : decode cX8_atPlace 8 = .ok (.iaload, 1) := by decide +kernel
theorem dX8_atPlace_9 : decode cX8_atPlace 9 = .ok (.if_icmp .ge 30, 3) := by decide +kernel
theorem dX8_atPlace_12 : decode cX8_atPlace 12 = .ok (.aload_n 0, 1) := by decide +kernel
theorem dX8_atPlace_13 : decode cX8_atPlace 13 = .ok (.iload_n 3, 1) := by decide +kernel
theorem dX8_atPlace_14 : decode cX8_atPlace 14 = .ok (.iconst 0, 1) := by decide +kernel
theorem dX8_atPlace_15 : decode cX8_atPlace 15 = .ok (.invokevirtual 73, 3) := by decide +kernel
theorem dX8_atPlace_18 : decode cX8_atPlace 18 = .ok (.iload_n 1, 1) := by decide +kernel
theorem dX8_atPlace_19 : decode cX8_atPlace 19 = .ok (.if_icmp .ne 14, 3) := by decide +kernel
theorem dX8_atPlace_22 : decode cX8_atPlace 22 = .ok (.aload_n 0, 1) := by decide +kernel
theorem dX8_atPlace_23 : decode cX8_atPlace 23 = .ok (.iload_n 3, 1) := by decide +kernel
theorem dX8_atPlace_24 : decode cX8_atPlace 24 = .ok (.invokevirtual 77, 3) := by decide +kernel
theorem dX8_atPlace_27 : decode cX8_atPlace 27 = .ok (.iload_n 2, 1) := by decide +kernel
theorem dX8_atPlace_28 : decode cX8_atPlace 28 = .ok (.if_icmp .ne 5, 3) := by decide +kernel
theorem dX8_atPlace_31 : decode cX8_atPlace 31 = .ok (.iload_n 3, 1) := by decide +kernel
theorem dX8_atPlace_32 : decode cX8_atPlace 32 = .ok (.ireturn, 1) := by decide +kernel
theorem dX8_atPlace_33 : decode cX8_atPlace 33 = .ok (.iinc 3 1, 3) := by decide +kernel
theorem dX8_atPlace_36 : decode cX8_atPlace 36 = .ok (.goto (-34), 3) := by decide +kernel
theorem dX8_atPlace_39 : decode cX8_atPlace 39 = .ok (.iconst (-1), 1) := by decide +kernel
theorem dX8_atPlace_40 : decode cX8_atPlace 40 = .ok (.ireturn, 1) := by decide +kernel
theorem dX8_notJoke_0 : decode cX8_notJoke 0 = .ok (.iload_n 1, 1) := by decide +kernel
theorem dX8_notJoke_1 : decode cX8_notJoke 1 = .ok (.invokestatic 81, 3) := by decide +kernel
theorem dX8_notJoke_4 : decode cX8_notJoke 4 = .ok (.ifCond .ne 5, 3) := by decide +kernel
theorem dX8_notJoke_7 : decode cX8_notJoke 7 = .ok (.iconst (-1), 1) := by decide +kernel
theorem dX8_notJoke_8 : decode cX8_notJoke 8 = .ok (.ireturn, 1) := by decide +kernel
theorem dX8_notJoke_9 : decode cX8_notJoke 9 = .ok (.iload_n 2, 1) := by decide +kernel
theorem dX8_notJoke_10 : decode cX8_notJoke 10 = .ok (.iconst 1, 1) := by decide +kernel
theorem dX8_notJoke_11 : decode cX8_notJoke 11 = .ok (.bipush 30, 2) := by decide +kernel
theorem dX8_notJoke_13 : decode cX8_notJoke 13 = .ok (.invokestatic 19, 3) := by decide +kernel
theorem dX8_notJoke_16 : decode cX8_notJoke 16 = .ok (.ifCond .eq 24, 3) := by decide +kernel
theorem dX8_notJoke_19 : decode cX8_notJoke 19 = .ok (.iload_n 3, 1) := by decide +kernel
theorem dX8_notJoke_20 : decode cX8_notJoke 20 = .ok (.iconst 0, 1) := by decide +kernel
theorem dX8_notJoke_21 : decode cX8_notJoke 21 = .ok (.bipush 63, 2) := by decide +kernel
theorem dX8_notJoke_23 : decode cX8_notJoke 23 = .ok (.invokestatic 19, 3) := by decide +kernel
theorem dX8_notJoke_26 : decode cX8_notJoke 26 = .ok (.ifCond .eq 14, 3) := by decide +kernel
theorem dX8_notJoke_29 : decode cX8_notJoke 29 = .ok (.iload 4, 2) := by decide +kernel
theorem dX8_notJoke_31 : decode cX8_notJoke 31 = .ok (.iconst 1, 1) := by decide +kernel
theorem dX8_notJoke_32 : decode cX8_notJoke 32 = .ok (.bipush 9, 2) := by decide +kernel
theorem dX8_notJoke_34 : decode cX8_notJoke 34 = .ok (.invokestatic 19, 3) := by decide +kernel
theorem dX8_notJoke_37 : decode cX8_notJoke 37 = .ok (.ifCond .ne 6, 3) := by decide +kernel
theorem dX8_notJoke_40 : decode cX8_notJoke 40 = .ok (.bipush (-2), 2) := by decide +kernel
theorem dX8_notJoke_42 : decode cX8_notJoke 42 = .ok (.ireturn, 1) := by decide +kernel
theorem dX8_notJoke_43 : decode cX8_notJoke 43 = .ok (.aload_n 0, 1) := by decide +kernel
theorem dX8_notJoke_44 : decode cX8_notJoke 44 = .ok (.iload_n 3, 1) := by decide +kernel
theorem dX8_notJoke_45 : decode cX8_notJoke 45 = .ok (.invokevirtual 85, 3) := by decide +kernel
theorem dX8_notJoke_48 : decode cX8_notJoke 48 = .ok (.ifCond .eq 10, 3) := by decide +kernel
theorem dX8_notJoke_51 : decode cX8_notJoke 51 = .ok (.aload_n 0, 1) := by decide +kernel
theorem dX8_notJoke_52 : decode cX8_notJoke 52 = .ok (.iconst 3, 1) := by decide +kernel
theorem dX8_notJoke_53 : decode cX8_notJoke 53 = .ok (.iload_n 3, 1) := by decide +kernel
theorem dX8_notJoke_54 : decode cX8_notJoke 54 = .ok (.invokevirtual 88, 3) := by decide +kernel
theorem dX8_notJoke_57 : decode cX8_notJoke 57 = .ok (.ireturn, 1) := by decide +kernel
theorem dX8_notJoke_58 : decode cX8_notJoke 58 = .ok (.aload_n 0, 1) := by decide +kernel
theorem dX8_notJoke_59 : decode cX8_notJoke 59 = .ok (.iload_n 3, 1) := by decide +kernel
theorem dX8_notJoke_60 : decode cX8_notJoke 60 = .ok (.invokevirtual 91, 3) := by decide +kernel
theorem dX8_notJoke_63 : decode cX8_notJoke 63 = .ok (.ifCond .lt 14, 3) := by decide +kernel
theorem dX8_notJoke_66 : decode cX8_notJoke 66 = .ok (.aload_n 0, 1) := by decide +kernel
theorem dX8_notJoke_67 : decode cX8_notJoke 67 = .ok (.iconst 4, 1) := by decide +kernel
theorem dX8_notJoke_68 : decode cX8_notJoke 68 = .ok (.aload_n 0, 1) := by decide +kernel
theorem dX8_notJoke_69 : decode cX8_notJoke 69 = .ok (.iload_n 3, 1) := by decide +kernel
theorem dX8_notJoke_70 : decode cX8_notJoke 70 = .ok (.invokevirtual 91, 3) := by decide +kernel
theorem dX8_notJoke_73 : decode cX8_notJoke 73 = .ok (.invokevirtual 88, 3) := by decide +kernel
theorem dX8_notJoke_76 : decode cX8_notJoke 76 = .ok (.ireturn, 1) := by decide +kernel
theorem dX8_notJoke_77 : decode cX8_notJoke 77 = .ok (.aload_n 0, 1) := by decide +kernel
theorem dX8_notJoke_78 : decode cX8_notJoke 78 = .ok (.iload_n 1, 1) := by decide +kernel
theorem dX8_notJoke_79 : decode cX8_notJoke 79 = .ok (.iload_n 2, 1) := by decide +kernel
theorem dX8_notJoke_80 : decode cX8_notJoke 80 = .ok (.invokevirtual 94, 3) := by decide +kernel
theorem dX8_notJoke_83 : decode cX8_notJoke 83 = .ok (.ifCond .lt 15, 3) := by decide +kernel
theorem dX8_notJoke_86 : decode cX8_notJoke 86 = .ok (.aload_n 0, 1) := by decide +kernel
theorem dX8_notJoke_87 : decode cX8_notJoke 87 = .ok (.iconst 2, 1) := by decide +kernel
theorem dX8_notJoke_88 : decode cX8_notJoke 88 = .ok (.aload_n 0, 1) := by decide +kernel
theorem dX8_notJoke_89 : decode cX8_notJoke 89 = .ok (.iload_n 1, 1) := by decide +kernel
theorem dX8_notJoke_90 : decode cX8_notJoke 90 = .ok (.iload_n 2, 1) := by decide +kernel
theorem dX8_notJoke_91 : decode cX8_notJoke 91 = .ok (.invokevirtual 94, 3) := by decide +kernel
theorem dX8_notJoke_94 : decode cX8_notJoke 94 = .ok (.invokevirtual 88, 3) := by decide +kernel
theorem dX8_notJoke_97 : decode cX8_notJoke 97 = .ok (.ireturn, 1) := by decide +kernel
theorem dX8_notJoke_98 : decode cX8_notJoke 98 = .ok (.aload_n 0, 1) := by decide +kernel
theorem dX8_notJoke_99 : decode cX8_notJoke 99 = .ok (.getfield 32, 3) := by decide +kernel
theorem dX8_notJoke_102 : decode cX8_notJoke 102 = .ok (.iconst 0, 1) := by decide +kernel
theorem dX8_notJoke_103 : decode cX8_notJoke 103 = .ok (.iaload, 1) := by decide +kernel
theorem dX8_notJoke_104 : decode cX8_notJoke 104 = .ok (.bipush 12, 2) := by decide +kernel
theorem dX8_notJoke_106 : decode cX8_notJoke 106 = .ok (.if_icmp .ne 11, 3) := by decide +kernel
theorem dX8_notJoke_109 : decode cX8_notJoke 109 = .ok (.aload_n 0, 1) := by decide +kernel
theorem dX8_notJoke_110 : decode cX8_notJoke 110 = .ok (.iconst 1, 1) := by decide +kernel
theorem dX8_notJoke_111 : decode cX8_notJoke 111 = .ok (.bipush 12, 2) := by decide +kernel
theorem dX8_notJoke_113 : decode cX8_notJoke 113 = .ok (.invokevirtual 88, 3) := by decide +kernel
theorem dX8_notJoke_116 : decode cX8_notJoke 116 = .ok (.ireturn, 1) := by decide +kernel
theorem dX8_notJoke_117 : decode cX8_notJoke 117 = .ok (.aload_n 0, 1) := by decide +kernel
theorem dX8_notJoke_118 : decode cX8_notJoke 118 = .ok (.iload_n 1, 1) := by decide +kernel
theorem dX8_notJoke_119 : decode cX8_notJoke 119 = .ok (.invokevirtual 97, 3) := by decide +kernel
theorem dX8_notJoke_122 : decode cX8_notJoke 122 = .ok (.bipush 6, 2) := by decide +kernel
theorem dX8_notJoke_124 : decode cX8_notJoke 124 = .ok (.if_icmp .ne 13, 3) := by decide +kernel
theorem dX8_notJoke_127 : decode cX8_notJoke 127 = .ok (.aload_n 0, 1) := by decide +kernel
theorem dX8_notJoke_128 : decode cX8_notJoke 128 = .ok (.iconst 1, 1) := by decide +kernel
theorem dX8_notJoke_129 : decode cX8_notJoke 129 = .ok (.bipush 6, 2) := by decide +kernel
theorem dX8_notJoke_131 : decode cX8_notJoke 131 = .ok (.invokevirtual 88, 3) := by decide +kernel
theorem dX8_notJoke_134 : decode cX8_notJoke 134 = .ok (.goto 4, 3) := by decide +kernel
theorem dX8_notJoke_137 : decode cX8_notJoke 137 = .ok (.iconst 0, 1) := by decide +kernel
theorem dX8_notJoke_138 : decode cX8_notJoke 138 = .ok (.ireturn, 1) := by decide +kernel
theorem dX8_comes_0 : decode cX8_comes 0 = .ok (.bipush 22, 2) := by decide +kernel
theorem dX8_comes_2 : decode cX8_comes 2 = .ok (.iconst 5, 1) := by decide +kernel
theorem dX8_comes_3 : decode cX8_comes 3 = .ok (.aload_n 0, 1) := by decide +kernel
theorem dX8_comes_4 : decode cX8_comes 4 = .ok (.getfield 32, 3) := by decide +kernel
theorem dX8_comes_7 : decode cX8_comes 7 = .ok (.iconst 0, 1) := by decide +kernel
theorem dX8_comes_8 : decode cX8_comes 8 = .ok (.iaload, 1) := by decide +kernel
theorem dX8_comes_9 : decode cX8_comes 9 = .ok (.imul, 1) := by decide +kernel
theorem dX8_comes_10 : decode cX8_comes 10 = .ok (.iadd, 1) := by decide +kernel
theorem dX8_comes_11 : decode cX8_comes 11 = .ok (.istore 5, 2) := by decide +kernel
theorem dX8_comes_13 : decode cX8_comes 13 = .ok (.aload_n 0, 1) := by decide +kernel
theorem dX8_comes_14 : decode cX8_comes 14 = .ok (.getfield 32, 3) := by decide +kernel
theorem dX8_comes_17 : decode cX8_comes 17 = .ok (.iload 5, 2) := by decide +kernel
theorem dX8_comes_19 : decode cX8_comes 19 = .ok (.iconst 0, 1) := by decide +kernel
theorem dX8_comes_20 : decode cX8_comes 20 = .ok (.iadd, 1) := by decide +kernel
theorem dX8_comes_21 : decode cX8_comes 21 = .ok (.iload_n 1, 1) := by decide +kernel
theorem dX8_comes_22 : decode cX8_comes 22 = .ok (.iastore, 1) := by decide +kernel
theorem dX8_comes_23 : decode cX8_comes 23 = .ok (.aload_n 0, 1) := by decide +kernel
theorem dX8_comes_24 : decode cX8_comes 24 = .ok (.getfield 32, 3) := by decide +kernel
theorem dX8_comes_27 : decode cX8_comes 27 = .ok (.iload 5, 2) := by decide +kernel
theorem dX8_comes_29 : decode cX8_comes 29 = .ok (.iconst 1, 1) := by decide +kernel
theorem dX8_comes_30 : decode cX8_comes 30 = .ok (.iadd, 1) := by decide +kernel
theorem dX8_comes_31 : decode cX8_comes 31 = .ok (.iload_n 2, 1) := by decide +kernel
theorem dX8_comes_32 : decode cX8_comes 32 = .ok (.iastore, 1) := by decide +kernel
theorem dX8_comes_33 : decode cX8_comes 33 = .ok (.aload_n 0, 1) := by decide +kernel
theorem dX8_comes_34 : decode cX8_comes 34 = .ok (.getfield 32, 3) := by decide +kernel
theorem dX8_comes_37 : decode cX8_comes 37 = .ok (.iload 5, 2) := by decide +kernel
theorem dX8_comes_39 : decode cX8_comes 39 = .ok (.iconst 2, 1) := by decide +kernel
theorem dX8_comes_40 : decode cX8_comes 40 = .ok (.iadd, 1) := by decide +kernel
theorem dX8_comes_41 : decode cX8_comes 41 = .ok (.iload_n 3, 1) := by decide +kernel
theorem dX8_comes_42 : decode cX8_comes 42 = .ok (.iastore, 1) := by decide +kernel
theorem dX8_comes_43 : decode cX8_comes 43 = .ok (.aload_n 0, 1) := by decide +kernel
theorem dX8_comes_44 : decode cX8_comes 44 = .ok (.getfield 32, 3) := by decide +kernel
theorem dX8_comes_47 : decode cX8_comes 47 = .ok (.iload 5, 2) := by decide +kernel
theorem dX8_comes_49 : decode cX8_comes 49 = .ok (.iconst 3, 1) := by decide +kernel
theorem dX8_comes_50 : decode cX8_comes 50 = .ok (.iadd, 1) := by decide +kernel
theorem dX8_comes_51 : decode cX8_comes 51 = .ok (.iload 4, 2) := by decide +kernel
theorem dX8_comes_53 : decode cX8_comes 53 = .ok (.iastore, 1) := by decide +kernel
theorem dX8_comes_54 : decode cX8_comes 54 = .ok (.aload_n 0, 1) := by decide +kernel
theorem dX8_comes_55 : decode cX8_comes 55 = .ok (.getfield 32, 3) := by decide +kernel
theorem dX8_comes_58 : decode cX8_comes 58 = .ok (.iload 5, 2) := by decide +kernel
theorem dX8_comes_60 : decode cX8_comes 60 = .ok (.iconst 4, 1) := by decide +kernel
theorem dX8_comes_61 : decode cX8_comes 61 = .ok (.iadd, 1) := by decide +kernel
theorem dX8_comes_62 : decode cX8_comes 62 = .ok (.iconst 0, 1) := by decide +kernel
theorem dX8_comes_63 : decode cX8_comes 63 = .ok (.iastore, 1) := by decide +kernel
theorem dX8_comes_64 : decode cX8_comes 64 = .ok (.aload_n 0, 1) := by decide +kernel
theorem dX8_comes_65 : decode cX8_comes 65 = .ok (.getfield 32, 3) := by decide +kernel
theorem dX8_comes_68 : decode cX8_comes 68 = .ok (.bipush 7, 2) := by decide +kernel
theorem dX8_comes_70 : decode cX8_comes 70 = .ok (.dup2, 1) := by decide +kernel
theorem dX8_comes_71 : decode cX8_comes 71 = .ok (.iaload, 1) := by decide +kernel
theorem dX8_comes_72 : decode cX8_comes 72 = .ok (.iconst 1, 1) := by decide +kernel
theorem dX8_comes_73 : decode cX8_comes 73 = .ok (.iadd, 1) := by decide +kernel
theorem dX8_comes_74 : decode cX8_comes 74 = .ok (.iastore, 1) := by decide +kernel
theorem dX8_comes_75 : decode cX8_comes 75 = .ok (.aload_n 0, 1) := by decide +kernel
theorem dX8_comes_76 : decode cX8_comes 76 = .ok (.getfield 32, 3) := by decide +kernel
theorem dX8_comes_79 : decode cX8_comes 79 = .ok (.iconst 0, 1) := by decide +kernel
theorem dX8_comes_80 : decode cX8_comes 80 = .ok (.dup2, 1) := by decide +kernel
theorem dX8_comes_81 : decode cX8_comes 81 = .ok (.iaload, 1) := by decide +kernel
theorem dX8_comes_82 : decode cX8_comes 82 = .ok (.iconst 1, 1) := by decide +kernel
theorem dX8_comes_83 : decode cX8_comes 83 = .ok (.iadd, 1) := by decide +kernel
theorem dX8_comes_84 : decode cX8_comes 84 = .ok (.iastore, 1) := by decide +kernel
theorem dX8_comes_85 : decode cX8_comes 85 = .ok (.aload_n 0, 1) := by decide +kernel
theorem dX8_comes_86 : decode cX8_comes 86 = .ok (.getfield 32, 3) := by decide +kernel
theorem dX8_comes_89 : decode cX8_comes 89 = .ok (.iconst 0, 1) := by decide +kernel
theorem dX8_comes_90 : decode cX8_comes 90 = .ok (.iaload, 1) := by decide +kernel
theorem dX8_comes_91 : decode cX8_comes 91 = .ok (.iconst 1, 1) := by decide +kernel
theorem dX8_comes_92 : decode cX8_comes 92 = .ok (.isub, 1) := by decide +kernel
theorem dX8_comes_93 : decode cX8_comes 93 = .ok (.ireturn, 1) := by decide +kernel
theorem dX8_joke_0 : decode cX8_joke 0 = .ok (.aload_n 0, 1) := by decide +kernel
theorem dX8_joke_1 : decode cX8_joke 1 = .ok (.iload_n 1, 1) := by decide +kernel
theorem dX8_joke_2 : decode cX8_joke 2 = .ok (.iload_n 2, 1) := by decide +kernel
theorem dX8_joke_3 : decode cX8_joke 3 = .ok (.iload_n 3, 1) := by decide +kernel
theorem dX8_joke_4 : decode cX8_joke 4 = .ok (.iload 4, 2) := by decide +kernel
theorem dX8_joke_6 : decode cX8_joke 6 = .ok (.invokevirtual 100, 3) := by decide +kernel
theorem dX8_joke_9 : decode cX8_joke 9 = .ok (.istore 5, 2) := by decide +kernel
theorem dX8_joke_11 : decode cX8_joke 11 = .ok (.iload 5, 2) := by decide +kernel
theorem dX8_joke_13 : decode cX8_joke 13 = .ok (.ifCond .eq 10, 3) := by decide +kernel
theorem dX8_joke_16 : decode cX8_joke 16 = .ok (.aload_n 0, 1) := by decide +kernel
theorem dX8_joke_17 : decode cX8_joke 17 = .ok (.iload 5, 2) := by decide +kernel
theorem dX8_joke_19 : decode cX8_joke 19 = .ok (.invokevirtual 104, 3) := by decide +kernel
theorem dX8_joke_22 : decode cX8_joke 22 = .ok (.ireturn, 1) := by decide +kernel
theorem dX8_joke_23 : decode cX8_joke 23 = .ok (.aload_n 0, 1) := by decide +kernel
theorem dX8_joke_24 : decode cX8_joke 24 = .ok (.invokevirtual 107, 3) := by decide +kernel
theorem dX8_joke_27 : decode cX8_joke 27 = .ok (.aload_n 0, 1) := by decide +kernel
theorem dX8_joke_28 : decode cX8_joke 28 = .ok (.iload_n 1, 1) := by decide +kernel
theorem dX8_joke_29 : decode cX8_joke 29 = .ok (.iload_n 2, 1) := by decide +kernel
theorem dX8_joke_30 : decode cX8_joke 30 = .ok (.iload_n 3, 1) := by decide +kernel
theorem dX8_joke_31 : decode cX8_joke 31 = .ok (.iload 4, 2) := by decide +kernel
theorem dX8_joke_33 : decode cX8_joke 33 = .ok (.invokevirtual 110, 3) := by decide +kernel
theorem dX8_joke_36 : decode cX8_joke 36 = .ok (.ireturn, 1) := by decide +kernel
theorem dX8_notPrime_0 : decode cX8_notPrime 0 = .ok (.aload_n 0, 1) := by decide +kernel
theorem dX8_notPrime_1 : decode cX8_notPrime 1 = .ok (.iload_n 1, 1) := by decide +kernel
theorem dX8_notPrime_2 : decode cX8_notPrime 2 = .ok (.invokevirtual 113, 3) := by decide +kernel
theorem dX8_notPrime_5 : decode cX8_notPrime 5 = .ok (.ifCond .ne 5, 3) := by decide +kernel
theorem dX8_notPrime_8 : decode cX8_notPrime 8 = .ok (.iconst (-1), 1) := by decide +kernel
theorem dX8_notPrime_9 : decode cX8_notPrime 9 = .ok (.ireturn, 1) := by decide +kernel
theorem dX8_notPrime_10 : decode cX8_notPrime 10 = .ok (.aload_n 0, 1) := by decide +kernel
theorem dX8_notPrime_11 : decode cX8_notPrime 11 = .ok (.iload_n 1, 1) := by decide +kernel
theorem dX8_notPrime_12 : decode cX8_notPrime 12 = .ok (.iconst 4, 1) := by decide +kernel
theorem dX8_notPrime_13 : decode cX8_notPrime 13 = .ok (.invokevirtual 73, 3) := by decide +kernel
theorem dX8_notPrime_16 : decode cX8_notPrime 16 = .ok (.iconst 1, 1) := by decide +kernel
theorem dX8_notPrime_17 : decode cX8_notPrime 17 = .ok (.if_icmp .ne 10, 3) := by decide +kernel
theorem dX8_notPrime_20 : decode cX8_notPrime 20 = .ok (.aload_n 0, 1) := by decide +kernel
theorem dX8_notPrime_21 : decode cX8_notPrime 21 = .ok (.iconst 5, 1) := by decide +kernel
theorem dX8_notPrime_22 : decode cX8_notPrime 22 = .ok (.iload_n 1, 1) := by decide +kernel
theorem dX8_notPrime_23 : decode cX8_notPrime 23 = .ok (.invokevirtual 88, 3) := by decide +kernel
theorem dX8_notPrime_26 : decode cX8_notPrime 26 = .ok (.ireturn, 1) := by decide +kernel
theorem dX8_notPrime_27 : decode cX8_notPrime 27 = .ok (.aload_n 0, 1) := by decide +kernel
theorem dX8_notPrime_28 : decode cX8_notPrime 28 = .ok (.getfield 32, 3) := by decide +kernel
theorem dX8_notPrime_31 : decode cX8_notPrime 31 = .ok (.iconst 5, 1) := by decide +kernel
theorem dX8_notPrime_32 : decode cX8_notPrime 32 = .ok (.iaload, 1) := by decide +kernel
theorem dX8_notPrime_33 : decode cX8_notPrime 33 = .ok (.ifCond .ne 18, 3) := by decide +kernel
theorem dX8_notPrime_36 : decode cX8_notPrime 36 = .ok (.aload_n 0, 1) := by decide +kernel
theorem dX8_notPrime_37 : decode cX8_notPrime 37 = .ok (.bipush 6, 2) := by decide +kernel
theorem dX8_notPrime_39 : decode cX8_notPrime 39 = .ok (.aload_n 0, 1) := by decide +kernel
theorem dX8_notPrime_40 : decode cX8_notPrime 40 = .ok (.getfield 32, 3) := by decide +kernel
theorem dX8_notPrime_43 : decode cX8_notPrime 43 = .ok (.iconst 4, 1) := by decide +kernel
theorem dX8_notPrime_44 : decode cX8_notPrime 44 = .ok (.iaload, 1) := by decide +kernel
theorem dX8_notPrime_45 : decode cX8_notPrime 45 = .ok (.invokevirtual 88, 3) := by decide +kernel
theorem dX8_notPrime_48 : decode cX8_notPrime 48 = .ok (.goto 4, 3) := by decide +kernel
theorem dX8_notPrime_51 : decode cX8_notPrime 51 = .ok (.iconst 0, 1) := by decide +kernel
theorem dX8_notPrime_52 : decode cX8_notPrime 52 = .ok (.ireturn, 1) := by decide +kernel
theorem dX8_primes_0 : decode cX8_primes 0 = .ok (.aload_n 0, 1) := by decide +kernel
theorem dX8_primes_1 : decode cX8_primes 1 = .ok (.getfield 32, 3) := by decide +kernel
theorem dX8_primes_4 : decode cX8_primes 4 = .ok (.bipush 22, 2) := by decide +kernel
theorem dX8_primes_6 : decode cX8_primes 6 = .ok (.iconst 5, 1) := by decide +kernel
theorem dX8_primes_7 : decode cX8_primes 7 = .ok (.iload_n 1, 1) := by decide +kernel
theorem dX8_primes_8 : decode cX8_primes 8 = .ok (.imul, 1) := by decide +kernel
theorem dX8_primes_9 : decode cX8_primes 9 = .ok (.iadd, 1) := by decide +kernel
theorem dX8_primes_10 : decode cX8_primes 10 = .ok (.iconst 4, 1) := by decide +kernel
theorem dX8_primes_11 : decode cX8_primes 11 = .ok (.iadd, 1) := by decide +kernel
theorem dX8_primes_12 : decode cX8_primes 12 = .ok (.iconst 1, 1) := by decide +kernel
theorem dX8_primes_13 : decode cX8_primes 13 = .ok (.iastore, 1) := by decide +kernel
theorem dX8_primes_14 : decode cX8_primes 14 = .ok (.aload_n 0, 1) := by decide +kernel
theorem dX8_primes_15 : decode cX8_primes 15 = .ok (.getfield 32, 3) := by decide +kernel
theorem dX8_primes_18 : decode cX8_primes 18 = .ok (.iconst 5, 1) := by decide +kernel
theorem dX8_primes_19 : decode cX8_primes 19 = .ok (.dup2, 1) := by decide +kernel
theorem dX8_primes_20 : decode cX8_primes 20 = .ok (.iaload, 1) := by decide +kernel
theorem dX8_primes_21 : decode cX8_primes 21 = .ok (.iconst 1, 1) := by decide +kernel
theorem dX8_primes_22 : decode cX8_primes 22 = .ok (.isub, 1) := by decide +kernel
theorem dX8_primes_23 : decode cX8_primes 23 = .ok (.iastore, 1) := by decide +kernel
theorem dX8_primes_24 : decode cX8_primes 24 = .ok (.aload_n 0, 1) := by decide +kernel
theorem dX8_primes_25 : decode cX8_primes 25 = .ok (.getfield 32, 3) := by decide +kernel
theorem dX8_primes_28 : decode cX8_primes 28 = .ok (.iconst 5, 1) := by decide +kernel
theorem dX8_primes_29 : decode cX8_primes 29 = .ok (.iaload, 1) := by decide +kernel
theorem dX8_primes_30 : decode cX8_primes 30 = .ok (.ireturn, 1) := by decide +kernel
theorem dX8_prime_0 : decode cX8_prime 0 = .ok (.aload_n 0, 1) := by decide +kernel
theorem dX8_prime_1 : decode cX8_prime 1 = .ok (.iload_n 1, 1) := by decide +kernel
theorem dX8_prime_2 : decode cX8_prime 2 = .ok (.invokevirtual 116, 3) := by decide +kernel
theorem dX8_prime_5 : decode cX8_prime 5 = .ok (.istore_n 2, 1) := by decide +kernel
theorem dX8_prime_6 : decode cX8_prime 6 = .ok (.iload_n 2, 1) := by decide +kernel
theorem dX8_prime_7 : decode cX8_prime 7 = .ok (.ifCond .eq 9, 3) := by decide +kernel
theorem dX8_prime_10 : decode cX8_prime 10 = .ok (.aload_n 0, 1) := by decide +kernel
theorem dX8_prime_11 : decode cX8_prime 11 = .ok (.iload_n 2, 1) := by decide +kernel
theorem dX8_prime_12 : decode cX8_prime 12 = .ok (.invokevirtual 104, 3) := by decide +kernel
theorem dX8_prime_15 : decode cX8_prime 15 = .ok (.ireturn, 1) := by decide +kernel
theorem dX8_prime_16 : decode cX8_prime 16 = .ok (.aload_n 0, 1) := by decide +kernel
theorem dX8_prime_17 : decode cX8_prime 17 = .ok (.invokevirtual 107, 3) := by decide +kernel
theorem dX8_prime_20 : decode cX8_prime 20 = .ok (.aload_n 0, 1) := by decide +kernel
theorem dX8_prime_21 : decode cX8_prime 21 = .ok (.iload_n 1, 1) := by decide +kernel
theorem dX8_prime_22 : decode cX8_prime 22 = .ok (.invokevirtual 119, 3) := by decide +kernel
theorem dX8_prime_25 : decode cX8_prime 25 = .ok (.ireturn, 1) := by decide +kernel
theorem dX8_goes_0 : decode cX8_goes 0 = .ok (.aload_n 0, 1) := by decide +kernel
theorem dX8_goes_1 : decode cX8_goes 1 = .ok (.getfield 32, 3) := by decide +kernel
theorem dX8_goes_4 : decode cX8_goes 4 = .ok (.iconst 0, 1) := by decide +kernel
theorem dX8_goes_5 : decode cX8_goes 5 = .ok (.dup2, 1) := by decide +kernel
theorem dX8_goes_6 : decode cX8_goes 6 = .ok (.iaload, 1) := by decide +kernel
theorem dX8_goes_7 : decode cX8_goes 7 = .ok (.iconst 1, 1) := by decide +kernel
theorem dX8_goes_8 : decode cX8_goes 8 = .ok (.isub, 1) := by decide +kernel
theorem dX8_goes_9 : decode cX8_goes 9 = .ok (.iastore, 1) := by decide +kernel
theorem dX8_goes_10 : decode cX8_goes 10 = .ok (.bipush 22, 2) := by decide +kernel
theorem dX8_goes_12 : decode cX8_goes 12 = .ok (.iconst 5, 1) := by decide +kernel
theorem dX8_goes_13 : decode cX8_goes 13 = .ok (.aload_n 0, 1) := by decide +kernel
theorem dX8_goes_14 : decode cX8_goes 14 = .ok (.getfield 32, 3) := by decide +kernel
theorem dX8_goes_17 : decode cX8_goes 17 = .ok (.iconst 0, 1) := by decide +kernel
theorem dX8_goes_18 : decode cX8_goes 18 = .ok (.iaload, 1) := by decide +kernel
theorem dX8_goes_19 : decode cX8_goes 19 = .ok (.imul, 1) := by decide +kernel
theorem dX8_goes_20 : decode cX8_goes 20 = .ok (.iadd, 1) := by decide +kernel
theorem dX8_goes_21 : decode cX8_goes 21 = .ok (.istore_n 2, 1) := by decide +kernel
theorem dX8_goes_22 : decode cX8_goes 22 = .ok (.bipush 22, 2) := by decide +kernel
theorem dX8_goes_24 : decode cX8_goes 24 = .ok (.iconst 5, 1) := by decide +kernel
theorem dX8_goes_25 : decode cX8_goes 25 = .ok (.iload_n 1, 1) := by decide +kernel
theorem dX8_goes_26 : decode cX8_goes 26 = .ok (.imul, 1) := by decide +kernel
theorem dX8_goes_27 : decode cX8_goes 27 = .ok (.iadd, 1) := by decide +kernel
theorem dX8_goes_28 : decode cX8_goes 28 = .ok (.istore_n 3, 1) := by decide +kernel
theorem dX8_goes_29 : decode cX8_goes 29 = .ok (.iload_n 3, 1) := by decide +kernel
theorem dX8_goes_30 : decode cX8_goes 30 = .ok (.iload_n 2, 1) := by decide +kernel
theorem dX8_goes_31 : decode cX8_goes 31 = .ok (.if_icmp .ge 23, 3) := by decide +kernel
theorem dX8_goes_34 : decode cX8_goes 34 = .ok (.aload_n 0, 1) := by decide +kernel
theorem dX8_goes_35 : decode cX8_goes 35 = .ok (.getfield 32, 3) := by decide +kernel
theorem dX8_goes_38 : decode cX8_goes 38 = .ok (.iload_n 3, 1) := by decide +kernel
theorem dX8_goes_39 : decode cX8_goes 39 = .ok (.aload_n 0, 1) := by decide +kernel
theorem dX8_goes_40 : decode cX8_goes 40 = .ok (.getfield 32, 3) := by decide +kernel
theorem dX8_goes_43 : decode cX8_goes 43 = .ok (.iload_n 3, 1) := by decide +kernel
theorem dX8_goes_44 : decode cX8_goes 44 = .ok (.iconst 5, 1) := by decide +kernel
theorem dX8_goes_45 : decode cX8_goes 45 = .ok (.iadd, 1) := by decide +kernel
theorem dX8_goes_46 : decode cX8_goes 46 = .ok (.iaload, 1) := by decide +kernel
theorem dX8_goes_47 : decode cX8_goes 47 = .ok (.iastore, 1) := by decide +kernel
theorem dX8_goes_48 : decode cX8_goes 48 = .ok (.iinc 3 1, 3) := by decide +kernel
theorem dX8_goes_51 : decode cX8_goes 51 = .ok (.goto (-22), 3) := by decide +kernel
theorem dX8_goes_54 : decode cX8_goes 54 = .ok (.iconst 0, 1) := by decide +kernel
theorem dX8_goes_55 : decode cX8_goes 55 = .ok (.istore_n 3, 1) := by decide +kernel
theorem dX8_goes_56 : decode cX8_goes 56 = .ok (.iload_n 3, 1) := by decide +kernel
theorem dX8_goes_57 : decode cX8_goes 57 = .ok (.iconst 5, 1) := by decide +kernel
theorem dX8_goes_58 : decode cX8_goes 58 = .ok (.if_icmp .ge 18, 3) := by decide +kernel
theorem dX8_goes_61 : decode cX8_goes 61 = .ok (.aload_n 0, 1) := by decide +kernel
theorem dX8_goes_62 : decode cX8_goes 62 = .ok (.getfield 32, 3) := by decide +kernel
theorem dX8_goes_65 : decode cX8_goes 65 = .ok (.iload_n 2, 1) := by decide +kernel
theorem dX8_goes_66 : decode cX8_goes 66 = .ok (.iload_n 3, 1) := by decide +kernel
theorem dX8_goes_67 : decode cX8_goes 67 = .ok (.iadd, 1) := by decide +kernel
theorem dX8_goes_68 : decode cX8_goes 68 = .ok (.iconst 0, 1) := by decide +kernel
theorem dX8_goes_69 : decode cX8_goes 69 = .ok (.iastore, 1) := by decide +kernel
theorem dX8_goes_70 : decode cX8_goes 70 = .ok (.iinc 3 1, 3) := by decide +kernel
theorem dX8_goes_73 : decode cX8_goes 73 = .ok (.goto (-17), 3) := by decide +kernel
theorem dX8_goes_76 : decode cX8_goes 76 = .ok (.return_, 1) := by decide +kernel
theorem dX8_notDrop_0 : decode cX8_notDrop 0 = .ok (.aload_n 0, 1) := by decide +kernel
theorem dX8_notDrop_1 : decode cX8_notDrop 1 = .ok (.iload_n 1, 1) := by decide +kernel
theorem dX8_notDrop_2 : decode cX8_notDrop 2 = .ok (.invokevirtual 113, 3) := by decide +kernel
theorem dX8_notDrop_5 : decode cX8_notDrop 5 = .ok (.ifCond .eq 7, 3) := by decide +kernel
theorem dX8_notDrop_8 : decode cX8_notDrop 8 = .ok (.iconst 0, 1) := by decide +kernel
theorem dX8_notDrop_9 : decode cX8_notDrop 9 = .ok (.goto 4, 3) := by decide +kernel
theorem dX8_notDrop_12 : decode cX8_notDrop 12 = .ok (.iconst (-1), 1) := by decide +kernel
theorem dX8_notDrop_13 : decode cX8_notDrop 13 = .ok (.ireturn, 1) := by decide +kernel
theorem dX8_drops_0 : decode cX8_drops 0 = .ok (.aload_n 0, 1) := by decide +kernel
theorem dX8_drops_1 : decode cX8_drops 1 = .ok (.iload_n 1, 1) := by decide +kernel
theorem dX8_drops_2 : decode cX8_drops 2 = .ok (.invokevirtual 122, 3) := by decide +kernel
theorem dX8_drops_5 : decode cX8_drops 5 = .ok (.aload_n 0, 1) := by decide +kernel
theorem dX8_drops_6 : decode cX8_drops 6 = .ok (.getfield 32, 3) := by decide +kernel
theorem dX8_drops_9 : decode cX8_drops 9 = .ok (.bipush 8, 2) := by decide +kernel
theorem dX8_drops_11 : decode cX8_drops 11 = .ok (.dup2, 1) := by decide +kernel
theorem dX8_drops_12 : decode cX8_drops 12 = .ok (.iaload, 1) := by decide +kernel
theorem dX8_drops_13 : decode cX8_drops 13 = .ok (.iconst 1, 1) := by decide +kernel
theorem dX8_drops_14 : decode cX8_drops 14 = .ok (.iadd, 1) := by decide +kernel
theorem dX8_drops_15 : decode cX8_drops 15 = .ok (.iastore, 1) := by decide +kernel
theorem dX8_drops_16 : decode cX8_drops 16 = .ok (.aload_n 0, 1) := by decide +kernel
theorem dX8_drops_17 : decode cX8_drops 17 = .ok (.getfield 32, 3) := by decide +kernel
theorem dX8_drops_20 : decode cX8_drops 20 = .ok (.iconst 0, 1) := by decide +kernel
theorem dX8_drops_21 : decode cX8_drops 21 = .ok (.iaload, 1) := by decide +kernel
theorem dX8_drops_22 : decode cX8_drops 22 = .ok (.ireturn, 1) := by decide +kernel
theorem dX8_drop_0 : decode cX8_drop 0 = .ok (.aload_n 0, 1) := by decide +kernel
theorem dX8_drop_1 : decode cX8_drop 1 = .ok (.iload_n 1, 1) := by decide +kernel
theorem dX8_drop_2 : decode cX8_drop 2 = .ok (.invokevirtual 126, 3) := by decide +kernel
theorem dX8_drop_5 : decode cX8_drop 5 = .ok (.istore_n 2, 1) := by decide +kernel
theorem dX8_drop_6 : decode cX8_drop 6 = .ok (.iload_n 2, 1) := by decide +kernel
theorem dX8_drop_7 : decode cX8_drop 7 = .ok (.ifCond .eq 5, 3) := by decide +kernel
theorem dX8_drop_10 : decode cX8_drop 10 = .ok (.iload_n 2, 1) := by decide +kernel
theorem dX8_drop_11 : decode cX8_drop 11 = .ok (.ireturn, 1) := by decide +kernel
theorem dX8_drop_12 : decode cX8_drop 12 = .ok (.aload_n 0, 1) := by decide +kernel
theorem dX8_drop_13 : decode cX8_drop 13 = .ok (.invokevirtual 107, 3) := by decide +kernel
theorem dX8_drop_16 : decode cX8_drop 16 = .ok (.aload_n 0, 1) := by decide +kernel
theorem dX8_drop_17 : decode cX8_drop 17 = .ok (.iload_n 1, 1) := by decide +kernel
theorem dX8_drop_18 : decode cX8_drop 18 = .ok (.invokevirtual 129, 3) := by decide +kernel
theorem dX8_drop_21 : decode cX8_drop 21 = .ok (.ireturn, 1) := by decide +kernel
theorem dX8_notDrain_0 : decode cX8_notDrain 0 = .ok (.iload_n 1, 1) := by decide +kernel
theorem dX8_notDrain_1 : decode cX8_notDrain 1 = .ok (.iconst 1, 1) := by decide +kernel
theorem dX8_notDrain_2 : decode cX8_notDrain 2 = .ok (.bipush 50, 2) := by decide +kernel
theorem dX8_notDrain_4 : decode cX8_notDrain 4 = .ok (.invokestatic 19, 3) := by decide +kernel
theorem dX8_notDrain_7 : decode cX8_notDrain 7 = .ok (.ifCond .ne 6, 3) := by decide +kernel
theorem dX8_notDrain_10 : decode cX8_notDrain 10 = .ok (.bipush (-2), 2) := by decide +kernel
theorem dX8_notDrain_12 : decode cX8_notDrain 12 = .ok (.ireturn, 1) := by decide +kernel
theorem dX8_notDrain_13 : decode cX8_notDrain 13 = .ok (.aload_n 0, 1) := by decide +kernel
theorem dX8_notDrain_14 : decode cX8_notDrain 14 = .ok (.getfield 32, 3) := by decide +kernel
theorem dX8_notDrain_17 : decode cX8_notDrain 17 = .ok (.iconst 4, 1) := by decide +kernel
theorem dX8_notDrain_18 : decode cX8_notDrain 18 = .ok (.iaload, 1) := by decide +kernel
theorem dX8_notDrain_19 : decode cX8_notDrain 19 = .ok (.iload_n 1, 1) := by decide +kernel
theorem dX8_notDrain_20 : decode cX8_notDrain 20 = .ok (.if_icmp .ge 18, 3) := by decide +kernel
theorem dX8_notDrain_23 : decode cX8_notDrain 23 = .ok (.aload_n 0, 1) := by decide +kernel
theorem dX8_notDrain_24 : decode cX8_notDrain 24 = .ok (.bipush 7, 2) := by decide +kernel
theorem dX8_notDrain_26 : decode cX8_notDrain 26 = .ok (.aload_n 0, 1) := by decide +kernel
theorem dX8_notDrain_27 : decode cX8_notDrain 27 = .ok (.getfield 32, 3) := by decide +kernel
theorem dX8_notDrain_30 : decode cX8_notDrain 30 = .ok (.iconst 4, 1) := by decide +kernel
theorem dX8_notDrain_31 : decode cX8_notDrain 31 = .ok (.iaload, 1) := by decide +kernel
theorem dX8_notDrain_32 : decode cX8_notDrain 32 = .ok (.invokevirtual 88, 3) := by decide +kernel
theorem dX8_notDrain_35 : decode cX8_notDrain 35 = .ok (.goto 4, 3) := by decide +kernel
theorem dX8_notDrain_38 : decode cX8_notDrain 38 = .ok (.iconst 0, 1) := by decide +kernel
theorem dX8_notDrain_39 : decode cX8_notDrain 39 = .ok (.ireturn, 1) := by decide +kernel
theorem dX8_drains_0 : decode cX8_drains 0 = .ok (.aload_n 0, 1) := by decide +kernel
theorem dX8_drains_1 : decode cX8_drains 1 = .ok (.getfield 32, 3) := by decide +kernel
theorem dX8_drains_4 : decode cX8_drains 4 = .ok (.iconst 4, 1) := by decide +kernel
theorem dX8_drains_5 : decode cX8_drains 5 = .ok (.dup2, 1) := by decide +kernel
theorem dX8_drains_6 : decode cX8_drains 6 = .ok (.iaload, 1) := by decide +kernel
theorem dX8_drains_7 : decode cX8_drains 7 = .ok (.iload_n 1, 1) := by decide +kernel
theorem dX8_drains_8 : decode cX8_drains 8 = .ok (.isub, 1) := by decide +kernel
theorem dX8_drains_9 : decode cX8_drains 9 = .ok (.iastore, 1) := by decide +kernel
theorem dX8_drains_10 : decode cX8_drains 10 = .ok (.aload_n 0, 1) := by decide +kernel
theorem dX8_drains_11 : decode cX8_drains 11 = .ok (.getfield 32, 3) := by decide +kernel
theorem dX8_drains_14 : decode cX8_drains 14 = .ok (.bipush 10, 2) := by decide +kernel
theorem dX8_drains_16 : decode cX8_drains 16 = .ok (.dup2, 1) := by decide +kernel
theorem dX8_drains_17 : decode cX8_drains 17 = .ok (.iaload, 1) := by decide +kernel
theorem dX8_drains_18 : decode cX8_drains 18 = .ok (.iload_n 1, 1) := by decide +kernel
theorem dX8_drains_19 : decode cX8_drains 19 = .ok (.iadd, 1) := by decide +kernel
theorem dX8_drains_20 : decode cX8_drains 20 = .ok (.iastore, 1) := by decide +kernel
theorem dX8_drains_21 : decode cX8_drains 21 = .ok (.aload_n 0, 1) := by decide +kernel
theorem dX8_drains_22 : decode cX8_drains 22 = .ok (.getfield 32, 3) := by decide +kernel
theorem dX8_drains_25 : decode cX8_drains 25 = .ok (.iconst 5, 1) := by decide +kernel
theorem dX8_drains_26 : decode cX8_drains 26 = .ok (.dup2, 1) := by decide +kernel
theorem dX8_drains_27 : decode cX8_drains 27 = .ok (.iaload, 1) := by decide +kernel
theorem dX8_drains_28 : decode cX8_drains 28 = .ok (.iload_n 1, 1) := by decide +kernel
theorem dX8_drains_29 : decode cX8_drains 29 = .ok (.bipush 10, 2) := by decide +kernel
theorem dX8_drains_31 : decode cX8_drains 31 = .ok (.idiv, 1) := by decide +kernel
theorem dX8_drains_32 : decode cX8_drains 32 = .ok (.iadd, 1) := by decide +kernel
theorem dX8_drains_33 : decode cX8_drains 33 = .ok (.iastore, 1) := by decide +kernel
theorem dX8_drains_34 : decode cX8_drains 34 = .ok (.aload_n 0, 1) := by decide +kernel
theorem dX8_drains_35 : decode cX8_drains 35 = .ok (.getfield 32, 3) := by decide +kernel
theorem dX8_drains_38 : decode cX8_drains 38 = .ok (.iconst 5, 1) := by decide +kernel
theorem dX8_drains_39 : decode cX8_drains 39 = .ok (.iaload, 1) := by decide +kernel
theorem dX8_drains_40 : decode cX8_drains 40 = .ok (.bipush 9, 2) := by decide +kernel
theorem dX8_drains_42 : decode cX8_drains 42 = .ok (.if_icmp .le 11, 3) := by decide +kernel
theorem dX8_drains_45 : decode cX8_drains 45 = .ok (.aload_n 0, 1) := by decide +kernel
theorem dX8_drains_46 : decode cX8_drains 46 = .ok (.getfield 32, 3) := by decide +kernel
theorem dX8_drains_49 : decode cX8_drains 49 = .ok (.iconst 5, 1) := by decide +kernel
theorem dX8_drains_50 : decode cX8_drains 50 = .ok (.bipush 9, 2) := by decide +kernel
theorem dX8_drains_52 : decode cX8_drains 52 = .ok (.iastore, 1) := by decide +kernel
theorem dX8_drains_53 : decode cX8_drains 53 = .ok (.aload_n 0, 1) := by decide +kernel
theorem dX8_drains_54 : decode cX8_drains 54 = .ok (.getfield 32, 3) := by decide +kernel
theorem dX8_drains_57 : decode cX8_drains 57 = .ok (.iconst 5, 1) := by decide +kernel
theorem dX8_drains_58 : decode cX8_drains 58 = .ok (.iaload, 1) := by decide +kernel
theorem dX8_drains_59 : decode cX8_drains 59 = .ok (.ireturn, 1) := by decide +kernel
theorem dX8_drain_0 : decode cX8_drain 0 = .ok (.aload_n 0, 1) := by decide +kernel
theorem dX8_drain_1 : decode cX8_drain 1 = .ok (.iload_n 1, 1) := by decide +kernel
theorem dX8_drain_2 : decode cX8_drain 2 = .ok (.invokevirtual 132, 3) := by decide +kernel
theorem dX8_drain_5 : decode cX8_drain 5 = .ok (.istore_n 2, 1) := by decide +kernel
theorem dX8_drain_6 : decode cX8_drain 6 = .ok (.iload_n 2, 1) := by decide +kernel
theorem dX8_drain_7 : decode cX8_drain 7 = .ok (.ifCond .eq 9, 3) := by decide +kernel
theorem dX8_drain_10 : decode cX8_drain 10 = .ok (.aload_n 0, 1) := by decide +kernel
theorem dX8_drain_11 : decode cX8_drain 11 = .ok (.iload_n 2, 1) := by decide +kernel
theorem dX8_drain_12 : decode cX8_drain 12 = .ok (.invokevirtual 104, 3) := by decide +kernel
theorem dX8_drain_15 : decode cX8_drain 15 = .ok (.ireturn, 1) := by decide +kernel
theorem dX8_drain_16 : decode cX8_drain 16 = .ok (.aload_n 0, 1) := by decide +kernel
theorem dX8_drain_17 : decode cX8_drain 17 = .ok (.invokevirtual 107, 3) := by decide +kernel
theorem dX8_drain_20 : decode cX8_drain 20 = .ok (.aload_n 0, 1) := by decide +kernel
theorem dX8_drain_21 : decode cX8_drain 21 = .ok (.iload_n 1, 1) := by decide +kernel
theorem dX8_drain_22 : decode cX8_drain 22 = .ok (.invokevirtual 135, 3) := by decide +kernel
theorem dX8_drain_25 : decode cX8_drain 25 = .ok (.ireturn, 1) := by decide +kernel
theorem dX8_tells_0 : decode cX8_tells 0 = .ok (.aload_n 0, 1) := by decide +kernel
theorem dX8_tells_1 : decode cX8_tells 1 = .ok (.getfield 32, 3) := by decide +kernel
theorem dX8_tells_4 : decode cX8_tells 4 = .ok (.iload_n 1, 1) := by decide +kernel
theorem dX8_tells_5 : decode cX8_tells 5 = .ok (.iaload, 1) := by decide +kernel
theorem dX8_tells_6 : decode cX8_tells 6 = .ok (.istore_n 3, 1) := by decide +kernel
theorem dX8_tells_7 : decode cX8_tells 7 = .ok (.aload_n 0, 1) := by decide +kernel
theorem dX8_tells_8 : decode cX8_tells 8 = .ok (.getfield 32, 3) := by decide +kernel
theorem dX8_tells_11 : decode cX8_tells 11 = .ok (.iload_n 1, 1) := by decide +kernel
theorem dX8_tells_12 : decode cX8_tells 12 = .ok (.iload_n 2, 1) := by decide +kernel
theorem dX8_tells_13 : decode cX8_tells 13 = .ok (.iastore, 1) := by decide +kernel
theorem dX8_tells_14 : decode cX8_tells 14 = .ok (.iload_n 3, 1) := by decide +kernel
theorem dX8_tells_15 : decode cX8_tells 15 = .ok (.ireturn, 1) := by decide +kernel
theorem dX8_notStroke_0 : decode cX8_notStroke 0 = .ok (.iload_n 1, 1) := by decide +kernel
theorem dX8_notStroke_1 : decode cX8_notStroke 1 = .ok (.iconst 1, 1) := by decide +kernel
theorem dX8_notStroke_2 : decode cX8_notStroke 2 = .ok (.bipush 10, 2) := by decide +kernel
theorem dX8_notStroke_4 : decode cX8_notStroke 4 = .ok (.invokestatic 19, 3) := by decide +kernel
theorem dX8_notStroke_7 : decode cX8_notStroke 7 = .ok (.ifCond .ne 6, 3) := by decide +kernel
theorem dX8_notStroke_10 : decode cX8_notStroke 10 = .ok (.bipush (-2), 2) := by decide +kernel
theorem dX8_notStroke_12 : decode cX8_notStroke 12 = .ok (.ireturn, 1) := by decide +kernel
theorem dX8_notStroke_13 : decode cX8_notStroke 13 = .ok (.aload_n 0, 1) := by decide +kernel
theorem dX8_notStroke_14 : decode cX8_notStroke 14 = .ok (.getfield 32, 3) := by decide +kernel
theorem dX8_notStroke_17 : decode cX8_notStroke 17 = .ok (.iconst 2, 1) := by decide +kernel
theorem dX8_notStroke_18 : decode cX8_notStroke 18 = .ok (.iaload, 1) := by decide +kernel
theorem dX8_notStroke_19 : decode cX8_notStroke 19 = .ok (.iload_n 1, 1) := by decide +kernel
theorem dX8_notStroke_20 : decode cX8_notStroke 20 = .ok (.if_icmp .ne 12, 3) := by decide +kernel
theorem dX8_notStroke_23 : decode cX8_notStroke 23 = .ok (.aload_n 0, 1) := by decide +kernel
theorem dX8_notStroke_24 : decode cX8_notStroke 24 = .ok (.iconst 5, 1) := by decide +kernel
theorem dX8_notStroke_25 : decode cX8_notStroke 25 = .ok (.iload_n 1, 1) := by decide +kernel
theorem dX8_notStroke_26 : decode cX8_notStroke 26 = .ok (.invokevirtual 88, 3) := by decide +kernel
theorem dX8_notStroke_29 : decode cX8_notStroke 29 = .ok (.goto 4, 3) := by decide +kernel
theorem dX8_notStroke_32 : decode cX8_notStroke 32 = .ok (.iconst 0, 1) := by decide +kernel
theorem dX8_notStroke_33 : decode cX8_notStroke 33 = .ok (.ireturn, 1) := by decide +kernel
theorem dX8_stroke_0 : decode cX8_stroke 0 = .ok (.aload_n 0, 1) := by decide +kernel
theorem dX8_stroke_1 : decode cX8_stroke 1 = .ok (.iload_n 1, 1) := by decide +kernel
theorem dX8_stroke_2 : decode cX8_stroke 2 = .ok (.invokevirtual 138, 3) := by decide +kernel
theorem dX8_stroke_5 : decode cX8_stroke 5 = .ok (.istore_n 2, 1) := by decide +kernel
theorem dX8_stroke_6 : decode cX8_stroke 6 = .ok (.iload_n 2, 1) := by decide +kernel
theorem dX8_stroke_7 : decode cX8_stroke 7 = .ok (.ifCond .eq 9, 3) := by decide +kernel
theorem dX8_stroke_10 : decode cX8_stroke 10 = .ok (.aload_n 0, 1) := by decide +kernel
theorem dX8_stroke_11 : decode cX8_stroke 11 = .ok (.iload_n 2, 1) := by decide +kernel
theorem dX8_stroke_12 : decode cX8_stroke 12 = .ok (.invokevirtual 104, 3) := by decide +kernel
theorem dX8_stroke_15 : decode cX8_stroke 15 = .ok (.ireturn, 1) := by decide +kernel
theorem dX8_stroke_16 : decode cX8_stroke 16 = .ok (.aload_n 0, 1) := by decide +kernel
theorem dX8_stroke_17 : decode cX8_stroke 17 = .ok (.invokevirtual 107, 3) := by decide +kernel
theorem dX8_stroke_20 : decode cX8_stroke 20 = .ok (.aload_n 0, 1) := by decide +kernel
theorem dX8_stroke_21 : decode cX8_stroke 21 = .ok (.iconst 2, 1) := by decide +kernel
theorem dX8_stroke_22 : decode cX8_stroke 22 = .ok (.iload_n 1, 1) := by decide +kernel
theorem dX8_stroke_23 : decode cX8_stroke 23 = .ok (.invokevirtual 141, 3) := by decide +kernel
theorem dX8_stroke_26 : decode cX8_stroke 26 = .ok (.ireturn, 1) := by decide +kernel
theorem dX8_notBucket_0 : decode cX8_notBucket 0 = .ok (.iload_n 1, 1) := by decide +kernel
theorem dX8_notBucket_1 : decode cX8_notBucket 1 = .ok (.invokestatic 81, 3) := by decide +kernel
theorem dX8_notBucket_4 : decode cX8_notBucket 4 = .ok (.ifCond .ne 5, 3) := by decide +kernel
theorem dX8_notBucket_7 : decode cX8_notBucket 7 = .ok (.iconst (-1), 1) := by decide +kernel
theorem dX8_notBucket_8 : decode cX8_notBucket 8 = .ok (.ireturn, 1) := by decide +kernel
theorem dX8_notBucket_9 : decode cX8_notBucket 9 = .ok (.iload_n 2, 1) := by decide +kernel
theorem dX8_notBucket_10 : decode cX8_notBucket 10 = .ok (.iconst 1, 1) := by decide +kernel
theorem dX8_notBucket_11 : decode cX8_notBucket 11 = .ok (.iconst 5, 1) := by decide +kernel
theorem dX8_notBucket_12 : decode cX8_notBucket 12 = .ok (.invokestatic 19, 3) := by decide +kernel
theorem dX8_notBucket_15 : decode cX8_notBucket 15 = .ok (.ifCond .ne 6, 3) := by decide +kernel
theorem dX8_notBucket_18 : decode cX8_notBucket 18 = .ok (.bipush (-2), 2) := by decide +kernel
theorem dX8_notBucket_20 : decode cX8_notBucket 20 = .ok (.ireturn, 1) := by decide +kernel
theorem dX8_notBucket_21 : decode cX8_notBucket 21 = .ok (.aload_n 0, 1) := by decide +kernel
theorem dX8_notBucket_22 : decode cX8_notBucket 22 = .ok (.getfield 32, 3) := by decide +kernel
theorem dX8_notBucket_25 : decode cX8_notBucket 25 = .ok (.bipush 14, 2) := by decide +kernel
theorem dX8_notBucket_27 : decode cX8_notBucket 27 = .ok (.iload_n 1, 1) := by decide +kernel
theorem dX8_notBucket_28 : decode cX8_notBucket 28 = .ok (.iadd, 1) := by decide +kernel
theorem dX8_notBucket_29 : decode cX8_notBucket 29 = .ok (.iaload, 1) := by decide +kernel
theorem dX8_notBucket_30 : decode cX8_notBucket 30 = .ok (.iload_n 2, 1) := by decide +kernel
theorem dX8_notBucket_31 : decode cX8_notBucket 31 = .ok (.if_icmp .ne 12, 3) := by decide +kernel
theorem dX8_notBucket_34 : decode cX8_notBucket 34 = .ok (.aload_n 0, 1) := by decide +kernel
theorem dX8_notBucket_35 : decode cX8_notBucket 35 = .ok (.iconst 5, 1) := by decide +kernel
theorem dX8_notBucket_36 : decode cX8_notBucket 36 = .ok (.iload_n 1, 1) := by decide +kernel
theorem dX8_notBucket_37 : decode cX8_notBucket 37 = .ok (.invokevirtual 88, 3) := by decide +kernel
theorem dX8_notBucket_40 : decode cX8_notBucket 40 = .ok (.goto 4, 3) := by decide +kernel
theorem dX8_notBucket_43 : decode cX8_notBucket 43 = .ok (.iconst 0, 1) := by decide +kernel
theorem dX8_notBucket_44 : decode cX8_notBucket 44 = .ok (.ireturn, 1) := by decide +kernel
theorem dX8_bucket_0 : decode cX8_bucket 0 = .ok (.aload_n 0, 1) := by decide +kernel
theorem dX8_bucket_1 : decode cX8_bucket 1 = .ok (.iload_n 1, 1) := by decide +kernel
theorem dX8_bucket_2 : decode cX8_bucket 2 = .ok (.iload_n 2, 1) := by decide +kernel
theorem dX8_bucket_3 : decode cX8_bucket 3 = .ok (.invokevirtual 144, 3) := by decide +kernel
theorem dX8_bucket_6 : decode cX8_bucket 6 = .ok (.istore_n 3, 1) := by decide +kernel
theorem dX8_bucket_7 : decode cX8_bucket 7 = .ok (.iload_n 3, 1) := by decide +kernel
theorem dX8_bucket_8 : decode cX8_bucket 8 = .ok (.ifCond .eq 9, 3) := by decide +kernel
theorem dX8_bucket_11 : decode cX8_bucket 11 = .ok (.aload_n 0, 1) := by decide +kernel
theorem dX8_bucket_12 : decode cX8_bucket 12 = .ok (.iload_n 3, 1) := by decide +kernel
theorem dX8_bucket_13 : decode cX8_bucket 13 = .ok (.invokevirtual 104, 3) := by decide +kernel
theorem dX8_bucket_16 : decode cX8_bucket 16 = .ok (.ireturn, 1) := by decide +kernel
theorem dX8_bucket_17 : decode cX8_bucket 17 = .ok (.aload_n 0, 1) := by decide +kernel
theorem dX8_bucket_18 : decode cX8_bucket 18 = .ok (.invokevirtual 107, 3) := by decide +kernel
theorem dX8_bucket_21 : decode cX8_bucket 21 = .ok (.aload_n 0, 1) := by decide +kernel
theorem dX8_bucket_22 : decode cX8_bucket 22 = .ok (.bipush 14, 2) := by decide +kernel
theorem dX8_bucket_24 : decode cX8_bucket 24 = .ok (.iload_n 1, 1) := by decide +kernel
theorem dX8_bucket_25 : decode cX8_bucket 25 = .ok (.iadd, 1) := by decide +kernel
theorem dX8_bucket_26 : decode cX8_bucket 26 = .ok (.iload_n 2, 1) := by decide +kernel
theorem dX8_bucket_27 : decode cX8_bucket 27 = .ok (.invokevirtual 141, 3) := by decide +kernel
theorem dX8_bucket_30 : decode cX8_bucket 30 = .ok (.ireturn, 1) := by decide +kernel
theorem dX8_notGo_0 : decode cX8_notGo 0 = .ok (.iload_n 1, 1) := by decide +kernel
theorem dX8_notGo_1 : decode cX8_notGo 1 = .ok (.invokestatic 81, 3) := by decide +kernel
theorem dX8_notGo_4 : decode cX8_notGo 4 = .ok (.ifCond .ne 5, 3) := by decide +kernel
theorem dX8_notGo_7 : decode cX8_notGo 7 = .ok (.iconst (-1), 1) := by decide +kernel
theorem dX8_notGo_8 : decode cX8_notGo 8 = .ok (.ireturn, 1) := by decide +kernel
theorem dX8_notGo_9 : decode cX8_notGo 9 = .ok (.aload_n 0, 1) := by decide +kernel
theorem dX8_notGo_10 : decode cX8_notGo 10 = .ok (.getfield 32, 3) := by decide +kernel
theorem dX8_notGo_13 : decode cX8_notGo 13 = .ok (.iconst 1, 1) := by decide +kernel
theorem dX8_notGo_14 : decode cX8_notGo 14 = .ok (.iaload, 1) := by decide +kernel
theorem dX8_notGo_15 : decode cX8_notGo 15 = .ok (.iload_n 1, 1) := by decide +kernel
theorem dX8_notGo_16 : decode cX8_notGo 16 = .ok (.if_icmp .ne 12, 3) := by decide +kernel
theorem dX8_notGo_19 : decode cX8_notGo 19 = .ok (.aload_n 0, 1) := by decide +kernel
theorem dX8_notGo_20 : decode cX8_notGo 20 = .ok (.iconst 5, 1) := by decide +kernel
theorem dX8_notGo_21 : decode cX8_notGo 21 = .ok (.iload_n 1, 1) := by decide +kernel
theorem dX8_notGo_22 : decode cX8_notGo 22 = .ok (.invokevirtual 88, 3) := by decide +kernel
theorem dX8_notGo_25 : decode cX8_notGo 25 = .ok (.goto 4, 3) := by decide +kernel
theorem dX8_notGo_28 : decode cX8_notGo 28 = .ok (.iconst 0, 1) := by decide +kernel
theorem dX8_notGo_29 : decode cX8_notGo 29 = .ok (.ireturn, 1) := by decide +kernel
theorem dX8_moves_0 : decode cX8_moves 0 = .ok (.aload_n 0, 1) := by decide +kernel
theorem dX8_moves_1 : decode cX8_moves 1 = .ok (.getfield 32, 3) := by decide +kernel
theorem dX8_moves_4 : decode cX8_moves 4 = .ok (.iconst 3, 1) := by decide +kernel
theorem dX8_moves_5 : decode cX8_moves 5 = .ok (.iconst 0, 1) := by decide +kernel
theorem dX8_moves_6 : decode cX8_moves 6 = .ok (.iastore, 1) := by decide +kernel
theorem dX8_moves_7 : decode cX8_moves 7 = .ok (.aload_n 0, 1) := by decide +kernel
theorem dX8_moves_8 : decode cX8_moves 8 = .ok (.iconst 1, 1) := by decide +kernel
theorem dX8_moves_9 : decode cX8_moves 9 = .ok (.iload_n 1, 1) := by decide +kernel
theorem dX8_moves_10 : decode cX8_moves 10 = .ok (.invokevirtual 141, 3) := by decide +kernel
theorem dX8_moves_13 : decode cX8_moves 13 = .ok (.ireturn, 1) := by decide +kernel
theorem dX8_go_0 : decode cX8_go 0 = .ok (.aload_n 0, 1) := by decide +kernel
theorem dX8_go_1 : decode cX8_go 1 = .ok (.iload_n 1, 1) := by decide +kernel
theorem dX8_go_2 : decode cX8_go 2 = .ok (.invokevirtual 147, 3) := by decide +kernel
theorem dX8_go_5 : decode cX8_go 5 = .ok (.istore_n 2, 1) := by decide +kernel
theorem dX8_go_6 : decode cX8_go 6 = .ok (.iload_n 2, 1) := by decide +kernel
theorem dX8_go_7 : decode cX8_go 7 = .ok (.ifCond .eq 9, 3) := by decide +kernel
theorem dX8_go_10 : decode cX8_go 10 = .ok (.aload_n 0, 1) := by decide +kernel
theorem dX8_go_11 : decode cX8_go 11 = .ok (.iload_n 2, 1) := by decide +kernel
theorem dX8_go_12 : decode cX8_go 12 = .ok (.invokevirtual 104, 3) := by decide +kernel
theorem dX8_go_15 : decode cX8_go 15 = .ok (.ireturn, 1) := by decide +kernel
theorem dX8_go_16 : decode cX8_go 16 = .ok (.aload_n 0, 1) := by decide +kernel
theorem dX8_go_17 : decode cX8_go 17 = .ok (.invokevirtual 107, 3) := by decide +kernel
theorem dX8_go_20 : decode cX8_go 20 = .ok (.aload_n 0, 1) := by decide +kernel
theorem dX8_go_21 : decode cX8_go 21 = .ok (.iload_n 1, 1) := by decide +kernel
theorem dX8_go_22 : decode cX8_go 22 = .ok (.invokevirtual 150, 3) := by decide +kernel
theorem dX8_go_25 : decode cX8_go 25 = .ok (.ireturn, 1) := by decide +kernel
theorem dX8_laughOf_0 : decode cX8_laughOf 0 = .ok (.aload_n 0, 1) := by decide +kernel
theorem dX8_laughOf_1 : decode cX8_laughOf 1 = .ok (.iload_n 1, 1) := by decide +kernel
theorem dX8_laughOf_2 : decode cX8_laughOf 2 = .ok (.iconst 3, 1) := by decide +kernel
theorem dX8_laughOf_3 : decode cX8_laughOf 3 = .ok (.invokevirtual 73, 3) := by decide +kernel
theorem dX8_laughOf_6 : decode cX8_laughOf 6 = .ok (.i2f, 1) := by decide +kernel
theorem dX8_laughOf_7 : decode cX8_laughOf 7 = .ok (.fstore_n 3, 1) := by decide +kernel
theorem dX8_laughOf_8 : decode cX8_laughOf 8 = .ok (.aload_n 0, 1) := by decide +kernel
theorem dX8_laughOf_9 : decode cX8_laughOf 9 = .ok (.iload_n 1, 1) := by decide +kernel
theorem dX8_laughOf_10 : decode cX8_laughOf 10 = .ok (.iconst 4, 1) := by decide +kernel
theorem dX8_laughOf_11 : decode cX8_laughOf 11 = .ok (.invokevirtual 73, 3) := by decide +kernel
theorem dX8_laughOf_14 : decode cX8_laughOf 14 = .ok (.iconst 1, 1) := by decide +kernel
theorem dX8_laughOf_15 : decode cX8_laughOf 15 = .ok (.if_icmp .ne 8, 3) := by decide +kernel
theorem dX8_laughOf_18 : decode cX8_laughOf 18 = .ok (.fload_n 3, 1) := by decide +kernel
theorem dX8_laughOf_19 : decode cX8_laughOf 19 = .ok (.ldc 153, 2) := by decide +kernel
theorem dX8_laughOf_21 : decode cX8_laughOf 21 = .ok (.fmul, 1) := by decide +kernel
theorem dX8_laughOf_22 : decode cX8_laughOf 22 = .ok (.fstore_n 3, 1) := by decide +kernel
theorem dX8_laughOf_23 : decode cX8_laughOf 23 = .ok (.fload_n 3, 1) := by decide +kernel
theorem dX8_laughOf_24 : decode cX8_laughOf 24 = .ok (.fconst 1, 1) := by decide +kernel
theorem dX8_laughOf_25 : decode cX8_laughOf 25 = .ok (.iload_n 2, 1) := by decide +kernel
theorem dX8_laughOf_26 : decode cX8_laughOf 26 = .ok (.i2f, 1) := by decide +kernel
theorem dX8_laughOf_27 : decode cX8_laughOf 27 = .ok (.ldc 154, 2) := by decide +kernel
theorem dX8_laughOf_29 : decode cX8_laughOf 29 = .ok (.fdiv, 1) := by decide +kernel
theorem dX8_laughOf_30 : decode cX8_laughOf 30 = .ok (.fadd, 1) := by decide +kernel
theorem dX8_laughOf_31 : decode cX8_laughOf 31 = .ok (.fdiv, 1) := by decide +kernel
theorem dX8_laughOf_32 : decode cX8_laughOf 32 = .ok (.freturn, 1) := by decide +kernel
theorem dX8_lifts_0 : decode cX8_lifts 0 = .ok (.aload_n 0, 1) := by decide +kernel
theorem dX8_lifts_1 : decode cX8_lifts 1 = .ok (.iload_n 1, 1) := by decide +kernel
theorem dX8_lifts_2 : decode cX8_lifts 2 = .ok (.aload_n 0, 1) := by decide +kernel
theorem dX8_lifts_3 : decode cX8_lifts 3 = .ok (.getfield 32, 3) := by decide +kernel
theorem dX8_lifts_6 : decode cX8_lifts 6 = .ok (.iconst 4, 1) := by decide +kernel
theorem dX8_lifts_7 : decode cX8_lifts 7 = .ok (.iaload, 1) := by decide +kernel
theorem dX8_lifts_8 : decode cX8_lifts 8 = .ok (.invokevirtual 155, 3) := by decide +kernel
theorem dX8_lifts_11 : decode cX8_lifts 11 = .ok (.fstore_n 2, 1) := by decide +kernel
theorem dX8_lifts_12 : decode cX8_lifts 12 = .ok (.aload_n 0, 1) := by decide +kernel
theorem dX8_lifts_13 : decode cX8_lifts 13 = .ok (.iload_n 1, 1) := by decide +kernel
theorem dX8_lifts_14 : decode cX8_lifts 14 = .ok (.iconst 2, 1) := by decide +kernel
theorem dX8_lifts_15 : decode cX8_lifts 15 = .ok (.invokevirtual 73, 3) := by decide +kernel
theorem dX8_lifts_18 : decode cX8_lifts 18 = .ok (.istore_n 3, 1) := by decide +kernel
theorem dX8_lifts_19 : decode cX8_lifts 19 = .ok (.bipush 82, 2) := by decide +kernel
theorem dX8_lifts_21 : decode cX8_lifts 21 = .ok (.iconst 3, 1) := by decide +kernel
theorem dX8_lifts_22 : decode cX8_lifts 22 = .ok (.aload_n 0, 1) := by decide +kernel
theorem dX8_lifts_23 : decode cX8_lifts 23 = .ok (.getfield 32, 3) := by decide +kernel
theorem dX8_lifts_26 : decode cX8_lifts 26 = .ok (.bipush 6, 2) := by decide +kernel
theorem dX8_lifts_28 : decode cX8_lifts 28 = .ok (.iaload, 1) := by decide +kernel
theorem dX8_lifts_29 : decode cX8_lifts 29 = .ok (.imul, 1) := by decide +kernel
theorem dX8_lifts_30 : decode cX8_lifts 30 = .ok (.iadd, 1) := by decide +kernel
theorem dX8_lifts_31 : decode cX8_lifts 31 = .ok (.istore 4, 2) := by decide +kernel
theorem dX8_lifts_33 : decode cX8_lifts 33 = .ok (.aload_n 0, 1) := by decide +kernel
theorem dX8_lifts_34 : decode cX8_lifts 34 = .ok (.getfield 32, 3) := by decide +kernel
theorem dX8_lifts_37 : decode cX8_lifts 37 = .ok (.iload 4, 2) := by decide +kernel
theorem dX8_lifts_39 : decode cX8_lifts 39 = .ok (.iload_n 3, 1) := by decide +kernel
theorem dX8_lifts_40 : decode cX8_lifts 40 = .ok (.iastore, 1) := by decide +kernel
theorem dX8_lifts_41 : decode cX8_lifts 41 = .ok (.aload_n 0, 1) := by decide +kernel
theorem dX8_lifts_42 : decode cX8_lifts 42 = .ok (.getfield 32, 3) := by decide +kernel
theorem dX8_lifts_45 : decode cX8_lifts 45 = .ok (.iload 4, 2) := by decide +kernel
theorem dX8_lifts_47 : decode cX8_lifts 47 = .ok (.iconst 1, 1) := by decide +kernel
theorem dX8_lifts_48 : decode cX8_lifts 48 = .ok (.iadd, 1) := by decide +kernel
theorem dX8_lifts_49 : decode cX8_lifts 49 = .ok (.aload_n 0, 1) := by decide +kernel
theorem dX8_lifts_50 : decode cX8_lifts 50 = .ok (.iload_n 1, 1) := by decide +kernel
theorem dX8_lifts_51 : decode cX8_lifts 51 = .ok (.iconst 0, 1) := by decide +kernel
theorem dX8_lifts_52 : decode cX8_lifts 52 = .ok (.invokevirtual 73, 3) := by decide +kernel
theorem dX8_lifts_55 : decode cX8_lifts 55 = .ok (.iastore, 1) := by decide +kernel
theorem dX8_lifts_56 : decode cX8_lifts 56 = .ok (.aload_n 0, 1) := by decide +kernel
theorem dX8_lifts_57 : decode cX8_lifts 57 = .ok (.getfield 32, 3) := by decide +kernel
theorem dX8_lifts_60 : decode cX8_lifts 60 = .ok (.iload 4, 2) := by decide +kernel
theorem dX8_lifts_62 : decode cX8_lifts 62 = .ok (.iconst 2, 1) := by decide +kernel
theorem dX8_lifts_63 : decode cX8_lifts 63 = .ok (.iadd, 1) := by decide +kernel
theorem dX8_lifts_64 : decode cX8_lifts 64 = .ok (.fload_n 2, 1) := by decide +kernel
theorem dX8_lifts_65 : decode cX8_lifts 65 = .ok (.invokestatic 159, 3) := by decide +kernel
theorem dX8_lifts_68 : decode cX8_lifts 68 = .ok (.iastore, 1) := by decide +kernel
theorem dX8_lifts_69 : decode cX8_lifts 69 = .ok (.aload_n 0, 1) := by decide +kernel
theorem dX8_lifts_70 : decode cX8_lifts 70 = .ok (.getfield 32, 3) := by decide +kernel
theorem dX8_lifts_73 : decode cX8_lifts 73 = .ok (.bipush 6, 2) := by decide +kernel
theorem dX8_lifts_75 : decode cX8_lifts 75 = .ok (.dup2, 1) := by decide +kernel
theorem dX8_lifts_76 : decode cX8_lifts 76 = .ok (.iaload, 1) := by decide +kernel
theorem dX8_lifts_77 : decode cX8_lifts 77 = .ok (.iconst 1, 1) := by decide +kernel
theorem dX8_lifts_78 : decode cX8_lifts 78 = .ok (.iadd, 1) := by decide +kernel
theorem dX8_lifts_79 : decode cX8_lifts 79 = .ok (.iastore, 1) := by decide +kernel
theorem dX8_lifts_80 : decode cX8_lifts 80 = .ok (.aload_n 0, 1) := by decide +kernel
theorem dX8_lifts_81 : decode cX8_lifts 81 = .ok (.getfield 32, 3) := by decide +kernel
theorem dX8_lifts_84 : decode cX8_lifts 84 = .ok (.bipush 18, 2) := by decide +kernel
theorem dX8_lifts_86 : decode cX8_lifts 86 = .ok (.aload_n 0, 1) := by decide +kernel
theorem dX8_lifts_87 : decode cX8_lifts 87 = .ok (.iload_n 1, 1) := by decide +kernel
theorem dX8_lifts_88 : decode cX8_lifts 88 = .ok (.iconst 0, 1) := by decide +kernel
theorem dX8_lifts_89 : decode cX8_lifts 89 = .ok (.invokevirtual 73, 3) := by decide +kernel
theorem dX8_lifts_92 : decode cX8_lifts 92 = .ok (.iadd, 1) := by decide +kernel
theorem dX8_lifts_93 : decode cX8_lifts 93 = .ok (.dup2, 1) := by decide +kernel
theorem dX8_lifts_94 : decode cX8_lifts 94 = .ok (.iaload, 1) := by decide +kernel
theorem dX8_lifts_95 : decode cX8_lifts 95 = .ok (.iconst 1, 1) := by decide +kernel
theorem dX8_lifts_96 : decode cX8_lifts 96 = .ok (.iadd, 1) := by decide +kernel
theorem dX8_lifts_97 : decode cX8_lifts 97 = .ok (.iastore, 1) := by decide +kernel
theorem dX8_lifts_98 : decode cX8_lifts 98 = .ok (.aload_n 0, 1) := by decide +kernel
theorem dX8_lifts_99 : decode cX8_lifts 99 = .ok (.getfield 32, 3) := by decide +kernel
theorem dX8_lifts_102 : decode cX8_lifts 102 = .ok (.bipush 12, 2) := by decide +kernel
theorem dX8_lifts_104 : decode cX8_lifts 104 = .ok (.iload_n 3, 1) := by decide +kernel
theorem dX8_lifts_105 : decode cX8_lifts 105 = .ok (.bipush 32, 2) := by decide +kernel
theorem dX8_lifts_107 : decode cX8_lifts 107 = .ok (.idiv, 1) := by decide +kernel
theorem dX8_lifts_108 : decode cX8_lifts 108 = .ok (.iadd, 1) := by decide +kernel
theorem dX8_lifts_109 : decode cX8_lifts 109 = .ok (.dup2, 1) := by decide +kernel
theorem dX8_lifts_110 : decode cX8_lifts 110 = .ok (.iaload, 1) := by decide +kernel
theorem dX8_lifts_111 : decode cX8_lifts 111 = .ok (.iconst 1, 1) := by decide +kernel
theorem dX8_lifts_112 : decode cX8_lifts 112 = .ok (.iload_n 3, 1) := by decide +kernel
theorem dX8_lifts_113 : decode cX8_lifts 113 = .ok (.bipush 32, 2) := by decide +kernel
theorem dX8_lifts_115 : decode cX8_lifts 115 = .ok (.irem, 1) := by decide +kernel
theorem dX8_lifts_116 : decode cX8_lifts 116 = .ok (.ishl, 1) := by decide +kernel
theorem dX8_lifts_117 : decode cX8_lifts 117 = .ok (.ior, 1) := by decide +kernel
theorem dX8_lifts_118 : decode cX8_lifts 118 = .ok (.iastore, 1) := by decide +kernel
theorem dX8_lifts_119 : decode cX8_lifts 119 = .ok (.aload_n 0, 1) := by decide +kernel
theorem dX8_lifts_120 : decode cX8_lifts 120 = .ok (.getfield 32, 3) := by decide +kernel
theorem dX8_lifts_123 : decode cX8_lifts 123 = .ok (.bipush 11, 2) := by decide +kernel
theorem dX8_lifts_125 : decode cX8_lifts 125 = .ok (.aload_n 0, 1) := by decide +kernel
theorem dX8_lifts_126 : decode cX8_lifts 126 = .ok (.getfield 32, 3) := by decide +kernel
theorem dX8_lifts_129 : decode cX8_lifts 129 = .ok (.bipush 11, 2) := by decide +kernel
theorem dX8_lifts_131 : decode cX8_lifts 131 = .ok (.iaload, 1) := by decide +kernel
theorem dX8_lifts_132 : decode cX8_lifts 132 = .ok (.invokestatic 165, 3) := by decide +kernel
theorem dX8_lifts_135 : decode cX8_lifts 135 = .ok (.fload_n 2, 1) := by decide +kernel
theorem dX8_lifts_136 : decode cX8_lifts 136 = .ok (.fadd, 1) := by decide +kernel
theorem dX8_lifts_137 : decode cX8_lifts 137 = .ok (.invokestatic 159, 3) := by decide +kernel
theorem dX8_lifts_140 : decode cX8_lifts 140 = .ok (.iastore, 1) := by decide +kernel
theorem dX8_lifts_141 : decode cX8_lifts 141 = .ok (.aload_n 0, 1) := by decide +kernel
theorem dX8_lifts_142 : decode cX8_lifts 142 = .ok (.iload_n 1, 1) := by decide +kernel
theorem dX8_lifts_143 : decode cX8_lifts 143 = .ok (.invokevirtual 122, 3) := by decide +kernel
theorem dX8_lifts_146 : decode cX8_lifts 146 = .ok (.return_, 1) := by decide +kernel
theorem dX8_nextReach_0 : decode cX8_nextReach 0 = .ok (.iload_n 0, 1) := by decide +kernel
theorem dX8_nextReach_1 : decode cX8_nextReach 1 = .ok (.iload_n 1, 1) := by decide +kernel
theorem dX8_nextReach_2 : decode cX8_nextReach 2 = .ok (.iadd, 1) := by decide +kernel
theorem dX8_nextReach_3 : decode cX8_nextReach 3 = .ok (.bipush 30, 2) := by decide +kernel
theorem dX8_nextReach_5 : decode cX8_nextReach 5 = .ok (.if_icmp .ge 9, 3) := by decide +kernel
theorem dX8_nextReach_8 : decode cX8_nextReach 8 = .ok (.iload_n 0, 1) := by decide +kernel
theorem dX8_nextReach_9 : decode cX8_nextReach 9 = .ok (.iload_n 1, 1) := by decide +kernel
theorem dX8_nextReach_10 : decode cX8_nextReach 10 = .ok (.iadd, 1) := by decide +kernel
theorem dX8_nextReach_11 : decode cX8_nextReach 11 = .ok (.goto 5, 3) := by decide +kernel
theorem dX8_nextReach_14 : decode cX8_nextReach 14 = .ok (.bipush 30, 2) := by decide +kernel
theorem dX8_nextReach_16 : decode cX8_nextReach 16 = .ok (.ireturn, 1) := by decide +kernel
theorem dX8_strokesOnce_0 : decode cX8_strokesOnce 0 = .ok (.aload_n 0, 1) := by decide +kernel
theorem dX8_strokesOnce_1 : decode cX8_strokesOnce 1 = .ok (.getfield 32, 3) := by decide +kernel
theorem dX8_strokesOnce_4 : decode cX8_strokesOnce 4 = .ok (.iconst 1, 1) := by decide +kernel
theorem dX8_strokesOnce_5 : decode cX8_strokesOnce 5 = .ok (.iaload, 1) := by decide +kernel
theorem dX8_strokesOnce_6 : decode cX8_strokesOnce 6 = .ok (.istore_n 1, 1) := by decide +kernel
theorem dX8_strokesOnce_7 : decode cX8_strokesOnce 7 = .ok (.aload_n 0, 1) := by decide +kernel
theorem dX8_strokesOnce_8 : decode cX8_strokesOnce 8 = .ok (.getfield 32, 3) := by decide +kernel
theorem dX8_strokesOnce_11 : decode cX8_strokesOnce 11 = .ok (.iconst 3, 1) := by decide +kernel
theorem dX8_strokesOnce_12 : decode cX8_strokesOnce 12 = .ok (.aload_n 0, 1) := by decide +kernel
theorem dX8_strokesOnce_13 : decode cX8_strokesOnce 13 = .ok (.getfield 32, 3) := by decide +kernel
theorem dX8_strokesOnce_16 : decode cX8_strokesOnce 16 = .ok (.iconst 3, 1) := by decide +kernel
theorem dX8_strokesOnce_17 : decode cX8_strokesOnce 17 = .ok (.iaload, 1) := by decide +kernel
theorem dX8_strokesOnce_18 : decode cX8_strokesOnce 18 = .ok (.aload_n 0, 1) := by decide +kernel
theorem dX8_strokesOnce_19 : decode cX8_strokesOnce 19 = .ok (.getfield 32, 3) := by decide +kernel
theorem dX8_strokesOnce_22 : decode cX8_strokesOnce 22 = .ok (.iconst 2, 1) := by decide +kernel
theorem dX8_strokesOnce_23 : decode cX8_strokesOnce 23 = .ok (.iaload, 1) := by decide +kernel
theorem dX8_strokesOnce_24 : decode cX8_strokesOnce 24 = .ok (.invokestatic 169, 3) := by decide +kernel
theorem dX8_strokesOnce_27 : decode cX8_strokesOnce 27 = .ok (.iastore, 1) := by decide +kernel
theorem dX8_strokesOnce_28 : decode cX8_strokesOnce 28 = .ok (.aload_n 0, 1) := by decide +kernel
theorem dX8_strokesOnce_29 : decode cX8_strokesOnce 29 = .ok (.getfield 32, 3) := by decide +kernel
theorem dX8_strokesOnce_32 : decode cX8_strokesOnce 32 = .ok (.iconst 4, 1) := by decide +kernel
theorem dX8_strokesOnce_33 : decode cX8_strokesOnce 33 = .ok (.dup2, 1) := by decide +kernel
theorem dX8_strokesOnce_34 : decode cX8_strokesOnce 34 = .ok (.iaload, 1) := by decide +kernel
theorem dX8_strokesOnce_35 : decode cX8_strokesOnce 35 = .ok (.iconst 1, 1) := by decide +kernel
theorem dX8_strokesOnce_36 : decode cX8_strokesOnce 36 = .ok (.aload_n 0, 1) := by decide +kernel
theorem dX8_strokesOnce_37 : decode cX8_strokesOnce 37 = .ok (.getfield 32, 3) := by decide +kernel
theorem dX8_strokesOnce_40 : decode cX8_strokesOnce 40 = .ok (.iconst 3, 1) := by decide +kernel
theorem dX8_strokesOnce_41 : decode cX8_strokesOnce 41 = .ok (.iaload, 1) := by decide +kernel
theorem dX8_strokesOnce_42 : decode cX8_strokesOnce 42 = .ok (.bipush 10, 2) := by decide +kernel
theorem dX8_strokesOnce_44 : decode cX8_strokesOnce 44 = .ok (.idiv, 1) := by decide +kernel
theorem dX8_strokesOnce_45 : decode cX8_strokesOnce 45 = .ok (.iadd, 1) := by decide +kernel
theorem dX8_strokesOnce_46 : decode cX8_strokesOnce 46 = .ok (.iadd, 1) := by decide +kernel
theorem dX8_strokesOnce_47 : decode cX8_strokesOnce 47 = .ok (.iastore, 1) := by decide +kernel
theorem dX8_strokesOnce_48 : decode cX8_strokesOnce 48 = .ok (.aload_n 0, 1) := by decide +kernel
theorem dX8_strokesOnce_49 : decode cX8_strokesOnce 49 = .ok (.getfield 32, 3) := by decide +kernel
theorem dX8_strokesOnce_52 : decode cX8_strokesOnce 52 = .ok (.bipush 9, 2) := by decide +kernel
theorem dX8_strokesOnce_54 : decode cX8_strokesOnce 54 = .ok (.dup2, 1) := by decide +kernel
theorem dX8_strokesOnce_55 : decode cX8_strokesOnce 55 = .ok (.iaload, 1) := by decide +kernel
theorem dX8_strokesOnce_56 : decode cX8_strokesOnce 56 = .ok (.iconst 1, 1) := by decide +kernel
theorem dX8_strokesOnce_57 : decode cX8_strokesOnce 57 = .ok (.iadd, 1) := by decide +kernel
theorem dX8_strokesOnce_58 : decode cX8_strokesOnce 58 = .ok (.iastore, 1) := by decide +kernel
theorem dX8_strokesOnce_59 : decode cX8_strokesOnce 59 = .ok (.iconst 0, 1) := by decide +kernel
theorem dX8_strokesOnce_60 : decode cX8_strokesOnce 60 = .ok (.istore_n 2, 1) := by decide +kernel
theorem dX8_strokesOnce_61 : decode cX8_strokesOnce 61 = .ok (.aload_n 0, 1) := by decide +kernel
theorem dX8_strokesOnce_62 : decode cX8_strokesOnce 62 = .ok (.iload_n 1, 1) := by decide +kernel
theorem dX8_strokesOnce_63 : decode cX8_strokesOnce 63 = .ok (.iconst 0, 1) := by decide +kernel
theorem dX8_strokesOnce_64 : decode cX8_strokesOnce 64 = .ok (.invokevirtual 172, 3) := by decide +kernel
theorem dX8_strokesOnce_67 : decode cX8_strokesOnce 67 = .ok (.istore_n 3, 1) := by decide +kernel
theorem dX8_strokesOnce_68 : decode cX8_strokesOnce 68 = .ok (.iload_n 2, 1) := by decide +kernel
theorem dX8_strokesOnce_69 : decode cX8_strokesOnce 69 = .ok (.aload_n 0, 1) := by decide +kernel
theorem dX8_strokesOnce_70 : decode cX8_strokesOnce 70 = .ok (.getfield 32, 3) := by decide +kernel
theorem dX8_strokesOnce_73 : decode cX8_strokesOnce 73 = .ok (.bipush 14, 2) := by decide +kernel
theorem dX8_strokesOnce_75 : decode cX8_strokesOnce 75 = .ok (.iload_n 1, 1) := by decide +kernel
theorem dX8_strokesOnce_76 : decode cX8_strokesOnce 76 = .ok (.iadd, 1) := by decide +kernel
theorem dX8_strokesOnce_77 : decode cX8_strokesOnce 77 = .ok (.iaload, 1) := by decide +kernel
theorem dX8_strokesOnce_78 : decode cX8_strokesOnce 78 = .ok (.if_icmp .ge 40, 3) := by decide +kernel
theorem dX8_strokesOnce_81 : decode cX8_strokesOnce 81 = .ok (.iload_n 3, 1) := by decide +kernel
theorem dX8_strokesOnce_82 : decode cX8_strokesOnce 82 = .ok (.ifCond .lt 36, 3) := by decide +kernel
theorem dX8_strokesOnce_85 : decode cX8_strokesOnce 85 = .ok (.aload_n 0, 1) := by decide +kernel
theorem dX8_strokesOnce_86 : decode cX8_strokesOnce 86 = .ok (.iload_n 3, 1) := by decide +kernel
theorem dX8_strokesOnce_87 : decode cX8_strokesOnce 87 = .ok (.iconst 1, 1) := by decide +kernel
theorem dX8_strokesOnce_88 : decode cX8_strokesOnce 88 = .ok (.invokevirtual 73, 3) := by decide +kernel
theorem dX8_strokesOnce_91 : decode cX8_strokesOnce 91 = .ok (.aload_n 0, 1) := by decide +kernel
theorem dX8_strokesOnce_92 : decode cX8_strokesOnce 92 = .ok (.getfield 32, 3) := by decide +kernel
theorem dX8_strokesOnce_95 : decode cX8_strokesOnce 95 = .ok (.iconst 3, 1) := by decide +kernel
theorem dX8_strokesOnce_96 : decode cX8_strokesOnce 96 = .ok (.iaload, 1) := by decide +kernel
theorem dX8_strokesOnce_97 : decode cX8_strokesOnce 97 = .ok (.if_icmp .gt 21, 3) := by decide +kernel
theorem dX8_strokesOnce_100 : decode cX8_strokesOnce 100 = .ok (.aload_n 0, 1) := by decide +kernel
theorem dX8_strokesOnce_101 : decode cX8_strokesOnce 101 = .ok (.iload_n 3, 1) := by decide +kernel
theorem dX8_strokesOnce_102 : decode cX8_strokesOnce 102 = .ok (.invokevirtual 175, 3) := by decide +kernel
theorem dX8_strokesOnce_105 : decode cX8_strokesOnce 105 = .ok (.iinc 2 1, 3) := by decide +kernel
theorem dX8_strokesOnce_108 : decode cX8_strokesOnce 108 = .ok (.aload_n 0, 1) := by decide +kernel
theorem dX8_strokesOnce_109 : decode cX8_strokesOnce 109 = .ok (.iload_n 1, 1) := by decide +kernel
theorem dX8_strokesOnce_110 : decode cX8_strokesOnce 110 = .ok (.iconst 0, 1) := by decide +kernel
theorem dX8_strokesOnce_111 : decode cX8_strokesOnce 111 = .ok (.invokevirtual 172, 3) := by decide +kernel
theorem dX8_strokesOnce_114 : decode cX8_strokesOnce 114 = .ok (.istore_n 3, 1) := by decide +kernel
theorem dX8_strokesOnce_115 : decode cX8_strokesOnce 115 = .ok (.goto (-47), 3) := by decide +kernel
theorem dX8_strokesOnce_118 : decode cX8_strokesOnce 118 = .ok (.iload_n 2, 1) := by decide +kernel
theorem dX8_strokesOnce_119 : decode cX8_strokesOnce 119 = .ok (.ireturn, 1) := by decide +kernel
theorem dX8_pumps_0 : decode cX8_pumps 0 = .ok (.iconst 0, 1) := by decide +kernel
theorem dX8_pumps_1 : decode cX8_pumps 1 = .ok (.istore_n 2, 1) := by decide +kernel
theorem dX8_pumps_2 : decode cX8_pumps 2 = .ok (.iconst 0, 1) := by decide +kernel
theorem dX8_pumps_3 : decode cX8_pumps 3 = .ok (.istore_n 3, 1) := by decide +kernel
theorem dX8_pumps_4 : decode cX8_pumps 4 = .ok (.iload_n 3, 1) := by decide +kernel
theorem dX8_pumps_5 : decode cX8_pumps 5 = .ok (.iload_n 1, 1) := by decide +kernel
theorem dX8_pumps_6 : decode cX8_pumps 6 = .ok (.if_icmp .ge 27, 3) := by decide +kernel
theorem dX8_pumps_9 : decode cX8_pumps 9 = .ok (.aload_n 0, 1) := by decide +kernel
theorem dX8_pumps_10 : decode cX8_pumps 10 = .ok (.getfield 32, 3) := by decide +kernel
theorem dX8_pumps_13 : decode cX8_pumps 13 = .ok (.iconst 4, 1) := by decide +kernel
theorem dX8_pumps_14 : decode cX8_pumps 14 = .ok (.iaload, 1) := by decide +kernel
theorem dX8_pumps_15 : decode cX8_pumps 15 = .ok (.bipush 40, 2) := by decide +kernel
theorem dX8_pumps_17 : decode cX8_pumps 17 = .ok (.if_icmp .gt 16, 3) := by decide +kernel
theorem dX8_pumps_20 : decode cX8_pumps 20 = .ok (.iload_n 2, 1) := by decide +kernel
theorem dX8_pumps_21 : decode cX8_pumps 21 = .ok (.aload_n 0, 1) := by decide +kernel
theorem dX8_pumps_22 : decode cX8_pumps 22 = .ok (.invokevirtual 178, 3) := by decide +kernel
theorem dX8_pumps_25 : decode cX8_pumps 25 = .ok (.iadd, 1) := by decide +kernel
theorem dX8_pumps_26 : decode cX8_pumps 26 = .ok (.istore_n 2, 1) := by decide +kernel
theorem dX8_pumps_27 : decode cX8_pumps 27 = .ok (.iinc 3 1, 3) := by decide +kernel
theorem dX8_pumps_30 : decode cX8_pumps 30 = .ok (.goto (-26), 3) := by decide +kernel
theorem dX8_pumps_33 : decode cX8_pumps 33 = .ok (.iload_n 2, 1) := by decide +kernel
theorem dX8_pumps_34 : decode cX8_pumps 34 = .ok (.ireturn, 1) := by decide +kernel
theorem dX8_notPump_0 : decode cX8_notPump 0 = .ok (.iload_n 1, 1) := by decide +kernel
theorem dX8_notPump_1 : decode cX8_notPump 1 = .ok (.iconst 1, 1) := by decide +kernel
theorem dX8_notPump_2 : decode cX8_notPump 2 = .ok (.bipush 9, 2) := by decide +kernel
theorem dX8_notPump_4 : decode cX8_notPump 4 = .ok (.invokestatic 19, 3) := by decide +kernel
theorem dX8_notPump_7 : decode cX8_notPump 7 = .ok (.ifCond .ne 6, 3) := by decide +kernel
theorem dX8_notPump_10 : decode cX8_notPump 10 = .ok (.bipush (-2), 2) := by decide +kernel
theorem dX8_notPump_12 : decode cX8_notPump 12 = .ok (.ireturn, 1) := by decide +kernel
theorem dX8_notPump_13 : decode cX8_notPump 13 = .ok (.aload_n 0, 1) := by decide +kernel
theorem dX8_notPump_14 : decode cX8_notPump 14 = .ok (.getfield 32, 3) := by decide +kernel
theorem dX8_notPump_17 : decode cX8_notPump 17 = .ok (.iconst 4, 1) := by decide +kernel
theorem dX8_notPump_18 : decode cX8_notPump 18 = .ok (.iaload, 1) := by decide +kernel
theorem dX8_notPump_19 : decode cX8_notPump 19 = .ok (.bipush 40, 2) := by decide +kernel
theorem dX8_notPump_21 : decode cX8_notPump 21 = .ok (.if_icmp .le 18, 3) := by decide +kernel
theorem dX8_notPump_24 : decode cX8_notPump 24 = .ok (.aload_n 0, 1) := by decide +kernel
theorem dX8_notPump_25 : decode cX8_notPump 25 = .ok (.bipush 8, 2) := by decide +kernel
theorem dX8_notPump_27 : decode cX8_notPump 27 = .ok (.aload_n 0, 1) := by decide +kernel
theorem dX8_notPump_28 : decode cX8_notPump 28 = .ok (.getfield 32, 3) := by decide +kernel
theorem dX8_notPump_31 : decode cX8_notPump 31 = .ok (.iconst 4, 1) := by decide +kernel
theorem dX8_notPump_32 : decode cX8_notPump 32 = .ok (.iaload, 1) := by decide +kernel
theorem dX8_notPump_33 : decode cX8_notPump 33 = .ok (.invokevirtual 88, 3) := by decide +kernel
theorem dX8_notPump_36 : decode cX8_notPump 36 = .ok (.goto 4, 3) := by decide +kernel
theorem dX8_notPump_39 : decode cX8_notPump 39 = .ok (.iconst 0, 1) := by decide +kernel
theorem dX8_notPump_40 : decode cX8_notPump 40 = .ok (.ireturn, 1) := by decide +kernel
theorem dX8_pump_0 : decode cX8_pump 0 = .ok (.aload_n 0, 1) := by decide +kernel
theorem dX8_pump_1 : decode cX8_pump 1 = .ok (.iload_n 1, 1) := by decide +kernel
theorem dX8_pump_2 : decode cX8_pump 2 = .ok (.invokevirtual 182, 3) := by decide +kernel
theorem dX8_pump_5 : decode cX8_pump 5 = .ok (.istore_n 2, 1) := by decide +kernel
theorem dX8_pump_6 : decode cX8_pump 6 = .ok (.iload_n 2, 1) := by decide +kernel
theorem dX8_pump_7 : decode cX8_pump 7 = .ok (.ifCond .eq 9, 3) := by decide +kernel
theorem dX8_pump_10 : decode cX8_pump 10 = .ok (.aload_n 0, 1) := by decide +kernel
theorem dX8_pump_11 : decode cX8_pump 11 = .ok (.iload_n 2, 1) := by decide +kernel
theorem dX8_pump_12 : decode cX8_pump 12 = .ok (.invokevirtual 104, 3) := by decide +kernel
theorem dX8_pump_15 : decode cX8_pump 15 = .ok (.ireturn, 1) := by decide +kernel
theorem dX8_pump_16 : decode cX8_pump 16 = .ok (.aload_n 0, 1) := by decide +kernel
theorem dX8_pump_17 : decode cX8_pump 17 = .ok (.invokevirtual 107, 3) := by decide +kernel
theorem dX8_pump_20 : decode cX8_pump 20 = .ok (.aload_n 0, 1) := by decide +kernel
theorem dX8_pump_21 : decode cX8_pump 21 = .ok (.iload_n 1, 1) := by decide +kernel
theorem dX8_pump_22 : decode cX8_pump 22 = .ok (.invokevirtual 185, 3) := by decide +kernel
theorem dX8_pump_25 : decode cX8_pump 25 = .ok (.ireturn, 1) := by decide +kernel
theorem dX8_jokeOf_0 : decode cX8_jokeOf 0 = .ok (.aload_n 0, 1) := by decide +kernel
theorem dX8_jokeOf_1 : decode cX8_jokeOf 1 = .ok (.iload_n 1, 1) := by decide +kernel
theorem dX8_jokeOf_2 : decode cX8_jokeOf 2 = .ok (.invokevirtual 113, 3) := by decide +kernel
theorem dX8_jokeOf_5 : decode cX8_jokeOf 5 = .ok (.ifCond .ne 5, 3) := by decide +kernel
theorem dX8_jokeOf_8 : decode cX8_jokeOf 8 = .ok (.iconst (-1), 1) := by decide +kernel
theorem dX8_jokeOf_9 : decode cX8_jokeOf 9 = .ok (.ireturn, 1) := by decide +kernel
theorem dX8_jokeOf_10 : decode cX8_jokeOf 10 = .ok (.iload_n 2, 1) := by decide +kernel
theorem dX8_jokeOf_11 : decode cX8_jokeOf 11 = .ok (.iconst 0, 1) := by decide +kernel
theorem dX8_jokeOf_12 : decode cX8_jokeOf 12 = .ok (.iconst 5, 1) := by decide +kernel
theorem dX8_jokeOf_13 : decode cX8_jokeOf 13 = .ok (.invokestatic 19, 3) := by decide +kernel
theorem dX8_jokeOf_16 : decode cX8_jokeOf 16 = .ok (.ifCond .ne 6, 3) := by decide +kernel
theorem dX8_jokeOf_19 : decode cX8_jokeOf 19 = .ok (.bipush (-2), 2) := by decide +kernel
theorem dX8_jokeOf_21 : decode cX8_jokeOf 21 = .ok (.ireturn, 1) := by decide +kernel
theorem dX8_jokeOf_22 : decode cX8_jokeOf 22 = .ok (.iload_n 2, 1) := by decide +kernel
theorem dX8_jokeOf_23 : decode cX8_jokeOf 23 = .ok (.iconst 5, 1) := by decide +kernel
theorem dX8_jokeOf_24 : decode cX8_jokeOf 24 = .ok (.if_icmp .ne 11, 3) := by decide +kernel
theorem dX8_jokeOf_27 : decode cX8_jokeOf 27 = .ok (.aload_n 0, 1) := by decide +kernel
theorem dX8_jokeOf_28 : decode cX8_jokeOf 28 = .ok (.iload_n 1, 1) := by decide +kernel
theorem dX8_jokeOf_29 : decode cX8_jokeOf 29 = .ok (.invokevirtual 77, 3) := by decide +kernel
theorem dX8_jokeOf_32 : decode cX8_jokeOf 32 = .ok (.goto 9, 3) := by decide +kernel
theorem dX8_jokeOf_35 : decode cX8_jokeOf 35 = .ok (.aload_n 0, 1) := by decide +kernel
theorem dX8_jokeOf_36 : decode cX8_jokeOf 36 = .ok (.iload_n 1, 1) := by decide +kernel
theorem dX8_jokeOf_37 : decode cX8_jokeOf 37 = .ok (.iload_n 2, 1) := by decide +kernel
theorem dX8_jokeOf_38 : decode cX8_jokeOf 38 = .ok (.invokevirtual 73, 3) := by decide +kernel
theorem dX8_jokeOf_41 : decode cX8_jokeOf 41 = .ok (.ireturn, 1) := by decide +kernel
theorem dX8_wellOf_0 : decode cX8_wellOf 0 = .ok (.iload_n 1, 1) := by decide +kernel
theorem dX8_wellOf_1 : decode cX8_wellOf 1 = .ok (.invokestatic 81, 3) := by decide +kernel
theorem dX8_wellOf_4 : decode cX8_wellOf 4 = .ok (.ifCond .ne 5, 3) := by decide +kernel
theorem dX8_wellOf_7 : decode cX8_wellOf 7 = .ok (.iconst (-1), 1) := by decide +kernel
theorem dX8_wellOf_8 : decode cX8_wellOf 8 = .ok (.ireturn, 1) := by decide +kernel
theorem dX8_wellOf_9 : decode cX8_wellOf 9 = .ok (.iload_n 2, 1) := by decide +kernel
theorem dX8_wellOf_10 : decode cX8_wellOf 10 = .ok (.tableswitch 80 0 3 #[30, 40, 46, 70], 30) := by decide +kernel
theorem dX8_wellOf_40 : decode cX8_wellOf 40 = .ok (.aload_n 0, 1) := by decide +kernel
theorem dX8_wellOf_41 : decode cX8_wellOf 41 = .ok (.getfield 32, 3) := by decide +kernel
theorem dX8_wellOf_44 : decode cX8_wellOf 44 = .ok (.bipush 14, 2) := by decide +kernel
theorem dX8_wellOf_46 : decode cX8_wellOf 46 = .ok (.iload_n 1, 1) := by decide +kernel
theorem dX8_wellOf_47 : decode cX8_wellOf 47 = .ok (.iadd, 1) := by decide +kernel
theorem dX8_wellOf_48 : decode cX8_wellOf 48 = .ok (.iaload, 1) := by decide +kernel
theorem dX8_wellOf_49 : decode cX8_wellOf 49 = .ok (.ireturn, 1) := by decide +kernel
theorem dX8_wellOf_50 : decode cX8_wellOf 50 = .ok (.aload_n 0, 1) := by decide +kernel
theorem dX8_wellOf_51 : decode cX8_wellOf 51 = .ok (.iload_n 1, 1) := by decide +kernel
theorem dX8_wellOf_52 : decode cX8_wellOf 52 = .ok (.invokevirtual 97, 3) := by decide +kernel
theorem dX8_wellOf_55 : decode cX8_wellOf 55 = .ok (.ireturn, 1) := by decide +kernel
theorem dX8_wellOf_56 : decode cX8_wellOf 56 = .ok (.aload_n 0, 1) := by decide +kernel
theorem dX8_wellOf_57 : decode cX8_wellOf 57 = .ok (.iload_n 1, 1) := by decide +kernel
theorem dX8_wellOf_58 : decode cX8_wellOf 58 = .ok (.invokevirtual 97, 3) := by decide +kernel
theorem dX8_wellOf_61 : decode cX8_wellOf 61 = .ok (.ifCond .ne 7, 3) := by decide +kernel
theorem dX8_wellOf_64 : decode cX8_wellOf 64 = .ok (.iconst 0, 1) := by decide +kernel
theorem dX8_wellOf_65 : decode cX8_wellOf 65 = .ok (.goto 14, 3) := by decide +kernel
theorem dX8_wellOf_68 : decode cX8_wellOf 68 = .ok (.aload_n 0, 1) := by decide +kernel
theorem dX8_wellOf_69 : decode cX8_wellOf 69 = .ok (.aload_n 0, 1) := by decide +kernel
theorem dX8_wellOf_70 : decode cX8_wellOf 70 = .ok (.iload_n 1, 1) := by decide +kernel
theorem dX8_wellOf_71 : decode cX8_wellOf 71 = .ok (.iconst 0, 1) := by decide +kernel
theorem dX8_wellOf_72 : decode cX8_wellOf 72 = .ok (.invokevirtual 172, 3) := by decide +kernel
theorem dX8_wellOf_75 : decode cX8_wellOf 75 = .ok (.iconst 1, 1) := by decide +kernel
theorem dX8_wellOf_76 : decode cX8_wellOf 76 = .ok (.invokevirtual 73, 3) := by decide +kernel
theorem dX8_wellOf_79 : decode cX8_wellOf 79 = .ok (.ireturn, 1) := by decide +kernel
theorem dX8_wellOf_80 : decode cX8_wellOf 80 = .ok (.aload_n 0, 1) := by decide +kernel
theorem dX8_wellOf_81 : decode cX8_wellOf 81 = .ok (.getfield 32, 3) := by decide +kernel
theorem dX8_wellOf_84 : decode cX8_wellOf 84 = .ok (.bipush 18, 2) := by decide +kernel
theorem dX8_wellOf_86 : decode cX8_wellOf 86 = .ok (.iload_n 1, 1) := by decide +kernel
theorem dX8_wellOf_87 : decode cX8_wellOf 87 = .ok (.iadd, 1) := by decide +kernel
theorem dX8_wellOf_88 : decode cX8_wellOf 88 = .ok (.iaload, 1) := by decide +kernel
theorem dX8_wellOf_89 : decode cX8_wellOf 89 = .ok (.ireturn, 1) := by decide +kernel
theorem dX8_wellOf_90 : decode cX8_wellOf 90 = .ok (.bipush (-2), 2) := by decide +kernel
theorem dX8_wellOf_92 : decode cX8_wellOf 92 = .ok (.ireturn, 1) := by decide +kernel
theorem dX8_isKnown_0 : decode cX8_isKnown 0 = .ok (.iload_n 1, 1) := by decide +kernel
theorem dX8_isKnown_1 : decode cX8_isKnown 1 = .ok (.iconst 0, 1) := by decide +kernel
theorem dX8_isKnown_2 : decode cX8_isKnown 2 = .ok (.bipush 63, 2) := by decide +kernel
theorem dX8_isKnown_4 : decode cX8_isKnown 4 = .ok (.invokestatic 19, 3) := by decide +kernel
theorem dX8_isKnown_7 : decode cX8_isKnown 7 = .ok (.ifCond .ne 5, 3) := by decide +kernel
theorem dX8_isKnown_10 : decode cX8_isKnown 10 = .ok (.iconst (-1), 1) := by decide +kernel
theorem dX8_isKnown_11 : decode cX8_isKnown 11 = .ok (.ireturn, 1) := by decide +kernel
theorem dX8_isKnown_12 : decode cX8_isKnown 12 = .ok (.aload_n 0, 1) := by decide +kernel
theorem dX8_isKnown_13 : decode cX8_isKnown 13 = .ok (.iload_n 1, 1) := by decide +kernel
theorem dX8_isKnown_14 : decode cX8_isKnown 14 = .ok (.invokevirtual 85, 3) := by decide +kernel
theorem dX8_isKnown_17 : decode cX8_isKnown 17 = .ok (.ifCond .eq 7, 3) := by decide +kernel
theorem dX8_isKnown_20 : decode cX8_isKnown 20 = .ok (.iconst 1, 1) := by decide +kernel
theorem dX8_isKnown_21 : decode cX8_isKnown 21 = .ok (.goto 4, 3) := by decide +kernel
theorem dX8_isKnown_24 : decode cX8_isKnown 24 = .ok (.iconst 0, 1) := by decide +kernel
theorem dX8_isKnown_25 : decode cX8_isKnown 25 = .ok (.ireturn, 1) := by decide +kernel
theorem dX8_laughBits_0 : decode cX8_laughBits 0 = .ok (.aload_n 0, 1) := by decide +kernel
theorem dX8_laughBits_1 : decode cX8_laughBits 1 = .ok (.iload_n 1, 1) := by decide +kernel
theorem dX8_laughBits_2 : decode cX8_laughBits 2 = .ok (.invokevirtual 113, 3) := by decide +kernel
theorem dX8_laughBits_5 : decode cX8_laughBits 5 = .ok (.ifCond .ne 5, 3) := by decide +kernel
theorem dX8_laughBits_8 : decode cX8_laughBits 8 = .ok (.iconst (-1), 1) := by decide +kernel
theorem dX8_laughBits_9 : decode cX8_laughBits 9 = .ok (.ireturn, 1) := by decide +kernel
theorem dX8_laughBits_10 : decode cX8_laughBits 10 = .ok (.iload_n 2, 1) := by decide +kernel
theorem dX8_laughBits_11 : decode cX8_laughBits 11 = .ok (.iconst 0, 1) := by decide +kernel
theorem dX8_laughBits_12 : decode cX8_laughBits 12 = .ok (.bipush 50, 2) := by decide +kernel
theorem dX8_laughBits_14 : decode cX8_laughBits 14 = .ok (.invokestatic 19, 3) := by decide +kernel
theorem dX8_laughBits_17 : decode cX8_laughBits 17 = .ok (.ifCond .eq 15, 3) := by decide +kernel
theorem dX8_laughBits_20 : decode cX8_laughBits 20 = .ok (.aload_n 0, 1) := by decide +kernel
theorem dX8_laughBits_21 : decode cX8_laughBits 21 = .ok (.iload_n 1, 1) := by decide +kernel
theorem dX8_laughBits_22 : decode cX8_laughBits 22 = .ok (.iload_n 2, 1) := by decide +kernel
theorem dX8_laughBits_23 : decode cX8_laughBits 23 = .ok (.invokevirtual 155, 3) := by decide +kernel
theorem dX8_laughBits_26 : decode cX8_laughBits 26 = .ok (.invokestatic 159, 3) := by decide +kernel
theorem dX8_laughBits_29 : decode cX8_laughBits 29 = .ok (.goto 5, 3) := by decide +kernel
theorem dX8_laughBits_32 : decode cX8_laughBits 32 = .ok (.bipush (-2), 2) := by decide +kernel
theorem dX8_laughBits_34 : decode cX8_laughBits 34 = .ok (.ireturn, 1) := by decide +kernel
theorem dX8_laughs_0 : decode cX8_laughs 0 = .ok (.aload_n 0, 1) := by decide +kernel
theorem dX8_laughs_1 : decode cX8_laughs 1 = .ok (.getfield 32, 3) := by decide +kernel
theorem dX8_laughs_4 : decode cX8_laughs 4 = .ok (.bipush 11, 2) := by decide +kernel
theorem dX8_laughs_6 : decode cX8_laughs 6 = .ok (.iaload, 1) := by decide +kernel
theorem dX8_laughs_7 : decode cX8_laughs 7 = .ok (.invokestatic 165, 3) := by decide +kernel
theorem dX8_laughs_10 : decode cX8_laughs 10 = .ok (.freturn, 1) := by decide +kernel
theorem dX8_laughsAgain_0 : decode cX8_laughsAgain 0 = .ok (.fconst 0, 1) := by decide +kernel
theorem dX8_laughsAgain_1 : decode cX8_laughsAgain 1 = .ok (.fstore_n 1, 1) := by decide +kernel
theorem dX8_laughsAgain_2 : decode cX8_laughsAgain 2 = .ok (.iconst 0, 1) := by decide +kernel
theorem dX8_laughsAgain_3 : decode cX8_laughsAgain 3 = .ok (.istore_n 2, 1) := by decide +kernel
theorem dX8_laughsAgain_4 : decode cX8_laughsAgain 4 = .ok (.iload_n 2, 1) := by decide +kernel
theorem dX8_laughsAgain_5 : decode cX8_laughsAgain 5 = .ok (.aload_n 0, 1) := by decide +kernel
theorem dX8_laughsAgain_6 : decode cX8_laughsAgain 6 = .ok (.getfield 32, 3) := by decide +kernel
theorem dX8_laughsAgain_9 : decode cX8_laughsAgain 9 = .ok (.bipush 6, 2) := by decide +kernel
theorem dX8_laughsAgain_11 : decode cX8_laughsAgain 11 = .ok (.iaload, 1) := by decide +kernel
theorem dX8_laughsAgain_12 : decode cX8_laughsAgain 12 = .ok (.if_icmp .ge 28, 3) := by decide +kernel
theorem dX8_laughsAgain_15 : decode cX8_laughsAgain 15 = .ok (.fload_n 1, 1) := by decide +kernel
theorem dX8_laughsAgain_16 : decode cX8_laughsAgain 16 = .ok (.aload_n 0, 1) := by decide +kernel
theorem dX8_laughsAgain_17 : decode cX8_laughsAgain 17 = .ok (.getfield 32, 3) := by decide +kernel
theorem dX8_laughsAgain_20 : decode cX8_laughsAgain 20 = .ok (.bipush 82, 2) := by decide +kernel
theorem dX8_laughsAgain_22 : decode cX8_laughsAgain 22 = .ok (.iconst 3, 1) := by decide +kernel
theorem dX8_laughsAgain_23 : decode cX8_laughsAgain 23 = .ok (.iload_n 2, 1) := by decide +kernel
theorem dX8_laughsAgain_24 : decode cX8_laughsAgain 24 = .ok (.imul, 1) := by decide +kernel
theorem dX8_laughsAgain_25 : decode cX8_laughsAgain 25 = .ok (.iadd, 1) := by decide +kernel
theorem dX8_laughsAgain_26 : decode cX8_laughsAgain 26 = .ok (.iconst 2, 1) := by decide +kernel
theorem dX8_laughsAgain_27 : decode cX8_laughsAgain 27 = .ok (.iadd, 1) := by decide +kernel
theorem dX8_laughsAgain_28 : decode cX8_laughsAgain 28 = .ok (.iaload, 1) := by decide +kernel
theorem dX8_laughsAgain_29 : decode cX8_laughsAgain 29 = .ok (.invokestatic 165, 3) := by decide +kernel
theorem dX8_laughsAgain_32 : decode cX8_laughsAgain 32 = .ok (.fadd, 1) := by decide +kernel
theorem dX8_laughsAgain_33 : decode cX8_laughsAgain 33 = .ok (.fstore_n 1, 1) := by decide +kernel
theorem dX8_laughsAgain_34 : decode cX8_laughsAgain 34 = .ok (.iinc 2 1, 3) := by decide +kernel
theorem dX8_laughsAgain_37 : decode cX8_laughsAgain 37 = .ok (.goto (-33), 3) := by decide +kernel
theorem dX8_laughsAgain_40 : decode cX8_laughsAgain 40 = .ok (.fload_n 1, 1) := by decide +kernel
theorem dX8_laughsAgain_41 : decode cX8_laughsAgain 41 = .ok (.freturn, 1) := by decide +kernel
theorem dX8_wholeLaughs_0 : decode cX8_wholeLaughs 0 = .ok (.aload_n 0, 1) := by decide +kernel
theorem dX8_wholeLaughs_1 : decode cX8_wholeLaughs 1 = .ok (.invokevirtual 188, 3) := by decide +kernel
theorem dX8_wholeLaughs_4 : decode cX8_wholeLaughs 4 = .ok (.f2i, 1) := by decide +kernel
theorem dX8_wholeLaughs_5 : decode cX8_wholeLaughs 5 = .ok (.ireturn, 1) := by decide +kernel
theorem dX8_liftedOf_0 : decode cX8_liftedOf 0 = .ok (.iload_n 1, 1) := by decide +kernel
theorem dX8_liftedOf_1 : decode cX8_liftedOf 1 = .ok (.iconst 0, 1) := by decide +kernel
theorem dX8_liftedOf_2 : decode cX8_liftedOf 2 = .ok (.aload_n 0, 1) := by decide +kernel
theorem dX8_liftedOf_3 : decode cX8_liftedOf 3 = .ok (.getfield 32, 3) := by decide +kernel
theorem dX8_liftedOf_6 : decode cX8_liftedOf 6 = .ok (.bipush 6, 2) := by decide +kernel
theorem dX8_liftedOf_8 : decode cX8_liftedOf 8 = .ok (.iaload, 1) := by decide +kernel
theorem dX8_liftedOf_9 : decode cX8_liftedOf 9 = .ok (.iconst 1, 1) := by decide +kernel
theorem dX8_liftedOf_10 : decode cX8_liftedOf 10 = .ok (.isub, 1) := by decide +kernel
theorem dX8_liftedOf_11 : decode cX8_liftedOf 11 = .ok (.invokestatic 19, 3) := by decide +kernel
theorem dX8_liftedOf_14 : decode cX8_liftedOf 14 = .ok (.ifCond .ne 5, 3) := by decide +kernel
theorem dX8_liftedOf_17 : decode cX8_liftedOf 17 = .ok (.iconst (-1), 1) := by decide +kernel
theorem dX8_liftedOf_18 : decode cX8_liftedOf 18 = .ok (.ireturn, 1) := by decide +kernel
theorem dX8_liftedOf_19 : decode cX8_liftedOf 19 = .ok (.iload_n 2, 1) := by decide +kernel
theorem dX8_liftedOf_20 : decode cX8_liftedOf 20 = .ok (.iconst 0, 1) := by decide +kernel
theorem dX8_liftedOf_21 : decode cX8_liftedOf 21 = .ok (.iconst 2, 1) := by decide +kernel
theorem dX8_liftedOf_22 : decode cX8_liftedOf 22 = .ok (.invokestatic 19, 3) := by decide +kernel
theorem dX8_liftedOf_25 : decode cX8_liftedOf 25 = .ok (.ifCond .eq 29, 3) := by decide +kernel
theorem dX8_liftedOf_28 : decode cX8_liftedOf 28 = .ok (.aload_n 0, 1) := by decide +kernel
theorem dX8_liftedOf_29 : decode cX8_liftedOf 29 = .ok (.getfield 32, 3) := by decide +kernel
theorem dX8_liftedOf_32 : decode cX8_liftedOf 32 = .ok (.bipush 82, 2) := by decide +kernel
theorem dX8_liftedOf_34 : decode cX8_liftedOf 34 = .ok (.iconst 3, 1) := by decide +kernel
theorem dX8_liftedOf_35 : decode cX8_liftedOf 35 = .ok (.aload_n 0, 1) := by decide +kernel
theorem dX8_liftedOf_36 : decode cX8_liftedOf 36 = .ok (.getfield 32, 3) := by decide +kernel
theorem dX8_liftedOf_39 : decode cX8_liftedOf 39 = .ok (.bipush 6, 2) := by decide +kernel
theorem dX8_liftedOf_41 : decode cX8_liftedOf 41 = .ok (.iaload, 1) := by decide +kernel
theorem dX8_liftedOf_42 : decode cX8_liftedOf 42 = .ok (.iconst 1, 1) := by decide +kernel
theorem dX8_liftedOf_43 : decode cX8_liftedOf 43 = .ok (.isub, 1) := by decide +kernel
theorem dX8_liftedOf_44 : decode cX8_liftedOf 44 = .ok (.iload_n 1, 1) := by decide +kernel
theorem dX8_liftedOf_45 : decode cX8_liftedOf 45 = .ok (.isub, 1) := by decide +kernel
theorem dX8_liftedOf_46 : decode cX8_liftedOf 46 = .ok (.imul, 1) := by decide +kernel
theorem dX8_liftedOf_47 : decode cX8_liftedOf 47 = .ok (.iadd, 1) := by decide +kernel
theorem dX8_liftedOf_48 : decode cX8_liftedOf 48 = .ok (.iload_n 2, 1) := by decide +kernel
theorem dX8_liftedOf_49 : decode cX8_liftedOf 49 = .ok (.iadd, 1) := by decide +kernel
theorem dX8_liftedOf_50 : decode cX8_liftedOf 50 = .ok (.iaload, 1) := by decide +kernel
theorem dX8_liftedOf_51 : decode cX8_liftedOf 51 = .ok (.goto 5, 3) := by decide +kernel
theorem dX8_liftedOf_54 : decode cX8_liftedOf 54 = .ok (.bipush (-2), 2) := by decide +kernel
theorem dX8_liftedOf_56 : decode cX8_liftedOf 56 = .ok (.ireturn, 1) := by decide +kernel
theorem dX8_strokes_0 : decode cX8_strokes 0 = .ok (.iload_n 1, 1) := by decide +kernel
theorem dX8_strokes_1 : decode cX8_strokes 1 = .ok (.iconst 1, 1) := by decide +kernel
theorem dX8_strokes_2 : decode cX8_strokes 2 = .ok (.bipush 30, 2) := by decide +kernel
theorem dX8_strokes_4 : decode cX8_strokes 4 = .ok (.invokestatic 19, 3) := by decide +kernel
theorem dX8_strokes_7 : decode cX8_strokes 7 = .ok (.ifCond .ne 6, 3) := by decide +kernel
theorem dX8_strokes_10 : decode cX8_strokes 10 = .ok (.bipush (-2), 2) := by decide +kernel
theorem dX8_strokes_12 : decode cX8_strokes 12 = .ok (.ireturn, 1) := by decide +kernel
theorem dX8_strokes_13 : decode cX8_strokes 13 = .ok (.iconst 0, 1) := by decide +kernel
theorem dX8_strokes_14 : decode cX8_strokes 14 = .ok (.istore_n 2, 1) := by decide +kernel
theorem dX8_strokes_15 : decode cX8_strokes 15 = .ok (.aload_n 0, 1) := by decide +kernel
theorem dX8_strokes_16 : decode cX8_strokes 16 = .ok (.getfield 32, 3) := by decide +kernel
theorem dX8_strokes_19 : decode cX8_strokes 19 = .ok (.iconst 3, 1) := by decide +kernel
theorem dX8_strokes_20 : decode cX8_strokes 20 = .ok (.iaload, 1) := by decide +kernel
theorem dX8_strokes_21 : decode cX8_strokes 21 = .ok (.istore_n 3, 1) := by decide +kernel
theorem dX8_strokes_22 : decode cX8_strokes 22 = .ok (.iload_n 3, 1) := by decide +kernel
theorem dX8_strokes_23 : decode cX8_strokes 23 = .ok (.iload_n 1, 1) := by decide +kernel
theorem dX8_strokes_24 : decode cX8_strokes 24 = .ok (.if_icmp .ge 20, 3) := by decide +kernel
theorem dX8_strokes_27 : decode cX8_strokes 27 = .ok (.iinc 2 1, 3) := by decide +kernel
theorem dX8_strokes_30 : decode cX8_strokes 30 = .ok (.iload_n 3, 1) := by decide +kernel
theorem dX8_strokes_31 : decode cX8_strokes 31 = .ok (.aload_n 0, 1) := by decide +kernel
theorem dX8_strokes_32 : decode cX8_strokes 32 = .ok (.getfield 32, 3) := by decide +kernel
theorem dX8_strokes_35 : decode cX8_strokes 35 = .ok (.iconst 2, 1) := by decide +kernel
theorem dX8_strokes_36 : decode cX8_strokes 36 = .ok (.iaload, 1) := by decide +kernel
theorem dX8_strokes_37 : decode cX8_strokes 37 = .ok (.invokestatic 169, 3) := by decide +kernel
theorem dX8_strokes_40 : decode cX8_strokes 40 = .ok (.istore_n 3, 1) := by decide +kernel
theorem dX8_strokes_41 : decode cX8_strokes 41 = .ok (.goto (-19), 3) := by decide +kernel
theorem dX8_strokes_44 : decode cX8_strokes 44 = .ok (.iload_n 2, 1) := by decide +kernel
theorem dX8_strokes_45 : decode cX8_strokes 45 = .ok (.ireturn, 1) := by decide +kernel
theorem dX8_strokesAgain_0 : decode cX8_strokesAgain 0 = .ok (.aload_n 0, 1) := by decide +kernel
theorem dX8_strokesAgain_1 : decode cX8_strokesAgain 1 = .ok (.iload_n 1, 1) := by decide +kernel
theorem dX8_strokesAgain_2 : decode cX8_strokesAgain 2 = .ok (.invokevirtual 192, 3) := by decide +kernel
theorem dX8_strokesAgain_5 : decode cX8_strokesAgain 5 = .ok (.ireturn, 1) := by decide +kernel
theorem dX8_looksAhead_0 : decode cX8_looksAhead 0 = .ok (.iconst 0, 1) := by decide +kernel
theorem dX8_looksAhead_1 : decode cX8_looksAhead 1 = .ok (.istore_n 1, 1) := by decide +kernel
