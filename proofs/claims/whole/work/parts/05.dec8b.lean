theorem dX8_looksAhead_2 : decode cX8_looksAhead 2 = .ok (.iload_n 1, 1) := by decide +kernel
theorem dX8_looksAhead_3 : decode cX8_looksAhead 3 = .ok (.sipush 274, 3) := by decide +kernel
theorem dX8_looksAhead_6 : decode cX8_looksAhead 6 = .ok (.if_icmp .ge 21, 3) := by decide +kernel
theorem dX8_looksAhead_9 : decode cX8_looksAhead 9 = .ok (.aload_n 0, 1) := by decide +kernel
theorem dX8_looksAhead_10 : decode cX8_looksAhead 10 = .ok (.getfield 45, 3) := by decide +kernel
theorem dX8_looksAhead_13 : decode cX8_looksAhead 13 = .ok (.iload_n 1, 1) := by decide +kernel
theorem dX8_looksAhead_14 : decode cX8_looksAhead 14 = .ok (.aload_n 0, 1) := by decide +kernel
theorem dX8_looksAhead_15 : decode cX8_looksAhead 15 = .ok (.getfield 32, 3) := by decide +kernel
theorem dX8_looksAhead_18 : decode cX8_looksAhead 18 = .ok (.iload_n 1, 1) := by decide +kernel
theorem dX8_looksAhead_19 : decode cX8_looksAhead 19 = .ok (.iaload, 1) := by decide +kernel
theorem dX8_looksAhead_20 : decode cX8_looksAhead 20 = .ok (.iastore, 1) := by decide +kernel
theorem dX8_looksAhead_21 : decode cX8_looksAhead 21 = .ok (.iinc 1 1, 3) := by decide +kernel
theorem dX8_looksAhead_24 : decode cX8_looksAhead 24 = .ok (.goto (-22), 3) := by decide +kernel
theorem dX8_looksAhead_27 : decode cX8_looksAhead 27 = .ok (.return_, 1) := by decide +kernel
theorem dX8_comesBack_0 : decode cX8_comesBack 0 = .ok (.iconst 0, 1) := by decide +kernel
theorem dX8_comesBack_1 : decode cX8_comesBack 1 = .ok (.istore_n 1, 1) := by decide +kernel
theorem dX8_comesBack_2 : decode cX8_comesBack 2 = .ok (.iload_n 1, 1) := by decide +kernel
theorem dX8_comesBack_3 : decode cX8_comesBack 3 = .ok (.sipush 274, 3) := by decide +kernel
theorem dX8_comesBack_6 : decode cX8_comesBack 6 = .ok (.if_icmp .ge 21, 3) := by decide +kernel
theorem dX8_comesBack_9 : decode cX8_comesBack 9 = .ok (.aload_n 0, 1) := by decide +kernel
theorem dX8_comesBack_10 : decode cX8_comesBack 10 = .ok (.getfield 32, 3) := by decide +kernel
theorem dX8_comesBack_13 : decode cX8_comesBack 13 = .ok (.iload_n 1, 1) := by decide +kernel
theorem dX8_comesBack_14 : decode cX8_comesBack 14 = .ok (.aload_n 0, 1) := by decide +kernel
theorem dX8_comesBack_15 : decode cX8_comesBack 15 = .ok (.getfield 45, 3) := by decide +kernel
theorem dX8_comesBack_18 : decode cX8_comesBack 18 = .ok (.iload_n 1, 1) := by decide +kernel
theorem dX8_comesBack_19 : decode cX8_comesBack 19 = .ok (.iaload, 1) := by decide +kernel
theorem dX8_comesBack_20 : decode cX8_comesBack 20 = .ok (.iastore, 1) := by decide +kernel
theorem dX8_comesBack_21 : decode cX8_comesBack 21 = .ok (.iinc 1 1, 3) := by decide +kernel
theorem dX8_comesBack_24 : decode cX8_comesBack 24 = .ok (.goto (-22), 3) := by decide +kernel
theorem dX8_comesBack_27 : decode cX8_comesBack 27 = .ok (.return_, 1) := by decide +kernel
theorem dX8_would_0 : decode cX8_would 0 = .ok (.iload_n 1, 1) := by decide +kernel
theorem dX8_would_1 : decode cX8_would 1 = .ok (.iconst 0, 1) := by decide +kernel
theorem dX8_would_2 : decode cX8_would 2 = .ok (.bipush 20, 2) := by decide +kernel
theorem dX8_would_4 : decode cX8_would 4 = .ok (.invokestatic 19, 3) := by decide +kernel
theorem dX8_would_7 : decode cX8_would 7 = .ok (.ifCond .ne 6, 3) := by decide +kernel
theorem dX8_would_10 : decode cX8_would 10 = .ok (.bipush (-2), 2) := by decide +kernel
theorem dX8_would_12 : decode cX8_would 12 = .ok (.ireturn, 1) := by decide +kernel
theorem dX8_would_13 : decode cX8_would 13 = .ok (.aload_n 0, 1) := by decide +kernel
theorem dX8_would_14 : decode cX8_would 14 = .ok (.invokevirtual 195, 3) := by decide +kernel
theorem dX8_would_17 : decode cX8_would 17 = .ok (.aload_n 0, 1) := by decide +kernel
theorem dX8_would_18 : decode cX8_would 18 = .ok (.iload_n 1, 1) := by decide +kernel
theorem dX8_would_19 : decode cX8_would 19 = .ok (.invokevirtual 185, 3) := by decide +kernel
theorem dX8_would_22 : decode cX8_would 22 = .ok (.istore_n 2, 1) := by decide +kernel
theorem dX8_would_23 : decode cX8_would 23 = .ok (.aload_n 0, 1) := by decide +kernel
theorem dX8_would_24 : decode cX8_would 24 = .ok (.invokevirtual 198, 3) := by decide +kernel
theorem dX8_would_27 : decode cX8_would 27 = .ok (.iload_n 2, 1) := by decide +kernel
theorem dX8_would_28 : decode cX8_would 28 = .ok (.ireturn, 1) := by decide +kernel
theorem dX8_groansIn_0 : decode cX8_groansIn 0 = .ok (.iload_n 1, 1) := by decide +kernel
theorem dX8_groansIn_1 : decode cX8_groansIn 1 = .ok (.iconst 0, 1) := by decide +kernel
theorem dX8_groansIn_2 : decode cX8_groansIn 2 = .ok (.bipush 20, 2) := by decide +kernel
theorem dX8_groansIn_4 : decode cX8_groansIn 4 = .ok (.invokestatic 19, 3) := by decide +kernel
theorem dX8_groansIn_7 : decode cX8_groansIn 7 = .ok (.ifCond .ne 6, 3) := by decide +kernel
theorem dX8_groansIn_10 : decode cX8_groansIn 10 = .ok (.bipush (-2), 2) := by decide +kernel
theorem dX8_groansIn_12 : decode cX8_groansIn 12 = .ok (.ireturn, 1) := by decide +kernel
theorem dX8_groansIn_13 : decode cX8_groansIn 13 = .ok (.aload_n 0, 1) := by decide +kernel
theorem dX8_groansIn_14 : decode cX8_groansIn 14 = .ok (.invokevirtual 195, 3) := by decide +kernel
theorem dX8_groansIn_17 : decode cX8_groansIn 17 = .ok (.aload_n 0, 1) := by decide +kernel
theorem dX8_groansIn_18 : decode cX8_groansIn 18 = .ok (.iload_n 1, 1) := by decide +kernel
theorem dX8_groansIn_19 : decode cX8_groansIn 19 = .ok (.invokevirtual 185, 3) := by decide +kernel
theorem dX8_groansIn_22 : decode cX8_groansIn 22 = .ok (.pop, 1) := by decide +kernel
theorem dX8_groansIn_23 : decode cX8_groansIn 23 = .ok (.aload_n 0, 1) := by decide +kernel
theorem dX8_groansIn_24 : decode cX8_groansIn 24 = .ok (.getfield 32, 3) := by decide +kernel
theorem dX8_groansIn_27 : decode cX8_groansIn 27 = .ok (.iconst 4, 1) := by decide +kernel
theorem dX8_groansIn_28 : decode cX8_groansIn 28 = .ok (.iaload, 1) := by decide +kernel
theorem dX8_groansIn_29 : decode cX8_groansIn 29 = .ok (.istore_n 2, 1) := by decide +kernel
theorem dX8_groansIn_30 : decode cX8_groansIn 30 = .ok (.aload_n 0, 1) := by decide +kernel
theorem dX8_groansIn_31 : decode cX8_groansIn 31 = .ok (.invokevirtual 198, 3) := by decide +kernel
theorem dX8_groansIn_34 : decode cX8_groansIn 34 = .ok (.iload_n 2, 1) := by decide +kernel
theorem dX8_groansIn_35 : decode cX8_groansIn 35 = .ok (.ireturn, 1) := by decide +kernel
theorem dX8_groansTo_0 : decode cX8_groansTo 0 = .ok (.aload_n 0, 1) := by decide +kernel
theorem dX8_groansTo_1 : decode cX8_groansTo 1 = .ok (.getfield 32, 3) := by decide +kernel
theorem dX8_groansTo_4 : decode cX8_groansTo 4 = .ok (.iconst 3, 1) := by decide +kernel
theorem dX8_groansTo_5 : decode cX8_groansTo 5 = .ok (.iaload, 1) := by decide +kernel
theorem dX8_groansTo_6 : decode cX8_groansTo 6 = .ok (.iload_n 2, 1) := by decide +kernel
theorem dX8_groansTo_7 : decode cX8_groansTo 7 = .ok (.invokestatic 169, 3) := by decide +kernel
theorem dX8_groansTo_10 : decode cX8_groansTo 10 = .ok (.istore_n 3, 1) := by decide +kernel
theorem dX8_groansTo_11 : decode cX8_groansTo 11 = .ok (.iconst 1, 1) := by decide +kernel
theorem dX8_groansTo_12 : decode cX8_groansTo 12 = .ok (.iload_n 3, 1) := by decide +kernel
theorem dX8_groansTo_13 : decode cX8_groansTo 13 = .ok (.bipush 10, 2) := by decide +kernel
theorem dX8_groansTo_15 : decode cX8_groansTo 15 = .ok (.idiv, 1) := by decide +kernel
theorem dX8_groansTo_16 : decode cX8_groansTo 16 = .ok (.iadd, 1) := by decide +kernel
theorem dX8_groansTo_17 : decode cX8_groansTo 17 = .ok (.istore 4, 2) := by decide +kernel
theorem dX8_groansTo_19 : decode cX8_groansTo 19 = .ok (.iload_n 3, 1) := by decide +kernel
theorem dX8_groansTo_20 : decode cX8_groansTo 20 = .ok (.iload_n 1, 1) := by decide +kernel
theorem dX8_groansTo_21 : decode cX8_groansTo 21 = .ok (.if_icmp .ge 23, 3) := by decide +kernel
theorem dX8_groansTo_24 : decode cX8_groansTo 24 = .ok (.iload_n 3, 1) := by decide +kernel
theorem dX8_groansTo_25 : decode cX8_groansTo 25 = .ok (.iload_n 2, 1) := by decide +kernel
theorem dX8_groansTo_26 : decode cX8_groansTo 26 = .ok (.invokestatic 169, 3) := by decide +kernel
theorem dX8_groansTo_29 : decode cX8_groansTo 29 = .ok (.istore_n 3, 1) := by decide +kernel
theorem dX8_groansTo_30 : decode cX8_groansTo 30 = .ok (.iload 4, 2) := by decide +kernel
theorem dX8_groansTo_32 : decode cX8_groansTo 32 = .ok (.iconst 1, 1) := by decide +kernel
theorem dX8_groansTo_33 : decode cX8_groansTo 33 = .ok (.iload_n 3, 1) := by decide +kernel
theorem dX8_groansTo_34 : decode cX8_groansTo 34 = .ok (.bipush 10, 2) := by decide +kernel
theorem dX8_groansTo_36 : decode cX8_groansTo 36 = .ok (.idiv, 1) := by decide +kernel
theorem dX8_groansTo_37 : decode cX8_groansTo 37 = .ok (.iadd, 1) := by decide +kernel
theorem dX8_groansTo_38 : decode cX8_groansTo 38 = .ok (.iadd, 1) := by decide +kernel
theorem dX8_groansTo_39 : decode cX8_groansTo 39 = .ok (.istore 4, 2) := by decide +kernel
theorem dX8_groansTo_41 : decode cX8_groansTo 41 = .ok (.goto (-22), 3) := by decide +kernel
theorem dX8_groansTo_44 : decode cX8_groansTo 44 = .ok (.iload 4, 2) := by decide +kernel
theorem dX8_groansTo_46 : decode cX8_groansTo 46 = .ok (.ireturn, 1) := by decide +kernel
theorem dX8_bestStroke_0 : decode cX8_bestStroke 0 = .ok (.aload_n 0, 1) := by decide +kernel
theorem dX8_bestStroke_1 : decode cX8_bestStroke 1 = .ok (.aload_n 0, 1) := by decide +kernel
theorem dX8_bestStroke_2 : decode cX8_bestStroke 2 = .ok (.getfield 32, 3) := by decide +kernel
theorem dX8_bestStroke_5 : decode cX8_bestStroke 5 = .ok (.iconst 1, 1) := by decide +kernel
theorem dX8_bestStroke_6 : decode cX8_bestStroke 6 = .ok (.iaload, 1) := by decide +kernel
theorem dX8_bestStroke_7 : decode cX8_bestStroke 7 = .ok (.iconst 0, 1) := by decide +kernel
theorem dX8_bestStroke_8 : decode cX8_bestStroke 8 = .ok (.invokevirtual 172, 3) := by decide +kernel
theorem dX8_bestStroke_11 : decode cX8_bestStroke 11 = .ok (.istore_n 1, 1) := by decide +kernel
theorem dX8_bestStroke_12 : decode cX8_bestStroke 12 = .ok (.iload_n 1, 1) := by decide +kernel
theorem dX8_bestStroke_13 : decode cX8_bestStroke 13 = .ok (.ifCond .ge 6, 3) := by decide +kernel
theorem dX8_bestStroke_16 : decode cX8_bestStroke 16 = .ok (.bipush (-6), 2) := by decide +kernel
theorem dX8_bestStroke_18 : decode cX8_bestStroke 18 = .ok (.ireturn, 1) := by decide +kernel
theorem dX8_bestStroke_19 : decode cX8_bestStroke 19 = .ok (.iconst 1, 1) := by decide +kernel
theorem dX8_bestStroke_20 : decode cX8_bestStroke 20 = .ok (.istore_n 2, 1) := by decide +kernel
theorem dX8_bestStroke_21 : decode cX8_bestStroke 21 = .ok (.iconst 2, 1) := by decide +kernel
theorem dX8_bestStroke_22 : decode cX8_bestStroke 22 = .ok (.istore_n 3, 1) := by decide +kernel
theorem dX8_bestStroke_23 : decode cX8_bestStroke 23 = .ok (.iload_n 3, 1) := by decide +kernel
theorem dX8_bestStroke_24 : decode cX8_bestStroke 24 = .ok (.bipush 10, 2) := by decide +kernel
theorem dX8_bestStroke_26 : decode cX8_bestStroke 26 = .ok (.if_icmp .gt 40, 3) := by decide +kernel
theorem dX8_bestStroke_29 : decode cX8_bestStroke 29 = .ok (.aload_n 0, 1) := by decide +kernel
theorem dX8_bestStroke_30 : decode cX8_bestStroke 30 = .ok (.aload_n 0, 1) := by decide +kernel
theorem dX8_bestStroke_31 : decode cX8_bestStroke 31 = .ok (.iload_n 1, 1) := by decide +kernel
theorem dX8_bestStroke_32 : decode cX8_bestStroke 32 = .ok (.iconst 1, 1) := by decide +kernel
theorem dX8_bestStroke_33 : decode cX8_bestStroke 33 = .ok (.invokevirtual 73, 3) := by decide +kernel
theorem dX8_bestStroke_36 : decode cX8_bestStroke 36 = .ok (.iload_n 3, 1) := by decide +kernel
theorem dX8_bestStroke_37 : decode cX8_bestStroke 37 = .ok (.invokevirtual 201, 3) := by decide +kernel
theorem dX8_bestStroke_40 : decode cX8_bestStroke 40 = .ok (.aload_n 0, 1) := by decide +kernel
theorem dX8_bestStroke_41 : decode cX8_bestStroke 41 = .ok (.aload_n 0, 1) := by decide +kernel
theorem dX8_bestStroke_42 : decode cX8_bestStroke 42 = .ok (.iload_n 1, 1) := by decide +kernel
theorem dX8_bestStroke_43 : decode cX8_bestStroke 43 = .ok (.iconst 1, 1) := by decide +kernel
theorem dX8_bestStroke_44 : decode cX8_bestStroke 44 = .ok (.invokevirtual 73, 3) := by decide +kernel
theorem dX8_bestStroke_47 : decode cX8_bestStroke 47 = .ok (.iload_n 2, 1) := by decide +kernel
theorem dX8_bestStroke_48 : decode cX8_bestStroke 48 = .ok (.invokevirtual 201, 3) := by decide +kernel
theorem dX8_bestStroke_51 : decode cX8_bestStroke 51 = .ok (.if_icmp .ge 7, 3) := by decide +kernel
theorem dX8_bestStroke_54 : decode cX8_bestStroke 54 = .ok (.iload_n 3, 1) := by decide +kernel
theorem dX8_bestStroke_55 : decode cX8_bestStroke 55 = .ok (.goto 4, 3) := by decide +kernel
theorem dX8_bestStroke_58 : decode cX8_bestStroke 58 = .ok (.iload_n 2, 1) := by decide +kernel
theorem dX8_bestStroke_59 : decode cX8_bestStroke 59 = .ok (.istore_n 2, 1) := by decide +kernel
theorem dX8_bestStroke_60 : decode cX8_bestStroke 60 = .ok (.iinc 3 1, 3) := by decide +kernel
theorem dX8_bestStroke_63 : decode cX8_bestStroke 63 = .ok (.goto (-40), 3) := by decide +kernel
theorem dX8_bestStroke_66 : decode cX8_bestStroke 66 = .ok (.iload_n 2, 1) := by decide +kernel
theorem dX8_bestStroke_67 : decode cX8_bestStroke 67 = .ok (.ireturn, 1) := by decide +kernel
theorem dX8_isFunnier_0 : decode cX8_isFunnier 0 = .ok (.aload_n 0, 1) := by decide +kernel
theorem dX8_isFunnier_1 : decode cX8_isFunnier 1 = .ok (.iload_n 1, 1) := by decide +kernel
theorem dX8_isFunnier_2 : decode cX8_isFunnier 2 = .ok (.aload_n 0, 1) := by decide +kernel
theorem dX8_isFunnier_3 : decode cX8_isFunnier 3 = .ok (.getfield 32, 3) := by decide +kernel
theorem dX8_isFunnier_6 : decode cX8_isFunnier 6 = .ok (.iconst 4, 1) := by decide +kernel
theorem dX8_isFunnier_7 : decode cX8_isFunnier 7 = .ok (.iaload, 1) := by decide +kernel
theorem dX8_isFunnier_8 : decode cX8_isFunnier 8 = .ok (.invokevirtual 155, 3) := by decide +kernel
theorem dX8_isFunnier_11 : decode cX8_isFunnier 11 = .ok (.fstore_n 3, 1) := by decide +kernel
theorem dX8_isFunnier_12 : decode cX8_isFunnier 12 = .ok (.aload_n 0, 1) := by decide +kernel
theorem dX8_isFunnier_13 : decode cX8_isFunnier 13 = .ok (.iload_n 2, 1) := by decide +kernel
theorem dX8_isFunnier_14 : decode cX8_isFunnier 14 = .ok (.aload_n 0, 1) := by decide +kernel
theorem dX8_isFunnier_15 : decode cX8_isFunnier 15 = .ok (.getfield 32, 3) := by decide +kernel
theorem dX8_isFunnier_18 : decode cX8_isFunnier 18 = .ok (.iconst 4, 1) := by decide +kernel
theorem dX8_isFunnier_19 : decode cX8_isFunnier 19 = .ok (.iaload, 1) := by decide +kernel
theorem dX8_isFunnier_20 : decode cX8_isFunnier 20 = .ok (.invokevirtual 155, 3) := by decide +kernel
theorem dX8_isFunnier_23 : decode cX8_isFunnier 23 = .ok (.fstore 4, 2) := by decide +kernel
theorem dX8_isFunnier_25 : decode cX8_isFunnier 25 = .ok (.fload_n 3, 1) := by decide +kernel
theorem dX8_isFunnier_26 : decode cX8_isFunnier 26 = .ok (.fload 4, 2) := by decide +kernel
theorem dX8_isFunnier_28 : decode cX8_isFunnier 28 = .ok (.fcmp .l, 1) := by decide +kernel
theorem dX8_isFunnier_29 : decode cX8_isFunnier 29 = .ok (.ifCond .eq 16, 3) := by decide +kernel
theorem dX8_isFunnier_32 : decode cX8_isFunnier 32 = .ok (.fload_n 3, 1) := by decide +kernel
theorem dX8_isFunnier_33 : decode cX8_isFunnier 33 = .ok (.fload 4, 2) := by decide +kernel
theorem dX8_isFunnier_35 : decode cX8_isFunnier 35 = .ok (.fcmp .l, 1) := by decide +kernel
theorem dX8_isFunnier_36 : decode cX8_isFunnier 36 = .ok (.ifCond .le 7, 3) := by decide +kernel
theorem dX8_isFunnier_39 : decode cX8_isFunnier 39 = .ok (.iconst 1, 1) := by decide +kernel
theorem dX8_isFunnier_40 : decode cX8_isFunnier 40 = .ok (.goto 4, 3) := by decide +kernel
theorem dX8_isFunnier_43 : decode cX8_isFunnier 43 = .ok (.iconst 0, 1) := by decide +kernel
theorem dX8_isFunnier_44 : decode cX8_isFunnier 44 = .ok (.ireturn, 1) := by decide +kernel
theorem dX8_isFunnier_45 : decode cX8_isFunnier 45 = .ok (.aload_n 0, 1) := by decide +kernel
theorem dX8_isFunnier_46 : decode cX8_isFunnier 46 = .ok (.iload_n 2, 1) := by decide +kernel
theorem dX8_isFunnier_47 : decode cX8_isFunnier 47 = .ok (.iconst 1, 1) := by decide +kernel
theorem dX8_isFunnier_48 : decode cX8_isFunnier 48 = .ok (.invokevirtual 73, 3) := by decide +kernel
theorem dX8_isFunnier_51 : decode cX8_isFunnier 51 = .ok (.aload_n 0, 1) := by decide +kernel
theorem dX8_isFunnier_52 : decode cX8_isFunnier 52 = .ok (.iload_n 1, 1) := by decide +kernel
theorem dX8_isFunnier_53 : decode cX8_isFunnier 53 = .ok (.iconst 1, 1) := by decide +kernel
theorem dX8_isFunnier_54 : decode cX8_isFunnier 54 = .ok (.invokevirtual 73, 3) := by decide +kernel
theorem dX8_isFunnier_57 : decode cX8_isFunnier 57 = .ok (.isub, 1) := by decide +kernel
theorem dX8_isFunnier_58 : decode cX8_isFunnier 58 = .ok (.istore 5, 2) := by decide +kernel
theorem dX8_isFunnier_60 : decode cX8_isFunnier 60 = .ok (.iload 5, 2) := by decide +kernel
theorem dX8_isFunnier_62 : decode cX8_isFunnier 62 = .ok (.ifCond .eq 16, 3) := by decide +kernel
theorem dX8_isFunnier_65 : decode cX8_isFunnier 65 = .ok (.iload 5, 2) := by decide +kernel
theorem dX8_isFunnier_67 : decode cX8_isFunnier 67 = .ok (.ifCond .le 7, 3) := by decide +kernel
theorem dX8_isFunnier_70 : decode cX8_isFunnier 70 = .ok (.iconst 1, 1) := by decide +kernel
theorem dX8_isFunnier_71 : decode cX8_isFunnier 71 = .ok (.goto 17, 3) := by decide +kernel
theorem dX8_isFunnier_74 : decode cX8_isFunnier 74 = .ok (.iconst 0, 1) := by decide +kernel
theorem dX8_isFunnier_75 : decode cX8_isFunnier 75 = .ok (.goto 13, 3) := by decide +kernel
theorem dX8_isFunnier_78 : decode cX8_isFunnier 78 = .ok (.iload_n 1, 1) := by decide +kernel
theorem dX8_isFunnier_79 : decode cX8_isFunnier 79 = .ok (.iload_n 2, 1) := by decide +kernel
theorem dX8_isFunnier_80 : decode cX8_isFunnier 80 = .ok (.if_icmp .ge 7, 3) := by decide +kernel
theorem dX8_isFunnier_83 : decode cX8_isFunnier 83 = .ok (.iconst 1, 1) := by decide +kernel
theorem dX8_isFunnier_84 : decode cX8_isFunnier 84 = .ok (.goto 4, 3) := by decide +kernel
theorem dX8_isFunnier_87 : decode cX8_isFunnier 87 = .ok (.iconst 0, 1) := by decide +kernel
theorem dX8_isFunnier_88 : decode cX8_isFunnier 88 = .ok (.ireturn, 1) := by decide +kernel
theorem dX8_funniest_0 : decode cX8_funniest 0 = .ok (.iconst 0, 1) := by decide +kernel
theorem dX8_funniest_1 : decode cX8_funniest 1 = .ok (.istore_n 2, 1) := by decide +kernel
theorem dX8_funniest_2 : decode cX8_funniest 2 = .ok (.iload_n 2, 1) := by decide +kernel
theorem dX8_funniest_3 : decode cX8_funniest 3 = .ok (.aload_n 0, 1) := by decide +kernel
theorem dX8_funniest_4 : decode cX8_funniest 4 = .ok (.getfield 32, 3) := by decide +kernel
theorem dX8_funniest_7 : decode cX8_funniest 7 = .ok (.iconst 0, 1) := by decide +kernel
theorem dX8_funniest_8 : decode cX8_funniest 8 = .ok (.iaload, 1) := by decide +kernel
theorem dX8_funniest_9 : decode cX8_funniest 9 = .ok (.if_icmp .ge 56, 3) := by decide +kernel
theorem dX8_funniest_12 : decode cX8_funniest 12 = .ok (.iconst 0, 1) := by decide +kernel
theorem dX8_funniest_13 : decode cX8_funniest 13 = .ok (.istore_n 3, 1) := by decide +kernel
theorem dX8_funniest_14 : decode cX8_funniest 14 = .ok (.iconst 0, 1) := by decide +kernel
theorem dX8_funniest_15 : decode cX8_funniest 15 = .ok (.istore 4, 2) := by decide +kernel
theorem dX8_funniest_17 : decode cX8_funniest 17 = .ok (.iload 4, 2) := by decide +kernel
theorem dX8_funniest_19 : decode cX8_funniest 19 = .ok (.aload_n 0, 1) := by decide +kernel
theorem dX8_funniest_20 : decode cX8_funniest 20 = .ok (.getfield 32, 3) := by decide +kernel
theorem dX8_funniest_23 : decode cX8_funniest 23 = .ok (.iconst 0, 1) := by decide +kernel
theorem dX8_funniest_24 : decode cX8_funniest 24 = .ok (.iaload, 1) := by decide +kernel
theorem dX8_funniest_25 : decode cX8_funniest 25 = .ok (.if_icmp .ge 27, 3) := by decide +kernel
theorem dX8_funniest_28 : decode cX8_funniest 28 = .ok (.iload_n 3, 1) := by decide +kernel
theorem dX8_funniest_29 : decode cX8_funniest 29 = .ok (.aload_n 0, 1) := by decide +kernel
theorem dX8_funniest_30 : decode cX8_funniest 30 = .ok (.iload 4, 2) := by decide +kernel
theorem dX8_funniest_32 : decode cX8_funniest 32 = .ok (.iload_n 2, 1) := by decide +kernel
theorem dX8_funniest_33 : decode cX8_funniest 33 = .ok (.invokevirtual 204, 3) := by decide +kernel
theorem dX8_funniest_36 : decode cX8_funniest 36 = .ok (.ifCond .eq 7, 3) := by decide +kernel
theorem dX8_funniest_39 : decode cX8_funniest 39 = .ok (.iconst 1, 1) := by decide +kernel
theorem dX8_funniest_40 : decode cX8_funniest 40 = .ok (.goto 4, 3) := by decide +kernel
theorem dX8_funniest_43 : decode cX8_funniest 43 = .ok (.iconst 0, 1) := by decide +kernel
theorem dX8_funniest_44 : decode cX8_funniest 44 = .ok (.iadd, 1) := by decide +kernel
theorem dX8_funniest_45 : decode cX8_funniest 45 = .ok (.istore_n 3, 1) := by decide +kernel
theorem dX8_funniest_46 : decode cX8_funniest 46 = .ok (.iinc 4 1, 3) := by decide +kernel
theorem dX8_funniest_49 : decode cX8_funniest 49 = .ok (.goto (-32), 3) := by decide +kernel
theorem dX8_funniest_52 : decode cX8_funniest 52 = .ok (.iload_n 3, 1) := by decide +kernel
theorem dX8_funniest_53 : decode cX8_funniest 53 = .ok (.iload_n 1, 1) := by decide +kernel
theorem dX8_funniest_54 : decode cX8_funniest 54 = .ok (.if_icmp .ne 5, 3) := by decide +kernel
theorem dX8_funniest_57 : decode cX8_funniest 57 = .ok (.iload_n 2, 1) := by decide +kernel
theorem dX8_funniest_58 : decode cX8_funniest 58 = .ok (.ireturn, 1) := by decide +kernel
theorem dX8_funniest_59 : decode cX8_funniest 59 = .ok (.iinc 2 1, 3) := by decide +kernel
theorem dX8_funniest_62 : decode cX8_funniest 62 = .ok (.goto (-60), 3) := by decide +kernel
theorem dX8_funniest_65 : decode cX8_funniest 65 = .ok (.iconst (-1), 1) := by decide +kernel
theorem dX8_funniest_66 : decode cX8_funniest 66 = .ok (.ireturn, 1) := by decide +kernel
theorem dX8_inWell_0 : decode cX8_inWell 0 = .ok (.iload_n 1, 1) := by decide +kernel
theorem dX8_inWell_1 : decode cX8_inWell 1 = .ok (.invokestatic 81, 3) := by decide +kernel
theorem dX8_inWell_4 : decode cX8_inWell 4 = .ok (.ifCond .eq 12, 3) := by decide +kernel
theorem dX8_inWell_7 : decode cX8_inWell 7 = .ok (.aload_n 0, 1) := by decide +kernel
theorem dX8_inWell_8 : decode cX8_inWell 8 = .ok (.iload_n 1, 1) := by decide +kernel
theorem dX8_inWell_9 : decode cX8_inWell 9 = .ok (.iload_n 2, 1) := by decide +kernel
theorem dX8_inWell_10 : decode cX8_inWell 10 = .ok (.invokevirtual 172, 3) := by decide +kernel
theorem dX8_inWell_13 : decode cX8_inWell 13 = .ok (.goto 4, 3) := by decide +kernel
theorem dX8_inWell_16 : decode cX8_inWell 16 = .ok (.iconst (-1), 1) := by decide +kernel
theorem dX8_inWell_17 : decode cX8_inWell 17 = .ok (.ireturn, 1) := by decide +kernel
theorem dX8_isFuller_0 : decode cX8_isFuller 0 = .ok (.aload_n 0, 1) := by decide +kernel
theorem dX8_isFuller_1 : decode cX8_isFuller 1 = .ok (.iload_n 1, 1) := by decide +kernel
theorem dX8_isFuller_2 : decode cX8_isFuller 2 = .ok (.invokevirtual 97, 3) := by decide +kernel
theorem dX8_isFuller_5 : decode cX8_isFuller 5 = .ok (.aload_n 0, 1) := by decide +kernel
theorem dX8_isFuller_6 : decode cX8_isFuller 6 = .ok (.iload_n 2, 1) := by decide +kernel
theorem dX8_isFuller_7 : decode cX8_isFuller 7 = .ok (.invokevirtual 97, 3) := by decide +kernel
theorem dX8_isFuller_10 : decode cX8_isFuller 10 = .ok (.isub, 1) := by decide +kernel
theorem dX8_isFuller_11 : decode cX8_isFuller 11 = .ok (.istore_n 3, 1) := by decide +kernel
theorem dX8_isFuller_12 : decode cX8_isFuller 12 = .ok (.aload_n 0, 1) := by decide +kernel
theorem dX8_isFuller_13 : decode cX8_isFuller 13 = .ok (.getfield 32, 3) := by decide +kernel
theorem dX8_isFuller_16 : decode cX8_isFuller 16 = .ok (.bipush 14, 2) := by decide +kernel
theorem dX8_isFuller_18 : decode cX8_isFuller 18 = .ok (.iload_n 1, 1) := by decide +kernel
theorem dX8_isFuller_19 : decode cX8_isFuller 19 = .ok (.iadd, 1) := by decide +kernel
theorem dX8_isFuller_20 : decode cX8_isFuller 20 = .ok (.iaload, 1) := by decide +kernel
theorem dX8_isFuller_21 : decode cX8_isFuller 21 = .ok (.aload_n 0, 1) := by decide +kernel
theorem dX8_isFuller_22 : decode cX8_isFuller 22 = .ok (.getfield 32, 3) := by decide +kernel
theorem dX8_isFuller_25 : decode cX8_isFuller 25 = .ok (.bipush 14, 2) := by decide +kernel
theorem dX8_isFuller_27 : decode cX8_isFuller 27 = .ok (.iload_n 2, 1) := by decide +kernel
theorem dX8_isFuller_28 : decode cX8_isFuller 28 = .ok (.iadd, 1) := by decide +kernel
theorem dX8_isFuller_29 : decode cX8_isFuller 29 = .ok (.iaload, 1) := by decide +kernel
theorem dX8_isFuller_30 : decode cX8_isFuller 30 = .ok (.isub, 1) := by decide +kernel
theorem dX8_isFuller_31 : decode cX8_isFuller 31 = .ok (.istore 4, 2) := by decide +kernel
theorem dX8_isFuller_33 : decode cX8_isFuller 33 = .ok (.iload_n 3, 1) := by decide +kernel
theorem dX8_isFuller_34 : decode cX8_isFuller 34 = .ok (.ifCond .eq 13, 3) := by decide +kernel
theorem dX8_isFuller_37 : decode cX8_isFuller 37 = .ok (.iload_n 3, 1) := by decide +kernel
theorem dX8_isFuller_38 : decode cX8_isFuller 38 = .ok (.ifCond .le 7, 3) := by decide +kernel
theorem dX8_isFuller_41 : decode cX8_isFuller 41 = .ok (.iconst 1, 1) := by decide +kernel
theorem dX8_isFuller_42 : decode cX8_isFuller 42 = .ok (.goto 4, 3) := by decide +kernel
theorem dX8_isFuller_45 : decode cX8_isFuller 45 = .ok (.iconst 0, 1) := by decide +kernel
theorem dX8_isFuller_46 : decode cX8_isFuller 46 = .ok (.ireturn, 1) := by decide +kernel
theorem dX8_isFuller_47 : decode cX8_isFuller 47 = .ok (.iload 4, 2) := by decide +kernel
theorem dX8_isFuller_49 : decode cX8_isFuller 49 = .ok (.ifCond .eq 16, 3) := by decide +kernel
theorem dX8_isFuller_52 : decode cX8_isFuller 52 = .ok (.iload 4, 2) := by decide +kernel
theorem dX8_isFuller_54 : decode cX8_isFuller 54 = .ok (.ifCond .le 7, 3) := by decide +kernel
theorem dX8_isFuller_57 : decode cX8_isFuller 57 = .ok (.iconst 1, 1) := by decide +kernel
theorem dX8_isFuller_58 : decode cX8_isFuller 58 = .ok (.goto 17, 3) := by decide +kernel
theorem dX8_isFuller_61 : decode cX8_isFuller 61 = .ok (.iconst 0, 1) := by decide +kernel
theorem dX8_isFuller_62 : decode cX8_isFuller 62 = .ok (.goto 13, 3) := by decide +kernel
theorem dX8_isFuller_65 : decode cX8_isFuller 65 = .ok (.iload_n 1, 1) := by decide +kernel
theorem dX8_isFuller_66 : decode cX8_isFuller 66 = .ok (.iload_n 2, 1) := by decide +kernel
theorem dX8_isFuller_67 : decode cX8_isFuller 67 = .ok (.if_icmp .ge 7, 3) := by decide +kernel
theorem dX8_isFuller_70 : decode cX8_isFuller 70 = .ok (.iconst 1, 1) := by decide +kernel
theorem dX8_isFuller_71 : decode cX8_isFuller 71 = .ok (.goto 4, 3) := by decide +kernel
theorem dX8_isFuller_74 : decode cX8_isFuller 74 = .ok (.iconst 0, 1) := by decide +kernel
theorem dX8_isFuller_75 : decode cX8_isFuller 75 = .ok (.ireturn, 1) := by decide +kernel
theorem dX8_fullest_0 : decode cX8_fullest 0 = .ok (.iconst 0, 1) := by decide +kernel
theorem dX8_fullest_1 : decode cX8_fullest 1 = .ok (.istore_n 2, 1) := by decide +kernel
theorem dX8_fullest_2 : decode cX8_fullest 2 = .ok (.iload_n 2, 1) := by decide +kernel
theorem dX8_fullest_3 : decode cX8_fullest 3 = .ok (.iconst 4, 1) := by decide +kernel
theorem dX8_fullest_4 : decode cX8_fullest 4 = .ok (.if_icmp .ge 51, 3) := by decide +kernel
theorem dX8_fullest_7 : decode cX8_fullest 7 = .ok (.iconst 0, 1) := by decide +kernel
theorem dX8_fullest_8 : decode cX8_fullest 8 = .ok (.istore_n 3, 1) := by decide +kernel
theorem dX8_fullest_9 : decode cX8_fullest 9 = .ok (.iconst 0, 1) := by decide +kernel
theorem dX8_fullest_10 : decode cX8_fullest 10 = .ok (.istore 4, 2) := by decide +kernel
theorem dX8_fullest_12 : decode cX8_fullest 12 = .ok (.iload 4, 2) := by decide +kernel
theorem dX8_fullest_14 : decode cX8_fullest 14 = .ok (.iconst 4, 1) := by decide +kernel
theorem dX8_fullest_15 : decode cX8_fullest 15 = .ok (.if_icmp .ge 27, 3) := by decide +kernel
theorem dX8_fullest_18 : decode cX8_fullest 18 = .ok (.iload_n 3, 1) := by decide +kernel
theorem dX8_fullest_19 : decode cX8_fullest 19 = .ok (.aload_n 0, 1) := by decide +kernel
theorem dX8_fullest_20 : decode cX8_fullest 20 = .ok (.iload 4, 2) := by decide +kernel
theorem dX8_fullest_22 : decode cX8_fullest 22 = .ok (.iload_n 2, 1) := by decide +kernel
theorem dX8_fullest_23 : decode cX8_fullest 23 = .ok (.invokevirtual 208, 3) := by decide +kernel
theorem dX8_fullest_26 : decode cX8_fullest 26 = .ok (.ifCond .eq 7, 3) := by decide +kernel
theorem dX8_fullest_29 : decode cX8_fullest 29 = .ok (.iconst 1, 1) := by decide +kernel
theorem dX8_fullest_30 : decode cX8_fullest 30 = .ok (.goto 4, 3) := by decide +kernel
theorem dX8_fullest_33 : decode cX8_fullest 33 = .ok (.iconst 0, 1) := by decide +kernel
theorem dX8_fullest_34 : decode cX8_fullest 34 = .ok (.iadd, 1) := by decide +kernel
theorem dX8_fullest_35 : decode cX8_fullest 35 = .ok (.istore_n 3, 1) := by decide +kernel
theorem dX8_fullest_36 : decode cX8_fullest 36 = .ok (.iinc 4 1, 3) := by decide +kernel
theorem dX8_fullest_39 : decode cX8_fullest 39 = .ok (.goto (-27), 3) := by decide +kernel
theorem dX8_fullest_42 : decode cX8_fullest 42 = .ok (.iload_n 3, 1) := by decide +kernel
theorem dX8_fullest_43 : decode cX8_fullest 43 = .ok (.iload_n 1, 1) := by decide +kernel
theorem dX8_fullest_44 : decode cX8_fullest 44 = .ok (.if_icmp .ne 5, 3) := by decide +kernel
theorem dX8_fullest_47 : decode cX8_fullest 47 = .ok (.iload_n 2, 1) := by decide +kernel
theorem dX8_fullest_48 : decode cX8_fullest 48 = .ok (.ireturn, 1) := by decide +kernel
theorem dX8_fullest_49 : decode cX8_fullest 49 = .ok (.iinc 2 1, 3) := by decide +kernel
theorem dX8_fullest_52 : decode cX8_fullest 52 = .ok (.goto (-50), 3) := by decide +kernel
theorem dX8_fullest_55 : decode cX8_fullest 55 = .ok (.iconst (-1), 1) := by decide +kernel
theorem dX8_fullest_56 : decode cX8_fullest 56 = .ok (.ireturn, 1) := by decide +kernel
theorem dX8_isCounted_0 : decode cX8_isCounted 0 = .ok (.iconst 0, 1) := by decide +kernel
theorem dX8_isCounted_1 : decode cX8_isCounted 1 = .ok (.istore_n 1, 1) := by decide +kernel
theorem dX8_isCounted_2 : decode cX8_isCounted 2 = .ok (.iload_n 1, 1) := by decide +kernel
theorem dX8_isCounted_3 : decode cX8_isCounted 3 = .ok (.aload_n 0, 1) := by decide +kernel
theorem dX8_isCounted_4 : decode cX8_isCounted 4 = .ok (.getfield 32, 3) := by decide +kernel
theorem dX8_isCounted_7 : decode cX8_isCounted 7 = .ok (.iconst 0, 1) := by decide +kernel
theorem dX8_isCounted_8 : decode cX8_isCounted 8 = .ok (.iaload, 1) := by decide +kernel
theorem dX8_isCounted_9 : decode cX8_isCounted 9 = .ok (.if_icmp .ge 24, 3) := by decide +kernel
theorem dX8_isCounted_12 : decode cX8_isCounted 12 = .ok (.aload_n 0, 1) := by decide +kernel
theorem dX8_isCounted_13 : decode cX8_isCounted 13 = .ok (.aload_n 0, 1) := by decide +kernel
theorem dX8_isCounted_14 : decode cX8_isCounted 14 = .ok (.iload_n 1, 1) := by decide +kernel
theorem dX8_isCounted_15 : decode cX8_isCounted 15 = .ok (.iconst 2, 1) := by decide +kernel
theorem dX8_isCounted_16 : decode cX8_isCounted 16 = .ok (.invokevirtual 73, 3) := by decide +kernel
theorem dX8_isCounted_19 : decode cX8_isCounted 19 = .ok (.invokevirtual 85, 3) := by decide +kernel
theorem dX8_isCounted_22 : decode cX8_isCounted 22 = .ok (.ifCond .eq 5, 3) := by decide +kernel
theorem dX8_isCounted_25 : decode cX8_isCounted 25 = .ok (.iconst 0, 1) := by decide +kernel
theorem dX8_isCounted_26 : decode cX8_isCounted 26 = .ok (.ireturn, 1) := by decide +kernel
theorem dX8_isCounted_27 : decode cX8_isCounted 27 = .ok (.iinc 1 1, 3) := by decide +kernel
theorem dX8_isCounted_30 : decode cX8_isCounted 30 = .ok (.goto (-28), 3) := by decide +kernel
theorem dX8_isCounted_33 : decode cX8_isCounted 33 = .ok (.aload_n 0, 1) := by decide +kernel
theorem dX8_isCounted_34 : decode cX8_isCounted 34 = .ok (.getfield 32, 3) := by decide +kernel
theorem dX8_isCounted_37 : decode cX8_isCounted 37 = .ok (.bipush 7, 2) := by decide +kernel
theorem dX8_isCounted_39 : decode cX8_isCounted 39 = .ok (.iaload, 1) := by decide +kernel
theorem dX8_isCounted_40 : decode cX8_isCounted 40 = .ok (.aload_n 0, 1) := by decide +kernel
theorem dX8_isCounted_41 : decode cX8_isCounted 41 = .ok (.getfield 32, 3) := by decide +kernel
theorem dX8_isCounted_44 : decode cX8_isCounted 44 = .ok (.iconst 0, 1) := by decide +kernel
theorem dX8_isCounted_45 : decode cX8_isCounted 45 = .ok (.iaload, 1) := by decide +kernel
theorem dX8_isCounted_46 : decode cX8_isCounted 46 = .ok (.aload_n 0, 1) := by decide +kernel
theorem dX8_isCounted_47 : decode cX8_isCounted 47 = .ok (.getfield 32, 3) := by decide +kernel
theorem dX8_isCounted_50 : decode cX8_isCounted 50 = .ok (.bipush 6, 2) := by decide +kernel
theorem dX8_isCounted_52 : decode cX8_isCounted 52 = .ok (.iaload, 1) := by decide +kernel
theorem dX8_isCounted_53 : decode cX8_isCounted 53 = .ok (.iadd, 1) := by decide +kernel
theorem dX8_isCounted_54 : decode cX8_isCounted 54 = .ok (.aload_n 0, 1) := by decide +kernel
theorem dX8_isCounted_55 : decode cX8_isCounted 55 = .ok (.getfield 32, 3) := by decide +kernel
theorem dX8_isCounted_58 : decode cX8_isCounted 58 = .ok (.bipush 8, 2) := by decide +kernel
theorem dX8_isCounted_60 : decode cX8_isCounted 60 = .ok (.iaload, 1) := by decide +kernel
theorem dX8_isCounted_61 : decode cX8_isCounted 61 = .ok (.iadd, 1) := by decide +kernel
theorem dX8_isCounted_62 : decode cX8_isCounted 62 = .ok (.if_icmp .ne 24, 3) := by decide +kernel
theorem dX8_isCounted_65 : decode cX8_isCounted 65 = .ok (.aload_n 0, 1) := by decide +kernel
theorem dX8_isCounted_66 : decode cX8_isCounted 66 = .ok (.invokevirtual 188, 3) := by decide +kernel
theorem dX8_isCounted_69 : decode cX8_isCounted 69 = .ok (.invokestatic 159, 3) := by decide +kernel
theorem dX8_isCounted_72 : decode cX8_isCounted 72 = .ok (.aload_n 0, 1) := by decide +kernel
theorem dX8_isCounted_73 : decode cX8_isCounted 73 = .ok (.invokevirtual 211, 3) := by decide +kernel
theorem dX8_isCounted_76 : decode cX8_isCounted 76 = .ok (.invokestatic 159, 3) := by decide +kernel
theorem dX8_isCounted_79 : decode cX8_isCounted 79 = .ok (.if_icmp .ne 7, 3) := by decide +kernel
theorem dX8_isCounted_82 : decode cX8_isCounted 82 = .ok (.iconst 1, 1) := by decide +kernel
theorem dX8_isCounted_83 : decode cX8_isCounted 83 = .ok (.goto 4, 3) := by decide +kernel
theorem dX8_isCounted_86 : decode cX8_isCounted 86 = .ok (.iconst 0, 1) := by decide +kernel
theorem dX8_isCounted_87 : decode cX8_isCounted 87 = .ok (.ireturn, 1) := by decide +kernel
theorem dX8_meanDepth_0 : decode cX8_meanDepth 0 = .ok (.iconst 0, 1) := by decide +kernel
theorem dX8_meanDepth_1 : decode cX8_meanDepth 1 = .ok (.istore_n 1, 1) := by decide +kernel
theorem dX8_meanDepth_2 : decode cX8_meanDepth 2 = .ok (.iconst 0, 1) := by decide +kernel
theorem dX8_meanDepth_3 : decode cX8_meanDepth 3 = .ok (.istore_n 2, 1) := by decide +kernel
theorem dX8_meanDepth_4 : decode cX8_meanDepth 4 = .ok (.iload_n 2, 1) := by decide +kernel
theorem dX8_meanDepth_5 : decode cX8_meanDepth 5 = .ok (.aload_n 0, 1) := by decide +kernel
theorem dX8_meanDepth_6 : decode cX8_meanDepth 6 = .ok (.getfield 32, 3) := by decide +kernel
theorem dX8_meanDepth_9 : decode cX8_meanDepth 9 = .ok (.iconst 0, 1) := by decide +kernel
theorem dX8_meanDepth_10 : decode cX8_meanDepth 10 = .ok (.iaload, 1) := by decide +kernel
theorem dX8_meanDepth_11 : decode cX8_meanDepth 11 = .ok (.if_icmp .ge 18, 3) := by decide +kernel
theorem dX8_meanDepth_14 : decode cX8_meanDepth 14 = .ok (.iload_n 1, 1) := by decide +kernel
theorem dX8_meanDepth_15 : decode cX8_meanDepth 15 = .ok (.aload_n 0, 1) := by decide +kernel
theorem dX8_meanDepth_16 : decode cX8_meanDepth 16 = .ok (.iload_n 2, 1) := by decide +kernel
theorem dX8_meanDepth_17 : decode cX8_meanDepth 17 = .ok (.iconst 1, 1) := by decide +kernel
theorem dX8_meanDepth_18 : decode cX8_meanDepth 18 = .ok (.invokevirtual 73, 3) := by decide +kernel
theorem dX8_meanDepth_21 : decode cX8_meanDepth 21 = .ok (.iadd, 1) := by decide +kernel
theorem dX8_meanDepth_22 : decode cX8_meanDepth 22 = .ok (.istore_n 1, 1) := by decide +kernel
theorem dX8_meanDepth_23 : decode cX8_meanDepth 23 = .ok (.iinc 2 1, 3) := by decide +kernel
theorem dX8_meanDepth_26 : decode cX8_meanDepth 26 = .ok (.goto (-22), 3) := by decide +kernel
theorem dX8_meanDepth_29 : decode cX8_meanDepth 29 = .ok (.aload_n 0, 1) := by decide +kernel
theorem dX8_meanDepth_30 : decode cX8_meanDepth 30 = .ok (.getfield 32, 3) := by decide +kernel
theorem dX8_meanDepth_33 : decode cX8_meanDepth 33 = .ok (.iconst 0, 1) := by decide +kernel
theorem dX8_meanDepth_34 : decode cX8_meanDepth 34 = .ok (.iaload, 1) := by decide +kernel
theorem dX8_meanDepth_35 : decode cX8_meanDepth 35 = .ok (.ifCond .ne 7, 3) := by decide +kernel
theorem dX8_meanDepth_38 : decode cX8_meanDepth 38 = .ok (.dconst 0, 1) := by decide +kernel
theorem dX8_meanDepth_39 : decode cX8_meanDepth 39 = .ok (.goto 13, 3) := by decide +kernel
theorem dX8_meanDepth_42 : decode cX8_meanDepth 42 = .ok (.iload_n 1, 1) := by decide +kernel
theorem dX8_meanDepth_43 : decode cX8_meanDepth 43 = .ok (.i2d, 1) := by decide +kernel
theorem dX8_meanDepth_44 : decode cX8_meanDepth 44 = .ok (.aload_n 0, 1) := by decide +kernel
theorem dX8_meanDepth_45 : decode cX8_meanDepth 45 = .ok (.getfield 32, 3) := by decide +kernel
theorem dX8_meanDepth_48 : decode cX8_meanDepth 48 = .ok (.iconst 0, 1) := by decide +kernel
theorem dX8_meanDepth_49 : decode cX8_meanDepth 49 = .ok (.iaload, 1) := by decide +kernel
theorem dX8_meanDepth_50 : decode cX8_meanDepth 50 = .ok (.i2d, 1) := by decide +kernel
theorem dX8_meanDepth_51 : decode cX8_meanDepth 51 = .ok (.ddiv, 1) := by decide +kernel
theorem dX8_meanDepth_52 : decode cX8_meanDepth 52 = .ok (.dreturn, 1) := by decide +kernel
theorem dX8_knownShare_0 : decode cX8_knownShare 0 = .ok (.iconst 0, 1) := by decide +kernel
theorem dX8_knownShare_1 : decode cX8_knownShare 1 = .ok (.istore_n 1, 1) := by decide +kernel
theorem dX8_knownShare_2 : decode cX8_knownShare 2 = .ok (.iconst 0, 1) := by decide +kernel
theorem dX8_knownShare_3 : decode cX8_knownShare 3 = .ok (.istore_n 2, 1) := by decide +kernel
theorem dX8_knownShare_4 : decode cX8_knownShare 4 = .ok (.iload_n 2, 1) := by decide +kernel
theorem dX8_knownShare_5 : decode cX8_knownShare 5 = .ok (.bipush 64, 2) := by decide +kernel
theorem dX8_knownShare_7 : decode cX8_knownShare 7 = .ok (.if_icmp .ge 25, 3) := by decide +kernel
theorem dX8_knownShare_10 : decode cX8_knownShare 10 = .ok (.iload_n 1, 1) := by decide +kernel
theorem dX8_knownShare_11 : decode cX8_knownShare 11 = .ok (.aload_n 0, 1) := by decide +kernel
theorem dX8_knownShare_12 : decode cX8_knownShare 12 = .ok (.iload_n 2, 1) := by decide +kernel
theorem dX8_knownShare_13 : decode cX8_knownShare 13 = .ok (.invokevirtual 85, 3) := by decide +kernel
theorem dX8_knownShare_16 : decode cX8_knownShare 16 = .ok (.ifCond .eq 7, 3) := by decide +kernel
theorem dX8_knownShare_19 : decode cX8_knownShare 19 = .ok (.iconst 1, 1) := by decide +kernel
theorem dX8_knownShare_20 : decode cX8_knownShare 20 = .ok (.goto 4, 3) := by decide +kernel
theorem dX8_knownShare_23 : decode cX8_knownShare 23 = .ok (.iconst 0, 1) := by decide +kernel
theorem dX8_knownShare_24 : decode cX8_knownShare 24 = .ok (.iadd, 1) := by decide +kernel
theorem dX8_knownShare_25 : decode cX8_knownShare 25 = .ok (.istore_n 1, 1) := by decide +kernel
theorem dX8_knownShare_26 : decode cX8_knownShare 26 = .ok (.iinc 2 1, 3) := by decide +kernel
theorem dX8_knownShare_29 : decode cX8_knownShare 29 = .ok (.goto (-25), 3) := by decide +kernel
theorem dX8_knownShare_32 : decode cX8_knownShare 32 = .ok (.iload_n 1, 1) := by decide +kernel
theorem dX8_knownShare_33 : decode cX8_knownShare 33 = .ok (.i2f, 1) := by decide +kernel
theorem dX8_knownShare_34 : decode cX8_knownShare 34 = .ok (.ldc 214, 2) := by decide +kernel
theorem dX8_knownShare_36 : decode cX8_knownShare 36 = .ok (.fdiv, 1) := by decide +kernel
theorem dX8_knownShare_37 : decode cX8_knownShare 37 = .ok (.freturn, 1) := by decide +kernel
theorem dX8_primed_0 : decode cX8_primed 0 = .ok (.iconst 0, 1) := by decide +kernel
theorem dX8_primed_1 : decode cX8_primed 1 = .ok (.istore_n 1, 1) := by decide +kernel
theorem dX8_primed_2 : decode cX8_primed 2 = .ok (.iconst 0, 1) := by decide +kernel
theorem dX8_primed_3 : decode cX8_primed 3 = .ok (.istore_n 2, 1) := by decide +kernel
theorem dX8_primed_4 : decode cX8_primed 4 = .ok (.iload_n 2, 1) := by decide +kernel
theorem dX8_primed_5 : decode cX8_primed 5 = .ok (.aload_n 0, 1) := by decide +kernel
theorem dX8_primed_6 : decode cX8_primed 6 = .ok (.getfield 32, 3) := by decide +kernel
theorem dX8_primed_9 : decode cX8_primed 9 = .ok (.iconst 0, 1) := by decide +kernel
theorem dX8_primed_10 : decode cX8_primed 10 = .ok (.iaload, 1) := by decide +kernel
theorem dX8_primed_11 : decode cX8_primed 11 = .ok (.if_icmp .ge 18, 3) := by decide +kernel
theorem dX8_primed_14 : decode cX8_primed 14 = .ok (.iload_n 1, 1) := by decide +kernel
theorem dX8_primed_15 : decode cX8_primed 15 = .ok (.aload_n 0, 1) := by decide +kernel
theorem dX8_primed_16 : decode cX8_primed 16 = .ok (.iload_n 2, 1) := by decide +kernel
theorem dX8_primed_17 : decode cX8_primed 17 = .ok (.iconst 4, 1) := by decide +kernel
theorem dX8_primed_18 : decode cX8_primed 18 = .ok (.invokevirtual 73, 3) := by decide +kernel
theorem dX8_primed_21 : decode cX8_primed 21 = .ok (.iadd, 1) := by decide +kernel
theorem dX8_primed_22 : decode cX8_primed 22 = .ok (.istore_n 1, 1) := by decide +kernel
theorem dX8_primed_23 : decode cX8_primed 23 = .ok (.iinc 2 1, 3) := by decide +kernel
theorem dX8_primed_26 : decode cX8_primed 26 = .ok (.goto (-22), 3) := by decide +kernel
theorem dX8_primed_29 : decode cX8_primed 29 = .ok (.iload_n 1, 1) := by decide +kernel
theorem dX8_primed_30 : decode cX8_primed 30 = .ok (.ireturn, 1) := by decide +kernel
theorem dX8_account_0 : decode cX8_account 0 = .ok (.iload_n 1, 1) := by decide +kernel
theorem dX8_account_1 : decode cX8_account 1 = .ok (.tableswitch 168 0 13 #[71, 78, 85, 92, 99, 106, 113, 121, 129, 137, 145, 153, 158, 163], 71) := by decide +kernel
theorem dX8_account_72 : decode cX8_account 72 = .ok (.aload_n 0, 1) := by decide +kernel
theorem dX8_account_73 : decode cX8_account 73 = .ok (.getfield 32, 3) := by decide +kernel
theorem dX8_account_76 : decode cX8_account 76 = .ok (.iconst 0, 1) := by decide +kernel
theorem dX8_account_77 : decode cX8_account 77 = .ok (.iaload, 1) := by decide +kernel
theorem dX8_account_78 : decode cX8_account 78 = .ok (.ireturn, 1) := by decide +kernel
theorem dX8_account_79 : decode cX8_account 79 = .ok (.aload_n 0, 1) := by decide +kernel
theorem dX8_account_80 : decode cX8_account 80 = .ok (.getfield 32, 3) := by decide +kernel
theorem dX8_account_83 : decode cX8_account 83 = .ok (.iconst 1, 1) := by decide +kernel
theorem dX8_account_84 : decode cX8_account 84 = .ok (.iaload, 1) := by decide +kernel
theorem dX8_account_85 : decode cX8_account 85 = .ok (.ireturn, 1) := by decide +kernel
theorem dX8_account_86 : decode cX8_account 86 = .ok (.aload_n 0, 1) := by decide +kernel
theorem dX8_account_87 : decode cX8_account 87 = .ok (.getfield 32, 3) := by decide +kernel
theorem dX8_account_90 : decode cX8_account 90 = .ok (.iconst 2, 1) := by decide +kernel
theorem dX8_account_91 : decode cX8_account 91 = .ok (.iaload, 1) := by decide +kernel
theorem dX8_account_92 : decode cX8_account 92 = .ok (.ireturn, 1) := by decide +kernel
theorem dX8_account_93 : decode cX8_account 93 = .ok (.aload_n 0, 1) := by decide +kernel
theorem dX8_account_94 : decode cX8_account 94 = .ok (.getfield 32, 3) := by decide +kernel
theorem dX8_account_97 : decode cX8_account 97 = .ok (.iconst 3, 1) := by decide +kernel
theorem dX8_account_98 : decode cX8_account 98 = .ok (.iaload, 1) := by decide +kernel
theorem dX8_account_99 : decode cX8_account 99 = .ok (.ireturn, 1) := by decide +kernel
theorem dX8_account_100 : decode cX8_account 100 = .ok (.aload_n 0, 1) := by decide +kernel
theorem dX8_account_101 : decode cX8_account 101 = .ok (.getfield 32, 3) := by decide +kernel
theorem dX8_account_104 : decode cX8_account 104 = .ok (.iconst 4, 1) := by decide +kernel
theorem dX8_account_105 : decode cX8_account 105 = .ok (.iaload, 1) := by decide +kernel
theorem dX8_account_106 : decode cX8_account 106 = .ok (.ireturn, 1) := by decide +kernel
theorem dX8_account_107 : decode cX8_account 107 = .ok (.aload_n 0, 1) := by decide +kernel
theorem dX8_account_108 : decode cX8_account 108 = .ok (.getfield 32, 3) := by decide +kernel
theorem dX8_account_111 : decode cX8_account 111 = .ok (.iconst 5, 1) := by decide +kernel
theorem dX8_account_112 : decode cX8_account 112 = .ok (.iaload, 1) := by decide +kernel
theorem dX8_account_113 : decode cX8_account 113 = .ok (.ireturn, 1) := by decide +kernel
theorem dX8_account_114 : decode cX8_account 114 = .ok (.aload_n 0, 1) := by decide +kernel
theorem dX8_account_115 : decode cX8_account 115 = .ok (.getfield 32, 3) := by decide +kernel
theorem dX8_account_118 : decode cX8_account 118 = .ok (.bipush 6, 2) := by decide +kernel
theorem dX8_account_120 : decode cX8_account 120 = .ok (.iaload, 1) := by decide +kernel
theorem dX8_account_121 : decode cX8_account 121 = .ok (.ireturn, 1) := by decide +kernel
theorem dX8_account_122 : decode cX8_account 122 = .ok (.aload_n 0, 1) := by decide +kernel
theorem dX8_account_123 : decode cX8_account 123 = .ok (.getfield 32, 3) := by decide +kernel
theorem dX8_account_126 : decode cX8_account 126 = .ok (.bipush 7, 2) := by decide +kernel
theorem dX8_account_128 : decode cX8_account 128 = .ok (.iaload, 1) := by decide +kernel
theorem dX8_account_129 : decode cX8_account 129 = .ok (.ireturn, 1) := by decide +kernel
theorem dX8_account_130 : decode cX8_account 130 = .ok (.aload_n 0, 1) := by decide +kernel
theorem dX8_account_131 : decode cX8_account 131 = .ok (.getfield 32, 3) := by decide +kernel
theorem dX8_account_134 : decode cX8_account 134 = .ok (.bipush 8, 2) := by decide +kernel
theorem dX8_account_136 : decode cX8_account 136 = .ok (.iaload, 1) := by decide +kernel
theorem dX8_account_137 : decode cX8_account 137 = .ok (.ireturn, 1) := by decide +kernel
theorem dX8_account_138 : decode cX8_account 138 = .ok (.aload_n 0, 1) := by decide +kernel
theorem dX8_account_139 : decode cX8_account 139 = .ok (.getfield 32, 3) := by decide +kernel
theorem dX8_account_142 : decode cX8_account 142 = .ok (.bipush 9, 2) := by decide +kernel
theorem dX8_account_144 : decode cX8_account 144 = .ok (.iaload, 1) := by decide +kernel
theorem dX8_account_145 : decode cX8_account 145 = .ok (.ireturn, 1) := by decide +kernel
theorem dX8_account_146 : decode cX8_account 146 = .ok (.aload_n 0, 1) := by decide +kernel
theorem dX8_account_147 : decode cX8_account 147 = .ok (.getfield 32, 3) := by decide +kernel
theorem dX8_account_150 : decode cX8_account 150 = .ok (.bipush 10, 2) := by decide +kernel
theorem dX8_account_152 : decode cX8_account 152 = .ok (.iaload, 1) := by decide +kernel
theorem dX8_account_153 : decode cX8_account 153 = .ok (.ireturn, 1) := by decide +kernel
theorem dX8_account_154 : decode cX8_account 154 = .ok (.aload_n 0, 1) := by decide +kernel
theorem dX8_account_155 : decode cX8_account 155 = .ok (.invokevirtual 215, 3) := by decide +kernel
theorem dX8_account_158 : decode cX8_account 158 = .ok (.ireturn, 1) := by decide +kernel
theorem dX8_account_159 : decode cX8_account 159 = .ok (.aload_n 0, 1) := by decide +kernel
theorem dX8_account_160 : decode cX8_account 160 = .ok (.getfield 218, 3) := by decide +kernel
theorem dX8_account_163 : decode cX8_account 163 = .ok (.ireturn, 1) := by decide +kernel
theorem dX8_account_164 : decode cX8_account 164 = .ok (.aload_n 0, 1) := by decide +kernel
theorem dX8_account_165 : decode cX8_account 165 = .ok (.getfield 61, 3) := by decide +kernel
theorem dX8_account_168 : decode cX8_account 168 = .ok (.ireturn, 1) := by decide +kernel
theorem dX8_account_169 : decode cX8_account 169 = .ok (.bipush (-2), 2) := by decide +kernel
theorem dX8_account_171 : decode cX8_account 171 = .ok (.ireturn, 1) := by decide +kernel
theorem dX8_writes_0 : decode cX8_writes 0 = .ok (.aload_n 0, 1) := by decide +kernel
theorem dX8_writes_1 : decode cX8_writes 1 = .ok (.getfield 48, 3) := by decide +kernel
theorem dX8_writes_4 : decode cX8_writes 4 = .ok (.aload_n 0, 1) := by decide +kernel
theorem dX8_writes_5 : decode cX8_writes 5 = .ok (.getfield 221, 3) := by decide +kernel
theorem dX8_writes_8 : decode cX8_writes 8 = .ok (.iload_n 1, 1) := by decide +kernel
theorem dX8_writes_9 : decode cX8_writes 9 = .ok (.i2c, 1) := by decide +kernel
theorem dX8_writes_10 : decode cX8_writes 10 = .ok (.castore, 1) := by decide +kernel
theorem dX8_writes_11 : decode cX8_writes 11 = .ok (.aload_n 0, 1) := by decide +kernel
theorem dX8_writes_12 : decode cX8_writes 12 = .ok (.dup, 1) := by decide +kernel
theorem dX8_writes_13 : decode cX8_writes 13 = .ok (.getfield 221, 3) := by decide +kernel
theorem dX8_writes_16 : decode cX8_writes 16 = .ok (.iconst 1, 1) := by decide +kernel
theorem dX8_writes_17 : decode cX8_writes 17 = .ok (.iadd, 1) := by decide +kernel
theorem dX8_writes_18 : decode cX8_writes 18 = .ok (.putfield 221, 3) := by decide +kernel
theorem dX8_writes_21 : decode cX8_writes 21 = .ok (.return_, 1) := by decide +kernel
theorem dX8_writesNumber_0 : decode cX8_writesNumber 0 = .ok (.iload_n 1, 1) := by decide +kernel
theorem dX8_writesNumber_1 : decode cX8_writesNumber 1 = .ok (.bipush 9, 2) := by decide +kernel
theorem dX8_writesNumber_3 : decode cX8_writesNumber 3 = .ok (.if_icmp .le 14, 3) := by decide +kernel
theorem dX8_writesNumber_6 : decode cX8_writesNumber 6 = .ok (.aload_n 0, 1) := by decide +kernel
theorem dX8_writesNumber_7 : decode cX8_writesNumber 7 = .ok (.bipush 48, 2) := by decide +kernel
theorem dX8_writesNumber_9 : decode cX8_writesNumber 9 = .ok (.iload_n 1, 1) := by decide +kernel
theorem dX8_writesNumber_10 : decode cX8_writesNumber 10 = .ok (.bipush 10, 2) := by decide +kernel
theorem dX8_writesNumber_12 : decode cX8_writesNumber 12 = .ok (.idiv, 1) := by decide +kernel
theorem dX8_writesNumber_13 : decode cX8_writesNumber 13 = .ok (.iadd, 1) := by decide +kernel
theorem dX8_writesNumber_14 : decode cX8_writesNumber 14 = .ok (.invokevirtual 224, 3) := by decide +kernel
theorem dX8_writesNumber_17 : decode cX8_writesNumber 17 = .ok (.aload_n 0, 1) := by decide +kernel
theorem dX8_writesNumber_18 : decode cX8_writesNumber 18 = .ok (.bipush 48, 2) := by decide +kernel
theorem dX8_writesNumber_20 : decode cX8_writesNumber 20 = .ok (.iload_n 1, 1) := by decide +kernel
theorem dX8_writesNumber_21 : decode cX8_writesNumber 21 = .ok (.bipush 10, 2) := by decide +kernel
theorem dX8_writesNumber_23 : decode cX8_writesNumber 23 = .ok (.irem, 1) := by decide +kernel
theorem dX8_writesNumber_24 : decode cX8_writesNumber 24 = .ok (.iadd, 1) := by decide +kernel
theorem dX8_writesNumber_25 : decode cX8_writesNumber 25 = .ok (.invokevirtual 224, 3) := by decide +kernel
theorem dX8_writesNumber_28 : decode cX8_writesNumber 28 = .ok (.return_, 1) := by decide +kernel
theorem dX8_writesJoke_0 : decode cX8_writesJoke 0 = .ok (.aload_n 0, 1) := by decide +kernel
theorem dX8_writesJoke_1 : decode cX8_writesJoke 1 = .ok (.bipush 32, 2) := by decide +kernel
theorem dX8_writesJoke_3 : decode cX8_writesJoke 3 = .ok (.invokevirtual 224, 3) := by decide +kernel
theorem dX8_writesJoke_6 : decode cX8_writesJoke 6 = .ok (.aload_n 0, 1) := by decide +kernel
theorem dX8_writesJoke_7 : decode cX8_writesJoke 7 = .ok (.aload_n 0, 1) := by decide +kernel
theorem dX8_writesJoke_8 : decode cX8_writesJoke 8 = .ok (.iload_n 1, 1) := by decide +kernel
theorem dX8_writesJoke_9 : decode cX8_writesJoke 9 = .ok (.iconst 1, 1) := by decide +kernel
theorem dX8_writesJoke_10 : decode cX8_writesJoke 10 = .ok (.invokevirtual 73, 3) := by decide +kernel
theorem dX8_writesJoke_13 : decode cX8_writesJoke 13 = .ok (.invokevirtual 227, 3) := by decide +kernel
theorem dX8_writesJoke_16 : decode cX8_writesJoke 16 = .ok (.aload_n 0, 1) := by decide +kernel
theorem dX8_writesJoke_17 : decode cX8_writesJoke 17 = .ok (.bipush 58, 2) := by decide +kernel
theorem dX8_writesJoke_19 : decode cX8_writesJoke 19 = .ok (.invokevirtual 224, 3) := by decide +kernel
theorem dX8_writesJoke_22 : decode cX8_writesJoke 22 = .ok (.aload_n 0, 1) := by decide +kernel
theorem dX8_writesJoke_23 : decode cX8_writesJoke 23 = .ok (.aload_n 0, 1) := by decide +kernel
theorem dX8_writesJoke_24 : decode cX8_writesJoke 24 = .ok (.iload_n 1, 1) := by decide +kernel
theorem dX8_writesJoke_25 : decode cX8_writesJoke 25 = .ok (.iconst 2, 1) := by decide +kernel
theorem dX8_writesJoke_26 : decode cX8_writesJoke 26 = .ok (.invokevirtual 73, 3) := by decide +kernel
theorem dX8_writesJoke_29 : decode cX8_writesJoke 29 = .ok (.invokevirtual 227, 3) := by decide +kernel
theorem dX8_writesJoke_32 : decode cX8_writesJoke 32 = .ok (.aload_n 0, 1) := by decide +kernel
theorem dX8_writesJoke_33 : decode cX8_writesJoke 33 = .ok (.iload_n 1, 1) := by decide +kernel
theorem dX8_writesJoke_34 : decode cX8_writesJoke 34 = .ok (.iconst 4, 1) := by decide +kernel
theorem dX8_writesJoke_35 : decode cX8_writesJoke 35 = .ok (.invokevirtual 73, 3) := by decide +kernel
theorem dX8_writesJoke_38 : decode cX8_writesJoke 38 = .ok (.iconst 1, 1) := by decide +kernel
theorem dX8_writesJoke_39 : decode cX8_writesJoke 39 = .ok (.if_icmp .ne 9, 3) := by decide +kernel
theorem dX8_writesJoke_42 : decode cX8_writesJoke 42 = .ok (.aload_n 0, 1) := by decide +kernel
theorem dX8_writesJoke_43 : decode cX8_writesJoke 43 = .ok (.bipush 33, 2) := by decide +kernel
theorem dX8_writesJoke_45 : decode cX8_writesJoke 45 = .ok (.invokevirtual 224, 3) := by decide +kernel
theorem dX8_writesJoke_48 : decode cX8_writesJoke 48 = .ok (.return_, 1) := by decide +kernel
theorem dX8_write_0 : decode cX8_write 0 = .ok (.iload_n 1, 1) := by decide +kernel
theorem dX8_write_1 : decode cX8_write 1 = .ok (.invokestatic 81, 3) := by decide +kernel
theorem dX8_write_4 : decode cX8_write 4 = .ok (.ifCond .ne 5, 3) := by decide +kernel
theorem dX8_write_7 : decode cX8_write 7 = .ok (.iconst (-1), 1) := by decide +kernel
theorem dX8_write_8 : decode cX8_write 8 = .ok (.ireturn, 1) := by decide +kernel
theorem dX8_write_9 : decode cX8_write 9 = .ok (.aload_n 0, 1) := by decide +kernel
theorem dX8_write_10 : decode cX8_write 10 = .ok (.iconst 0, 1) := by decide +kernel
theorem dX8_write_11 : decode cX8_write 11 = .ok (.putfield 221, 3) := by decide +kernel
theorem dX8_write_14 : decode cX8_write 14 = .ok (.aload_n 0, 1) := by decide +kernel
theorem dX8_write_15 : decode cX8_write 15 = .ok (.bipush 48, 2) := by decide +kernel
theorem dX8_write_17 : decode cX8_write 17 = .ok (.iload_n 1, 1) := by decide +kernel
theorem dX8_write_18 : decode cX8_write 18 = .ok (.iadd, 1) := by decide +kernel
theorem dX8_write_19 : decode cX8_write 19 = .ok (.invokevirtual 224, 3) := by decide +kernel
theorem dX8_write_22 : decode cX8_write 22 = .ok (.aload_n 0, 1) := by decide +kernel
theorem dX8_write_23 : decode cX8_write 23 = .ok (.bipush 117, 2) := by decide +kernel
theorem dX8_write_25 : decode cX8_write 25 = .ok (.invokevirtual 224, 3) := by decide +kernel
theorem dX8_write_28 : decode cX8_write 28 = .ok (.aload_n 0, 1) := by decide +kernel
theorem dX8_write_29 : decode cX8_write 29 = .ok (.bipush 48, 2) := by decide +kernel
theorem dX8_write_31 : decode cX8_write 31 = .ok (.aload_n 0, 1) := by decide +kernel
theorem dX8_write_32 : decode cX8_write 32 = .ok (.getfield 32, 3) := by decide +kernel
theorem dX8_write_35 : decode cX8_write 35 = .ok (.bipush 14, 2) := by decide +kernel
theorem dX8_write_37 : decode cX8_write 37 = .ok (.iload_n 1, 1) := by decide +kernel
theorem dX8_write_38 : decode cX8_write 38 = .ok (.iadd, 1) := by decide +kernel
theorem dX8_write_39 : decode cX8_write 39 = .ok (.iaload, 1) := by decide +kernel
theorem dX8_write_40 : decode cX8_write 40 = .ok (.iadd, 1) := by decide +kernel
theorem dX8_write_41 : decode cX8_write 41 = .ok (.invokevirtual 224, 3) := by decide +kernel
theorem dX8_write_44 : decode cX8_write 44 = .ok (.iconst 0, 1) := by decide +kernel
theorem dX8_write_45 : decode cX8_write 45 = .ok (.istore_n 2, 1) := by decide +kernel
theorem dX8_write_46 : decode cX8_write 46 = .ok (.iload_n 2, 1) := by decide +kernel
theorem dX8_write_47 : decode cX8_write 47 = .ok (.aload_n 0, 1) := by decide +kernel
theorem dX8_write_48 : decode cX8_write 48 = .ok (.iload_n 1, 1) := by decide +kernel
theorem dX8_write_49 : decode cX8_write 49 = .ok (.invokevirtual 97, 3) := by decide +kernel
theorem dX8_write_52 : decode cX8_write 52 = .ok (.if_icmp .ge 19, 3) := by decide +kernel
theorem dX8_write_55 : decode cX8_write 55 = .ok (.aload_n 0, 1) := by decide +kernel
theorem dX8_write_56 : decode cX8_write 56 = .ok (.aload_n 0, 1) := by decide +kernel
theorem dX8_write_57 : decode cX8_write 57 = .ok (.iload_n 1, 1) := by decide +kernel
theorem dX8_write_58 : decode cX8_write 58 = .ok (.iload_n 2, 1) := by decide +kernel
theorem dX8_write_59 : decode cX8_write 59 = .ok (.invokevirtual 172, 3) := by decide +kernel
theorem dX8_write_62 : decode cX8_write 62 = .ok (.invokevirtual 230, 3) := by decide +kernel
theorem dX8_write_65 : decode cX8_write 65 = .ok (.iinc 2 1, 3) := by decide +kernel
theorem dX8_write_68 : decode cX8_write 68 = .ok (.goto (-22), 3) := by decide +kernel
theorem dX8_write_71 : decode cX8_write 71 = .ok (.aload_n 0, 1) := by decide +kernel
theorem dX8_write_72 : decode cX8_write 72 = .ok (.getfield 221, 3) := by decide +kernel
theorem dX8_write_75 : decode cX8_write 75 = .ok (.ireturn, 1) := by decide +kernel
theorem dX8_writePump_0 : decode cX8_writePump 0 = .ok (.aload_n 0, 1) := by decide +kernel
theorem dX8_writePump_1 : decode cX8_writePump 1 = .ok (.iconst 0, 1) := by decide +kernel
theorem dX8_writePump_2 : decode cX8_writePump 2 = .ok (.putfield 221, 3) := by decide +kernel
theorem dX8_writePump_5 : decode cX8_writePump 5 = .ok (.aload_n 0, 1) := by decide +kernel
theorem dX8_writePump_6 : decode cX8_writePump 6 = .ok (.bipush 64, 2) := by decide +kernel
theorem dX8_writePump_8 : decode cX8_writePump 8 = .ok (.invokevirtual 224, 3) := by decide +kernel
theorem dX8_writePump_11 : decode cX8_writePump 11 = .ok (.aload_n 0, 1) := by decide +kernel
theorem dX8_writePump_12 : decode cX8_writePump 12 = .ok (.bipush 48, 2) := by decide +kernel
theorem dX8_writePump_14 : decode cX8_writePump 14 = .ok (.aload_n 0, 1) := by decide +kernel
theorem dX8_writePump_15 : decode cX8_writePump 15 = .ok (.getfield 32, 3) := by decide +kernel
theorem dX8_writePump_18 : decode cX8_writePump 18 = .ok (.iconst 1, 1) := by decide +kernel
theorem dX8_writePump_19 : decode cX8_writePump 19 = .ok (.iaload, 1) := by decide +kernel
theorem dX8_writePump_20 : decode cX8_writePump 20 = .ok (.iadd, 1) := by decide +kernel
theorem dX8_writePump_21 : decode cX8_writePump 21 = .ok (.invokevirtual 224, 3) := by decide +kernel
theorem dX8_writePump_24 : decode cX8_writePump 24 = .ok (.aload_n 0, 1) := by decide +kernel
theorem dX8_writePump_25 : decode cX8_writePump 25 = .ok (.bipush 94, 2) := by decide +kernel
theorem dX8_writePump_27 : decode cX8_writePump 27 = .ok (.invokevirtual 224, 3) := by decide +kernel
theorem dX8_writePump_30 : decode cX8_writePump 30 = .ok (.aload_n 0, 1) := by decide +kernel
theorem dX8_writePump_31 : decode cX8_writePump 31 = .ok (.aload_n 0, 1) := by decide +kernel
theorem dX8_writePump_32 : decode cX8_writePump 32 = .ok (.getfield 32, 3) := by decide +kernel
theorem dX8_writePump_35 : decode cX8_writePump 35 = .ok (.iconst 2, 1) := by decide +kernel
theorem dX8_writePump_36 : decode cX8_writePump 36 = .ok (.iaload, 1) := by decide +kernel
theorem dX8_writePump_37 : decode cX8_writePump 37 = .ok (.invokevirtual 227, 3) := by decide +kernel
theorem dX8_writePump_40 : decode cX8_writePump 40 = .ok (.aload_n 0, 1) := by decide +kernel
theorem dX8_writePump_41 : decode cX8_writePump 41 = .ok (.bipush 126, 2) := by decide +kernel
theorem dX8_writePump_43 : decode cX8_writePump 43 = .ok (.invokevirtual 224, 3) := by decide +kernel
theorem dX8_writePump_46 : decode cX8_writePump 46 = .ok (.aload_n 0, 1) := by decide +kernel
theorem dX8_writePump_47 : decode cX8_writePump 47 = .ok (.aload_n 0, 1) := by decide +kernel
theorem dX8_writePump_48 : decode cX8_writePump 48 = .ok (.getfield 32, 3) := by decide +kernel
theorem dX8_writePump_51 : decode cX8_writePump 51 = .ok (.iconst 3, 1) := by decide +kernel
theorem dX8_writePump_52 : decode cX8_writePump 52 = .ok (.iaload, 1) := by decide +kernel
theorem dX8_writePump_53 : decode cX8_writePump 53 = .ok (.invokevirtual 227, 3) := by decide +kernel
theorem dX8_writePump_56 : decode cX8_writePump 56 = .ok (.aload_n 0, 1) := by decide +kernel
theorem dX8_writePump_57 : decode cX8_writePump 57 = .ok (.bipush 111, 2) := by decide +kernel
theorem dX8_writePump_59 : decode cX8_writePump 59 = .ok (.invokevirtual 224, 3) := by decide +kernel
theorem dX8_writePump_62 : decode cX8_writePump 62 = .ok (.aload_n 0, 1) := by decide +kernel
theorem dX8_writePump_63 : decode cX8_writePump 63 = .ok (.aload_n 0, 1) := by decide +kernel
theorem dX8_writePump_64 : decode cX8_writePump 64 = .ok (.getfield 32, 3) := by decide +kernel
theorem dX8_writePump_67 : decode cX8_writePump 67 = .ok (.iconst 4, 1) := by decide +kernel
theorem dX8_writePump_68 : decode cX8_writePump 68 = .ok (.iaload, 1) := by decide +kernel
theorem dX8_writePump_69 : decode cX8_writePump 69 = .ok (.invokevirtual 227, 3) := by decide +kernel
theorem dX8_writePump_72 : decode cX8_writePump 72 = .ok (.aload_n 0, 1) := by decide +kernel
theorem dX8_writePump_73 : decode cX8_writePump 73 = .ok (.bipush 42, 2) := by decide +kernel
theorem dX8_writePump_75 : decode cX8_writePump 75 = .ok (.invokevirtual 224, 3) := by decide +kernel
theorem dX8_writePump_78 : decode cX8_writePump 78 = .ok (.aload_n 0, 1) := by decide +kernel
theorem dX8_writePump_79 : decode cX8_writePump 79 = .ok (.bipush 48, 2) := by decide +kernel
theorem dX8_writePump_81 : decode cX8_writePump 81 = .ok (.aload_n 0, 1) := by decide +kernel
theorem dX8_writePump_82 : decode cX8_writePump 82 = .ok (.getfield 32, 3) := by decide +kernel
theorem dX8_writePump_85 : decode cX8_writePump 85 = .ok (.iconst 5, 1) := by decide +kernel
theorem dX8_writePump_86 : decode cX8_writePump 86 = .ok (.iaload, 1) := by decide +kernel
theorem dX8_writePump_87 : decode cX8_writePump 87 = .ok (.iadd, 1) := by decide +kernel
theorem dX8_writePump_88 : decode cX8_writePump 88 = .ok (.invokevirtual 224, 3) := by decide +kernel
theorem dX8_writePump_91 : decode cX8_writePump 91 = .ok (.aload_n 0, 1) := by decide +kernel
theorem dX8_writePump_92 : decode cX8_writePump 92 = .ok (.getfield 221, 3) := by decide +kernel
theorem dX8_writePump_95 : decode cX8_writePump 95 = .ok (.ireturn, 1) := by decide +kernel
theorem dX8_written_0 : decode cX8_written 0 = .ok (.iload_n 1, 1) := by decide +kernel
theorem dX8_written_1 : decode cX8_written 1 = .ok (.iconst 0, 1) := by decide +kernel
theorem dX8_written_2 : decode cX8_written 2 = .ok (.aload_n 0, 1) := by decide +kernel
theorem dX8_written_3 : decode cX8_written 3 = .ok (.getfield 221, 3) := by decide +kernel
theorem dX8_written_6 : decode cX8_written 6 = .ok (.iconst 1, 1) := by decide +kernel
theorem dX8_written_7 : decode cX8_written 7 = .ok (.isub, 1) := by decide +kernel
theorem dX8_written_8 : decode cX8_written 8 = .ok (.invokestatic 19, 3) := by decide +kernel
theorem dX8_written_11 : decode cX8_written 11 = .ok (.ifCond .eq 12, 3) := by decide +kernel
theorem dX8_written_14 : decode cX8_written 14 = .ok (.aload_n 0, 1) := by decide +kernel
theorem dX8_written_15 : decode cX8_written 15 = .ok (.getfield 48, 3) := by decide +kernel
theorem dX8_written_18 : decode cX8_written 18 = .ok (.iload_n 1, 1) := by decide +kernel
theorem dX8_written_19 : decode cX8_written 19 = .ok (.caload, 1) := by decide +kernel
theorem dX8_written_20 : decode cX8_written 20 = .ok (.goto 4, 3) := by decide +kernel
theorem dX8_written_23 : decode cX8_written 23 = .ok (.iconst (-1), 1) := by decide +kernel
theorem dX8_written_24 : decode cX8_written 24 = .ok (.ireturn, 1) := by decide +kernel
theorem dX8_append_0 : decode cX8_append 0 = .ok (.iload_n 1, 1) := by decide +kernel
theorem dX8_append_1 : decode cX8_append 1 = .ok (.bipush 32, 2) := by decide +kernel
theorem dX8_append_3 : decode cX8_append 3 = .ok (.bipush 126, 2) := by decide +kernel
theorem dX8_append_5 : decode cX8_append 5 = .ok (.invokestatic 19, 3) := by decide +kernel
theorem dX8_append_8 : decode cX8_append 8 = .ok (.ifCond .ne 6, 3) := by decide +kernel
theorem dX8_append_11 : decode cX8_append 11 = .ok (.bipush (-2), 2) := by decide +kernel
theorem dX8_append_13 : decode cX8_append 13 = .ok (.ireturn, 1) := by decide +kernel
theorem dX8_append_14 : decode cX8_append 14 = .ok (.aload_n 0, 1) := by decide +kernel
theorem dX8_append_15 : decode cX8_append 15 = .ok (.getfield 218, 3) := by decide +kernel
theorem dX8_append_18 : decode cX8_append 18 = .ok (.bipush 60, 2) := by decide +kernel
theorem dX8_append_20 : decode cX8_append 20 = .ok (.if_icmp .ne 6, 3) := by decide +kernel
theorem dX8_append_23 : decode cX8_append 23 = .ok (.bipush (-4), 2) := by decide +kernel
theorem dX8_append_25 : decode cX8_append 25 = .ok (.ireturn, 1) := by decide +kernel
theorem dX8_append_26 : decode cX8_append 26 = .ok (.aload_n 0, 1) := by decide +kernel
theorem dX8_append_27 : decode cX8_append 27 = .ok (.getfield 52, 3) := by decide +kernel
theorem dX8_append_30 : decode cX8_append 30 = .ok (.aload_n 0, 1) := by decide +kernel
theorem dX8_append_31 : decode cX8_append 31 = .ok (.getfield 218, 3) := by decide +kernel
theorem dX8_append_34 : decode cX8_append 34 = .ok (.iload_n 1, 1) := by decide +kernel
theorem dX8_append_35 : decode cX8_append 35 = .ok (.castore, 1) := by decide +kernel
theorem dX8_append_36 : decode cX8_append 36 = .ok (.aload_n 0, 1) := by decide +kernel
theorem dX8_append_37 : decode cX8_append 37 = .ok (.dup, 1) := by decide +kernel
theorem dX8_append_38 : decode cX8_append 38 = .ok (.getfield 218, 3) := by decide +kernel
theorem dX8_append_41 : decode cX8_append 41 = .ok (.iconst 1, 1) := by decide +kernel
theorem dX8_append_42 : decode cX8_append 42 = .ok (.iadd, 1) := by decide +kernel
theorem dX8_append_43 : decode cX8_append 43 = .ok (.putfield 218, 3) := by decide +kernel
theorem dX8_append_46 : decode cX8_append 46 = .ok (.aload_n 0, 1) := by decide +kernel
theorem dX8_append_47 : decode cX8_append 47 = .ok (.getfield 218, 3) := by decide +kernel
theorem dX8_append_50 : decode cX8_append 50 = .ok (.ireturn, 1) := by decide +kernel
theorem dX8_fault_0 : decode cX8_fault 0 = .ok (.aload_n 0, 1) := by decide +kernel
theorem dX8_fault_1 : decode cX8_fault 1 = .ok (.getfield 55, 3) := by decide +kernel
theorem dX8_fault_4 : decode cX8_fault 4 = .ok (.ifCond .ge 8, 3) := by decide +kernel
theorem dX8_fault_7 : decode cX8_fault 7 = .ok (.bipush (-3), 2) := by decide +kernel
theorem dX8_fault_9 : decode cX8_fault 9 = .ok (.goto 7, 3) := by decide +kernel
theorem dX8_fault_12 : decode cX8_fault 12 = .ok (.aload_n 0, 1) := by decide +kernel
theorem dX8_fault_13 : decode cX8_fault 13 = .ok (.getfield 55, 3) := by decide +kernel
theorem dX8_fault_16 : decode cX8_fault 16 = .ok (.ireturn, 1) := by decide +kernel
theorem dX8_nextSign_0 : decode cX8_nextSign 0 = .ok (.aload_n 0, 1) := by decide +kernel
theorem dX8_nextSign_1 : decode cX8_nextSign 1 = .ok (.getfield 233, 3) := by decide +kernel
theorem dX8_nextSign_4 : decode cX8_nextSign 4 = .ok (.aload_n 0, 1) := by decide +kernel
theorem dX8_nextSign_5 : decode cX8_nextSign 5 = .ok (.getfield 218, 3) := by decide +kernel
theorem dX8_nextSign_8 : decode cX8_nextSign 8 = .ok (.if_icmp .ge 15, 3) := by decide +kernel
theorem dX8_nextSign_11 : decode cX8_nextSign 11 = .ok (.aload_n 0, 1) := by decide +kernel
theorem dX8_nextSign_12 : decode cX8_nextSign 12 = .ok (.getfield 52, 3) := by decide +kernel
theorem dX8_nextSign_15 : decode cX8_nextSign 15 = .ok (.aload_n 0, 1) := by decide +kernel
theorem dX8_nextSign_16 : decode cX8_nextSign 16 = .ok (.getfield 233, 3) := by decide +kernel
theorem dX8_nextSign_19 : decode cX8_nextSign 19 = .ok (.caload, 1) := by decide +kernel
theorem dX8_nextSign_20 : decode cX8_nextSign 20 = .ok (.goto 4, 3) := by decide +kernel
theorem dX8_nextSign_23 : decode cX8_nextSign 23 = .ok (.iconst (-1), 1) := by decide +kernel
theorem dX8_nextSign_24 : decode cX8_nextSign 24 = .ok (.ireturn, 1) := by decide +kernel
theorem dX8_reads_0 : decode cX8_reads 0 = .ok (.aload_n 0, 1) := by decide +kernel
theorem dX8_reads_1 : decode cX8_reads 1 = .ok (.invokevirtual 236, 3) := by decide +kernel
theorem dX8_reads_4 : decode cX8_reads 4 = .ok (.iload_n 1, 1) := by decide +kernel
theorem dX8_reads_5 : decode cX8_reads 5 = .ok (.if_icmp .eq 5, 3) := by decide +kernel
theorem dX8_reads_8 : decode cX8_reads 8 = .ok (.iconst 0, 1) := by decide +kernel
theorem dX8_reads_9 : decode cX8_reads 9 = .ok (.ireturn, 1) := by decide +kernel
theorem dX8_reads_10 : decode cX8_reads 10 = .ok (.aload_n 0, 1) := by decide +kernel
theorem dX8_reads_11 : decode cX8_reads 11 = .ok (.dup, 1) := by decide +kernel
theorem dX8_reads_12 : decode cX8_reads 12 = .ok (.getfield 233, 3) := by decide +kernel
theorem dX8_reads_15 : decode cX8_reads 15 = .ok (.iconst 1, 1) := by decide +kernel
theorem dX8_reads_16 : decode cX8_reads 16 = .ok (.iadd, 1) := by decide +kernel
theorem dX8_reads_17 : decode cX8_reads 17 = .ok (.putfield 233, 3) := by decide +kernel
theorem dX8_reads_20 : decode cX8_reads 20 = .ok (.iconst 1, 1) := by decide +kernel
theorem dX8_reads_21 : decode cX8_reads 21 = .ok (.ireturn, 1) := by decide +kernel
theorem dX8_readsDigit_0 : decode cX8_readsDigit 0 = .ok (.aload_n 0, 1) := by decide +kernel
theorem dX8_readsDigit_1 : decode cX8_readsDigit 1 = .ok (.invokevirtual 236, 3) := by decide +kernel
theorem dX8_readsDigit_4 : decode cX8_readsDigit 4 = .ok (.bipush 48, 2) := by decide +kernel
theorem dX8_readsDigit_6 : decode cX8_readsDigit 6 = .ok (.bipush 57, 2) := by decide +kernel
theorem dX8_readsDigit_8 : decode cX8_readsDigit 8 = .ok (.invokestatic 19, 3) := by decide +kernel
theorem dX8_readsDigit_11 : decode cX8_readsDigit 11 = .ok (.ifCond .ne 5, 3) := by decide +kernel
theorem dX8_readsDigit_14 : decode cX8_readsDigit 14 = .ok (.iconst 0, 1) := by decide +kernel
theorem dX8_readsDigit_15 : decode cX8_readsDigit 15 = .ok (.ireturn, 1) := by decide +kernel
theorem dX8_readsDigit_16 : decode cX8_readsDigit 16 = .ok (.aload_n 0, 1) := by decide +kernel
theorem dX8_readsDigit_17 : decode cX8_readsDigit 17 = .ok (.getfield 58, 3) := by decide +kernel
theorem dX8_readsDigit_20 : decode cX8_readsDigit 20 = .ok (.iload_n 1, 1) := by decide +kernel
theorem dX8_readsDigit_21 : decode cX8_readsDigit 21 = .ok (.aload_n 0, 1) := by decide +kernel
theorem dX8_readsDigit_22 : decode cX8_readsDigit 22 = .ok (.invokevirtual 236, 3) := by decide +kernel
theorem dX8_readsDigit_25 : decode cX8_readsDigit 25 = .ok (.bipush 48, 2) := by decide +kernel
theorem dX8_readsDigit_27 : decode cX8_readsDigit 27 = .ok (.isub, 1) := by decide +kernel
theorem dX8_readsDigit_28 : decode cX8_readsDigit 28 = .ok (.iastore, 1) := by decide +kernel
theorem dX8_readsDigit_29 : decode cX8_readsDigit 29 = .ok (.aload_n 0, 1) := by decide +kernel
theorem dX8_readsDigit_30 : decode cX8_readsDigit 30 = .ok (.dup, 1) := by decide +kernel
theorem dX8_readsDigit_31 : decode cX8_readsDigit 31 = .ok (.getfield 233, 3) := by decide +kernel
theorem dX8_readsDigit_34 : decode cX8_readsDigit 34 = .ok (.iconst 1, 1) := by decide +kernel
theorem dX8_readsDigit_35 : decode cX8_readsDigit 35 = .ok (.iadd, 1) := by decide +kernel
theorem dX8_readsDigit_36 : decode cX8_readsDigit 36 = .ok (.putfield 233, 3) := by decide +kernel
theorem dX8_readsDigit_39 : decode cX8_readsDigit 39 = .ok (.iconst 1, 1) := by decide +kernel
theorem dX8_readsDigit_40 : decode cX8_readsDigit 40 = .ok (.ireturn, 1) := by decide +kernel
theorem dX8_readsNumber_0 : decode cX8_readsNumber 0 = .ok (.aload_n 0, 1) := by decide +kernel
theorem dX8_readsNumber_1 : decode cX8_readsNumber 1 = .ok (.iload_n 1, 1) := by decide +kernel
theorem dX8_readsNumber_2 : decode cX8_readsNumber 2 = .ok (.invokevirtual 239, 3) := by decide +kernel
theorem dX8_readsNumber_5 : decode cX8_readsNumber 5 = .ok (.ifCond .ne 5, 3) := by decide +kernel
theorem dX8_readsNumber_8 : decode cX8_readsNumber 8 = .ok (.iconst 0, 1) := by decide +kernel
theorem dX8_readsNumber_9 : decode cX8_readsNumber 9 = .ok (.ireturn, 1) := by decide +kernel
theorem dX8_readsNumber_10 : decode cX8_readsNumber 10 = .ok (.aload_n 0, 1) := by decide +kernel
theorem dX8_readsNumber_11 : decode cX8_readsNumber 11 = .ok (.invokevirtual 236, 3) := by decide +kernel
theorem dX8_readsNumber_14 : decode cX8_readsNumber 14 = .ok (.bipush 48, 2) := by decide +kernel
theorem dX8_readsNumber_16 : decode cX8_readsNumber 16 = .ok (.bipush 57, 2) := by decide +kernel
theorem dX8_readsNumber_18 : decode cX8_readsNumber 18 = .ok (.invokestatic 19, 3) := by decide +kernel
theorem dX8_readsNumber_21 : decode cX8_readsNumber 21 = .ok (.ifCond .ne 5, 3) := by decide +kernel
theorem dX8_readsNumber_24 : decode cX8_readsNumber 24 = .ok (.iconst 1, 1) := by decide +kernel
theorem dX8_readsNumber_25 : decode cX8_readsNumber 25 = .ok (.ireturn, 1) := by decide +kernel
theorem dX8_readsNumber_26 : decode cX8_readsNumber 26 = .ok (.aload_n 0, 1) := by decide +kernel
theorem dX8_readsNumber_27 : decode cX8_readsNumber 27 = .ok (.getfield 58, 3) := by decide +kernel
theorem dX8_readsNumber_30 : decode cX8_readsNumber 30 = .ok (.iload_n 1, 1) := by decide +kernel
theorem dX8_readsNumber_31 : decode cX8_readsNumber 31 = .ok (.bipush 10, 2) := by decide +kernel
theorem dX8_readsNumber_33 : decode cX8_readsNumber 33 = .ok (.aload_n 0, 1) := by decide +kernel
theorem dX8_readsNumber_34 : decode cX8_readsNumber 34 = .ok (.getfield 58, 3) := by decide +kernel
theorem dX8_readsNumber_37 : decode cX8_readsNumber 37 = .ok (.iload_n 1, 1) := by decide +kernel
theorem dX8_readsNumber_38 : decode cX8_readsNumber 38 = .ok (.iaload, 1) := by decide +kernel
theorem dX8_readsNumber_39 : decode cX8_readsNumber 39 = .ok (.imul, 1) := by decide +kernel
theorem dX8_readsNumber_40 : decode cX8_readsNumber 40 = .ok (.aload_n 0, 1) := by decide +kernel
theorem dX8_readsNumber_41 : decode cX8_readsNumber 41 = .ok (.invokevirtual 236, 3) := by decide +kernel
theorem dX8_readsNumber_44 : decode cX8_readsNumber 44 = .ok (.iadd, 1) := by decide +kernel
theorem dX8_readsNumber_45 : decode cX8_readsNumber 45 = .ok (.bipush 48, 2) := by decide +kernel
theorem dX8_readsNumber_47 : decode cX8_readsNumber 47 = .ok (.isub, 1) := by decide +kernel
theorem dX8_readsNumber_48 : decode cX8_readsNumber 48 = .ok (.iastore, 1) := by decide +kernel
theorem dX8_readsNumber_49 : decode cX8_readsNumber 49 = .ok (.aload_n 0, 1) := by decide +kernel
theorem dX8_readsNumber_50 : decode cX8_readsNumber 50 = .ok (.dup, 1) := by decide +kernel
theorem dX8_readsNumber_51 : decode cX8_readsNumber 51 = .ok (.getfield 233, 3) := by decide +kernel
theorem dX8_readsNumber_54 : decode cX8_readsNumber 54 = .ok (.iconst 1, 1) := by decide +kernel
theorem dX8_readsNumber_55 : decode cX8_readsNumber 55 = .ok (.iadd, 1) := by decide +kernel
theorem dX8_readsNumber_56 : decode cX8_readsNumber 56 = .ok (.putfield 233, 3) := by decide +kernel
theorem dX8_readsNumber_59 : decode cX8_readsNumber 59 = .ok (.iconst 1, 1) := by decide +kernel
theorem dX8_readsNumber_60 : decode cX8_readsNumber 60 = .ok (.ireturn, 1) := by decide +kernel
theorem dX8_readsJoke_0 : decode cX8_readsJoke 0 = .ok (.aload_n 0, 1) := by decide +kernel
theorem dX8_readsJoke_1 : decode cX8_readsJoke 1 = .ok (.bipush 111, 2) := by decide +kernel
theorem dX8_readsJoke_3 : decode cX8_readsJoke 3 = .ok (.invokevirtual 242, 3) := by decide +kernel
theorem dX8_readsJoke_6 : decode cX8_readsJoke 6 = .ok (.ifCond .eq 47, 3) := by decide +kernel
theorem dX8_readsJoke_9 : decode cX8_readsJoke 9 = .ok (.aload_n 0, 1) := by decide +kernel
theorem dX8_readsJoke_10 : decode cX8_readsJoke 10 = .ok (.bipush 107, 2) := by decide +kernel
theorem dX8_readsJoke_12 : decode cX8_readsJoke 12 = .ok (.invokevirtual 242, 3) := by decide +kernel
theorem dX8_readsJoke_15 : decode cX8_readsJoke 15 = .ok (.ifCond .eq 38, 3) := by decide +kernel
theorem dX8_readsJoke_18 : decode cX8_readsJoke 18 = .ok (.aload_n 0, 1) := by decide +kernel
theorem dX8_readsJoke_19 : decode cX8_readsJoke 19 = .ok (.bipush 101, 2) := by decide +kernel
theorem dX8_readsJoke_21 : decode cX8_readsJoke 21 = .ok (.invokevirtual 242, 3) := by decide +kernel
theorem dX8_readsJoke_24 : decode cX8_readsJoke 24 = .ok (.ifCond .eq 29, 3) := by decide +kernel
theorem dX8_readsJoke_27 : decode cX8_readsJoke 27 = .ok (.aload_n 0, 1) := by decide +kernel
theorem dX8_readsJoke_28 : decode cX8_readsJoke 28 = .ok (.bipush 32, 2) := by decide +kernel
theorem dX8_readsJoke_30 : decode cX8_readsJoke 30 = .ok (.invokevirtual 242, 3) := by decide +kernel
theorem dX8_readsJoke_33 : decode cX8_readsJoke 33 = .ok (.ifCond .eq 20, 3) := by decide +kernel
theorem dX8_readsJoke_36 : decode cX8_readsJoke 36 = .ok (.aload_n 0, 1) := by decide +kernel
theorem dX8_readsJoke_37 : decode cX8_readsJoke 37 = .ok (.iconst 0, 1) := by decide +kernel
theorem dX8_readsJoke_38 : decode cX8_readsJoke 38 = .ok (.invokevirtual 239, 3) := by decide +kernel
theorem dX8_readsJoke_41 : decode cX8_readsJoke 41 = .ok (.ifCond .eq 12, 3) := by decide +kernel
theorem dX8_readsJoke_44 : decode cX8_readsJoke 44 = .ok (.aload_n 0, 1) := by decide +kernel
theorem dX8_readsJoke_45 : decode cX8_readsJoke 45 = .ok (.bipush 32, 2) := by decide +kernel
theorem dX8_readsJoke_47 : decode cX8_readsJoke 47 = .ok (.invokevirtual 242, 3) := by decide +kernel
theorem dX8_readsJoke_50 : decode cX8_readsJoke 50 = .ok (.ifCond .ne 5, 3) := by decide +kernel
theorem dX8_readsJoke_53 : decode cX8_readsJoke 53 = .ok (.iconst 0, 1) := by decide +kernel
theorem dX8_readsJoke_54 : decode cX8_readsJoke 54 = .ok (.ireturn, 1) := by decide +kernel
theorem dX8_readsJoke_55 : decode cX8_readsJoke 55 = .ok (.aload_n 0, 1) := by decide +kernel
theorem dX8_readsJoke_56 : decode cX8_readsJoke 56 = .ok (.iconst 1, 1) := by decide +kernel
theorem dX8_readsJoke_57 : decode cX8_readsJoke 57 = .ok (.invokevirtual 245, 3) := by decide +kernel
theorem dX8_readsJoke_60 : decode cX8_readsJoke 60 = .ok (.ifCond .eq 41, 3) := by decide +kernel
theorem dX8_readsJoke_63 : decode cX8_readsJoke 63 = .ok (.aload_n 0, 1) := by decide +kernel
theorem dX8_readsJoke_64 : decode cX8_readsJoke 64 = .ok (.bipush 32, 2) := by decide +kernel
theorem dX8_readsJoke_66 : decode cX8_readsJoke 66 = .ok (.invokevirtual 242, 3) := by decide +kernel
theorem dX8_readsJoke_69 : decode cX8_readsJoke 69 = .ok (.ifCond .eq 32, 3) := by decide +kernel
theorem dX8_readsJoke_72 : decode cX8_readsJoke 72 = .ok (.aload_n 0, 1) := by decide +kernel
theorem dX8_readsJoke_73 : decode cX8_readsJoke 73 = .ok (.iconst 2, 1) := by decide +kernel
theorem dX8_readsJoke_74 : decode cX8_readsJoke 74 = .ok (.invokevirtual 245, 3) := by decide +kernel
theorem dX8_readsJoke_77 : decode cX8_readsJoke 77 = .ok (.ifCond .eq 24, 3) := by decide +kernel
theorem dX8_readsJoke_80 : decode cX8_readsJoke 80 = .ok (.aload_n 0, 1) := by decide +kernel
theorem dX8_readsJoke_81 : decode cX8_readsJoke 81 = .ok (.bipush 32, 2) := by decide +kernel
theorem dX8_readsJoke_83 : decode cX8_readsJoke 83 = .ok (.invokevirtual 242, 3) := by decide +kernel
theorem dX8_readsJoke_86 : decode cX8_readsJoke 86 = .ok (.ifCond .eq 15, 3) := by decide +kernel
theorem dX8_readsJoke_89 : decode cX8_readsJoke 89 = .ok (.aload_n 0, 1) := by decide +kernel
theorem dX8_readsJoke_90 : decode cX8_readsJoke 90 = .ok (.iconst 3, 1) := by decide +kernel
theorem dX8_readsJoke_91 : decode cX8_readsJoke 91 = .ok (.invokevirtual 239, 3) := by decide +kernel
theorem dX8_readsJoke_94 : decode cX8_readsJoke 94 = .ok (.ifCond .eq 7, 3) := by decide +kernel
theorem dX8_readsJoke_97 : decode cX8_readsJoke 97 = .ok (.iconst 1, 1) := by decide +kernel
theorem dX8_readsJoke_98 : decode cX8_readsJoke 98 = .ok (.goto 4, 3) := by decide +kernel
theorem dX8_readsJoke_101 : decode cX8_readsJoke 101 = .ok (.iconst 0, 1) := by decide +kernel
theorem dX8_readsJoke_102 : decode cX8_readsJoke 102 = .ok (.ireturn, 1) := by decide +kernel
theorem dX8_readsP_0 : decode cX8_readsP 0 = .ok (.aload_n 0, 1) := by decide +kernel
theorem dX8_readsP_1 : decode cX8_readsP 1 = .ok (.bipush 117, 2) := by decide +kernel
theorem dX8_readsP_3 : decode cX8_readsP 3 = .ok (.invokevirtual 242, 3) := by decide +kernel
theorem dX8_readsP_6 : decode cX8_readsP 6 = .ok (.ifCond .eq 44, 3) := by decide +kernel
theorem dX8_readsP_9 : decode cX8_readsP 9 = .ok (.aload_n 0, 1) := by decide +kernel
theorem dX8_readsP_10 : decode cX8_readsP 10 = .ok (.bipush 109, 2) := by decide +kernel
theorem dX8_readsP_12 : decode cX8_readsP 12 = .ok (.invokevirtual 242, 3) := by decide +kernel
theorem dX8_readsP_15 : decode cX8_readsP 15 = .ok (.ifCond .eq 33, 3) := by decide +kernel
theorem dX8_readsP_18 : decode cX8_readsP 18 = .ok (.aload_n 0, 1) := by decide +kernel
theorem dX8_readsP_19 : decode cX8_readsP 19 = .ok (.bipush 112, 2) := by decide +kernel
theorem dX8_readsP_21 : decode cX8_readsP 21 = .ok (.invokevirtual 242, 3) := by decide +kernel
theorem dX8_readsP_24 : decode cX8_readsP 24 = .ok (.ifCond .eq 24, 3) := by decide +kernel
theorem dX8_readsP_27 : decode cX8_readsP 27 = .ok (.aload_n 0, 1) := by decide +kernel
theorem dX8_readsP_28 : decode cX8_readsP 28 = .ok (.bipush 32, 2) := by decide +kernel
theorem dX8_readsP_30 : decode cX8_readsP 30 = .ok (.invokevirtual 242, 3) := by decide +kernel
theorem dX8_readsP_33 : decode cX8_readsP 33 = .ok (.ifCond .eq 15, 3) := by decide +kernel
theorem dX8_readsP_36 : decode cX8_readsP 36 = .ok (.aload_n 0, 1) := by decide +kernel
theorem dX8_readsP_37 : decode cX8_readsP 37 = .ok (.iconst 0, 1) := by decide +kernel
theorem dX8_readsP_38 : decode cX8_readsP 38 = .ok (.invokevirtual 239, 3) := by decide +kernel
theorem dX8_readsP_41 : decode cX8_readsP 41 = .ok (.ifCond .eq 7, 3) := by decide +kernel
theorem dX8_readsP_44 : decode cX8_readsP 44 = .ok (.iconst 1, 1) := by decide +kernel
theorem dX8_readsP_45 : decode cX8_readsP 45 = .ok (.goto 4, 3) := by decide +kernel
theorem dX8_readsP_48 : decode cX8_readsP 48 = .ok (.iconst 0, 1) := by decide +kernel
theorem dX8_readsP_49 : decode cX8_readsP 49 = .ok (.ireturn, 1) := by decide +kernel
theorem dX8_readsP_50 : decode cX8_readsP 50 = .ok (.aload_n 0, 1) := by decide +kernel
theorem dX8_readsP_51 : decode cX8_readsP 51 = .ok (.bipush 114, 2) := by decide +kernel
theorem dX8_readsP_53 : decode cX8_readsP 53 = .ok (.putfield 248, 3) := by decide +kernel
theorem dX8_readsP_56 : decode cX8_readsP 56 = .ok (.aload_n 0, 1) := by decide +kernel
theorem dX8_readsP_57 : decode cX8_readsP 57 = .ok (.bipush 114, 2) := by decide +kernel
theorem dX8_readsP_59 : decode cX8_readsP 59 = .ok (.invokevirtual 242, 3) := by decide +kernel
theorem dX8_readsP_62 : decode cX8_readsP 62 = .ok (.ifCond .eq 51, 3) := by decide +kernel
theorem dX8_readsP_65 : decode cX8_readsP 65 = .ok (.aload_n 0, 1) := by decide +kernel
theorem dX8_readsP_66 : decode cX8_readsP 66 = .ok (.bipush 105, 2) := by decide +kernel
theorem dX8_readsP_68 : decode cX8_readsP 68 = .ok (.invokevirtual 242, 3) := by decide +kernel
theorem dX8_readsP_71 : decode cX8_readsP 71 = .ok (.ifCond .eq 42, 3) := by decide +kernel
theorem dX8_readsP_74 : decode cX8_readsP 74 = .ok (.aload_n 0, 1) := by decide +kernel
theorem dX8_readsP_75 : decode cX8_readsP 75 = .ok (.bipush 109, 2) := by decide +kernel
theorem dX8_readsP_77 : decode cX8_readsP 77 = .ok (.invokevirtual 242, 3) := by decide +kernel
theorem dX8_readsP_80 : decode cX8_readsP 80 = .ok (.ifCond .eq 33, 3) := by decide +kernel
theorem dX8_readsP_83 : decode cX8_readsP 83 = .ok (.aload_n 0, 1) := by decide +kernel
theorem dX8_readsP_84 : decode cX8_readsP 84 = .ok (.bipush 101, 2) := by decide +kernel
theorem dX8_readsP_86 : decode cX8_readsP 86 = .ok (.invokevirtual 242, 3) := by decide +kernel
theorem dX8_readsP_89 : decode cX8_readsP 89 = .ok (.ifCond .eq 24, 3) := by decide +kernel
theorem dX8_readsP_92 : decode cX8_readsP 92 = .ok (.aload_n 0, 1) := by decide +kernel
theorem dX8_readsP_93 : decode cX8_readsP 93 = .ok (.bipush 32, 2) := by decide +kernel
theorem dX8_readsP_95 : decode cX8_readsP 95 = .ok (.invokevirtual 242, 3) := by decide +kernel
theorem dX8_readsP_98 : decode cX8_readsP 98 = .ok (.ifCond .eq 15, 3) := by decide +kernel
theorem dX8_readsP_101 : decode cX8_readsP 101 = .ok (.aload_n 0, 1) := by decide +kernel
theorem dX8_readsP_102 : decode cX8_readsP 102 = .ok (.iconst 0, 1) := by decide +kernel
theorem dX8_readsP_103 : decode cX8_readsP 103 = .ok (.invokevirtual 245, 3) := by decide +kernel
theorem dX8_readsP_106 : decode cX8_readsP 106 = .ok (.ifCond .eq 7, 3) := by decide +kernel
theorem dX8_readsP_109 : decode cX8_readsP 109 = .ok (.iconst 1, 1) := by decide +kernel
theorem dX8_readsP_110 : decode cX8_readsP 110 = .ok (.goto 4, 3) := by decide +kernel
theorem dX8_readsP_113 : decode cX8_readsP 113 = .ok (.iconst 0, 1) := by decide +kernel
theorem dX8_readsP_114 : decode cX8_readsP 114 = .ok (.ireturn, 1) := by decide +kernel
theorem dX8_readsD_0 : decode cX8_readsD 0 = .ok (.aload_n 0, 1) := by decide +kernel
theorem dX8_readsD_1 : decode cX8_readsD 1 = .ok (.bipush 114, 2) := by decide +kernel
theorem dX8_readsD_3 : decode cX8_readsD 3 = .ok (.invokevirtual 242, 3) := by decide +kernel
theorem dX8_readsD_6 : decode cX8_readsD 6 = .ok (.ifCond .ne 5, 3) := by decide +kernel
theorem dX8_readsD_9 : decode cX8_readsD 9 = .ok (.iconst 0, 1) := by decide +kernel
theorem dX8_readsD_10 : decode cX8_readsD 10 = .ok (.ireturn, 1) := by decide +kernel
theorem dX8_readsD_11 : decode cX8_readsD 11 = .ok (.aload_n 0, 1) := by decide +kernel
theorem dX8_readsD_12 : decode cX8_readsD 12 = .ok (.bipush 97, 2) := by decide +kernel
theorem dX8_readsD_14 : decode cX8_readsD 14 = .ok (.invokevirtual 242, 3) := by decide +kernel
theorem dX8_readsD_17 : decode cX8_readsD 17 = .ok (.ifCond .eq 44, 3) := by decide +kernel
theorem dX8_readsD_20 : decode cX8_readsD 20 = .ok (.aload_n 0, 1) := by decide +kernel
theorem dX8_readsD_21 : decode cX8_readsD 21 = .ok (.bipush 105, 2) := by decide +kernel
theorem dX8_readsD_23 : decode cX8_readsD 23 = .ok (.invokevirtual 242, 3) := by decide +kernel
theorem dX8_readsD_26 : decode cX8_readsD 26 = .ok (.ifCond .eq 33, 3) := by decide +kernel
theorem dX8_readsD_29 : decode cX8_readsD 29 = .ok (.aload_n 0, 1) := by decide +kernel
theorem dX8_readsD_30 : decode cX8_readsD 30 = .ok (.bipush 110, 2) := by decide +kernel
theorem dX8_readsD_32 : decode cX8_readsD 32 = .ok (.invokevirtual 242, 3) := by decide +kernel
theorem dX8_readsD_35 : decode cX8_readsD 35 = .ok (.ifCond .eq 24, 3) := by decide +kernel
theorem dX8_readsD_38 : decode cX8_readsD 38 = .ok (.aload_n 0, 1) := by decide +kernel
theorem dX8_readsD_39 : decode cX8_readsD 39 = .ok (.bipush 32, 2) := by decide +kernel
theorem dX8_readsD_41 : decode cX8_readsD 41 = .ok (.invokevirtual 242, 3) := by decide +kernel
theorem dX8_readsD_44 : decode cX8_readsD 44 = .ok (.ifCond .eq 15, 3) := by decide +kernel
theorem dX8_readsD_47 : decode cX8_readsD 47 = .ok (.aload_n 0, 1) := by decide +kernel
theorem dX8_readsD_48 : decode cX8_readsD 48 = .ok (.iconst 0, 1) := by decide +kernel
theorem dX8_readsD_49 : decode cX8_readsD 49 = .ok (.invokevirtual 245, 3) := by decide +kernel
theorem dX8_readsD_52 : decode cX8_readsD 52 = .ok (.ifCond .eq 7, 3) := by decide +kernel
theorem dX8_readsD_55 : decode cX8_readsD 55 = .ok (.iconst 1, 1) := by decide +kernel
theorem dX8_readsD_56 : decode cX8_readsD 56 = .ok (.goto 4, 3) := by decide +kernel
theorem dX8_readsD_59 : decode cX8_readsD 59 = .ok (.iconst 0, 1) := by decide +kernel
theorem dX8_readsD_60 : decode cX8_readsD 60 = .ok (.ireturn, 1) := by decide +kernel
theorem dX8_readsD_61 : decode cX8_readsD 61 = .ok (.aload_n 0, 1) := by decide +kernel
theorem dX8_readsD_62 : decode cX8_readsD 62 = .ok (.bipush 111, 2) := by decide +kernel
theorem dX8_readsD_64 : decode cX8_readsD 64 = .ok (.putfield 248, 3) := by decide +kernel
theorem dX8_readsD_67 : decode cX8_readsD 67 = .ok (.aload_n 0, 1) := by decide +kernel
theorem dX8_readsD_68 : decode cX8_readsD 68 = .ok (.bipush 111, 2) := by decide +kernel
theorem dX8_readsD_70 : decode cX8_readsD 70 = .ok (.invokevirtual 242, 3) := by decide +kernel
theorem dX8_readsD_73 : decode cX8_readsD 73 = .ok (.ifCond .eq 33, 3) := by decide +kernel
theorem dX8_readsD_76 : decode cX8_readsD 76 = .ok (.aload_n 0, 1) := by decide +kernel
theorem dX8_readsD_77 : decode cX8_readsD 77 = .ok (.bipush 112, 2) := by decide +kernel
theorem dX8_readsD_79 : decode cX8_readsD 79 = .ok (.invokevirtual 242, 3) := by decide +kernel
theorem dX8_readsD_82 : decode cX8_readsD 82 = .ok (.ifCond .eq 24, 3) := by decide +kernel
theorem dX8_readsD_85 : decode cX8_readsD 85 = .ok (.aload_n 0, 1) := by decide +kernel
theorem dX8_readsD_86 : decode cX8_readsD 86 = .ok (.bipush 32, 2) := by decide +kernel
theorem dX8_readsD_88 : decode cX8_readsD 88 = .ok (.invokevirtual 242, 3) := by decide +kernel
theorem dX8_readsD_91 : decode cX8_readsD 91 = .ok (.ifCond .eq 15, 3) := by decide +kernel
theorem dX8_readsD_94 : decode cX8_readsD 94 = .ok (.aload_n 0, 1) := by decide +kernel
theorem dX8_readsD_95 : decode cX8_readsD 95 = .ok (.iconst 0, 1) := by decide +kernel
theorem dX8_readsD_96 : decode cX8_readsD 96 = .ok (.invokevirtual 245, 3) := by decide +kernel
theorem dX8_readsD_99 : decode cX8_readsD 99 = .ok (.ifCond .eq 7, 3) := by decide +kernel
theorem dX8_readsD_102 : decode cX8_readsD 102 = .ok (.iconst 1, 1) := by decide +kernel
theorem dX8_readsD_103 : decode cX8_readsD 103 = .ok (.goto 4, 3) := by decide +kernel
theorem dX8_readsD_106 : decode cX8_readsD 106 = .ok (.iconst 0, 1) := by decide +kernel
theorem dX8_readsD_107 : decode cX8_readsD 107 = .ok (.ireturn, 1) := by decide +kernel
theorem dX8_readsStroke_0 : decode cX8_readsStroke 0 = .ok (.aload_n 0, 1) := by decide +kernel
theorem dX8_readsStroke_1 : decode cX8_readsStroke 1 = .ok (.bipush 116, 2) := by decide +kernel
theorem dX8_readsStroke_3 : decode cX8_readsStroke 3 = .ok (.invokevirtual 242, 3) := by decide +kernel
theorem dX8_readsStroke_6 : decode cX8_readsStroke 6 = .ok (.ifCond .eq 60, 3) := by decide +kernel
theorem dX8_readsStroke_9 : decode cX8_readsStroke 9 = .ok (.aload_n 0, 1) := by decide +kernel
theorem dX8_readsStroke_10 : decode cX8_readsStroke 10 = .ok (.bipush 114, 2) := by decide +kernel
theorem dX8_readsStroke_12 : decode cX8_readsStroke 12 = .ok (.invokevirtual 242, 3) := by decide +kernel
theorem dX8_readsStroke_15 : decode cX8_readsStroke 15 = .ok (.ifCond .eq 51, 3) := by decide +kernel
theorem dX8_readsStroke_18 : decode cX8_readsStroke 18 = .ok (.aload_n 0, 1) := by decide +kernel
theorem dX8_readsStroke_19 : decode cX8_readsStroke 19 = .ok (.bipush 111, 2) := by decide +kernel
theorem dX8_readsStroke_21 : decode cX8_readsStroke 21 = .ok (.invokevirtual 242, 3) := by decide +kernel
theorem dX8_readsStroke_24 : decode cX8_readsStroke 24 = .ok (.ifCond .eq 42, 3) := by decide +kernel
theorem dX8_readsStroke_27 : decode cX8_readsStroke 27 = .ok (.aload_n 0, 1) := by decide +kernel
theorem dX8_readsStroke_28 : decode cX8_readsStroke 28 = .ok (.bipush 107, 2) := by decide +kernel
theorem dX8_readsStroke_30 : decode cX8_readsStroke 30 = .ok (.invokevirtual 242, 3) := by decide +kernel
theorem dX8_readsStroke_33 : decode cX8_readsStroke 33 = .ok (.ifCond .eq 33, 3) := by decide +kernel
theorem dX8_readsStroke_36 : decode cX8_readsStroke 36 = .ok (.aload_n 0, 1) := by decide +kernel
theorem dX8_readsStroke_37 : decode cX8_readsStroke 37 = .ok (.bipush 101, 2) := by decide +kernel
theorem dX8_readsStroke_39 : decode cX8_readsStroke 39 = .ok (.invokevirtual 242, 3) := by decide +kernel
theorem dX8_readsStroke_42 : decode cX8_readsStroke 42 = .ok (.ifCond .eq 24, 3) := by decide +kernel
theorem dX8_readsStroke_45 : decode cX8_readsStroke 45 = .ok (.aload_n 0, 1) := by decide +kernel
theorem dX8_readsStroke_46 : decode cX8_readsStroke 46 = .ok (.bipush 32, 2) := by decide +kernel
theorem dX8_readsStroke_48 : decode cX8_readsStroke 48 = .ok (.invokevirtual 242, 3) := by decide +kernel
theorem dX8_readsStroke_51 : decode cX8_readsStroke 51 = .ok (.ifCond .eq 15, 3) := by decide +kernel
theorem dX8_readsStroke_54 : decode cX8_readsStroke 54 = .ok (.aload_n 0, 1) := by decide +kernel
theorem dX8_readsStroke_55 : decode cX8_readsStroke 55 = .ok (.iconst 0, 1) := by decide +kernel
theorem dX8_readsStroke_56 : decode cX8_readsStroke 56 = .ok (.invokevirtual 245, 3) := by decide +kernel
theorem dX8_readsStroke_59 : decode cX8_readsStroke 59 = .ok (.ifCond .eq 7, 3) := by decide +kernel
theorem dX8_readsStroke_62 : decode cX8_readsStroke 62 = .ok (.iconst 1, 1) := by decide +kernel
theorem dX8_readsStroke_63 : decode cX8_readsStroke 63 = .ok (.goto 4, 3) := by decide +kernel
theorem dX8_readsStroke_66 : decode cX8_readsStroke 66 = .ok (.iconst 0, 1) := by decide +kernel
theorem dX8_readsStroke_67 : decode cX8_readsStroke 67 = .ok (.ireturn, 1) := by decide +kernel
theorem dX8_readsBucket_0 : decode cX8_readsBucket 0 = .ok (.aload_n 0, 1) := by decide +kernel
theorem dX8_readsBucket_1 : decode cX8_readsBucket 1 = .ok (.bipush 117, 2) := by decide +kernel
theorem dX8_readsBucket_3 : decode cX8_readsBucket 3 = .ok (.invokevirtual 242, 3) := by decide +kernel
theorem dX8_readsBucket_6 : decode cX8_readsBucket 6 = .ok (.ifCond .eq 48, 3) := by decide +kernel
theorem dX8_readsBucket_9 : decode cX8_readsBucket 9 = .ok (.aload_n 0, 1) := by decide +kernel
theorem dX8_readsBucket_10 : decode cX8_readsBucket 10 = .ok (.bipush 99, 2) := by decide +kernel
theorem dX8_readsBucket_12 : decode cX8_readsBucket 12 = .ok (.invokevirtual 242, 3) := by decide +kernel
theorem dX8_readsBucket_15 : decode cX8_readsBucket 15 = .ok (.ifCond .eq 39, 3) := by decide +kernel
theorem dX8_readsBucket_18 : decode cX8_readsBucket 18 = .ok (.aload_n 0, 1) := by decide +kernel
theorem dX8_readsBucket_19 : decode cX8_readsBucket 19 = .ok (.bipush 107, 2) := by decide +kernel
theorem dX8_readsBucket_21 : decode cX8_readsBucket 21 = .ok (.invokevirtual 242, 3) := by decide +kernel
theorem dX8_readsBucket_24 : decode cX8_readsBucket 24 = .ok (.ifCond .eq 30, 3) := by decide +kernel
theorem dX8_readsBucket_27 : decode cX8_readsBucket 27 = .ok (.aload_n 0, 1) := by decide +kernel
theorem dX8_readsBucket_28 : decode cX8_readsBucket 28 = .ok (.bipush 101, 2) := by decide +kernel
theorem dX8_readsBucket_30 : decode cX8_readsBucket 30 = .ok (.invokevirtual 242, 3) := by decide +kernel
theorem dX8_readsBucket_33 : decode cX8_readsBucket 33 = .ok (.ifCond .eq 21, 3) := by decide +kernel
theorem dX8_readsBucket_36 : decode cX8_readsBucket 36 = .ok (.aload_n 0, 1) := by decide +kernel
theorem dX8_readsBucket_37 : decode cX8_readsBucket 37 = .ok (.bipush 116, 2) := by decide +kernel
theorem dX8_readsBucket_39 : decode cX8_readsBucket 39 = .ok (.invokevirtual 242, 3) := by decide +kernel
theorem dX8_readsBucket_42 : decode cX8_readsBucket 42 = .ok (.ifCond .eq 12, 3) := by decide +kernel
theorem dX8_readsBucket_45 : decode cX8_readsBucket 45 = .ok (.aload_n 0, 1) := by decide +kernel
theorem dX8_readsBucket_46 : decode cX8_readsBucket 46 = .ok (.bipush 32, 2) := by decide +kernel
theorem dX8_readsBucket_48 : decode cX8_readsBucket 48 = .ok (.invokevirtual 242, 3) := by decide +kernel
theorem dX8_readsBucket_51 : decode cX8_readsBucket 51 = .ok (.ifCond .ne 5, 3) := by decide +kernel
theorem dX8_readsBucket_54 : decode cX8_readsBucket 54 = .ok (.iconst 0, 1) := by decide +kernel
theorem dX8_readsBucket_55 : decode cX8_readsBucket 55 = .ok (.ireturn, 1) := by decide +kernel
theorem dX8_readsBucket_56 : decode cX8_readsBucket 56 = .ok (.aload_n 0, 1) := by decide +kernel
theorem dX8_readsBucket_57 : decode cX8_readsBucket 57 = .ok (.iconst 0, 1) := by decide +kernel
theorem dX8_readsBucket_58 : decode cX8_readsBucket 58 = .ok (.invokevirtual 239, 3) := by decide +kernel
theorem dX8_readsBucket_61 : decode cX8_readsBucket 61 = .ok (.ifCond .eq 24, 3) := by decide +kernel
theorem dX8_readsBucket_64 : decode cX8_readsBucket 64 = .ok (.aload_n 0, 1) := by decide +kernel
theorem dX8_readsBucket_65 : decode cX8_readsBucket 65 = .ok (.bipush 32, 2) := by decide +kernel
theorem dX8_readsBucket_67 : decode cX8_readsBucket 67 = .ok (.invokevirtual 242, 3) := by decide +kernel
theorem dX8_readsBucket_70 : decode cX8_readsBucket 70 = .ok (.ifCond .eq 15, 3) := by decide +kernel
theorem dX8_readsBucket_73 : decode cX8_readsBucket 73 = .ok (.aload_n 0, 1) := by decide +kernel
theorem dX8_readsBucket_74 : decode cX8_readsBucket 74 = .ok (.iconst 1, 1) := by decide +kernel
theorem dX8_readsBucket_75 : decode cX8_readsBucket 75 = .ok (.invokevirtual 239, 3) := by decide +kernel
theorem dX8_readsBucket_78 : decode cX8_readsBucket 78 = .ok (.ifCond .eq 7, 3) := by decide +kernel
theorem dX8_readsBucket_81 : decode cX8_readsBucket 81 = .ok (.iconst 1, 1) := by decide +kernel
theorem dX8_readsBucket_82 : decode cX8_readsBucket 82 = .ok (.goto 4, 3) := by decide +kernel
theorem dX8_readsBucket_85 : decode cX8_readsBucket 85 = .ok (.iconst 0, 1) := by decide +kernel
theorem dX8_readsBucket_86 : decode cX8_readsBucket 86 = .ok (.ireturn, 1) := by decide +kernel
theorem dX8_readsCommand_0 : decode cX8_readsCommand 0 = .ok (.aload_n 0, 1) := by decide +kernel
theorem dX8_readsCommand_1 : decode cX8_readsCommand 1 = .ok (.aload_n 0, 1) := by decide +kernel
theorem dX8_readsCommand_2 : decode cX8_readsCommand 2 = .ok (.invokevirtual 236, 3) := by decide +kernel
theorem dX8_readsCommand_5 : decode cX8_readsCommand 5 = .ok (.putfield 248, 3) := by decide +kernel
theorem dX8_readsCommand_8 : decode cX8_readsCommand 8 = .ok (.aload_n 0, 1) := by decide +kernel
theorem dX8_readsCommand_9 : decode cX8_readsCommand 9 = .ok (.bipush 106, 2) := by decide +kernel
theorem dX8_readsCommand_11 : decode cX8_readsCommand 11 = .ok (.invokevirtual 242, 3) := by decide +kernel
theorem dX8_readsCommand_14 : decode cX8_readsCommand 14 = .ok (.ifCond .eq 8, 3) := by decide +kernel
theorem dX8_readsCommand_17 : decode cX8_readsCommand 17 = .ok (.aload_n 0, 1) := by decide +kernel
theorem dX8_readsCommand_18 : decode cX8_readsCommand 18 = .ok (.invokevirtual 251, 3) := by decide +kernel
theorem dX8_readsCommand_21 : decode cX8_readsCommand 21 = .ok (.ireturn, 1) := by decide +kernel
theorem dX8_readsCommand_22 : decode cX8_readsCommand 22 = .ok (.aload_n 0, 1) := by decide +kernel
theorem dX8_readsCommand_23 : decode cX8_readsCommand 23 = .ok (.bipush 112, 2) := by decide +kernel
theorem dX8_readsCommand_25 : decode cX8_readsCommand 25 = .ok (.invokevirtual 242, 3) := by decide +kernel
theorem dX8_readsCommand_28 : decode cX8_readsCommand 28 = .ok (.ifCond .eq 8, 3) := by decide +kernel
theorem dX8_readsCommand_31 : decode cX8_readsCommand 31 = .ok (.aload_n 0, 1) := by decide +kernel
theorem dX8_readsCommand_32 : decode cX8_readsCommand 32 = .ok (.invokevirtual 255, 3) := by decide +kernel
theorem dX8_readsCommand_35 : decode cX8_readsCommand 35 = .ok (.ireturn, 1) := by decide +kernel
theorem dX8_readsCommand_36 : decode cX8_readsCommand 36 = .ok (.aload_n 0, 1) := by decide +kernel
theorem dX8_readsCommand_37 : decode cX8_readsCommand 37 = .ok (.bipush 100, 2) := by decide +kernel
theorem dX8_readsCommand_39 : decode cX8_readsCommand 39 = .ok (.invokevirtual 242, 3) := by decide +kernel
theorem dX8_readsCommand_42 : decode cX8_readsCommand 42 = .ok (.ifCond .eq 8, 3) := by decide +kernel
theorem dX8_readsCommand_45 : decode cX8_readsCommand 45 = .ok (.aload_n 0, 1) := by decide +kernel
theorem dX8_readsCommand_46 : decode cX8_readsCommand 46 = .ok (.invokevirtual 258, 3) := by decide +kernel
theorem dX8_readsCommand_49 : decode cX8_readsCommand 49 = .ok (.ireturn, 1) := by decide +kernel
theorem dX8_readsCommand_50 : decode cX8_readsCommand 50 = .ok (.aload_n 0, 1) := by decide +kernel
theorem dX8_readsCommand_51 : decode cX8_readsCommand 51 = .ok (.bipush 115, 2) := by decide +kernel
theorem dX8_readsCommand_53 : decode cX8_readsCommand 53 = .ok (.invokevirtual 242, 3) := by decide +kernel
theorem dX8_readsCommand_56 : decode cX8_readsCommand 56 = .ok (.ifCond .eq 8, 3) := by decide +kernel
theorem dX8_readsCommand_59 : decode cX8_readsCommand 59 = .ok (.aload_n 0, 1) := by decide +kernel
theorem dX8_readsCommand_60 : decode cX8_readsCommand 60 = .ok (.invokevirtual 261, 3) := by decide +kernel
theorem dX8_readsCommand_63 : decode cX8_readsCommand 63 = .ok (.ireturn, 1) := by decide +kernel
theorem dX8_readsCommand_64 : decode cX8_readsCommand 64 = .ok (.aload_n 0, 1) := by decide +kernel
theorem dX8_readsCommand_65 : decode cX8_readsCommand 65 = .ok (.bipush 98, 2) := by decide +kernel
theorem dX8_readsCommand_67 : decode cX8_readsCommand 67 = .ok (.invokevirtual 242, 3) := by decide +kernel
theorem dX8_readsCommand_70 : decode cX8_readsCommand 70 = .ok (.ifCond .eq 8, 3) := by decide +kernel
theorem dX8_readsCommand_73 : decode cX8_readsCommand 73 = .ok (.aload_n 0, 1) := by decide +kernel
theorem dX8_readsCommand_74 : decode cX8_readsCommand 74 = .ok (.invokevirtual 264, 3) := by decide +kernel
theorem dX8_readsCommand_77 : decode cX8_readsCommand 77 = .ok (.ireturn, 1) := by decide +kernel
theorem dX8_readsCommand_78 : decode cX8_readsCommand 78 = .ok (.aload_n 0, 1) := by decide +kernel
theorem dX8_readsCommand_79 : decode cX8_readsCommand 79 = .ok (.bipush 103, 2) := by decide +kernel
theorem dX8_readsCommand_81 : decode cX8_readsCommand 81 = .ok (.invokevirtual 242, 3) := by decide +kernel
theorem dX8_readsCommand_84 : decode cX8_readsCommand 84 = .ok (.ifCond .eq 33, 3) := by decide +kernel
theorem dX8_readsCommand_87 : decode cX8_readsCommand 87 = .ok (.aload_n 0, 1) := by decide +kernel
theorem dX8_readsCommand_88 : decode cX8_readsCommand 88 = .ok (.bipush 111, 2) := by decide +kernel
theorem dX8_readsCommand_90 : decode cX8_readsCommand 90 = .ok (.invokevirtual 242, 3) := by decide +kernel
theorem dX8_readsCommand_93 : decode cX8_readsCommand 93 = .ok (.ifCond .eq 24, 3) := by decide +kernel
theorem dX8_readsCommand_96 : decode cX8_readsCommand 96 = .ok (.aload_n 0, 1) := by decide +kernel
theorem dX8_readsCommand_97 : decode cX8_readsCommand 97 = .ok (.bipush 32, 2) := by decide +kernel
theorem dX8_readsCommand_99 : decode cX8_readsCommand 99 = .ok (.invokevirtual 242, 3) := by decide +kernel
theorem dX8_readsCommand_102 : decode cX8_readsCommand 102 = .ok (.ifCond .eq 15, 3) := by decide +kernel
theorem dX8_readsCommand_105 : decode cX8_readsCommand 105 = .ok (.aload_n 0, 1) := by decide +kernel
theorem dX8_readsCommand_106 : decode cX8_readsCommand 106 = .ok (.iconst 0, 1) := by decide +kernel
theorem dX8_readsCommand_107 : decode cX8_readsCommand 107 = .ok (.invokevirtual 239, 3) := by decide +kernel
theorem dX8_readsCommand_110 : decode cX8_readsCommand 110 = .ok (.ifCond .eq 7, 3) := by decide +kernel
theorem dX8_readsCommand_113 : decode cX8_readsCommand 113 = .ok (.iconst 1, 1) := by decide +kernel
theorem dX8_readsCommand_114 : decode cX8_readsCommand 114 = .ok (.goto 4, 3) := by decide +kernel
theorem dX8_readsCommand_117 : decode cX8_readsCommand 117 = .ok (.iconst 0, 1) := by decide +kernel
theorem dX8_readsCommand_118 : decode cX8_readsCommand 118 = .ok (.ireturn, 1) := by decide +kernel
theorem dX8_readsAll_0 : decode cX8_readsAll 0 = .ok (.aload_n 0, 1) := by decide +kernel
theorem dX8_readsAll_1 : decode cX8_readsAll 1 = .ok (.iconst 0, 1) := by decide +kernel
theorem dX8_readsAll_2 : decode cX8_readsAll 2 = .ok (.putfield 233, 3) := by decide +kernel
theorem dX8_readsAll_5 : decode cX8_readsAll 5 = .ok (.iconst 1, 1) := by decide +kernel
theorem dX8_readsAll_6 : decode cX8_readsAll 6 = .ok (.istore_n 1, 1) := by decide +kernel
theorem dX8_readsAll_7 : decode cX8_readsAll 7 = .ok (.iload_n 1, 1) := by decide +kernel
theorem dX8_readsAll_8 : decode cX8_readsAll 8 = .ok (.ifCond .eq 22, 3) := by decide +kernel
theorem dX8_readsAll_11 : decode cX8_readsAll 11 = .ok (.aload_n 0, 1) := by decide +kernel
theorem dX8_readsAll_12 : decode cX8_readsAll 12 = .ok (.invokevirtual 267, 3) := by decide +kernel
theorem dX8_readsAll_15 : decode cX8_readsAll 15 = .ok (.ifCond .ne 5, 3) := by decide +kernel
theorem dX8_readsAll_18 : decode cX8_readsAll 18 = .ok (.iconst 0, 1) := by decide +kernel
theorem dX8_readsAll_19 : decode cX8_readsAll 19 = .ok (.ireturn, 1) := by decide +kernel
theorem dX8_readsAll_20 : decode cX8_readsAll 20 = .ok (.aload_n 0, 1) := by decide +kernel
theorem dX8_readsAll_21 : decode cX8_readsAll 21 = .ok (.bipush 59, 2) := by decide +kernel
theorem dX8_readsAll_23 : decode cX8_readsAll 23 = .ok (.invokevirtual 242, 3) := by decide +kernel
theorem dX8_readsAll_26 : decode cX8_readsAll 26 = .ok (.istore_n 1, 1) := by decide +kernel
theorem dX8_readsAll_27 : decode cX8_readsAll 27 = .ok (.goto (-20), 3) := by decide +kernel
theorem dX8_readsAll_30 : decode cX8_readsAll 30 = .ok (.aload_n 0, 1) := by decide +kernel
theorem dX8_readsAll_31 : decode cX8_readsAll 31 = .ok (.getfield 233, 3) := by decide +kernel
theorem dX8_readsAll_34 : decode cX8_readsAll 34 = .ok (.aload_n 0, 1) := by decide +kernel
theorem dX8_readsAll_35 : decode cX8_readsAll 35 = .ok (.getfield 218, 3) := by decide +kernel
theorem dX8_readsAll_38 : decode cX8_readsAll 38 = .ok (.if_icmp .ne 7, 3) := by decide +kernel
theorem dX8_readsAll_41 : decode cX8_readsAll 41 = .ok (.iconst 1, 1) := by decide +kernel
theorem dX8_readsAll_42 : decode cX8_readsAll 42 = .ok (.goto 4, 3) := by decide +kernel
theorem dX8_readsAll_45 : decode cX8_readsAll 45 = .ok (.iconst 0, 1) := by decide +kernel
theorem dX8_readsAll_46 : decode cX8_readsAll 46 = .ok (.ireturn, 1) := by decide +kernel
theorem dX8_notNow_0 : decode cX8_notNow 0 = .ok (.aload_n 0, 1) := by decide +kernel
theorem dX8_notNow_1 : decode cX8_notNow 1 = .ok (.getfield 58, 3) := by decide +kernel
theorem dX8_notNow_4 : decode cX8_notNow 4 = .ok (.iconst 0, 1) := by decide +kernel
theorem dX8_notNow_5 : decode cX8_notNow 5 = .ok (.iaload, 1) := by decide +kernel
theorem dX8_notNow_6 : decode cX8_notNow 6 = .ok (.istore_n 1, 1) := by decide +kernel
theorem dX8_notNow_7 : decode cX8_notNow 7 = .ok (.aload_n 0, 1) := by decide +kernel
theorem dX8_notNow_8 : decode cX8_notNow 8 = .ok (.getfield 248, 3) := by decide +kernel
theorem dX8_notNow_11 : decode cX8_notNow 11 = .ok (.tableswitch 151 98 115 #[139, 151, 121, 151, 151, 151, 151, 151, 85, 151, 151, 151, 151, 127, 109, 151, 115, 133], 85) := by decide +kernel
theorem dX8_notNow_96 : decode cX8_notNow 96 = .ok (.aload_n 0, 1) := by decide +kernel
theorem dX8_notNow_97 : decode cX8_notNow 97 = .ok (.iload_n 1, 1) := by decide +kernel
theorem dX8_notNow_98 : decode cX8_notNow 98 = .ok (.aload_n 0, 1) := by decide +kernel
theorem dX8_notNow_99 : decode cX8_notNow 99 = .ok (.getfield 58, 3) := by decide +kernel
theorem dX8_notNow_102 : decode cX8_notNow 102 = .ok (.iconst 1, 1) := by decide +kernel
theorem dX8_notNow_103 : decode cX8_notNow 103 = .ok (.iaload, 1) := by decide +kernel
theorem dX8_notNow_104 : decode cX8_notNow 104 = .ok (.aload_n 0, 1) := by decide +kernel
theorem dX8_notNow_105 : decode cX8_notNow 105 = .ok (.getfield 58, 3) := by decide +kernel
theorem dX8_notNow_108 : decode cX8_notNow 108 = .ok (.iconst 2, 1) := by decide +kernel
theorem dX8_notNow_109 : decode cX8_notNow 109 = .ok (.iaload, 1) := by decide +kernel
theorem dX8_notNow_110 : decode cX8_notNow 110 = .ok (.aload_n 0, 1) := by decide +kernel
theorem dX8_notNow_111 : decode cX8_notNow 111 = .ok (.getfield 58, 3) := by decide +kernel
theorem dX8_notNow_114 : decode cX8_notNow 114 = .ok (.iconst 3, 1) := by decide +kernel
theorem dX8_notNow_115 : decode cX8_notNow 115 = .ok (.iaload, 1) := by decide +kernel
theorem dX8_notNow_116 : decode cX8_notNow 116 = .ok (.invokevirtual 100, 3) := by decide +kernel
theorem dX8_notNow_119 : decode cX8_notNow 119 = .ok (.ireturn, 1) := by decide +kernel
theorem dX8_notNow_120 : decode cX8_notNow 120 = .ok (.aload_n 0, 1) := by decide +kernel
theorem dX8_notNow_121 : decode cX8_notNow 121 = .ok (.iload_n 1, 1) := by decide +kernel
theorem dX8_notNow_122 : decode cX8_notNow 122 = .ok (.invokevirtual 182, 3) := by decide +kernel
theorem dX8_notNow_125 : decode cX8_notNow 125 = .ok (.ireturn, 1) := by decide +kernel
theorem dX8_notNow_126 : decode cX8_notNow 126 = .ok (.aload_n 0, 1) := by decide +kernel
theorem dX8_notNow_127 : decode cX8_notNow 127 = .ok (.iload_n 1, 1) := by decide +kernel
theorem dX8_notNow_128 : decode cX8_notNow 128 = .ok (.invokevirtual 116, 3) := by decide +kernel
theorem dX8_notNow_131 : decode cX8_notNow 131 = .ok (.ireturn, 1) := by decide +kernel
theorem dX8_notNow_132 : decode cX8_notNow 132 = .ok (.aload_n 0, 1) := by decide +kernel
theorem dX8_notNow_133 : decode cX8_notNow 133 = .ok (.iload_n 1, 1) := by decide +kernel
theorem dX8_notNow_134 : decode cX8_notNow 134 = .ok (.invokevirtual 132, 3) := by decide +kernel
theorem dX8_notNow_137 : decode cX8_notNow 137 = .ok (.ireturn, 1) := by decide +kernel
theorem dX8_notNow_138 : decode cX8_notNow 138 = .ok (.aload_n 0, 1) := by decide +kernel
theorem dX8_notNow_139 : decode cX8_notNow 139 = .ok (.iload_n 1, 1) := by decide +kernel
theorem dX8_notNow_140 : decode cX8_notNow 140 = .ok (.invokevirtual 126, 3) := by decide +kernel
theorem dX8_notNow_143 : decode cX8_notNow 143 = .ok (.ireturn, 1) := by decide +kernel
theorem dX8_notNow_144 : decode cX8_notNow 144 = .ok (.aload_n 0, 1) := by decide +kernel
theorem dX8_notNow_145 : decode cX8_notNow 145 = .ok (.iload_n 1, 1) := by decide +kernel
theorem dX8_notNow_146 : decode cX8_notNow 146 = .ok (.invokevirtual 138, 3) := by decide +kernel
theorem dX8_notNow_149 : decode cX8_notNow 149 = .ok (.ireturn, 1) := by decide +kernel
theorem dX8_notNow_150 : decode cX8_notNow 150 = .ok (.aload_n 0, 1) := by decide +kernel
theorem dX8_notNow_151 : decode cX8_notNow 151 = .ok (.iload_n 1, 1) := by decide +kernel
theorem dX8_notNow_152 : decode cX8_notNow 152 = .ok (.aload_n 0, 1) := by decide +kernel
theorem dX8_notNow_153 : decode cX8_notNow 153 = .ok (.getfield 58, 3) := by decide +kernel
theorem dX8_notNow_156 : decode cX8_notNow 156 = .ok (.iconst 1, 1) := by decide +kernel
theorem dX8_notNow_157 : decode cX8_notNow 157 = .ok (.iaload, 1) := by decide +kernel
theorem dX8_notNow_158 : decode cX8_notNow 158 = .ok (.invokevirtual 144, 3) := by decide +kernel
theorem dX8_notNow_161 : decode cX8_notNow 161 = .ok (.ireturn, 1) := by decide +kernel
theorem dX8_notNow_162 : decode cX8_notNow 162 = .ok (.aload_n 0, 1) := by decide +kernel
theorem dX8_notNow_163 : decode cX8_notNow 163 = .ok (.iload_n 1, 1) := by decide +kernel
theorem dX8_notNow_164 : decode cX8_notNow 164 = .ok (.invokevirtual 147, 3) := by decide +kernel
theorem dX8_notNow_167 : decode cX8_notNow 167 = .ok (.ireturn, 1) := by decide +kernel
theorem dX8_doesNow_0 : decode cX8_doesNow 0 = .ok (.aload_n 0, 1) := by decide +kernel
theorem dX8_doesNow_1 : decode cX8_doesNow 1 = .ok (.getfield 58, 3) := by decide +kernel
theorem dX8_doesNow_4 : decode cX8_doesNow 4 = .ok (.iconst 0, 1) := by decide +kernel
theorem dX8_doesNow_5 : decode cX8_doesNow 5 = .ok (.iaload, 1) := by decide +kernel
theorem dX8_doesNow_6 : decode cX8_doesNow 6 = .ok (.istore_n 1, 1) := by decide +kernel
theorem dX8_doesNow_7 : decode cX8_doesNow 7 = .ok (.aload_n 0, 1) := by decide +kernel
theorem dX8_doesNow_8 : decode cX8_doesNow 8 = .ok (.getfield 248, 3) := by decide +kernel
theorem dX8_doesNow_11 : decode cX8_doesNow 11 = .ok (.tableswitch 155 98 115 #[140, 155, 121, 155, 155, 155, 155, 155, 85, 155, 155, 155, 155, 127, 109, 155, 115, 133], 85) := by decide +kernel
theorem dX8_doesNow_96 : decode cX8_doesNow 96 = .ok (.aload_n 0, 1) := by decide +kernel
theorem dX8_doesNow_97 : decode cX8_doesNow 97 = .ok (.iload_n 1, 1) := by decide +kernel
theorem dX8_doesNow_98 : decode cX8_doesNow 98 = .ok (.aload_n 0, 1) := by decide +kernel
theorem dX8_doesNow_99 : decode cX8_doesNow 99 = .ok (.getfield 58, 3) := by decide +kernel
theorem dX8_doesNow_102 : decode cX8_doesNow 102 = .ok (.iconst 1, 1) := by decide +kernel
theorem dX8_doesNow_103 : decode cX8_doesNow 103 = .ok (.iaload, 1) := by decide +kernel
theorem dX8_doesNow_104 : decode cX8_doesNow 104 = .ok (.aload_n 0, 1) := by decide +kernel
theorem dX8_doesNow_105 : decode cX8_doesNow 105 = .ok (.getfield 58, 3) := by decide +kernel
theorem dX8_doesNow_108 : decode cX8_doesNow 108 = .ok (.iconst 2, 1) := by decide +kernel
theorem dX8_doesNow_109 : decode cX8_doesNow 109 = .ok (.iaload, 1) := by decide +kernel
theorem dX8_doesNow_110 : decode cX8_doesNow 110 = .ok (.aload_n 0, 1) := by decide +kernel
theorem dX8_doesNow_111 : decode cX8_doesNow 111 = .ok (.getfield 58, 3) := by decide +kernel
theorem dX8_doesNow_114 : decode cX8_doesNow 114 = .ok (.iconst 3, 1) := by decide +kernel
theorem dX8_doesNow_115 : decode cX8_doesNow 115 = .ok (.iaload, 1) := by decide +kernel
theorem dX8_doesNow_116 : decode cX8_doesNow 116 = .ok (.invokevirtual 110, 3) := by decide +kernel
theorem dX8_doesNow_119 : decode cX8_doesNow 119 = .ok (.ireturn, 1) := by decide +kernel
theorem dX8_doesNow_120 : decode cX8_doesNow 120 = .ok (.aload_n 0, 1) := by decide +kernel
theorem dX8_doesNow_121 : decode cX8_doesNow 121 = .ok (.iload_n 1, 1) := by decide +kernel
theorem dX8_doesNow_122 : decode cX8_doesNow 122 = .ok (.invokevirtual 185, 3) := by decide +kernel
theorem dX8_doesNow_125 : decode cX8_doesNow 125 = .ok (.ireturn, 1) := by decide +kernel
theorem dX8_doesNow_126 : decode cX8_doesNow 126 = .ok (.aload_n 0, 1) := by decide +kernel
theorem dX8_doesNow_127 : decode cX8_doesNow 127 = .ok (.iload_n 1, 1) := by decide +kernel
theorem dX8_doesNow_128 : decode cX8_doesNow 128 = .ok (.invokevirtual 119, 3) := by decide +kernel
theorem dX8_doesNow_131 : decode cX8_doesNow 131 = .ok (.ireturn, 1) := by decide +kernel
theorem dX8_doesNow_132 : decode cX8_doesNow 132 = .ok (.aload_n 0, 1) := by decide +kernel
theorem dX8_doesNow_133 : decode cX8_doesNow 133 = .ok (.iload_n 1, 1) := by decide +kernel
theorem dX8_doesNow_134 : decode cX8_doesNow 134 = .ok (.invokevirtual 135, 3) := by decide +kernel
theorem dX8_doesNow_137 : decode cX8_doesNow 137 = .ok (.ireturn, 1) := by decide +kernel
theorem dX8_doesNow_138 : decode cX8_doesNow 138 = .ok (.aload_n 0, 1) := by decide +kernel
theorem dX8_doesNow_139 : decode cX8_doesNow 139 = .ok (.iload_n 1, 1) := by decide +kernel
theorem dX8_doesNow_140 : decode cX8_doesNow 140 = .ok (.invokevirtual 129, 3) := by decide +kernel
theorem dX8_doesNow_143 : decode cX8_doesNow 143 = .ok (.ireturn, 1) := by decide +kernel
theorem dX8_doesNow_144 : decode cX8_doesNow 144 = .ok (.aload_n 0, 1) := by decide +kernel
theorem dX8_doesNow_145 : decode cX8_doesNow 145 = .ok (.iconst 2, 1) := by decide +kernel
theorem dX8_doesNow_146 : decode cX8_doesNow 146 = .ok (.iload_n 1, 1) := by decide +kernel
theorem dX8_doesNow_147 : decode cX8_doesNow 147 = .ok (.invokevirtual 141, 3) := by decide +kernel
theorem dX8_doesNow_150 : decode cX8_doesNow 150 = .ok (.ireturn, 1) := by decide +kernel
theorem dX8_doesNow_151 : decode cX8_doesNow 151 = .ok (.aload_n 0, 1) := by decide +kernel
theorem dX8_doesNow_152 : decode cX8_doesNow 152 = .ok (.bipush 14, 2) := by decide +kernel
theorem dX8_doesNow_154 : decode cX8_doesNow 154 = .ok (.iload_n 1, 1) := by decide +kernel
theorem dX8_doesNow_155 : decode cX8_doesNow 155 = .ok (.iadd, 1) := by decide +kernel
theorem dX8_doesNow_156 : decode cX8_doesNow 156 = .ok (.aload_n 0, 1) := by decide +kernel
theorem dX8_doesNow_157 : decode cX8_doesNow 157 = .ok (.getfield 58, 3) := by decide +kernel
theorem dX8_doesNow_160 : decode cX8_doesNow 160 = .ok (.iconst 1, 1) := by decide +kernel
theorem dX8_doesNow_161 : decode cX8_doesNow 161 = .ok (.iaload, 1) := by decide +kernel
theorem dX8_doesNow_162 : decode cX8_doesNow 162 = .ok (.invokevirtual 141, 3) := by decide +kernel
theorem dX8_doesNow_165 : decode cX8_doesNow 165 = .ok (.ireturn, 1) := by decide +kernel
theorem dX8_doesNow_166 : decode cX8_doesNow 166 = .ok (.aload_n 0, 1) := by decide +kernel
theorem dX8_doesNow_167 : decode cX8_doesNow 167 = .ok (.iload_n 1, 1) := by decide +kernel
theorem dX8_doesNow_168 : decode cX8_doesNow 168 = .ok (.invokevirtual 150, 3) := by decide +kernel
theorem dX8_doesNow_171 : decode cX8_doesNow 171 = .ok (.ireturn, 1) := by decide +kernel
theorem dX8_doesAll_0 : decode cX8_doesAll 0 = .ok (.aload_n 0, 1) := by decide +kernel
theorem dX8_doesAll_1 : decode cX8_doesAll 1 = .ok (.iconst 0, 1) := by decide +kernel
theorem dX8_doesAll_2 : decode cX8_doesAll 2 = .ok (.putfield 270, 3) := by decide +kernel
theorem dX8_doesAll_5 : decode cX8_doesAll 5 = .ok (.aload_n 0, 1) := by decide +kernel
theorem dX8_doesAll_6 : decode cX8_doesAll 6 = .ok (.iconst 0, 1) := by decide +kernel
theorem dX8_doesAll_7 : decode cX8_doesAll 7 = .ok (.putfield 233, 3) := by decide +kernel
theorem dX8_doesAll_10 : decode cX8_doesAll 10 = .ok (.iconst 1, 1) := by decide +kernel
theorem dX8_doesAll_11 : decode cX8_doesAll 11 = .ok (.istore_n 1, 1) := by decide +kernel
theorem dX8_doesAll_12 : decode cX8_doesAll 12 = .ok (.iload_n 1, 1) := by decide +kernel
theorem dX8_doesAll_13 : decode cX8_doesAll 13 = .ok (.ifCond .eq 44, 3) := by decide +kernel
theorem dX8_doesAll_16 : decode cX8_doesAll 16 = .ok (.aload_n 0, 1) := by decide +kernel
theorem dX8_doesAll_17 : decode cX8_doesAll 17 = .ok (.invokevirtual 267, 3) := by decide +kernel
theorem dX8_doesAll_20 : decode cX8_doesAll 20 = .ok (.pop, 1) := by decide +kernel
theorem dX8_doesAll_21 : decode cX8_doesAll 21 = .ok (.aload_n 0, 1) := by decide +kernel
theorem dX8_doesAll_22 : decode cX8_doesAll 22 = .ok (.invokevirtual 273, 3) := by decide +kernel
theorem dX8_doesAll_25 : decode cX8_doesAll 25 = .ok (.istore_n 2, 1) := by decide +kernel
theorem dX8_doesAll_26 : decode cX8_doesAll 26 = .ok (.iload_n 2, 1) := by decide +kernel
theorem dX8_doesAll_27 : decode cX8_doesAll 27 = .ok (.ifCond .eq 5, 3) := by decide +kernel
theorem dX8_doesAll_30 : decode cX8_doesAll 30 = .ok (.iload_n 2, 1) := by decide +kernel
theorem dX8_doesAll_31 : decode cX8_doesAll 31 = .ok (.ireturn, 1) := by decide +kernel
theorem dX8_doesAll_32 : decode cX8_doesAll 32 = .ok (.aload_n 0, 1) := by decide +kernel
theorem dX8_doesAll_33 : decode cX8_doesAll 33 = .ok (.invokevirtual 276, 3) := by decide +kernel
theorem dX8_doesAll_36 : decode cX8_doesAll 36 = .ok (.pop, 1) := by decide +kernel
theorem dX8_doesAll_37 : decode cX8_doesAll 37 = .ok (.aload_n 0, 1) := by decide +kernel
theorem dX8_doesAll_38 : decode cX8_doesAll 38 = .ok (.dup, 1) := by decide +kernel
theorem dX8_doesAll_39 : decode cX8_doesAll 39 = .ok (.getfield 270, 3) := by decide +kernel
theorem dX8_doesAll_42 : decode cX8_doesAll 42 = .ok (.iconst 1, 1) := by decide +kernel
theorem dX8_doesAll_43 : decode cX8_doesAll 43 = .ok (.iadd, 1) := by decide +kernel
theorem dX8_doesAll_44 : decode cX8_doesAll 44 = .ok (.putfield 270, 3) := by decide +kernel
theorem dX8_doesAll_47 : decode cX8_doesAll 47 = .ok (.aload_n 0, 1) := by decide +kernel
theorem dX8_doesAll_48 : decode cX8_doesAll 48 = .ok (.bipush 59, 2) := by decide +kernel
theorem dX8_doesAll_50 : decode cX8_doesAll 50 = .ok (.invokevirtual 242, 3) := by decide +kernel
theorem dX8_doesAll_53 : decode cX8_doesAll 53 = .ok (.istore_n 1, 1) := by decide +kernel
theorem dX8_doesAll_54 : decode cX8_doesAll 54 = .ok (.goto (-42), 3) := by decide +kernel
theorem dX8_doesAll_57 : decode cX8_doesAll 57 = .ok (.iconst 0, 1) := by decide +kernel
theorem dX8_doesAll_58 : decode cX8_doesAll 58 = .ok (.ireturn, 1) := by decide +kernel
theorem dX8_refuses_0 : decode cX8_refuses 0 = .ok (.aload_n 0, 1) := by decide +kernel
theorem dX8_refuses_1 : decode cX8_refuses 1 = .ok (.bipush 9, 2) := by decide +kernel
theorem dX8_refuses_3 : decode cX8_refuses 3 = .ok (.putfield 10, 3) := by decide +kernel
theorem dX8_refuses_6 : decode cX8_refuses 6 = .ok (.aload_n 0, 1) := by decide +kernel
theorem dX8_refuses_7 : decode cX8_refuses 7 = .ok (.aload_n 0, 1) := by decide +kernel
theorem dX8_refuses_8 : decode cX8_refuses 8 = .ok (.getfield 270, 3) := by decide +kernel
theorem dX8_refuses_11 : decode cX8_refuses 11 = .ok (.putfield 13, 3) := by decide +kernel
theorem dX8_refuses_14 : decode cX8_refuses 14 = .ok (.aload_n 0, 1) := by decide +kernel
theorem dX8_refuses_15 : decode cX8_refuses 15 = .ok (.iload_n 1, 1) := by decide +kernel
theorem dX8_refuses_16 : decode cX8_refuses 16 = .ok (.bipush (-5), 2) := by decide +kernel
theorem dX8_refuses_18 : decode cX8_refuses 18 = .ok (.if_icmp .ne 10, 3) := by decide +kernel
theorem dX8_refuses_21 : decode cX8_refuses 21 = .ok (.aload_n 0, 1) := by decide +kernel
theorem dX8_refuses_22 : decode cX8_refuses 22 = .ok (.getfield 1, 3) := by decide +kernel
theorem dX8_refuses_25 : decode cX8_refuses 25 = .ok (.goto 4, 3) := by decide +kernel
theorem dX8_refuses_28 : decode cX8_refuses 28 = .ok (.iconst 0, 1) := by decide +kernel
theorem dX8_refuses_29 : decode cX8_refuses 29 = .ok (.putfield 16, 3) := by decide +kernel
theorem dX8_refuses_32 : decode cX8_refuses 32 = .ok (.aload_n 0, 1) := by decide +kernel
theorem dX8_refuses_33 : decode cX8_refuses 33 = .ok (.aload_n 0, 1) := by decide +kernel
theorem dX8_refuses_34 : decode cX8_refuses 34 = .ok (.getfield 7, 3) := by decide +kernel
theorem dX8_refuses_37 : decode cX8_refuses 37 = .ok (.putfield 23, 3) := by decide +kernel
theorem dX8_refuses_40 : decode cX8_refuses 40 = .ok (.bipush (-5), 2) := by decide +kernel
theorem dX8_refuses_42 : decode cX8_refuses 42 = .ok (.ireturn, 1) := by decide +kernel
theorem dX8_read_0 : decode cX8_read 0 = .ok (.aload_n 0, 1) := by decide +kernel
theorem dX8_read_1 : decode cX8_read 1 = .ok (.invokevirtual 279, 3) := by decide +kernel
theorem dX8_read_4 : decode cX8_read 4 = .ok (.ifCond .ne 19, 3) := by decide +kernel
theorem dX8_read_7 : decode cX8_read 7 = .ok (.aload_n 0, 1) := by decide +kernel
theorem dX8_read_8 : decode cX8_read 8 = .ok (.aload_n 0, 1) := by decide +kernel
theorem dX8_read_9 : decode cX8_read 9 = .ok (.getfield 233, 3) := by decide +kernel
theorem dX8_read_12 : decode cX8_read 12 = .ok (.putfield 55, 3) := by decide +kernel
theorem dX8_read_15 : decode cX8_read 15 = .ok (.aload_n 0, 1) := by decide +kernel
theorem dX8_read_16 : decode cX8_read 16 = .ok (.iconst 0, 1) := by decide +kernel
theorem dX8_read_17 : decode cX8_read 17 = .ok (.putfield 218, 3) := by decide +kernel
theorem dX8_read_20 : decode cX8_read 20 = .ok (.bipush (-2), 2) := by decide +kernel
theorem dX8_read_22 : decode cX8_read 22 = .ok (.ireturn, 1) := by decide +kernel
theorem dX8_read_23 : decode cX8_read 23 = .ok (.aload_n 0, 1) := by decide +kernel
theorem dX8_read_24 : decode cX8_read 24 = .ok (.invokevirtual 67, 3) := by decide +kernel
theorem dX8_read_27 : decode cX8_read 27 = .ok (.aload_n 0, 1) := by decide +kernel
theorem dX8_read_28 : decode cX8_read 28 = .ok (.invokevirtual 282, 3) := by decide +kernel
theorem dX8_read_31 : decode cX8_read 31 = .ok (.istore_n 1, 1) := by decide +kernel
theorem dX8_read_32 : decode cX8_read 32 = .ok (.aload_n 0, 1) := by decide +kernel
theorem dX8_read_33 : decode cX8_read 33 = .ok (.iconst 0, 1) := by decide +kernel
theorem dX8_read_34 : decode cX8_read 34 = .ok (.putfield 218, 3) := by decide +kernel
theorem dX8_read_37 : decode cX8_read 37 = .ok (.iload_n 1, 1) := by decide +kernel
theorem dX8_read_38 : decode cX8_read 38 = .ok (.ifCond .ne 12, 3) := by decide +kernel
theorem dX8_read_41 : decode cX8_read 41 = .ok (.aload_n 0, 1) := by decide +kernel
theorem dX8_read_42 : decode cX8_read 42 = .ok (.invokevirtual 70, 3) := by decide +kernel
theorem dX8_read_45 : decode cX8_read 45 = .ok (.aload_n 0, 1) := by decide +kernel
theorem dX8_read_46 : decode cX8_read 46 = .ok (.getfield 270, 3) := by decide +kernel
theorem dX8_read_49 : decode cX8_read 49 = .ok (.ireturn, 1) := by decide +kernel
theorem dX8_read_50 : decode cX8_read 50 = .ok (.aload_n 0, 1) := by decide +kernel
theorem dX8_read_51 : decode cX8_read 51 = .ok (.invokevirtual 285, 3) := by decide +kernel
theorem dX8_read_54 : decode cX8_read 54 = .ok (.aload_n 0, 1) := by decide +kernel
theorem dX8_read_55 : decode cX8_read 55 = .ok (.iload_n 1, 1) := by decide +kernel
theorem dX8_read_56 : decode cX8_read 56 = .ok (.invokevirtual 288, 3) := by decide +kernel
theorem dX8_read_59 : decode cX8_read 59 = .ok (.ireturn, 1) := by decide +kernel
theorem dX8_undo_0 : decode cX8_undo 0 = .ok (.aload_n 0, 1) := by decide +kernel
theorem dX8_undo_1 : decode cX8_undo 1 = .ok (.getfield 61, 3) := by decide +kernel
theorem dX8_undo_4 : decode cX8_undo 4 = .ok (.ifCond .ne 6, 3) := by decide +kernel
theorem dX8_undo_7 : decode cX8_undo 7 = .ok (.bipush (-3), 2) := by decide +kernel
theorem dX8_undo_9 : decode cX8_undo 9 = .ok (.ireturn, 1) := by decide +kernel
theorem dX8_undo_10 : decode cX8_undo 10 = .ok (.aload_n 0, 1) := by decide +kernel
theorem dX8_undo_11 : decode cX8_undo 11 = .ok (.dup, 1) := by decide +kernel
theorem dX8_undo_12 : decode cX8_undo 12 = .ok (.getfield 61, 3) := by decide +kernel
theorem dX8_undo_15 : decode cX8_undo 15 = .ok (.iconst 1, 1) := by decide +kernel
theorem dX8_undo_16 : decode cX8_undo 16 = .ok (.isub, 1) := by decide +kernel
theorem dX8_undo_17 : decode cX8_undo 17 = .ok (.putfield 61, 3) := by decide +kernel
theorem dX8_undo_20 : decode cX8_undo 20 = .ok (.aload_n 0, 1) := by decide +kernel
theorem dX8_undo_21 : decode cX8_undo 21 = .ok (.getfield 64, 3) := by decide +kernel
theorem dX8_undo_24 : decode cX8_undo 24 = .ok (.aload_n 0, 1) := by decide +kernel
theorem dX8_undo_25 : decode cX8_undo 25 = .ok (.getfield 61, 3) := by decide +kernel
theorem dX8_undo_28 : decode cX8_undo 28 = .ok (.iadd, 1) := by decide +kernel
theorem dX8_undo_29 : decode cX8_undo 29 = .ok (.bipush 8, 2) := by decide +kernel
theorem dX8_undo_31 : decode cX8_undo 31 = .ok (.irem, 1) := by decide +kernel
theorem dX8_undo_32 : decode cX8_undo 32 = .ok (.istore_n 1, 1) := by decide +kernel
theorem dX8_undo_33 : decode cX8_undo 33 = .ok (.iconst 0, 1) := by decide +kernel
theorem dX8_undo_34 : decode cX8_undo 34 = .ok (.istore_n 2, 1) := by decide +kernel
theorem dX8_undo_35 : decode cX8_undo 35 = .ok (.iload_n 2, 1) := by decide +kernel
theorem dX8_undo_36 : decode cX8_undo 36 = .ok (.sipush 274, 3) := by decide +kernel
theorem dX8_undo_39 : decode cX8_undo 39 = .ok (.if_icmp .ge 27, 3) := by decide +kernel
theorem dX8_undo_42 : decode cX8_undo 42 = .ok (.aload_n 0, 1) := by decide +kernel
theorem dX8_undo_43 : decode cX8_undo 43 = .ok (.getfield 32, 3) := by decide +kernel
theorem dX8_undo_46 : decode cX8_undo 46 = .ok (.iload_n 2, 1) := by decide +kernel
theorem dX8_undo_47 : decode cX8_undo 47 = .ok (.aload_n 0, 1) := by decide +kernel
theorem dX8_undo_48 : decode cX8_undo 48 = .ok (.getfield 36, 3) := by decide +kernel
theorem dX8_undo_51 : decode cX8_undo 51 = .ok (.sipush 274, 3) := by decide +kernel
theorem dX8_undo_54 : decode cX8_undo 54 = .ok (.iload_n 1, 1) := by decide +kernel
theorem dX8_undo_55 : decode cX8_undo 55 = .ok (.imul, 1) := by decide +kernel
theorem dX8_undo_56 : decode cX8_undo 56 = .ok (.iload_n 2, 1) := by decide +kernel
theorem dX8_undo_57 : decode cX8_undo 57 = .ok (.iadd, 1) := by decide +kernel
theorem dX8_undo_58 : decode cX8_undo 58 = .ok (.iaload, 1) := by decide +kernel
theorem dX8_undo_59 : decode cX8_undo 59 = .ok (.iastore, 1) := by decide +kernel
theorem dX8_undo_60 : decode cX8_undo 60 = .ok (.iinc 2 1, 3) := by decide +kernel
theorem dX8_undo_63 : decode cX8_undo 63 = .ok (.goto (-28), 3) := by decide +kernel
theorem dX8_undo_66 : decode cX8_undo 66 = .ok (.aload_n 0, 1) := by decide +kernel
theorem dX8_undo_67 : decode cX8_undo 67 = .ok (.getfield 61, 3) := by decide +kernel
theorem dX8_undo_70 : decode cX8_undo 70 = .ok (.ireturn, 1) := by decide +kernel
theorem dX8_save_0 : decode cX8_save 0 = .ok (.iconst 0, 1) := by decide +kernel
theorem dX8_save_1 : decode cX8_save 1 = .ok (.istore_n 1, 1) := by decide +kernel
theorem dX8_save_2 : decode cX8_save 2 = .ok (.iload_n 1, 1) := by decide +kernel
theorem dX8_save_3 : decode cX8_save 3 = .ok (.sipush 274, 3) := by decide +kernel
theorem dX8_save_6 : decode cX8_save 6 = .ok (.if_icmp .ge 21, 3) := by decide +kernel
theorem dX8_save_9 : decode cX8_save 9 = .ok (.aload_n 0, 1) := by decide +kernel
theorem dX8_save_10 : decode cX8_save 10 = .ok (.getfield 39, 3) := by decide +kernel
theorem dX8_save_13 : decode cX8_save 13 = .ok (.iload_n 1, 1) := by decide +kernel
theorem dX8_save_14 : decode cX8_save 14 = .ok (.aload_n 0, 1) := by decide +kernel
theorem dX8_save_15 : decode cX8_save 15 = .ok (.getfield 32, 3) := by decide +kernel
theorem dX8_save_18 : decode cX8_save 18 = .ok (.iload_n 1, 1) := by decide +kernel
theorem dX8_save_19 : decode cX8_save 19 = .ok (.iaload, 1) := by decide +kernel
theorem dX8_save_20 : decode cX8_save 20 = .ok (.iastore, 1) := by decide +kernel
theorem dX8_save_21 : decode cX8_save 21 = .ok (.iinc 1 1, 3) := by decide +kernel
theorem dX8_save_24 : decode cX8_save 24 = .ok (.goto (-22), 3) := by decide +kernel
theorem dX8_save_27 : decode cX8_save 27 = .ok (.aload_n 0, 1) := by decide +kernel
theorem dX8_save_28 : decode cX8_save 28 = .ok (.iconst 1, 1) := by decide +kernel
theorem dX8_save_29 : decode cX8_save 29 = .ok (.putfield 291, 3) := by decide +kernel
theorem dX8_save_32 : decode cX8_save 32 = .ok (.aload_n 0, 1) := by decide +kernel
theorem dX8_save_33 : decode cX8_save 33 = .ok (.getfield 32, 3) := by decide +kernel
theorem dX8_save_36 : decode cX8_save 36 = .ok (.iconst 0, 1) := by decide +kernel
theorem dX8_save_37 : decode cX8_save 37 = .ok (.iaload, 1) := by decide +kernel
theorem dX8_save_38 : decode cX8_save 38 = .ok (.ireturn, 1) := by decide +kernel
theorem dX8_restore_0 : decode cX8_restore 0 = .ok (.aload_n 0, 1) := by decide +kernel
theorem dX8_restore_1 : decode cX8_restore 1 = .ok (.getfield 291, 3) := by decide +kernel
theorem dX8_restore_4 : decode cX8_restore 4 = .ok (.ifCond .ne 6, 3) := by decide +kernel
theorem dX8_restore_7 : decode cX8_restore 7 = .ok (.bipush (-3), 2) := by decide +kernel
theorem dX8_restore_9 : decode cX8_restore 9 = .ok (.ireturn, 1) := by decide +kernel
theorem dX8_restore_10 : decode cX8_restore 10 = .ok (.iconst 0, 1) := by decide +kernel
theorem dX8_restore_11 : decode cX8_restore 11 = .ok (.istore_n 1, 1) := by decide +kernel
theorem dX8_restore_12 : decode cX8_restore 12 = .ok (.iload_n 1, 1) := by decide +kernel
theorem dX8_restore_13 : decode cX8_restore 13 = .ok (.sipush 274, 3) := by decide +kernel
theorem dX8_restore_16 : decode cX8_restore 16 = .ok (.if_icmp .ge 21, 3) := by decide +kernel
theorem dX8_restore_19 : decode cX8_restore 19 = .ok (.aload_n 0, 1) := by decide +kernel
theorem dX8_restore_20 : decode cX8_restore 20 = .ok (.getfield 32, 3) := by decide +kernel
theorem dX8_restore_23 : decode cX8_restore 23 = .ok (.iload_n 1, 1) := by decide +kernel
theorem dX8_restore_24 : decode cX8_restore 24 = .ok (.aload_n 0, 1) := by decide +kernel
theorem dX8_restore_25 : decode cX8_restore 25 = .ok (.getfield 39, 3) := by decide +kernel
theorem dX8_restore_28 : decode cX8_restore 28 = .ok (.iload_n 1, 1) := by decide +kernel
theorem dX8_restore_29 : decode cX8_restore 29 = .ok (.iaload, 1) := by decide +kernel
theorem dX8_restore_30 : decode cX8_restore 30 = .ok (.iastore, 1) := by decide +kernel
theorem dX8_restore_31 : decode cX8_restore 31 = .ok (.iinc 1 1, 3) := by decide +kernel
theorem dX8_restore_34 : decode cX8_restore 34 = .ok (.goto (-22), 3) := by decide +kernel
theorem dX8_restore_37 : decode cX8_restore 37 = .ok (.aload_n 0, 1) := by decide +kernel
theorem dX8_restore_38 : decode cX8_restore 38 = .ok (.iconst 0, 1) := by decide +kernel
theorem dX8_restore_39 : decode cX8_restore 39 = .ok (.putfield 61, 3) := by decide +kernel
theorem dX8_restore_42 : decode cX8_restore 42 = .ok (.aload_n 0, 1) := by decide +kernel
theorem dX8_restore_43 : decode cX8_restore 43 = .ok (.iconst 0, 1) := by decide +kernel
theorem dX8_restore_44 : decode cX8_restore 44 = .ok (.putfield 64, 3) := by decide +kernel
theorem dX8_restore_47 : decode cX8_restore 47 = .ok (.aload_n 0, 1) := by decide +kernel
theorem dX8_restore_48 : decode cX8_restore 48 = .ok (.getfield 32, 3) := by decide +kernel
theorem dX8_restore_51 : decode cX8_restore 51 = .ok (.iconst 0, 1) := by decide +kernel
theorem dX8_restore_52 : decode cX8_restore 52 = .ok (.iaload, 1) := by decide +kernel
theorem dX8_restore_53 : decode cX8_restore 53 = .ok (.ireturn, 1) := by decide +kernel
