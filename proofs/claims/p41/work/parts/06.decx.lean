theorem dX0_init_0 : decode cX0_init 0 = .ok (.aload_n 0, 1) := by decide +kernel
theorem dX0_init_1 : decode cX0_init 1 = .ok (.invokespecial 3, 3) := by decide +kernel
theorem dX0_init_4 : decode cX0_init 4 = .ok (.aload_n 0, 1) := by decide +kernel
theorem dX0_init_5 : decode cX0_init 5 = .ok (.bipush 9, 2) := by decide +kernel
theorem dX0_init_7 : decode cX0_init 7 = .ok (.anewarray 9, 3) := by decide +kernel
theorem dX0_init_10 : decode cX0_init 10 = .ok (.putfield 11, 3) := by decide +kernel
theorem dX0_init_13 : decode cX0_init 13 = .ok (.aload_n 0, 1) := by decide +kernel
theorem dX0_init_14 : decode cX0_init 14 = .ok (.iconst 0, 1) := by decide +kernel
theorem dX0_init_15 : decode cX0_init 15 = .ok (.putfield 17, 3) := by decide +kernel
theorem dX0_init_18 : decode cX0_init 18 = .ok (.aload_n 0, 1) := by decide +kernel
theorem dX0_init_19 : decode cX0_init 19 = .ok (.iconst 0, 1) := by decide +kernel
theorem dX0_init_20 : decode cX0_init 20 = .ok (.putfield 21, 3) := by decide +kernel
theorem dX0_init_23 : decode cX0_init 23 = .ok (.iconst 0, 1) := by decide +kernel
theorem dX0_init_24 : decode cX0_init 24 = .ok (.istore_n 1, 1) := by decide +kernel
theorem dX0_init_25 : decode cX0_init 25 = .ok (.iload_n 1, 1) := by decide +kernel
theorem dX0_init_26 : decode cX0_init 26 = .ok (.aload_n 0, 1) := by decide +kernel
theorem dX0_init_27 : decode cX0_init 27 = .ok (.getfield 11, 3) := by decide +kernel
theorem dX0_init_30 : decode cX0_init 30 = .ok (.arraylength, 1) := by decide +kernel
theorem dX0_init_31 : decode cX0_init 31 = .ok (.if_icmp .ge 22, 3) := by decide +kernel
theorem dX0_init_34 : decode cX0_init 34 = .ok (.aload_n 0, 1) := by decide +kernel
theorem dX0_init_35 : decode cX0_init 35 = .ok (.getfield 11, 3) := by decide +kernel
theorem dX0_init_38 : decode cX0_init 38 = .ok (.iload_n 1, 1) := by decide +kernel
theorem dX0_init_39 : decode cX0_init 39 = .ok (.new 9, 3) := by decide +kernel
theorem dX0_init_42 : decode cX0_init 42 = .ok (.dup, 1) := by decide +kernel
theorem dX0_init_43 : decode cX0_init 43 = .ok (.invokespecial 24, 3) := by decide +kernel
theorem dX0_init_46 : decode cX0_init 46 = .ok (.aastore, 1) := by decide +kernel
theorem dX0_init_47 : decode cX0_init 47 = .ok (.iinc 1 1, 3) := by decide +kernel
theorem dX0_init_50 : decode cX0_init 50 = .ok (.goto (-25), 3) := by decide +kernel
theorem dX0_init_53 : decode cX0_init 53 = .ok (.return_, 1) := by decide +kernel
theorem dX0_prepare_0 : decode cX0_prepare 0 = .ok (.aload_n 1, 1) := by decide +kernel
theorem dX0_prepare_1 : decode cX0_prepare 1 = .ok (.aload_n 0, 1) := by decide +kernel
theorem dX0_prepare_2 : decode cX0_prepare 2 = .ok (.invokevirtual 25, 3) := by decide +kernel
theorem dX0_prepare_5 : decode cX0_prepare 5 = .ok (.invokestatic 29, 3) := by decide +kernel
theorem dX0_prepare_8 : decode cX0_prepare 8 = .ok (.return_, 1) := by decide +kernel
theorem dX0_keep_0 : decode cX0_keep 0 = .ok (.aload_n 0, 1) := by decide +kernel
theorem dX0_keep_1 : decode cX0_keep 1 = .ok (.aload_n 0, 1) := by decide +kernel
theorem dX0_keep_2 : decode cX0_keep 2 = .ok (.getfield 17, 3) := by decide +kernel
theorem dX0_keep_5 : decode cX0_keep 5 = .ok (.bipush 8, 2) := by decide +kernel
theorem dX0_keep_7 : decode cX0_keep 7 = .ok (.if_icmp .ge 12, 3) := by decide +kernel
theorem dX0_keep_10 : decode cX0_keep 10 = .ok (.aload_n 0, 1) := by decide +kernel
theorem dX0_keep_11 : decode cX0_keep 11 = .ok (.getfield 17, 3) := by decide +kernel
theorem dX0_keep_14 : decode cX0_keep 14 = .ok (.iconst 1, 1) := by decide +kernel
theorem dX0_keep_15 : decode cX0_keep 15 = .ok (.iadd, 1) := by decide +kernel
theorem dX0_keep_16 : decode cX0_keep 16 = .ok (.goto 4, 3) := by decide +kernel
theorem dX0_keep_19 : decode cX0_keep 19 = .ok (.iconst 0, 1) := by decide +kernel
theorem dX0_keep_20 : decode cX0_keep 20 = .ok (.putfield 17, 3) := by decide +kernel
theorem dX0_keep_23 : decode cX0_keep 23 = .ok (.aload_n 0, 1) := by decide +kernel
theorem dX0_keep_24 : decode cX0_keep 24 = .ok (.bipush 8, 2) := by decide +kernel
theorem dX0_keep_26 : decode cX0_keep 26 = .ok (.aload_n 0, 1) := by decide +kernel
theorem dX0_keep_27 : decode cX0_keep 27 = .ok (.getfield 21, 3) := by decide +kernel
theorem dX0_keep_30 : decode cX0_keep 30 = .ok (.iconst 1, 1) := by decide +kernel
theorem dX0_keep_31 : decode cX0_keep 31 = .ok (.iadd, 1) := by decide +kernel
theorem dX0_keep_32 : decode cX0_keep 32 = .ok (.invokestatic 33, 3) := by decide +kernel
theorem dX0_keep_35 : decode cX0_keep 35 = .ok (.putfield 21, 3) := by decide +kernel
theorem dX0_keep_38 : decode cX0_keep 38 = .ok (.return_, 1) := by decide +kernel
theorem dX0_dismiss_0 : decode cX0_dismiss 0 = .ok (.aload_n 0, 1) := by decide +kernel
theorem dX0_dismiss_1 : decode cX0_dismiss 1 = .ok (.invokevirtual 25, 3) := by decide +kernel
theorem dX0_dismiss_4 : decode cX0_dismiss 4 = .ok (.aload_n 1, 1) := by decide +kernel
theorem dX0_dismiss_5 : decode cX0_dismiss 5 = .ok (.invokestatic 29, 3) := by decide +kernel
theorem dX0_dismiss_8 : decode cX0_dismiss 8 = .ok (.return_, 1) := by decide +kernel
theorem dX0_takeBack_0 : decode cX0_takeBack 0 = .ok (.aload_n 0, 1) := by decide +kernel
theorem dX0_takeBack_1 : decode cX0_takeBack 1 = .ok (.getfield 21, 3) := by decide +kernel
theorem dX0_takeBack_4 : decode cX0_takeBack 4 = .ok (.ifCond .le 43, 3) := by decide +kernel
theorem dX0_takeBack_7 : decode cX0_takeBack 7 = .ok (.aload_n 0, 1) := by decide +kernel
theorem dX0_takeBack_8 : decode cX0_takeBack 8 = .ok (.aload_n 0, 1) := by decide +kernel
theorem dX0_takeBack_9 : decode cX0_takeBack 9 = .ok (.getfield 17, 3) := by decide +kernel
theorem dX0_takeBack_12 : decode cX0_takeBack 12 = .ok (.ifCond .le 12, 3) := by decide +kernel
theorem dX0_takeBack_15 : decode cX0_takeBack 15 = .ok (.aload_n 0, 1) := by decide +kernel
theorem dX0_takeBack_16 : decode cX0_takeBack 16 = .ok (.getfield 17, 3) := by decide +kernel
theorem dX0_takeBack_19 : decode cX0_takeBack 19 = .ok (.iconst 1, 1) := by decide +kernel
theorem dX0_takeBack_20 : decode cX0_takeBack 20 = .ok (.isub, 1) := by decide +kernel
theorem dX0_takeBack_21 : decode cX0_takeBack 21 = .ok (.goto 5, 3) := by decide +kernel
theorem dX0_takeBack_24 : decode cX0_takeBack 24 = .ok (.bipush 8, 2) := by decide +kernel
theorem dX0_takeBack_26 : decode cX0_takeBack 26 = .ok (.putfield 17, 3) := by decide +kernel
theorem dX0_takeBack_29 : decode cX0_takeBack 29 = .ok (.aload_n 0, 1) := by decide +kernel
theorem dX0_takeBack_30 : decode cX0_takeBack 30 = .ok (.dup, 1) := by decide +kernel
theorem dX0_takeBack_31 : decode cX0_takeBack 31 = .ok (.getfield 21, 3) := by decide +kernel
theorem dX0_takeBack_34 : decode cX0_takeBack 34 = .ok (.iconst 1, 1) := by decide +kernel
theorem dX0_takeBack_35 : decode cX0_takeBack 35 = .ok (.isub, 1) := by decide +kernel
theorem dX0_takeBack_36 : decode cX0_takeBack 36 = .ok (.putfield 21, 3) := by decide +kernel
theorem dX0_takeBack_39 : decode cX0_takeBack 39 = .ok (.aload_n 0, 1) := by decide +kernel
theorem dX0_takeBack_40 : decode cX0_takeBack 40 = .ok (.invokevirtual 25, 3) := by decide +kernel
theorem dX0_takeBack_43 : decode cX0_takeBack 43 = .ok (.aload_n 1, 1) := by decide +kernel
theorem dX0_takeBack_44 : decode cX0_takeBack 44 = .ok (.invokestatic 29, 3) := by decide +kernel
theorem dX0_takeBack_47 : decode cX0_takeBack 47 = .ok (.return_, 1) := by decide +kernel
theorem dX0_forget_0 : decode cX0_forget 0 = .ok (.aload_n 0, 1) := by decide +kernel
theorem dX0_forget_1 : decode cX0_forget 1 = .ok (.iconst 0, 1) := by decide +kernel
theorem dX0_forget_2 : decode cX0_forget 2 = .ok (.putfield 21, 3) := by decide +kernel
theorem dX0_forget_5 : decode cX0_forget 5 = .ok (.return_, 1) := by decide +kernel
theorem dX0_slot_0 : decode cX0_slot 0 = .ok (.aload_n 0, 1) := by decide +kernel
theorem dX0_slot_1 : decode cX0_slot 1 = .ok (.getfield 17, 3) := by decide +kernel
theorem dX0_slot_4 : decode cX0_slot 4 = .ok (.ifCond .lt 27, 3) := by decide +kernel
theorem dX0_slot_7 : decode cX0_slot 7 = .ok (.aload_n 0, 1) := by decide +kernel
theorem dX0_slot_8 : decode cX0_slot 8 = .ok (.getfield 17, 3) := by decide +kernel
theorem dX0_slot_11 : decode cX0_slot 11 = .ok (.aload_n 0, 1) := by decide +kernel
theorem dX0_slot_12 : decode cX0_slot 12 = .ok (.getfield 11, 3) := by decide +kernel
theorem dX0_slot_15 : decode cX0_slot 15 = .ok (.arraylength, 1) := by decide +kernel
theorem dX0_slot_16 : decode cX0_slot 16 = .ok (.if_icmp .ge 15, 3) := by decide +kernel
theorem dX0_slot_19 : decode cX0_slot 19 = .ok (.aload_n 0, 1) := by decide +kernel
theorem dX0_slot_20 : decode cX0_slot 20 = .ok (.getfield 11, 3) := by decide +kernel
theorem dX0_slot_23 : decode cX0_slot 23 = .ok (.aload_n 0, 1) := by decide +kernel
theorem dX0_slot_24 : decode cX0_slot 24 = .ok (.getfield 17, 3) := by decide +kernel
theorem dX0_slot_27 : decode cX0_slot 27 = .ok (.aaload, 1) := by decide +kernel
theorem dX0_slot_28 : decode cX0_slot 28 = .ok (.goto 4, 3) := by decide +kernel
theorem dX0_slot_31 : decode cX0_slot 31 = .ok (.aconst_null, 1) := by decide +kernel
theorem dX0_slot_32 : decode cX0_slot 32 = .ok (.areturn, 1) := by decide +kernel
theorem dX1_init_0 : decode cX1_init 0 = .ok (.aload_n 0, 1) := by decide +kernel
theorem dX1_init_1 : decode cX1_init 1 = .ok (.invokespecial 3, 3) := by decide +kernel
theorem dX1_init_4 : decode cX1_init 4 = .ok (.aload_n 0, 1) := by decide +kernel
theorem dX1_init_5 : decode cX1_init 5 = .ok (.iconst 0, 1) := by decide +kernel
theorem dX1_init_6 : decode cX1_init 6 = .ok (.putfield 9, 3) := by decide +kernel
theorem dX1_init_9 : decode cX1_init 9 = .ok (.aload_n 0, 1) := by decide +kernel
theorem dX1_init_10 : decode cX1_init 10 = .ok (.new 15, 3) := by decide +kernel
theorem dX1_init_13 : decode cX1_init 13 = .ok (.dup, 1) := by decide +kernel
theorem dX1_init_14 : decode cX1_init 14 = .ok (.bipush 12, 2) := by decide +kernel
theorem dX1_init_16 : decode cX1_init 16 = .ok (.invokespecial 17, 3) := by decide +kernel
theorem dX1_init_19 : decode cX1_init 19 = .ok (.putfield 20, 3) := by decide +kernel
theorem dX1_init_22 : decode cX1_init 22 = .ok (.aload_n 0, 1) := by decide +kernel
theorem dX1_init_23 : decode cX1_init 23 = .ok (.new 15, 3) := by decide +kernel
theorem dX1_init_26 : decode cX1_init 26 = .ok (.dup, 1) := by decide +kernel
theorem dX1_init_27 : decode cX1_init 27 = .ok (.bipush 12, 2) := by decide +kernel
theorem dX1_init_29 : decode cX1_init 29 = .ok (.invokespecial 17, 3) := by decide +kernel
theorem dX1_init_32 : decode cX1_init 32 = .ok (.putfield 24, 3) := by decide +kernel
theorem dX1_init_35 : decode cX1_init 35 = .ok (.aload_n 0, 1) := by decide +kernel
theorem dX1_init_36 : decode cX1_init 36 = .ok (.new 15, 3) := by decide +kernel
theorem dX1_init_39 : decode cX1_init 39 = .ok (.dup, 1) := by decide +kernel
theorem dX1_init_40 : decode cX1_init 40 = .ok (.bipush 12, 2) := by decide +kernel
theorem dX1_init_42 : decode cX1_init 42 = .ok (.invokespecial 17, 3) := by decide +kernel
theorem dX1_init_45 : decode cX1_init 45 = .ok (.putfield 27, 3) := by decide +kernel
theorem dX1_init_48 : decode cX1_init 48 = .ok (.aload_n 0, 1) := by decide +kernel
theorem dX1_init_49 : decode cX1_init 49 = .ok (.new 15, 3) := by decide +kernel
theorem dX1_init_52 : decode cX1_init 52 = .ok (.dup, 1) := by decide +kernel
theorem dX1_init_53 : decode cX1_init 53 = .ok (.bipush 12, 2) := by decide +kernel
theorem dX1_init_55 : decode cX1_init 55 = .ok (.invokespecial 17, 3) := by decide +kernel
theorem dX1_init_58 : decode cX1_init 58 = .ok (.putfield 30, 3) := by decide +kernel
theorem dX1_init_61 : decode cX1_init 61 = .ok (.aload_n 0, 1) := by decide +kernel
theorem dX1_init_62 : decode cX1_init 62 = .ok (.new 15, 3) := by decide +kernel
theorem dX1_init_65 : decode cX1_init 65 = .ok (.dup, 1) := by decide +kernel
theorem dX1_init_66 : decode cX1_init 66 = .ok (.bipush 12, 2) := by decide +kernel
theorem dX1_init_68 : decode cX1_init 68 = .ok (.invokespecial 17, 3) := by decide +kernel
theorem dX1_init_71 : decode cX1_init 71 = .ok (.putfield 33, 3) := by decide +kernel
theorem dX1_init_74 : decode cX1_init 74 = .ok (.return_, 1) := by decide +kernel
theorem dX1_has_0 : decode cX1_has 0 = .ok (.iload_n 1, 1) := by decide +kernel
theorem dX1_has_1 : decode cX1_has 1 = .ok (.ifCond .lt 15, 3) := by decide +kernel
theorem dX1_has_4 : decode cX1_has 4 = .ok (.iload_n 1, 1) := by decide +kernel
theorem dX1_has_5 : decode cX1_has 5 = .ok (.aload_n 0, 1) := by decide +kernel
theorem dX1_has_6 : decode cX1_has 6 = .ok (.getfield 9, 3) := by decide +kernel
theorem dX1_has_9 : decode cX1_has 9 = .ok (.if_icmp .ge 7, 3) := by decide +kernel
theorem dX1_has_12 : decode cX1_has 12 = .ok (.iconst 1, 1) := by decide +kernel
theorem dX1_has_13 : decode cX1_has 13 = .ok (.goto 4, 3) := by decide +kernel
theorem dX1_has_16 : decode cX1_has 16 = .ok (.iconst 0, 1) := by decide +kernel
theorem dX1_has_17 : decode cX1_has 17 = .ok (.ireturn, 1) := by decide +kernel
theorem dX1_add_0 : decode cX1_add 0 = .ok (.aload_n 0, 1) := by decide +kernel
theorem dX1_add_1 : decode cX1_add 1 = .ok (.getfield 9, 3) := by decide +kernel
theorem dX1_add_4 : decode cX1_add 4 = .ok (.bipush 12, 2) := by decide +kernel
theorem dX1_add_6 : decode cX1_add 6 = .ok (.if_icmp .ge 74, 3) := by decide +kernel
theorem dX1_add_9 : decode cX1_add 9 = .ok (.aload_n 0, 1) := by decide +kernel
theorem dX1_add_10 : decode cX1_add 10 = .ok (.getfield 20, 3) := by decide +kernel
theorem dX1_add_13 : decode cX1_add 13 = .ok (.aload_n 0, 1) := by decide +kernel
theorem dX1_add_14 : decode cX1_add 14 = .ok (.getfield 9, 3) := by decide +kernel
theorem dX1_add_17 : decode cX1_add 17 = .ok (.iload_n 1, 1) := by decide +kernel
theorem dX1_add_18 : decode cX1_add 18 = .ok (.invokevirtual 36, 3) := by decide +kernel
theorem dX1_add_21 : decode cX1_add 21 = .ok (.aload_n 0, 1) := by decide +kernel
theorem dX1_add_22 : decode cX1_add 22 = .ok (.getfield 24, 3) := by decide +kernel
theorem dX1_add_25 : decode cX1_add 25 = .ok (.aload_n 0, 1) := by decide +kernel
theorem dX1_add_26 : decode cX1_add 26 = .ok (.getfield 9, 3) := by decide +kernel
theorem dX1_add_29 : decode cX1_add 29 = .ok (.iload_n 2, 1) := by decide +kernel
theorem dX1_add_30 : decode cX1_add 30 = .ok (.invokevirtual 36, 3) := by decide +kernel
theorem dX1_add_33 : decode cX1_add 33 = .ok (.aload_n 0, 1) := by decide +kernel
theorem dX1_add_34 : decode cX1_add 34 = .ok (.getfield 27, 3) := by decide +kernel
theorem dX1_add_37 : decode cX1_add 37 = .ok (.aload_n 0, 1) := by decide +kernel
theorem dX1_add_38 : decode cX1_add 38 = .ok (.getfield 9, 3) := by decide +kernel
theorem dX1_add_41 : decode cX1_add 41 = .ok (.iload_n 3, 1) := by decide +kernel
theorem dX1_add_42 : decode cX1_add 42 = .ok (.invokevirtual 36, 3) := by decide +kernel
theorem dX1_add_45 : decode cX1_add 45 = .ok (.aload_n 0, 1) := by decide +kernel
theorem dX1_add_46 : decode cX1_add 46 = .ok (.getfield 30, 3) := by decide +kernel
theorem dX1_add_49 : decode cX1_add 49 = .ok (.aload_n 0, 1) := by decide +kernel
theorem dX1_add_50 : decode cX1_add 50 = .ok (.getfield 9, 3) := by decide +kernel
theorem dX1_add_53 : decode cX1_add 53 = .ok (.iload 4, 2) := by decide +kernel
theorem dX1_add_55 : decode cX1_add 55 = .ok (.invokevirtual 36, 3) := by decide +kernel
theorem dX1_add_58 : decode cX1_add 58 = .ok (.aload_n 0, 1) := by decide +kernel
theorem dX1_add_59 : decode cX1_add 59 = .ok (.getfield 33, 3) := by decide +kernel
theorem dX1_add_62 : decode cX1_add 62 = .ok (.aload_n 0, 1) := by decide +kernel
theorem dX1_add_63 : decode cX1_add 63 = .ok (.getfield 9, 3) := by decide +kernel
theorem dX1_add_66 : decode cX1_add 66 = .ok (.iconst 0, 1) := by decide +kernel
theorem dX1_add_67 : decode cX1_add 67 = .ok (.invokevirtual 36, 3) := by decide +kernel
theorem dX1_add_70 : decode cX1_add 70 = .ok (.aload_n 0, 1) := by decide +kernel
theorem dX1_add_71 : decode cX1_add 71 = .ok (.dup, 1) := by decide +kernel
theorem dX1_add_72 : decode cX1_add 72 = .ok (.getfield 9, 3) := by decide +kernel
theorem dX1_add_75 : decode cX1_add 75 = .ok (.iconst 1, 1) := by decide +kernel
theorem dX1_add_76 : decode cX1_add 76 = .ok (.iadd, 1) := by decide +kernel
theorem dX1_add_77 : decode cX1_add 77 = .ok (.putfield 9, 3) := by decide +kernel
theorem dX1_add_80 : decode cX1_add 80 = .ok (.return_, 1) := by decide +kernel
theorem dX1_remove_0 : decode cX1_remove 0 = .ok (.aload_n 0, 1) := by decide +kernel
theorem dX1_remove_1 : decode cX1_remove 1 = .ok (.iload_n 1, 1) := by decide +kernel
theorem dX1_remove_2 : decode cX1_remove 2 = .ok (.invokevirtual 40, 3) := by decide +kernel
theorem dX1_remove_5 : decode cX1_remove 5 = .ok (.ifCond .eq 53, 3) := by decide +kernel
theorem dX1_remove_8 : decode cX1_remove 8 = .ok (.aload_n 0, 1) := by decide +kernel
theorem dX1_remove_9 : decode cX1_remove 9 = .ok (.getfield 20, 3) := by decide +kernel
theorem dX1_remove_12 : decode cX1_remove 12 = .ok (.iload_n 1, 1) := by decide +kernel
theorem dX1_remove_13 : decode cX1_remove 13 = .ok (.invokevirtual 44, 3) := by decide +kernel
theorem dX1_remove_16 : decode cX1_remove 16 = .ok (.aload_n 0, 1) := by decide +kernel
theorem dX1_remove_17 : decode cX1_remove 17 = .ok (.getfield 24, 3) := by decide +kernel
theorem dX1_remove_20 : decode cX1_remove 20 = .ok (.iload_n 1, 1) := by decide +kernel
theorem dX1_remove_21 : decode cX1_remove 21 = .ok (.invokevirtual 44, 3) := by decide +kernel
theorem dX1_remove_24 : decode cX1_remove 24 = .ok (.aload_n 0, 1) := by decide +kernel
theorem dX1_remove_25 : decode cX1_remove 25 = .ok (.getfield 27, 3) := by decide +kernel
theorem dX1_remove_28 : decode cX1_remove 28 = .ok (.iload_n 1, 1) := by decide +kernel
theorem dX1_remove_29 : decode cX1_remove 29 = .ok (.invokevirtual 44, 3) := by decide +kernel
theorem dX1_remove_32 : decode cX1_remove 32 = .ok (.aload_n 0, 1) := by decide +kernel
theorem dX1_remove_33 : decode cX1_remove 33 = .ok (.getfield 30, 3) := by decide +kernel
theorem dX1_remove_36 : decode cX1_remove 36 = .ok (.iload_n 1, 1) := by decide +kernel
theorem dX1_remove_37 : decode cX1_remove 37 = .ok (.invokevirtual 44, 3) := by decide +kernel
theorem dX1_remove_40 : decode cX1_remove 40 = .ok (.aload_n 0, 1) := by decide +kernel
theorem dX1_remove_41 : decode cX1_remove 41 = .ok (.getfield 33, 3) := by decide +kernel
theorem dX1_remove_44 : decode cX1_remove 44 = .ok (.iload_n 1, 1) := by decide +kernel
theorem dX1_remove_45 : decode cX1_remove 45 = .ok (.invokevirtual 44, 3) := by decide +kernel
theorem dX1_remove_48 : decode cX1_remove 48 = .ok (.aload_n 0, 1) := by decide +kernel
theorem dX1_remove_49 : decode cX1_remove 49 = .ok (.dup, 1) := by decide +kernel
theorem dX1_remove_50 : decode cX1_remove 50 = .ok (.getfield 9, 3) := by decide +kernel
theorem dX1_remove_53 : decode cX1_remove 53 = .ok (.iconst 1, 1) := by decide +kernel
theorem dX1_remove_54 : decode cX1_remove 54 = .ok (.isub, 1) := by decide +kernel
theorem dX1_remove_55 : decode cX1_remove 55 = .ok (.putfield 9, 3) := by decide +kernel
theorem dX1_remove_58 : decode cX1_remove 58 = .ok (.return_, 1) := by decide +kernel
theorem dX1_withSign_0 : decode cX1_withSign 0 = .ok (.iconst 0, 1) := by decide +kernel
theorem dX1_withSign_1 : decode cX1_withSign 1 = .ok (.istore_n 2, 1) := by decide +kernel
theorem dX1_withSign_2 : decode cX1_withSign 2 = .ok (.iload_n 2, 1) := by decide +kernel
theorem dX1_withSign_3 : decode cX1_withSign 3 = .ok (.aload_n 0, 1) := by decide +kernel
theorem dX1_withSign_4 : decode cX1_withSign 4 = .ok (.getfield 9, 3) := by decide +kernel
theorem dX1_withSign_7 : decode cX1_withSign 7 = .ok (.if_icmp .ge 23, 3) := by decide +kernel
theorem dX1_withSign_10 : decode cX1_withSign 10 = .ok (.aload_n 0, 1) := by decide +kernel
theorem dX1_withSign_11 : decode cX1_withSign 11 = .ok (.getfield 27, 3) := by decide +kernel
theorem dX1_withSign_14 : decode cX1_withSign 14 = .ok (.iload_n 2, 1) := by decide +kernel
theorem dX1_withSign_15 : decode cX1_withSign 15 = .ok (.invokevirtual 47, 3) := by decide +kernel
theorem dX1_withSign_18 : decode cX1_withSign 18 = .ok (.iload_n 1, 1) := by decide +kernel
theorem dX1_withSign_19 : decode cX1_withSign 19 = .ok (.if_icmp .ne 5, 3) := by decide +kernel
theorem dX1_withSign_22 : decode cX1_withSign 22 = .ok (.iload_n 2, 1) := by decide +kernel
theorem dX1_withSign_23 : decode cX1_withSign 23 = .ok (.ireturn, 1) := by decide +kernel
theorem dX1_withSign_24 : decode cX1_withSign 24 = .ok (.iinc 2 1, 3) := by decide +kernel
theorem dX1_withSign_27 : decode cX1_withSign 27 = .ok (.goto (-25), 3) := by decide +kernel
theorem dX1_withSign_30 : decode cX1_withSign 30 = .ok (.iconst (-1), 1) := by decide +kernel
theorem dX1_withSign_31 : decode cX1_withSign 31 = .ok (.ireturn, 1) := by decide +kernel
theorem dX1_atDepth_0 : decode cX1_atDepth 0 = .ok (.iconst 0, 1) := by decide +kernel
theorem dX1_atDepth_1 : decode cX1_atDepth 1 = .ok (.istore_n 3, 1) := by decide +kernel
theorem dX1_atDepth_2 : decode cX1_atDepth 2 = .ok (.iload_n 3, 1) := by decide +kernel
theorem dX1_atDepth_3 : decode cX1_atDepth 3 = .ok (.aload_n 0, 1) := by decide +kernel
theorem dX1_atDepth_4 : decode cX1_atDepth 4 = .ok (.getfield 9, 3) := by decide +kernel
theorem dX1_atDepth_7 : decode cX1_atDepth 7 = .ok (.if_icmp .ge 35, 3) := by decide +kernel
theorem dX1_atDepth_10 : decode cX1_atDepth 10 = .ok (.aload_n 0, 1) := by decide +kernel
theorem dX1_atDepth_11 : decode cX1_atDepth 11 = .ok (.getfield 20, 3) := by decide +kernel
theorem dX1_atDepth_14 : decode cX1_atDepth 14 = .ok (.iload_n 3, 1) := by decide +kernel
theorem dX1_atDepth_15 : decode cX1_atDepth 15 = .ok (.invokevirtual 47, 3) := by decide +kernel
theorem dX1_atDepth_18 : decode cX1_atDepth 18 = .ok (.iload_n 1, 1) := by decide +kernel
theorem dX1_atDepth_19 : decode cX1_atDepth 19 = .ok (.if_icmp .ne 17, 3) := by decide +kernel
theorem dX1_atDepth_22 : decode cX1_atDepth 22 = .ok (.aload_n 0, 1) := by decide +kernel
theorem dX1_atDepth_23 : decode cX1_atDepth 23 = .ok (.getfield 24, 3) := by decide +kernel
theorem dX1_atDepth_26 : decode cX1_atDepth 26 = .ok (.iload_n 3, 1) := by decide +kernel
theorem dX1_atDepth_27 : decode cX1_atDepth 27 = .ok (.invokevirtual 47, 3) := by decide +kernel
theorem dX1_atDepth_30 : decode cX1_atDepth 30 = .ok (.iload_n 2, 1) := by decide +kernel
theorem dX1_atDepth_31 : decode cX1_atDepth 31 = .ok (.if_icmp .ne 5, 3) := by decide +kernel
theorem dX1_atDepth_34 : decode cX1_atDepth 34 = .ok (.iload_n 3, 1) := by decide +kernel
theorem dX1_atDepth_35 : decode cX1_atDepth 35 = .ok (.ireturn, 1) := by decide +kernel
theorem dX1_atDepth_36 : decode cX1_atDepth 36 = .ok (.iinc 3 1, 3) := by decide +kernel
theorem dX1_atDepth_39 : decode cX1_atDepth 39 = .ok (.goto (-37), 3) := by decide +kernel
theorem dX1_atDepth_42 : decode cX1_atDepth 42 = .ok (.iconst (-1), 1) := by decide +kernel
theorem dX1_atDepth_43 : decode cX1_atDepth 43 = .ok (.ireturn, 1) := by decide +kernel
theorem dX1_countIn_0 : decode cX1_countIn 0 = .ok (.aload_n 0, 1) := by decide +kernel
theorem dX1_countIn_1 : decode cX1_countIn 1 = .ok (.iload_n 1, 1) := by decide +kernel
theorem dX1_countIn_2 : decode cX1_countIn 2 = .ok (.bipush 30, 2) := by decide +kernel
theorem dX1_countIn_4 : decode cX1_countIn 4 = .ok (.invokevirtual 51, 3) := by decide +kernel
theorem dX1_countIn_7 : decode cX1_countIn 7 = .ok (.ireturn, 1) := by decide +kernel
theorem dX1_countWithin_0 : decode cX1_countWithin 0 = .ok (.iconst 0, 1) := by decide +kernel
theorem dX1_countWithin_1 : decode cX1_countWithin 1 = .ok (.istore_n 3, 1) := by decide +kernel
theorem dX1_countWithin_2 : decode cX1_countWithin 2 = .ok (.iconst 0, 1) := by decide +kernel
theorem dX1_countWithin_3 : decode cX1_countWithin 3 = .ok (.istore 4, 2) := by decide +kernel
theorem dX1_countWithin_5 : decode cX1_countWithin 5 = .ok (.iload 4, 2) := by decide +kernel
theorem dX1_countWithin_7 : decode cX1_countWithin 7 = .ok (.aload_n 0, 1) := by decide +kernel
theorem dX1_countWithin_8 : decode cX1_countWithin 8 = .ok (.getfield 9, 3) := by decide +kernel
theorem dX1_countWithin_11 : decode cX1_countWithin 11 = .ok (.if_icmp .ge 38, 3) := by decide +kernel
theorem dX1_countWithin_14 : decode cX1_countWithin 14 = .ok (.aload_n 0, 1) := by decide +kernel
theorem dX1_countWithin_15 : decode cX1_countWithin 15 = .ok (.getfield 20, 3) := by decide +kernel
theorem dX1_countWithin_18 : decode cX1_countWithin 18 = .ok (.iload 4, 2) := by decide +kernel
theorem dX1_countWithin_20 : decode cX1_countWithin 20 = .ok (.invokevirtual 47, 3) := by decide +kernel
theorem dX1_countWithin_23 : decode cX1_countWithin 23 = .ok (.iload_n 1, 1) := by decide +kernel
theorem dX1_countWithin_24 : decode cX1_countWithin 24 = .ok (.if_icmp .ne 19, 3) := by decide +kernel
theorem dX1_countWithin_27 : decode cX1_countWithin 27 = .ok (.aload_n 0, 1) := by decide +kernel
theorem dX1_countWithin_28 : decode cX1_countWithin 28 = .ok (.getfield 24, 3) := by decide +kernel
theorem dX1_countWithin_31 : decode cX1_countWithin 31 = .ok (.iload 4, 2) := by decide +kernel
theorem dX1_countWithin_33 : decode cX1_countWithin 33 = .ok (.invokevirtual 47, 3) := by decide +kernel
theorem dX1_countWithin_36 : decode cX1_countWithin 36 = .ok (.iload_n 2, 1) := by decide +kernel
theorem dX1_countWithin_37 : decode cX1_countWithin 37 = .ok (.if_icmp .gt 6, 3) := by decide +kernel
theorem dX1_countWithin_40 : decode cX1_countWithin 40 = .ok (.iinc 3 1, 3) := by decide +kernel
theorem dX1_countWithin_43 : decode cX1_countWithin 43 = .ok (.iinc 4 1, 3) := by decide +kernel
theorem dX1_countWithin_46 : decode cX1_countWithin 46 = .ok (.goto (-41), 3) := by decide +kernel
theorem dX1_countWithin_49 : decode cX1_countWithin 49 = .ok (.iload_n 3, 1) := by decide +kernel
theorem dX1_countWithin_50 : decode cX1_countWithin 50 = .ok (.ireturn, 1) := by decide +kernel
theorem dX1_byDepth_0 : decode cX1_byDepth 0 = .ok (.iconst 0, 1) := by decide +kernel
theorem dX1_byDepth_1 : decode cX1_byDepth 1 = .ok (.istore_n 3, 1) := by decide +kernel
theorem dX1_byDepth_2 : decode cX1_byDepth 2 = .ok (.iload_n 3, 1) := by decide +kernel
theorem dX1_byDepth_3 : decode cX1_byDepth 3 = .ok (.aload_n 0, 1) := by decide +kernel
theorem dX1_byDepth_4 : decode cX1_byDepth 4 = .ok (.getfield 9, 3) := by decide +kernel
theorem dX1_byDepth_7 : decode cX1_byDepth 7 = .ok (.if_icmp .ge 42, 3) := by decide +kernel
theorem dX1_byDepth_10 : decode cX1_byDepth 10 = .ok (.aload_n 0, 1) := by decide +kernel
theorem dX1_byDepth_11 : decode cX1_byDepth 11 = .ok (.getfield 20, 3) := by decide +kernel
theorem dX1_byDepth_14 : decode cX1_byDepth 14 = .ok (.iload_n 3, 1) := by decide +kernel
theorem dX1_byDepth_15 : decode cX1_byDepth 15 = .ok (.invokevirtual 47, 3) := by decide +kernel
theorem dX1_byDepth_18 : decode cX1_byDepth 18 = .ok (.iload_n 1, 1) := by decide +kernel
theorem dX1_byDepth_19 : decode cX1_byDepth 19 = .ok (.if_icmp .ne 24, 3) := by decide +kernel
theorem dX1_byDepth_22 : decode cX1_byDepth 22 = .ok (.aload_n 0, 1) := by decide +kernel
theorem dX1_byDepth_23 : decode cX1_byDepth 23 = .ok (.iload_n 1, 1) := by decide +kernel
theorem dX1_byDepth_24 : decode cX1_byDepth 24 = .ok (.aload_n 0, 1) := by decide +kernel
theorem dX1_byDepth_25 : decode cX1_byDepth 25 = .ok (.getfield 24, 3) := by decide +kernel
theorem dX1_byDepth_28 : decode cX1_byDepth 28 = .ok (.iload_n 3, 1) := by decide +kernel
theorem dX1_byDepth_29 : decode cX1_byDepth 29 = .ok (.invokevirtual 47, 3) := by decide +kernel
theorem dX1_byDepth_32 : decode cX1_byDepth 32 = .ok (.iconst 1, 1) := by decide +kernel
theorem dX1_byDepth_33 : decode cX1_byDepth 33 = .ok (.isub, 1) := by decide +kernel
theorem dX1_byDepth_34 : decode cX1_byDepth 34 = .ok (.invokevirtual 51, 3) := by decide +kernel
theorem dX1_byDepth_37 : decode cX1_byDepth 37 = .ok (.iload_n 2, 1) := by decide +kernel
theorem dX1_byDepth_38 : decode cX1_byDepth 38 = .ok (.if_icmp .ne 5, 3) := by decide +kernel
theorem dX1_byDepth_41 : decode cX1_byDepth 41 = .ok (.iload_n 3, 1) := by decide +kernel
theorem dX1_byDepth_42 : decode cX1_byDepth 42 = .ok (.ireturn, 1) := by decide +kernel
theorem dX1_byDepth_43 : decode cX1_byDepth 43 = .ok (.iinc 3 1, 3) := by decide +kernel
theorem dX1_byDepth_46 : decode cX1_byDepth 46 = .ok (.goto (-44), 3) := by decide +kernel
theorem dX1_byDepth_49 : decode cX1_byDepth 49 = .ok (.iconst (-1), 1) := by decide +kernel
theorem dX1_byDepth_50 : decode cX1_byDepth 50 = .ok (.ireturn, 1) := by decide +kernel
theorem dX1_countPrimed_0 : decode cX1_countPrimed 0 = .ok (.iconst 0, 1) := by decide +kernel
theorem dX1_countPrimed_1 : decode cX1_countPrimed 1 = .ok (.istore_n 1, 1) := by decide +kernel
theorem dX1_countPrimed_2 : decode cX1_countPrimed 2 = .ok (.iconst 0, 1) := by decide +kernel
theorem dX1_countPrimed_3 : decode cX1_countPrimed 3 = .ok (.istore_n 2, 1) := by decide +kernel
theorem dX1_countPrimed_4 : decode cX1_countPrimed 4 = .ok (.iload_n 2, 1) := by decide +kernel
theorem dX1_countPrimed_5 : decode cX1_countPrimed 5 = .ok (.aload_n 0, 1) := by decide +kernel
theorem dX1_countPrimed_6 : decode cX1_countPrimed 6 = .ok (.getfield 9, 3) := by decide +kernel
theorem dX1_countPrimed_9 : decode cX1_countPrimed 9 = .ok (.if_icmp .ge 20, 3) := by decide +kernel
theorem dX1_countPrimed_12 : decode cX1_countPrimed 12 = .ok (.iload_n 1, 1) := by decide +kernel
theorem dX1_countPrimed_13 : decode cX1_countPrimed 13 = .ok (.aload_n 0, 1) := by decide +kernel
theorem dX1_countPrimed_14 : decode cX1_countPrimed 14 = .ok (.getfield 33, 3) := by decide +kernel
theorem dX1_countPrimed_17 : decode cX1_countPrimed 17 = .ok (.iload_n 2, 1) := by decide +kernel
theorem dX1_countPrimed_18 : decode cX1_countPrimed 18 = .ok (.invokevirtual 47, 3) := by decide +kernel
theorem dX1_countPrimed_21 : decode cX1_countPrimed 21 = .ok (.iadd, 1) := by decide +kernel
theorem dX1_countPrimed_22 : decode cX1_countPrimed 22 = .ok (.istore_n 1, 1) := by decide +kernel
theorem dX1_countPrimed_23 : decode cX1_countPrimed 23 = .ok (.iinc 2 1, 3) := by decide +kernel
theorem dX1_countPrimed_26 : decode cX1_countPrimed 26 = .ok (.goto (-22), 3) := by decide +kernel
theorem dX1_countPrimed_29 : decode cX1_countPrimed 29 = .ok (.iload_n 1, 1) := by decide +kernel
theorem dX1_countPrimed_30 : decode cX1_countPrimed 30 = .ok (.ireturn, 1) := by decide +kernel
theorem dX1_copy_0 : decode cX1_copy 0 = .ok (.aload_n 1, 1) := by decide +kernel
theorem dX1_copy_1 : decode cX1_copy 1 = .ok (.aload_n 0, 1) := by decide +kernel
theorem dX1_copy_2 : decode cX1_copy 2 = .ok (.getfield 9, 3) := by decide +kernel
theorem dX1_copy_5 : decode cX1_copy 5 = .ok (.putfield 9, 3) := by decide +kernel
theorem dX1_copy_8 : decode cX1_copy 8 = .ok (.aload_n 0, 1) := by decide +kernel
theorem dX1_copy_9 : decode cX1_copy 9 = .ok (.getfield 20, 3) := by decide +kernel
theorem dX1_copy_12 : decode cX1_copy 12 = .ok (.aload_n 1, 1) := by decide +kernel
theorem dX1_copy_13 : decode cX1_copy 13 = .ok (.getfield 20, 3) := by decide +kernel
theorem dX1_copy_16 : decode cX1_copy 16 = .ok (.invokestatic 55, 3) := by decide +kernel
theorem dX1_copy_19 : decode cX1_copy 19 = .ok (.aload_n 0, 1) := by decide +kernel
theorem dX1_copy_20 : decode cX1_copy 20 = .ok (.getfield 24, 3) := by decide +kernel
theorem dX1_copy_23 : decode cX1_copy 23 = .ok (.aload_n 1, 1) := by decide +kernel
theorem dX1_copy_24 : decode cX1_copy 24 = .ok (.getfield 24, 3) := by decide +kernel
theorem dX1_copy_27 : decode cX1_copy 27 = .ok (.invokestatic 55, 3) := by decide +kernel
theorem dX1_copy_30 : decode cX1_copy 30 = .ok (.aload_n 0, 1) := by decide +kernel
theorem dX1_copy_31 : decode cX1_copy 31 = .ok (.getfield 27, 3) := by decide +kernel
theorem dX1_copy_34 : decode cX1_copy 34 = .ok (.aload_n 1, 1) := by decide +kernel
theorem dX1_copy_35 : decode cX1_copy 35 = .ok (.getfield 27, 3) := by decide +kernel
theorem dX1_copy_38 : decode cX1_copy 38 = .ok (.invokestatic 55, 3) := by decide +kernel
theorem dX1_copy_41 : decode cX1_copy 41 = .ok (.aload_n 0, 1) := by decide +kernel
theorem dX1_copy_42 : decode cX1_copy 42 = .ok (.getfield 30, 3) := by decide +kernel
theorem dX1_copy_45 : decode cX1_copy 45 = .ok (.aload_n 1, 1) := by decide +kernel
theorem dX1_copy_46 : decode cX1_copy 46 = .ok (.getfield 30, 3) := by decide +kernel
theorem dX1_copy_49 : decode cX1_copy 49 = .ok (.invokestatic 55, 3) := by decide +kernel
theorem dX1_copy_52 : decode cX1_copy 52 = .ok (.aload_n 0, 1) := by decide +kernel
theorem dX1_copy_53 : decode cX1_copy 53 = .ok (.getfield 33, 3) := by decide +kernel
theorem dX1_copy_56 : decode cX1_copy 56 = .ok (.aload_n 1, 1) := by decide +kernel
theorem dX1_copy_57 : decode cX1_copy 57 = .ok (.getfield 33, 3) := by decide +kernel
theorem dX1_copy_60 : decode cX1_copy 60 = .ok (.invokestatic 55, 3) := by decide +kernel
theorem dX1_copy_63 : decode cX1_copy 63 = .ok (.return_, 1) := by decide +kernel
theorem dX2_init_0 : decode cX2_init 0 = .ok (.aload_n 0, 1) := by decide +kernel
theorem dX2_init_1 : decode cX2_init 1 = .ok (.invokespecial 3, 3) := by decide +kernel
theorem dX2_init_4 : decode cX2_init 4 = .ok (.aload_n 0, 1) := by decide +kernel
theorem dX2_init_5 : decode cX2_init 5 = .ok (.new 9, 3) := by decide +kernel
theorem dX2_init_8 : decode cX2_init 8 = .ok (.dup, 1) := by decide +kernel
theorem dX2_init_9 : decode cX2_init 9 = .ok (.bipush 12, 2) := by decide +kernel
theorem dX2_init_11 : decode cX2_init 11 = .ok (.invokespecial 11, 3) := by decide +kernel
theorem dX2_init_14 : decode cX2_init 14 = .ok (.putfield 14, 3) := by decide +kernel
theorem dX2_init_17 : decode cX2_init 17 = .ok (.aload_n 0, 1) := by decide +kernel
theorem dX2_init_18 : decode cX2_init 18 = .ok (.new 9, 3) := by decide +kernel
theorem dX2_init_21 : decode cX2_init 21 = .ok (.dup, 1) := by decide +kernel
theorem dX2_init_22 : decode cX2_init 22 = .ok (.bipush 48, 2) := by decide +kernel
theorem dX2_init_24 : decode cX2_init 24 = .ok (.invokespecial 11, 3) := by decide +kernel
theorem dX2_init_27 : decode cX2_init 27 = .ok (.putfield 20, 3) := by decide +kernel
theorem dX2_init_30 : decode cX2_init 30 = .ok (.aload_n 0, 1) := by decide +kernel
theorem dX2_init_31 : decode cX2_init 31 = .ok (.iconst 0, 1) := by decide +kernel
theorem dX2_init_32 : decode cX2_init 32 = .ok (.putfield 23, 3) := by decide +kernel
theorem dX2_init_35 : decode cX2_init 35 = .ok (.aload_n 0, 1) := by decide +kernel
theorem dX2_init_36 : decode cX2_init 36 = .ok (.iconst 0, 1) := by decide +kernel
theorem dX2_init_37 : decode cX2_init 37 = .ok (.putfield 27, 3) := by decide +kernel
theorem dX2_init_40 : decode cX2_init 40 = .ok (.return_, 1) := by decide +kernel
theorem dX2_isText_0 : decode cX2_isText 0 = .ok (.aload_n 0, 1) := by decide +kernel
theorem dX2_isText_1 : decode cX2_isText 1 = .ok (.iconst 0, 1) := by decide +kernel
theorem dX2_isText_2 : decode cX2_isText 2 = .ok (.putfield 23, 3) := by decide +kernel
theorem dX2_isText_5 : decode cX2_isText 5 = .ok (.aload_n 0, 1) := by decide +kernel
theorem dX2_isText_6 : decode cX2_isText 6 = .ok (.iconst 0, 1) := by decide +kernel
theorem dX2_isText_7 : decode cX2_isText 7 = .ok (.putfield 27, 3) := by decide +kernel
theorem dX2_isText_10 : decode cX2_isText 10 = .ok (.iconst 0, 1) := by decide +kernel
theorem dX2_isText_11 : decode cX2_isText 11 = .ok (.istore_n 2, 1) := by decide +kernel
theorem dX2_isText_12 : decode cX2_isText 12 = .ok (.iload_n 2, 1) := by decide +kernel
theorem dX2_isText_13 : decode cX2_isText 13 = .ok (.bipush 12, 2) := by decide +kernel
theorem dX2_isText_15 : decode cX2_isText 15 = .ok (.if_icmp .ge 61, 3) := by decide +kernel
theorem dX2_isText_18 : decode cX2_isText 18 = .ok (.aload_n 0, 1) := by decide +kernel
theorem dX2_isText_19 : decode cX2_isText 19 = .ok (.aload_n 1, 1) := by decide +kernel
theorem dX2_isText_20 : decode cX2_isText 20 = .ok (.aload_n 0, 1) := by decide +kernel
theorem dX2_isText_21 : decode cX2_isText 21 = .ok (.getfield 27, 3) := by decide +kernel
theorem dX2_isText_24 : decode cX2_isText 24 = .ok (.invokevirtual 30, 3) := by decide +kernel
theorem dX2_isText_27 : decode cX2_isText 27 = .ok (.ifCond .ne 5, 3) := by decide +kernel
theorem dX2_isText_30 : decode cX2_isText 30 = .ok (.iconst 0, 1) := by decide +kernel
theorem dX2_isText_31 : decode cX2_isText 31 = .ok (.ireturn, 1) := by decide +kernel
theorem dX2_isText_32 : decode cX2_isText 32 = .ok (.aload_n 0, 1) := by decide +kernel
theorem dX2_isText_33 : decode cX2_isText 33 = .ok (.getfield 27, 3) := by decide +kernel
theorem dX2_isText_36 : decode cX2_isText 36 = .ok (.aload_n 1, 1) := by decide +kernel
theorem dX2_isText_37 : decode cX2_isText 37 = .ok (.getfield 34, 3) := by decide +kernel
theorem dX2_isText_40 : decode cX2_isText 40 = .ok (.if_icmp .ne 5, 3) := by decide +kernel
theorem dX2_isText_43 : decode cX2_isText 43 = .ok (.iconst 1, 1) := by decide +kernel
theorem dX2_isText_44 : decode cX2_isText 44 = .ok (.ireturn, 1) := by decide +kernel
theorem dX2_isText_45 : decode cX2_isText 45 = .ok (.aload_n 1, 1) := by decide +kernel
theorem dX2_isText_46 : decode cX2_isText 46 = .ok (.aload_n 0, 1) := by decide +kernel
theorem dX2_isText_47 : decode cX2_isText 47 = .ok (.getfield 27, 3) := by decide +kernel
theorem dX2_isText_50 : decode cX2_isText 50 = .ok (.invokevirtual 39, 3) := by decide +kernel
theorem dX2_isText_53 : decode cX2_isText 53 = .ok (.bipush 59, 2) := by decide +kernel
theorem dX2_isText_55 : decode cX2_isText 55 = .ok (.if_icmp .eq 5, 3) := by decide +kernel
theorem dX2_isText_58 : decode cX2_isText 58 = .ok (.iconst 0, 1) := by decide +kernel
theorem dX2_isText_59 : decode cX2_isText 59 = .ok (.ireturn, 1) := by decide +kernel
theorem dX2_isText_60 : decode cX2_isText 60 = .ok (.aload_n 0, 1) := by decide +kernel
theorem dX2_isText_61 : decode cX2_isText 61 = .ok (.dup, 1) := by decide +kernel
theorem dX2_isText_62 : decode cX2_isText 62 = .ok (.getfield 27, 3) := by decide +kernel
theorem dX2_isText_65 : decode cX2_isText 65 = .ok (.iconst 1, 1) := by decide +kernel
theorem dX2_isText_66 : decode cX2_isText 66 = .ok (.iadd, 1) := by decide +kernel
theorem dX2_isText_67 : decode cX2_isText 67 = .ok (.putfield 27, 3) := by decide +kernel
theorem dX2_isText_70 : decode cX2_isText 70 = .ok (.iinc 2 1, 3) := by decide +kernel
theorem dX2_isText_73 : decode cX2_isText 73 = .ok (.goto (-61), 3) := by decide +kernel
theorem dX2_isText_76 : decode cX2_isText 76 = .ok (.iconst 0, 1) := by decide +kernel
theorem dX2_isText_77 : decode cX2_isText 77 = .ok (.ireturn, 1) := by decide +kernel
theorem dX2_numberOf_0 : decode cX2_numberOf 0 = .ok (.aload_n 0, 1) := by decide +kernel
theorem dX2_numberOf_1 : decode cX2_numberOf 1 = .ok (.getfield 20, 3) := by decide +kernel
theorem dX2_numberOf_4 : decode cX2_numberOf 4 = .ok (.iload_n 1, 1) := by decide +kernel
theorem dX2_numberOf_5 : decode cX2_numberOf 5 = .ok (.iconst 4, 1) := by decide +kernel
theorem dX2_numberOf_6 : decode cX2_numberOf 6 = .ok (.imul, 1) := by decide +kernel
theorem dX2_numberOf_7 : decode cX2_numberOf 7 = .ok (.iload_n 2, 1) := by decide +kernel
theorem dX2_numberOf_8 : decode cX2_numberOf 8 = .ok (.iadd, 1) := by decide +kernel
theorem dX2_numberOf_9 : decode cX2_numberOf 9 = .ok (.invokevirtual 43, 3) := by decide +kernel
theorem dX2_numberOf_12 : decode cX2_numberOf 12 = .ok (.ireturn, 1) := by decide +kernel
theorem dX2_takeCommand_0 : decode cX2_takeCommand 0 = .ok (.iconst 0, 1) := by decide +kernel
theorem dX2_takeCommand_1 : decode cX2_takeCommand 1 = .ok (.istore_n 3, 1) := by decide +kernel
theorem dX2_takeCommand_2 : decode cX2_takeCommand 2 = .ok (.iload_n 3, 1) := by decide +kernel
theorem dX2_takeCommand_3 : decode cX2_takeCommand 3 = .ok (.bipush 8, 2) := by decide +kernel
theorem dX2_takeCommand_5 : decode cX2_takeCommand 5 = .ok (.if_icmp .ge 46, 3) := by decide +kernel
theorem dX2_takeCommand_8 : decode cX2_takeCommand 8 = .ok (.aload_n 0, 1) := by decide +kernel
theorem dX2_takeCommand_9 : decode cX2_takeCommand 9 = .ok (.aload_n 1, 1) := by decide +kernel
theorem dX2_takeCommand_10 : decode cX2_takeCommand 10 = .ok (.iload_n 2, 1) := by decide +kernel
theorem dX2_takeCommand_11 : decode cX2_takeCommand 11 = .ok (.iload_n 3, 1) := by decide +kernel
theorem dX2_takeCommand_12 : decode cX2_takeCommand 12 = .ok (.invokestatic 46, 3) := by decide +kernel
theorem dX2_takeCommand_15 : decode cX2_takeCommand 15 = .ok (.invokevirtual 50, 3) := by decide +kernel
theorem dX2_takeCommand_18 : decode cX2_takeCommand 18 = .ok (.ifCond .eq 27, 3) := by decide +kernel
theorem dX2_takeCommand_21 : decode cX2_takeCommand 21 = .ok (.aload_n 0, 1) := by decide +kernel
theorem dX2_takeCommand_22 : decode cX2_takeCommand 22 = .ok (.getfield 14, 3) := by decide +kernel
theorem dX2_takeCommand_25 : decode cX2_takeCommand 25 = .ok (.aload_n 0, 1) := by decide +kernel
theorem dX2_takeCommand_26 : decode cX2_takeCommand 26 = .ok (.getfield 23, 3) := by decide +kernel
theorem dX2_takeCommand_29 : decode cX2_takeCommand 29 = .ok (.iload_n 3, 1) := by decide +kernel
theorem dX2_takeCommand_30 : decode cX2_takeCommand 30 = .ok (.invokevirtual 54, 3) := by decide +kernel
theorem dX2_takeCommand_33 : decode cX2_takeCommand 33 = .ok (.aload_n 0, 1) := by decide +kernel
theorem dX2_takeCommand_34 : decode cX2_takeCommand 34 = .ok (.dup, 1) := by decide +kernel
theorem dX2_takeCommand_35 : decode cX2_takeCommand 35 = .ok (.getfield 23, 3) := by decide +kernel
theorem dX2_takeCommand_38 : decode cX2_takeCommand 38 = .ok (.iconst 1, 1) := by decide +kernel
theorem dX2_takeCommand_39 : decode cX2_takeCommand 39 = .ok (.iadd, 1) := by decide +kernel
theorem dX2_takeCommand_40 : decode cX2_takeCommand 40 = .ok (.putfield 23, 3) := by decide +kernel
theorem dX2_takeCommand_43 : decode cX2_takeCommand 43 = .ok (.iconst 1, 1) := by decide +kernel
theorem dX2_takeCommand_44 : decode cX2_takeCommand 44 = .ok (.ireturn, 1) := by decide +kernel
theorem dX2_takeCommand_45 : decode cX2_takeCommand 45 = .ok (.iinc 3 1, 3) := by decide +kernel
theorem dX2_takeCommand_48 : decode cX2_takeCommand 48 = .ok (.goto (-46), 3) := by decide +kernel
theorem dX2_takeCommand_51 : decode cX2_takeCommand 51 = .ok (.iconst 0, 1) := by decide +kernel
theorem dX2_takeCommand_52 : decode cX2_takeCommand 52 = .ok (.ireturn, 1) := by decide +kernel
theorem dX2_follow_0 : decode cX2_follow 0 = .ok (.iload_n 2, 1) := by decide +kernel
theorem dX2_follow_1 : decode cX2_follow 1 = .ok (.istore 4, 2) := by decide +kernel
theorem dX2_follow_3 : decode cX2_follow 3 = .ok (.iconst 0, 1) := by decide +kernel
theorem dX2_follow_4 : decode cX2_follow 4 = .ok (.istore 5, 2) := by decide +kernel
theorem dX2_follow_6 : decode cX2_follow 6 = .ok (.iconst 0, 1) := by decide +kernel
theorem dX2_follow_7 : decode cX2_follow 7 = .ok (.istore 6, 2) := by decide +kernel
theorem dX2_follow_9 : decode cX2_follow 9 = .ok (.iload 6, 2) := by decide +kernel
theorem dX2_follow_11 : decode cX2_follow 11 = .ok (.aload_n 3, 1) := by decide +kernel
theorem dX2_follow_12 : decode cX2_follow 12 = .ok (.invokevirtual 58, 3) := by decide +kernel
theorem dX2_follow_15 : decode cX2_follow 15 = .ok (.if_icmp .ge 102, 3) := by decide +kernel
theorem dX2_follow_18 : decode cX2_follow 18 = .ok (.aload_n 3, 1) := by decide +kernel
theorem dX2_follow_19 : decode cX2_follow 19 = .ok (.iload 6, 2) := by decide +kernel
theorem dX2_follow_21 : decode cX2_follow 21 = .ok (.invokevirtual 63, 3) := by decide +kernel
theorem dX2_follow_24 : decode cX2_follow 24 = .ok (.istore 7, 2) := by decide +kernel
theorem dX2_follow_26 : decode cX2_follow 26 = .ok (.aload_n 1, 1) := by decide +kernel
theorem dX2_follow_27 : decode cX2_follow 27 = .ok (.iload 4, 2) := by decide +kernel
theorem dX2_follow_29 : decode cX2_follow 29 = .ok (.invokevirtual 39, 3) := by decide +kernel
theorem dX2_follow_32 : decode cX2_follow 32 = .ok (.iload 7, 2) := by decide +kernel
theorem dX2_follow_34 : decode cX2_follow 34 = .ok (.if_icmp .ne 7, 3) := by decide +kernel
theorem dX2_follow_37 : decode cX2_follow 37 = .ok (.iconst 1, 1) := by decide +kernel
theorem dX2_follow_38 : decode cX2_follow 38 = .ok (.goto 4, 3) := by decide +kernel
theorem dX2_follow_41 : decode cX2_follow 41 = .ok (.iconst 0, 1) := by decide +kernel
theorem dX2_follow_42 : decode cX2_follow 42 = .ok (.istore 8, 2) := by decide +kernel
theorem dX2_follow_44 : decode cX2_follow 44 = .ok (.iload 7, 2) := by decide +kernel
theorem dX2_follow_46 : decode cX2_follow 46 = .ok (.bipush 35, 2) := by decide +kernel
theorem dX2_follow_48 : decode cX2_follow 48 = .ok (.if_icmp .eq 10, 3) := by decide +kernel
theorem dX2_follow_51 : decode cX2_follow 51 = .ok (.iload 7, 2) := by decide +kernel
theorem dX2_follow_53 : decode cX2_follow 53 = .ok (.bipush 37, 2) := by decide +kernel
theorem dX2_follow_55 : decode cX2_follow 55 = .ok (.if_icmp .ne 29, 3) := by decide +kernel
theorem dX2_follow_58 : decode cX2_follow 58 = .ok (.aload_n 0, 1) := by decide +kernel
theorem dX2_follow_59 : decode cX2_follow 59 = .ok (.aload_n 1, 1) := by decide +kernel
theorem dX2_follow_60 : decode cX2_follow 60 = .ok (.iload 4, 2) := by decide +kernel
theorem dX2_follow_62 : decode cX2_follow 62 = .ok (.iload 7, 2) := by decide +kernel
theorem dX2_follow_64 : decode cX2_follow 64 = .ok (.bipush 37, 2) := by decide +kernel
theorem dX2_follow_66 : decode cX2_follow 66 = .ok (.if_icmp .ne 7, 3) := by decide +kernel
theorem dX2_follow_69 : decode cX2_follow 69 = .ok (.iconst 1, 1) := by decide +kernel
theorem dX2_follow_70 : decode cX2_follow 70 = .ok (.goto 4, 3) := by decide +kernel
theorem dX2_follow_73 : decode cX2_follow 73 = .ok (.iconst 0, 1) := by decide +kernel
theorem dX2_follow_74 : decode cX2_follow 74 = .ok (.iload 5, 2) := by decide +kernel
theorem dX2_follow_76 : decode cX2_follow 76 = .ok (.invokevirtual 67, 3) := by decide +kernel
theorem dX2_follow_79 : decode cX2_follow 79 = .ok (.istore 8, 2) := by decide +kernel
theorem dX2_follow_81 : decode cX2_follow 81 = .ok (.iinc 5 1, 3) := by decide +kernel
theorem dX2_follow_84 : decode cX2_follow 84 = .ok (.iload 8, 2) := by decide +kernel
theorem dX2_follow_86 : decode cX2_follow 86 = .ok (.ifCond .ne 18, 3) := by decide +kernel
theorem dX2_follow_89 : decode cX2_follow 89 = .ok (.aload_n 0, 1) := by decide +kernel
theorem dX2_follow_90 : decode cX2_follow 90 = .ok (.aload_n 0, 1) := by decide +kernel
theorem dX2_follow_91 : decode cX2_follow 91 = .ok (.getfield 27, 3) := by decide +kernel
theorem dX2_follow_94 : decode cX2_follow 94 = .ok (.iload 4, 2) := by decide +kernel
theorem dX2_follow_96 : decode cX2_follow 96 = .ok (.invokestatic 71, 3) := by decide +kernel
theorem dX2_follow_99 : decode cX2_follow 99 = .ok (.putfield 27, 3) := by decide +kernel
theorem dX2_follow_102 : decode cX2_follow 102 = .ok (.iconst 0, 1) := by decide +kernel
theorem dX2_follow_103 : decode cX2_follow 103 = .ok (.ireturn, 1) := by decide +kernel
theorem dX2_follow_104 : decode cX2_follow 104 = .ok (.iload 4, 2) := by decide +kernel
theorem dX2_follow_106 : decode cX2_follow 106 = .ok (.iload 8, 2) := by decide +kernel
theorem dX2_follow_108 : decode cX2_follow 108 = .ok (.iadd, 1) := by decide +kernel
theorem dX2_follow_109 : decode cX2_follow 109 = .ok (.istore 4, 2) := by decide +kernel
theorem dX2_follow_111 : decode cX2_follow 111 = .ok (.iinc 6 1, 3) := by decide +kernel
theorem dX2_follow_114 : decode cX2_follow 114 = .ok (.goto (-105), 3) := by decide +kernel
theorem dX2_follow_117 : decode cX2_follow 117 = .ok (.aload_n 0, 1) := by decide +kernel
theorem dX2_follow_118 : decode cX2_follow 118 = .ok (.iload 4, 2) := by decide +kernel
theorem dX2_follow_120 : decode cX2_follow 120 = .ok (.putfield 27, 3) := by decide +kernel
theorem dX2_follow_123 : decode cX2_follow 123 = .ok (.iconst 1, 1) := by decide +kernel
theorem dX2_follow_124 : decode cX2_follow 124 = .ok (.ireturn, 1) := by decide +kernel
theorem dX2_takeNumber_0 : decode cX2_takeNumber 0 = .ok (.aload_n 0, 1) := by decide +kernel
theorem dX2_takeNumber_1 : decode cX2_takeNumber 1 = .ok (.getfield 23, 3) := by decide +kernel
theorem dX2_takeNumber_4 : decode cX2_takeNumber 4 = .ok (.iconst 4, 1) := by decide +kernel
theorem dX2_takeNumber_5 : decode cX2_takeNumber 5 = .ok (.imul, 1) := by decide +kernel
theorem dX2_takeNumber_6 : decode cX2_takeNumber 6 = .ok (.iload 4, 2) := by decide +kernel
theorem dX2_takeNumber_8 : decode cX2_takeNumber 8 = .ok (.iadd, 1) := by decide +kernel
theorem dX2_takeNumber_9 : decode cX2_takeNumber 9 = .ok (.istore 5, 2) := by decide +kernel
theorem dX2_takeNumber_11 : decode cX2_takeNumber 11 = .ok (.aload_n 1, 1) := by decide +kernel
theorem dX2_takeNumber_12 : decode cX2_takeNumber 12 = .ok (.iload_n 2, 1) := by decide +kernel
theorem dX2_takeNumber_13 : decode cX2_takeNumber 13 = .ok (.invokestatic 77, 3) := by decide +kernel
theorem dX2_takeNumber_16 : decode cX2_takeNumber 16 = .ok (.istore 6, 2) := by decide +kernel
theorem dX2_takeNumber_18 : decode cX2_takeNumber 18 = .ok (.aload_n 1, 1) := by decide +kernel
theorem dX2_takeNumber_19 : decode cX2_takeNumber 19 = .ok (.iload_n 2, 1) := by decide +kernel
theorem dX2_takeNumber_20 : decode cX2_takeNumber 20 = .ok (.iconst 1, 1) := by decide +kernel
theorem dX2_takeNumber_21 : decode cX2_takeNumber 21 = .ok (.iadd, 1) := by decide +kernel
theorem dX2_takeNumber_22 : decode cX2_takeNumber 22 = .ok (.invokestatic 77, 3) := by decide +kernel
theorem dX2_takeNumber_25 : decode cX2_takeNumber 25 = .ok (.istore 7, 2) := by decide +kernel
theorem dX2_takeNumber_27 : decode cX2_takeNumber 27 = .ok (.iload 6, 2) := by decide +kernel
theorem dX2_takeNumber_29 : decode cX2_takeNumber 29 = .ok (.iconst (-1), 1) := by decide +kernel
theorem dX2_takeNumber_30 : decode cX2_takeNumber 30 = .ok (.if_icmp .ne 5, 3) := by decide +kernel
theorem dX2_takeNumber_33 : decode cX2_takeNumber 33 = .ok (.iconst 0, 1) := by decide +kernel
theorem dX2_takeNumber_34 : decode cX2_takeNumber 34 = .ok (.ireturn, 1) := by decide +kernel
theorem dX2_takeNumber_35 : decode cX2_takeNumber 35 = .ok (.iload_n 3, 1) := by decide +kernel
theorem dX2_takeNumber_36 : decode cX2_takeNumber 36 = .ok (.ifCond .eq 9, 3) := by decide +kernel
theorem dX2_takeNumber_39 : decode cX2_takeNumber 39 = .ok (.iload 7, 2) := by decide +kernel
theorem dX2_takeNumber_41 : decode cX2_takeNumber 41 = .ok (.iconst (-1), 1) := by decide +kernel
theorem dX2_takeNumber_42 : decode cX2_takeNumber 42 = .ok (.if_icmp .ne 16, 3) := by decide +kernel
theorem dX2_takeNumber_45 : decode cX2_takeNumber 45 = .ok (.aload_n 0, 1) := by decide +kernel
theorem dX2_takeNumber_46 : decode cX2_takeNumber 46 = .ok (.getfield 20, 3) := by decide +kernel
theorem dX2_takeNumber_49 : decode cX2_takeNumber 49 = .ok (.iload 5, 2) := by decide +kernel
theorem dX2_takeNumber_51 : decode cX2_takeNumber 51 = .ok (.iload 6, 2) := by decide +kernel
theorem dX2_takeNumber_53 : decode cX2_takeNumber 53 = .ok (.invokevirtual 54, 3) := by decide +kernel
theorem dX2_takeNumber_56 : decode cX2_takeNumber 56 = .ok (.iconst 1, 1) := by decide +kernel
theorem dX2_takeNumber_57 : decode cX2_takeNumber 57 = .ok (.ireturn, 1) := by decide +kernel
theorem dX2_takeNumber_58 : decode cX2_takeNumber 58 = .ok (.aload_n 0, 1) := by decide +kernel
theorem dX2_takeNumber_59 : decode cX2_takeNumber 59 = .ok (.getfield 20, 3) := by decide +kernel
theorem dX2_takeNumber_62 : decode cX2_takeNumber 62 = .ok (.iload 5, 2) := by decide +kernel
theorem dX2_takeNumber_64 : decode cX2_takeNumber 64 = .ok (.iload 6, 2) := by decide +kernel
theorem dX2_takeNumber_66 : decode cX2_takeNumber 66 = .ok (.bipush 10, 2) := by decide +kernel
theorem dX2_takeNumber_68 : decode cX2_takeNumber 68 = .ok (.imul, 1) := by decide +kernel
theorem dX2_takeNumber_69 : decode cX2_takeNumber 69 = .ok (.iload 7, 2) := by decide +kernel
theorem dX2_takeNumber_71 : decode cX2_takeNumber 71 = .ok (.iadd, 1) := by decide +kernel
theorem dX2_takeNumber_72 : decode cX2_takeNumber 72 = .ok (.invokevirtual 54, 3) := by decide +kernel
theorem dX2_takeNumber_75 : decode cX2_takeNumber 75 = .ok (.iconst 2, 1) := by decide +kernel
theorem dX2_takeNumber_76 : decode cX2_takeNumber 76 = .ok (.ireturn, 1) := by decide +kernel
theorem dX2_digitAt_0 : decode cX2_digitAt 0 = .ok (.aload_n 0, 1) := by decide +kernel
theorem dX2_digitAt_1 : decode cX2_digitAt 1 = .ok (.iload_n 1, 1) := by decide +kernel
theorem dX2_digitAt_2 : decode cX2_digitAt 2 = .ok (.invokevirtual 39, 3) := by decide +kernel
theorem dX2_digitAt_5 : decode cX2_digitAt 5 = .ok (.istore_n 2, 1) := by decide +kernel
theorem dX2_digitAt_6 : decode cX2_digitAt 6 = .ok (.iload_n 2, 1) := by decide +kernel
theorem dX2_digitAt_7 : decode cX2_digitAt 7 = .ok (.bipush 48, 2) := by decide +kernel
theorem dX2_digitAt_9 : decode cX2_digitAt 9 = .ok (.if_icmp .lt 16, 3) := by decide +kernel
theorem dX2_digitAt_12 : decode cX2_digitAt 12 = .ok (.iload_n 2, 1) := by decide +kernel
theorem dX2_digitAt_13 : decode cX2_digitAt 13 = .ok (.bipush 57, 2) := by decide +kernel
theorem dX2_digitAt_15 : decode cX2_digitAt 15 = .ok (.if_icmp .gt 10, 3) := by decide +kernel
theorem dX2_digitAt_18 : decode cX2_digitAt 18 = .ok (.iload_n 2, 1) := by decide +kernel
theorem dX2_digitAt_19 : decode cX2_digitAt 19 = .ok (.bipush 48, 2) := by decide +kernel
theorem dX2_digitAt_21 : decode cX2_digitAt 21 = .ok (.isub, 1) := by decide +kernel
theorem dX2_digitAt_22 : decode cX2_digitAt 22 = .ok (.goto 4, 3) := by decide +kernel
theorem dX2_digitAt_25 : decode cX2_digitAt 25 = .ok (.iconst (-1), 1) := by decide +kernel
theorem dX2_digitAt_26 : decode cX2_digitAt 26 = .ok (.ireturn, 1) := by decide +kernel
theorem dX2_formOf_0 : decode cX2_formOf 0 = .ok (.iload_n 0, 1) := by decide +kernel
theorem dX2_formOf_1 : decode cX2_formOf 1 = .ok (.tableswitch 64 0 6 #[43, 46, 49, 52, 55, 58, 61], 43) := by decide +kernel
theorem dX2_formOf_44 : decode cX2_formOf 44 = .ok (.ldc 81, 2) := by decide +kernel
theorem dX2_formOf_46 : decode cX2_formOf 46 = .ok (.areturn, 1) := by decide +kernel
theorem dX2_formOf_47 : decode cX2_formOf 47 = .ok (.ldc 83, 2) := by decide +kernel
theorem dX2_formOf_49 : decode cX2_formOf 49 = .ok (.areturn, 1) := by decide +kernel
theorem dX2_formOf_50 : decode cX2_formOf 50 = .ok (.ldc 85, 2) := by decide +kernel
theorem dX2_formOf_52 : decode cX2_formOf 52 = .ok (.areturn, 1) := by decide +kernel
theorem dX2_formOf_53 : decode cX2_formOf 53 = .ok (.ldc 87, 2) := by decide +kernel
theorem dX2_formOf_55 : decode cX2_formOf 55 = .ok (.areturn, 1) := by decide +kernel
theorem dX2_formOf_56 : decode cX2_formOf 56 = .ok (.ldc 89, 2) := by decide +kernel
theorem dX2_formOf_58 : decode cX2_formOf 58 = .ok (.areturn, 1) := by decide +kernel
theorem dX2_formOf_59 : decode cX2_formOf 59 = .ok (.ldc 91, 2) := by decide +kernel
theorem dX2_formOf_61 : decode cX2_formOf 61 = .ok (.areturn, 1) := by decide +kernel
theorem dX2_formOf_62 : decode cX2_formOf 62 = .ok (.ldc 93, 2) := by decide +kernel
theorem dX2_formOf_64 : decode cX2_formOf 64 = .ok (.areturn, 1) := by decide +kernel
theorem dX2_formOf_65 : decode cX2_formOf 65 = .ok (.ldc 95, 2) := by decide +kernel
theorem dX2_formOf_67 : decode cX2_formOf 67 = .ok (.areturn, 1) := by decide +kernel
theorem dX3_init_0 : decode cX3_init 0 = .ok (.aload_n 0, 1) := by decide +kernel
theorem dX3_init_1 : decode cX3_init 1 = .ok (.invokespecial 1, 3) := by decide +kernel
theorem dX3_init_4 : decode cX3_init 4 = .ok (.aload_n 0, 1) := by decide +kernel
theorem dX3_init_5 : decode cX3_init 5 = .ok (.iload_n 1, 1) := by decide +kernel
theorem dX3_init_6 : decode cX3_init 6 = .ok (.ifCond .le 7, 3) := by decide +kernel
theorem dX3_init_9 : decode cX3_init 9 = .ok (.iload_n 1, 1) := by decide +kernel
theorem dX3_init_10 : decode cX3_init 10 = .ok (.goto 4, 3) := by decide +kernel
theorem dX3_init_13 : decode cX3_init 13 = .ok (.iconst 0, 1) := by decide +kernel
theorem dX3_init_14 : decode cX3_init 14 = .ok (.newarray .int, 2) := by decide +kernel
theorem dX3_init_16 : decode cX3_init 16 = .ok (.putfield 7, 3) := by decide +kernel
theorem dX3_init_19 : decode cX3_init 19 = .ok (.return_, 1) := by decide +kernel
theorem dX3_at_0 : decode cX3_at 0 = .ok (.iload_n 1, 1) := by decide +kernel
theorem dX3_at_1 : decode cX3_at 1 = .ok (.ifCond .lt 21, 3) := by decide +kernel
theorem dX3_at_4 : decode cX3_at 4 = .ok (.iload_n 1, 1) := by decide +kernel
theorem dX3_at_5 : decode cX3_at 5 = .ok (.aload_n 0, 1) := by decide +kernel
theorem dX3_at_6 : decode cX3_at 6 = .ok (.getfield 7, 3) := by decide +kernel
theorem dX3_at_9 : decode cX3_at 9 = .ok (.arraylength, 1) := by decide +kernel
theorem dX3_at_10 : decode cX3_at 10 = .ok (.if_icmp .ge 12, 3) := by decide +kernel
theorem dX3_at_13 : decode cX3_at 13 = .ok (.aload_n 0, 1) := by decide +kernel
theorem dX3_at_14 : decode cX3_at 14 = .ok (.getfield 7, 3) := by decide +kernel
theorem dX3_at_17 : decode cX3_at 17 = .ok (.iload_n 1, 1) := by decide +kernel
theorem dX3_at_18 : decode cX3_at 18 = .ok (.iaload, 1) := by decide +kernel
theorem dX3_at_19 : decode cX3_at 19 = .ok (.goto 4, 3) := by decide +kernel
theorem dX3_at_22 : decode cX3_at 22 = .ok (.iconst 0, 1) := by decide +kernel
theorem dX3_at_23 : decode cX3_at 23 = .ok (.ireturn, 1) := by decide +kernel
theorem dX3_put_0 : decode cX3_put 0 = .ok (.iload_n 1, 1) := by decide +kernel
theorem dX3_put_1 : decode cX3_put 1 = .ok (.ifCond .lt 19, 3) := by decide +kernel
theorem dX3_put_4 : decode cX3_put 4 = .ok (.iload_n 1, 1) := by decide +kernel
theorem dX3_put_5 : decode cX3_put 5 = .ok (.aload_n 0, 1) := by decide +kernel
theorem dX3_put_6 : decode cX3_put 6 = .ok (.getfield 7, 3) := by decide +kernel
theorem dX3_put_9 : decode cX3_put 9 = .ok (.arraylength, 1) := by decide +kernel
theorem dX3_put_10 : decode cX3_put 10 = .ok (.if_icmp .ge 10, 3) := by decide +kernel
theorem dX3_put_13 : decode cX3_put 13 = .ok (.aload_n 0, 1) := by decide +kernel
theorem dX3_put_14 : decode cX3_put 14 = .ok (.getfield 7, 3) := by decide +kernel
theorem dX3_put_17 : decode cX3_put 17 = .ok (.iload_n 1, 1) := by decide +kernel
theorem dX3_put_18 : decode cX3_put 18 = .ok (.iload_n 2, 1) := by decide +kernel
theorem dX3_put_19 : decode cX3_put 19 = .ok (.iastore, 1) := by decide +kernel
theorem dX3_put_20 : decode cX3_put 20 = .ok (.return_, 1) := by decide +kernel
theorem dX3_takeOut_0 : decode cX3_takeOut 0 = .ok (.iload_n 1, 1) := by decide +kernel
theorem dX3_takeOut_1 : decode cX3_takeOut 1 = .ok (.ifCond .lt 36, 3) := by decide +kernel
theorem dX3_takeOut_4 : decode cX3_takeOut 4 = .ok (.iload_n 1, 1) := by decide +kernel
theorem dX3_takeOut_5 : decode cX3_takeOut 5 = .ok (.istore_n 2, 1) := by decide +kernel
theorem dX3_takeOut_6 : decode cX3_takeOut 6 = .ok (.iload_n 2, 1) := by decide +kernel
theorem dX3_takeOut_7 : decode cX3_takeOut 7 = .ok (.aload_n 0, 1) := by decide +kernel
theorem dX3_takeOut_8 : decode cX3_takeOut 8 = .ok (.getfield 7, 3) := by decide +kernel
theorem dX3_takeOut_11 : decode cX3_takeOut 11 = .ok (.arraylength, 1) := by decide +kernel
theorem dX3_takeOut_12 : decode cX3_takeOut 12 = .ok (.iconst 1, 1) := by decide +kernel
theorem dX3_takeOut_13 : decode cX3_takeOut 13 = .ok (.isub, 1) := by decide +kernel
theorem dX3_takeOut_14 : decode cX3_takeOut 14 = .ok (.if_icmp .ge 23, 3) := by decide +kernel
theorem dX3_takeOut_17 : decode cX3_takeOut 17 = .ok (.aload_n 0, 1) := by decide +kernel
theorem dX3_takeOut_18 : decode cX3_takeOut 18 = .ok (.getfield 7, 3) := by decide +kernel
theorem dX3_takeOut_21 : decode cX3_takeOut 21 = .ok (.iload_n 2, 1) := by decide +kernel
theorem dX3_takeOut_22 : decode cX3_takeOut 22 = .ok (.aload_n 0, 1) := by decide +kernel
theorem dX3_takeOut_23 : decode cX3_takeOut 23 = .ok (.getfield 7, 3) := by decide +kernel
theorem dX3_takeOut_26 : decode cX3_takeOut 26 = .ok (.iload_n 2, 1) := by decide +kernel
theorem dX3_takeOut_27 : decode cX3_takeOut 27 = .ok (.iconst 1, 1) := by decide +kernel
theorem dX3_takeOut_28 : decode cX3_takeOut 28 = .ok (.iadd, 1) := by decide +kernel
theorem dX3_takeOut_29 : decode cX3_takeOut 29 = .ok (.iaload, 1) := by decide +kernel
theorem dX3_takeOut_30 : decode cX3_takeOut 30 = .ok (.iastore, 1) := by decide +kernel
theorem dX3_takeOut_31 : decode cX3_takeOut 31 = .ok (.iinc 2 1, 3) := by decide +kernel
theorem dX3_takeOut_34 : decode cX3_takeOut 34 = .ok (.goto (-28), 3) := by decide +kernel
theorem dX3_takeOut_37 : decode cX3_takeOut 37 = .ok (.return_, 1) := by decide +kernel
theorem dX3_copy_0 : decode cX3_copy 0 = .ok (.aload_n 0, 1) := by decide +kernel
theorem dX3_copy_1 : decode cX3_copy 1 = .ok (.getfield 7, 3) := by decide +kernel
theorem dX3_copy_4 : decode cX3_copy 4 = .ok (.arraylength, 1) := by decide +kernel
theorem dX3_copy_5 : decode cX3_copy 5 = .ok (.aload_n 1, 1) := by decide +kernel
theorem dX3_copy_6 : decode cX3_copy 6 = .ok (.getfield 7, 3) := by decide +kernel
theorem dX3_copy_9 : decode cX3_copy 9 = .ok (.arraylength, 1) := by decide +kernel
theorem dX3_copy_10 : decode cX3_copy 10 = .ok (.invokestatic 13, 3) := by decide +kernel
theorem dX3_copy_13 : decode cX3_copy 13 = .ok (.istore_n 2, 1) := by decide +kernel
theorem dX3_copy_14 : decode cX3_copy 14 = .ok (.aload_n 0, 1) := by decide +kernel
theorem dX3_copy_15 : decode cX3_copy 15 = .ok (.getfield 7, 3) := by decide +kernel
theorem dX3_copy_18 : decode cX3_copy 18 = .ok (.iconst 0, 1) := by decide +kernel
theorem dX3_copy_19 : decode cX3_copy 19 = .ok (.aload_n 1, 1) := by decide +kernel
theorem dX3_copy_20 : decode cX3_copy 20 = .ok (.getfield 7, 3) := by decide +kernel
theorem dX3_copy_23 : decode cX3_copy 23 = .ok (.iconst 0, 1) := by decide +kernel
theorem dX3_copy_24 : decode cX3_copy 24 = .ok (.iload_n 2, 1) := by decide +kernel
theorem dX3_copy_25 : decode cX3_copy 25 = .ok (.invokestatic 19, 3) := by decide +kernel
theorem dX3_copy_28 : decode cX3_copy 28 = .ok (.return_, 1) := by decide +kernel
theorem dX4_init_0 : decode cX4_init 0 = .ok (.aload_n 0, 1) := by decide +kernel
theorem dX4_init_1 : decode cX4_init 1 = .ok (.invokespecial 3, 3) := by decide +kernel
theorem dX4_init_4 : decode cX4_init 4 = .ok (.aload_n 0, 1) := by decide +kernel
theorem dX4_init_5 : decode cX4_init 5 = .ok (.new 9, 3) := by decide +kernel
theorem dX4_init_8 : decode cX4_init 8 = .ok (.dup, 1) := by decide +kernel
theorem dX4_init_9 : decode cX4_init 9 = .ok (.invokespecial 11, 3) := by decide +kernel
theorem dX4_init_12 : decode cX4_init 12 = .ok (.putfield 12, 3) := by decide +kernel
theorem dX4_init_15 : decode cX4_init 15 = .ok (.aload_n 0, 1) := by decide +kernel
theorem dX4_init_16 : decode cX4_init 16 = .ok (.new 18, 3) := by decide +kernel
theorem dX4_init_19 : decode cX4_init 19 = .ok (.dup, 1) := by decide +kernel
theorem dX4_init_20 : decode cX4_init 20 = .ok (.invokespecial 20, 3) := by decide +kernel
theorem dX4_init_23 : decode cX4_init 23 = .ok (.putfield 21, 3) := by decide +kernel
theorem dX4_init_26 : decode cX4_init 26 = .ok (.aload_n 0, 1) := by decide +kernel
theorem dX4_init_27 : decode cX4_init 27 = .ok (.new 25, 3) := by decide +kernel
theorem dX4_init_30 : decode cX4_init 30 = .ok (.dup, 1) := by decide +kernel
theorem dX4_init_31 : decode cX4_init 31 = .ok (.iconst 4, 1) := by decide +kernel
theorem dX4_init_32 : decode cX4_init 32 = .ok (.invokespecial 27, 3) := by decide +kernel
theorem dX4_init_35 : decode cX4_init 35 = .ok (.putfield 30, 3) := by decide +kernel
theorem dX4_init_38 : decode cX4_init 38 = .ok (.aload_n 0, 1) := by decide +kernel
theorem dX4_init_39 : decode cX4_init 39 = .ok (.iconst 0, 1) := by decide +kernel
theorem dX4_init_40 : decode cX4_init 40 = .ok (.putfield 34, 3) := by decide +kernel
theorem dX4_init_43 : decode cX4_init 43 = .ok (.aload_n 0, 1) := by decide +kernel
theorem dX4_init_44 : decode cX4_init 44 = .ok (.iconst 3, 1) := by decide +kernel
theorem dX4_init_45 : decode cX4_init 45 = .ok (.putfield 38, 3) := by decide +kernel
theorem dX4_init_48 : decode cX4_init 48 = .ok (.aload_n 0, 1) := by decide +kernel
theorem dX4_init_49 : decode cX4_init 49 = .ok (.iconst 0, 1) := by decide +kernel
theorem dX4_init_50 : decode cX4_init 50 = .ok (.putfield 41, 3) := by decide +kernel
theorem dX4_init_53 : decode cX4_init 53 = .ok (.aload_n 0, 1) := by decide +kernel
theorem dX4_init_54 : decode cX4_init 54 = .ok (.iconst 0, 1) := by decide +kernel
theorem dX4_init_55 : decode cX4_init 55 = .ok (.putfield 44, 3) := by decide +kernel
theorem dX4_init_58 : decode cX4_init 58 = .ok (.aload_n 0, 1) := by decide +kernel
theorem dX4_init_59 : decode cX4_init 59 = .ok (.bipush 9, 2) := by decide +kernel
theorem dX4_init_61 : decode cX4_init 61 = .ok (.putfield 47, 3) := by decide +kernel
theorem dX4_init_64 : decode cX4_init 64 = .ok (.aload_n 0, 1) := by decide +kernel
theorem dX4_init_65 : decode cX4_init 65 = .ok (.iconst 0, 1) := by decide +kernel
theorem dX4_init_66 : decode cX4_init 66 = .ok (.putfield 50, 3) := by decide +kernel
theorem dX4_init_69 : decode cX4_init 69 = .ok (.aload_n 0, 1) := by decide +kernel
theorem dX4_init_70 : decode cX4_init 70 = .ok (.iconst 0, 1) := by decide +kernel
theorem dX4_init_71 : decode cX4_init 71 = .ok (.putfield 53, 3) := by decide +kernel
theorem dX4_init_74 : decode cX4_init 74 = .ok (.aload_n 0, 1) := by decide +kernel
theorem dX4_init_75 : decode cX4_init 75 = .ok (.iconst 0, 1) := by decide +kernel
theorem dX4_init_76 : decode cX4_init 76 = .ok (.putfield 56, 3) := by decide +kernel
theorem dX4_init_79 : decode cX4_init 79 = .ok (.aload_n 0, 1) := by decide +kernel
theorem dX4_init_80 : decode cX4_init 80 = .ok (.iconst 0, 1) := by decide +kernel
theorem dX4_init_81 : decode cX4_init 81 = .ok (.putfield 59, 3) := by decide +kernel
theorem dX4_init_84 : decode cX4_init 84 = .ok (.iconst 0, 1) := by decide +kernel
theorem dX4_init_85 : decode cX4_init 85 = .ok (.istore_n 1, 1) := by decide +kernel
theorem dX4_init_86 : decode cX4_init 86 = .ok (.iload_n 1, 1) := by decide +kernel
theorem dX4_init_87 : decode cX4_init 87 = .ok (.iconst 4, 1) := by decide +kernel
theorem dX4_init_88 : decode cX4_init 88 = .ok (.if_icmp .ge 18, 3) := by decide +kernel
theorem dX4_init_91 : decode cX4_init 91 = .ok (.aload_n 0, 1) := by decide +kernel
theorem dX4_init_92 : decode cX4_init 92 = .ok (.getfield 30, 3) := by decide +kernel
theorem dX4_init_95 : decode cX4_init 95 = .ok (.iload_n 1, 1) := by decide +kernel
theorem dX4_init_96 : decode cX4_init 96 = .ok (.iconst 2, 1) := by decide +kernel
theorem dX4_init_97 : decode cX4_init 97 = .ok (.invokevirtual 62, 3) := by decide +kernel
theorem dX4_init_100 : decode cX4_init 100 = .ok (.iinc 1 1, 3) := by decide +kernel
theorem dX4_init_103 : decode cX4_init 103 = .ok (.goto (-17), 3) := by decide +kernel
theorem dX4_init_106 : decode cX4_init 106 = .ok (.return_, 1) := by decide +kernel
theorem dX4_reachBehind_0 : decode cX4_reachBehind 0 = .ok (.bipush 30, 2) := by decide +kernel
theorem dX4_reachBehind_2 : decode cX4_reachBehind 2 = .ok (.iload_n 0, 1) := by decide +kernel
theorem dX4_reachBehind_3 : decode cX4_reachBehind 3 = .ok (.iload_n 1, 1) := by decide +kernel
theorem dX4_reachBehind_4 : decode cX4_reachBehind 4 = .ok (.iadd, 1) := by decide +kernel
theorem dX4_reachBehind_5 : decode cX4_reachBehind 5 = .ok (.invokestatic 66, 3) := by decide +kernel
theorem dX4_reachBehind_8 : decode cX4_reachBehind 8 = .ok (.ireturn, 1) := by decide +kernel
theorem dX4_groansOf_0 : decode cX4_groansOf 0 = .ok (.iconst 1, 1) := by decide +kernel
theorem dX4_groansOf_1 : decode cX4_groansOf 1 = .ok (.iload_n 0, 1) := by decide +kernel
theorem dX4_groansOf_2 : decode cX4_groansOf 2 = .ok (.bipush 10, 2) := by decide +kernel
theorem dX4_groansOf_4 : decode cX4_groansOf 4 = .ok (.idiv, 1) := by decide +kernel
theorem dX4_groansOf_5 : decode cX4_groansOf 5 = .ok (.iadd, 1) := by decide +kernel
theorem dX4_groansOf_6 : decode cX4_groansOf 6 = .ok (.ireturn, 1) := by decide +kernel
theorem dX4_laughOf_0 : decode cX4_laughOf 0 = .ok (.aload_n 0, 1) := by decide +kernel
theorem dX4_laughOf_1 : decode cX4_laughOf 1 = .ok (.getfield 12, 3) := by decide +kernel
theorem dX4_laughOf_4 : decode cX4_laughOf 4 = .ok (.getfield 72, 3) := by decide +kernel
theorem dX4_laughOf_7 : decode cX4_laughOf 7 = .ok (.iload_n 1, 1) := by decide +kernel
theorem dX4_laughOf_8 : decode cX4_laughOf 8 = .ok (.invokevirtual 75, 3) := by decide +kernel
theorem dX4_laughOf_11 : decode cX4_laughOf 11 = .ok (.i2f, 1) := by decide +kernel
theorem dX4_laughOf_12 : decode cX4_laughOf 12 = .ok (.fstore_n 3, 1) := by decide +kernel
theorem dX4_laughOf_13 : decode cX4_laughOf 13 = .ok (.aload_n 0, 1) := by decide +kernel
theorem dX4_laughOf_14 : decode cX4_laughOf 14 = .ok (.getfield 12, 3) := by decide +kernel
theorem dX4_laughOf_17 : decode cX4_laughOf 17 = .ok (.getfield 79, 3) := by decide +kernel
theorem dX4_laughOf_20 : decode cX4_laughOf 20 = .ok (.iload_n 1, 1) := by decide +kernel
theorem dX4_laughOf_21 : decode cX4_laughOf 21 = .ok (.invokevirtual 75, 3) := by decide +kernel
theorem dX4_laughOf_24 : decode cX4_laughOf 24 = .ok (.ifCond .eq 8, 3) := by decide +kernel
theorem dX4_laughOf_27 : decode cX4_laughOf 27 = .ok (.fload_n 3, 1) := by decide +kernel
theorem dX4_laughOf_28 : decode cX4_laughOf 28 = .ok (.ldc 82, 2) := by decide +kernel
theorem dX4_laughOf_30 : decode cX4_laughOf 30 = .ok (.fmul, 1) := by decide +kernel
theorem dX4_laughOf_31 : decode cX4_laughOf 31 = .ok (.fstore_n 3, 1) := by decide +kernel
theorem dX4_laughOf_32 : decode cX4_laughOf 32 = .ok (.fload_n 3, 1) := by decide +kernel
theorem dX4_laughOf_33 : decode cX4_laughOf 33 = .ok (.fconst 1, 1) := by decide +kernel
theorem dX4_laughOf_34 : decode cX4_laughOf 34 = .ok (.iload_n 2, 1) := by decide +kernel
theorem dX4_laughOf_35 : decode cX4_laughOf 35 = .ok (.i2f, 1) := by decide +kernel
theorem dX4_laughOf_36 : decode cX4_laughOf 36 = .ok (.ldc 83, 2) := by decide +kernel
theorem dX4_laughOf_38 : decode cX4_laughOf 38 = .ok (.fdiv, 1) := by decide +kernel
theorem dX4_laughOf_39 : decode cX4_laughOf 39 = .ok (.fadd, 1) := by decide +kernel
theorem dX4_laughOf_40 : decode cX4_laughOf 40 = .ok (.fdiv, 1) := by decide +kernel
theorem dX4_laughOf_41 : decode cX4_laughOf 41 = .ok (.freturn, 1) := by decide +kernel
theorem dX4_makeStroke_0 : decode cX4_makeStroke 0 = .ok (.aload_n 0, 1) := by decide +kernel
theorem dX4_makeStroke_1 : decode cX4_makeStroke 1 = .ok (.aload_n 0, 1) := by decide +kernel
theorem dX4_makeStroke_2 : decode cX4_makeStroke 2 = .ok (.getfield 41, 3) := by decide +kernel
theorem dX4_makeStroke_5 : decode cX4_makeStroke 5 = .ok (.aload_n 0, 1) := by decide +kernel
theorem dX4_makeStroke_6 : decode cX4_makeStroke 6 = .ok (.getfield 38, 3) := by decide +kernel
theorem dX4_makeStroke_9 : decode cX4_makeStroke 9 = .ok (.invokestatic 84, 3) := by decide +kernel
theorem dX4_makeStroke_12 : decode cX4_makeStroke 12 = .ok (.putfield 41, 3) := by decide +kernel
theorem dX4_makeStroke_15 : decode cX4_makeStroke 15 = .ok (.aload_n 0, 1) := by decide +kernel
theorem dX4_makeStroke_16 : decode cX4_makeStroke 16 = .ok (.dup, 1) := by decide +kernel
theorem dX4_makeStroke_17 : decode cX4_makeStroke 17 = .ok (.getfield 44, 3) := by decide +kernel
theorem dX4_makeStroke_20 : decode cX4_makeStroke 20 = .ok (.aload_n 0, 1) := by decide +kernel
theorem dX4_makeStroke_21 : decode cX4_makeStroke 21 = .ok (.getfield 41, 3) := by decide +kernel
theorem dX4_makeStroke_24 : decode cX4_makeStroke 24 = .ok (.invokestatic 87, 3) := by decide +kernel
theorem dX4_makeStroke_27 : decode cX4_makeStroke 27 = .ok (.iadd, 1) := by decide +kernel
theorem dX4_makeStroke_28 : decode cX4_makeStroke 28 = .ok (.putfield 44, 3) := by decide +kernel
theorem dX4_makeStroke_31 : decode cX4_makeStroke 31 = .ok (.aload_n 0, 1) := by decide +kernel
theorem dX4_makeStroke_32 : decode cX4_makeStroke 32 = .ok (.dup, 1) := by decide +kernel
theorem dX4_makeStroke_33 : decode cX4_makeStroke 33 = .ok (.getfield 56, 3) := by decide +kernel
theorem dX4_makeStroke_36 : decode cX4_makeStroke 36 = .ok (.iconst 1, 1) := by decide +kernel
theorem dX4_makeStroke_37 : decode cX4_makeStroke 37 = .ok (.iadd, 1) := by decide +kernel
theorem dX4_makeStroke_38 : decode cX4_makeStroke 38 = .ok (.putfield 56, 3) := by decide +kernel
theorem dX4_makeStroke_41 : decode cX4_makeStroke 41 = .ok (.aload_n 0, 1) := by decide +kernel
theorem dX4_makeStroke_42 : decode cX4_makeStroke 42 = .ok (.getfield 12, 3) := by decide +kernel
theorem dX4_makeStroke_45 : decode cX4_makeStroke 45 = .ok (.aload_n 0, 1) := by decide +kernel
theorem dX4_makeStroke_46 : decode cX4_makeStroke 46 = .ok (.getfield 34, 3) := by decide +kernel
theorem dX4_makeStroke_49 : decode cX4_makeStroke 49 = .ok (.aload_n 0, 1) := by decide +kernel
theorem dX4_makeStroke_50 : decode cX4_makeStroke 50 = .ok (.getfield 41, 3) := by decide +kernel
theorem dX4_makeStroke_53 : decode cX4_makeStroke 53 = .ok (.invokevirtual 90, 3) := by decide +kernel
theorem dX4_makeStroke_56 : decode cX4_makeStroke 56 = .ok (.aload_n 0, 1) := by decide +kernel
theorem dX4_makeStroke_57 : decode cX4_makeStroke 57 = .ok (.getfield 30, 3) := by decide +kernel
theorem dX4_makeStroke_60 : decode cX4_makeStroke 60 = .ok (.aload_n 0, 1) := by decide +kernel
theorem dX4_makeStroke_61 : decode cX4_makeStroke 61 = .ok (.getfield 34, 3) := by decide +kernel
theorem dX4_makeStroke_64 : decode cX4_makeStroke 64 = .ok (.invokevirtual 75, 3) := by decide +kernel
theorem dX4_makeStroke_67 : decode cX4_makeStroke 67 = .ok (.invokestatic 66, 3) := by decide +kernel
theorem dX4_makeStroke_70 : decode cX4_makeStroke 70 = .ok (.istore_n 1, 1) := by decide +kernel
theorem dX4_makeStroke_71 : decode cX4_makeStroke 71 = .ok (.iconst 0, 1) := by decide +kernel
theorem dX4_makeStroke_72 : decode cX4_makeStroke 72 = .ok (.istore_n 2, 1) := by decide +kernel
theorem dX4_makeStroke_73 : decode cX4_makeStroke 73 = .ok (.iload_n 2, 1) := by decide +kernel
theorem dX4_makeStroke_74 : decode cX4_makeStroke 74 = .ok (.iload_n 1, 1) := by decide +kernel
theorem dX4_makeStroke_75 : decode cX4_makeStroke 75 = .ok (.if_icmp .ge 25, 3) := by decide +kernel
theorem dX4_makeStroke_78 : decode cX4_makeStroke 78 = .ok (.aload_n 0, 1) := by decide +kernel
theorem dX4_makeStroke_79 : decode cX4_makeStroke 79 = .ok (.aload_n 0, 1) := by decide +kernel
theorem dX4_makeStroke_80 : decode cX4_makeStroke 80 = .ok (.getfield 12, 3) := by decide +kernel
theorem dX4_makeStroke_83 : decode cX4_makeStroke 83 = .ok (.aload_n 0, 1) := by decide +kernel
theorem dX4_makeStroke_84 : decode cX4_makeStroke 84 = .ok (.getfield 34, 3) := by decide +kernel
theorem dX4_makeStroke_87 : decode cX4_makeStroke 87 = .ok (.iconst 0, 1) := by decide +kernel
theorem dX4_makeStroke_88 : decode cX4_makeStroke 88 = .ok (.invokevirtual 93, 3) := by decide +kernel
theorem dX4_makeStroke_91 : decode cX4_makeStroke 91 = .ok (.invokevirtual 96, 3) := by decide +kernel
theorem dX4_makeStroke_94 : decode cX4_makeStroke 94 = .ok (.iinc 2 1, 3) := by decide +kernel
theorem dX4_makeStroke_97 : decode cX4_makeStroke 97 = .ok (.goto (-24), 3) := by decide +kernel
theorem dX4_makeStroke_100 : decode cX4_makeStroke 100 = .ok (.iload_n 1, 1) := by decide +kernel
theorem dX4_makeStroke_101 : decode cX4_makeStroke 101 = .ok (.ireturn, 1) := by decide +kernel
theorem dX4_lift_0 : decode cX4_lift 0 = .ok (.aload_n 0, 1) := by decide +kernel
theorem dX4_lift_1 : decode cX4_lift 1 = .ok (.getfield 21, 3) := by decide +kernel
theorem dX4_lift_4 : decode cX4_lift 4 = .ok (.aload_n 0, 1) := by decide +kernel
theorem dX4_lift_5 : decode cX4_lift 5 = .ok (.getfield 12, 3) := by decide +kernel
theorem dX4_lift_8 : decode cX4_lift 8 = .ok (.getfield 99, 3) := by decide +kernel
theorem dX4_lift_11 : decode cX4_lift 11 = .ok (.iload_n 1, 1) := by decide +kernel
theorem dX4_lift_12 : decode cX4_lift 12 = .ok (.invokevirtual 75, 3) := by decide +kernel
theorem dX4_lift_15 : decode cX4_lift 15 = .ok (.aload_n 0, 1) := by decide +kernel
theorem dX4_lift_16 : decode cX4_lift 16 = .ok (.getfield 12, 3) := by decide +kernel
theorem dX4_lift_19 : decode cX4_lift 19 = .ok (.getfield 102, 3) := by decide +kernel
theorem dX4_lift_22 : decode cX4_lift 22 = .ok (.iload_n 1, 1) := by decide +kernel
theorem dX4_lift_23 : decode cX4_lift 23 = .ok (.invokevirtual 75, 3) := by decide +kernel
theorem dX4_lift_26 : decode cX4_lift 26 = .ok (.aload_n 0, 1) := by decide +kernel
theorem dX4_lift_27 : decode cX4_lift 27 = .ok (.iload_n 1, 1) := by decide +kernel
theorem dX4_lift_28 : decode cX4_lift 28 = .ok (.aload_n 0, 1) := by decide +kernel
theorem dX4_lift_29 : decode cX4_lift 29 = .ok (.getfield 44, 3) := by decide +kernel
theorem dX4_lift_32 : decode cX4_lift 32 = .ok (.invokevirtual 105, 3) := by decide +kernel
theorem dX4_lift_35 : decode cX4_lift 35 = .ok (.invokevirtual 109, 3) := by decide +kernel
theorem dX4_lift_38 : decode cX4_lift 38 = .ok (.aload_n 0, 1) := by decide +kernel
theorem dX4_lift_39 : decode cX4_lift 39 = .ok (.getfield 12, 3) := by decide +kernel
theorem dX4_lift_42 : decode cX4_lift 42 = .ok (.iload_n 1, 1) := by decide +kernel
theorem dX4_lift_43 : decode cX4_lift 43 = .ok (.invokevirtual 113, 3) := by decide +kernel
theorem dX4_lift_46 : decode cX4_lift 46 = .ok (.return_, 1) := by decide +kernel
theorem dX4_copy_0 : decode cX4_copy 0 = .ok (.aload_n 0, 1) := by decide +kernel
theorem dX4_copy_1 : decode cX4_copy 1 = .ok (.ifnull 7, 3) := by decide +kernel
theorem dX4_copy_4 : decode cX4_copy 4 = .ok (.aload_n 1, 1) := by decide +kernel
theorem dX4_copy_5 : decode cX4_copy 5 = .ok (.ifnonnull 4, 3) := by decide +kernel
theorem dX4_copy_8 : decode cX4_copy 8 = .ok (.return_, 1) := by decide +kernel
theorem dX4_copy_9 : decode cX4_copy 9 = .ok (.aload_n 0, 1) := by decide +kernel
theorem dX4_copy_10 : decode cX4_copy 10 = .ok (.getfield 12, 3) := by decide +kernel
theorem dX4_copy_13 : decode cX4_copy 13 = .ok (.aload_n 1, 1) := by decide +kernel
theorem dX4_copy_14 : decode cX4_copy 14 = .ok (.getfield 12, 3) := by decide +kernel
theorem dX4_copy_17 : decode cX4_copy 17 = .ok (.invokestatic 116, 3) := by decide +kernel
theorem dX4_copy_20 : decode cX4_copy 20 = .ok (.aload_n 0, 1) := by decide +kernel
theorem dX4_copy_21 : decode cX4_copy 21 = .ok (.getfield 21, 3) := by decide +kernel
theorem dX4_copy_24 : decode cX4_copy 24 = .ok (.aload_n 1, 1) := by decide +kernel
theorem dX4_copy_25 : decode cX4_copy 25 = .ok (.getfield 21, 3) := by decide +kernel
theorem dX4_copy_28 : decode cX4_copy 28 = .ok (.invokestatic 120, 3) := by decide +kernel
theorem dX4_copy_31 : decode cX4_copy 31 = .ok (.aload_n 0, 1) := by decide +kernel
theorem dX4_copy_32 : decode cX4_copy 32 = .ok (.getfield 30, 3) := by decide +kernel
theorem dX4_copy_35 : decode cX4_copy 35 = .ok (.aload_n 1, 1) := by decide +kernel
theorem dX4_copy_36 : decode cX4_copy 36 = .ok (.getfield 30, 3) := by decide +kernel
theorem dX4_copy_39 : decode cX4_copy 39 = .ok (.invokestatic 123, 3) := by decide +kernel
theorem dX4_copy_42 : decode cX4_copy 42 = .ok (.aload_n 1, 1) := by decide +kernel
theorem dX4_copy_43 : decode cX4_copy 43 = .ok (.aload_n 0, 1) := by decide +kernel
theorem dX4_copy_44 : decode cX4_copy 44 = .ok (.getfield 34, 3) := by decide +kernel
theorem dX4_copy_47 : decode cX4_copy 47 = .ok (.putfield 34, 3) := by decide +kernel
theorem dX4_copy_50 : decode cX4_copy 50 = .ok (.aload_n 1, 1) := by decide +kernel
theorem dX4_copy_51 : decode cX4_copy 51 = .ok (.aload_n 0, 1) := by decide +kernel
theorem dX4_copy_52 : decode cX4_copy 52 = .ok (.getfield 38, 3) := by decide +kernel
theorem dX4_copy_55 : decode cX4_copy 55 = .ok (.putfield 38, 3) := by decide +kernel
theorem dX4_copy_58 : decode cX4_copy 58 = .ok (.aload_n 1, 1) := by decide +kernel
theorem dX4_copy_59 : decode cX4_copy 59 = .ok (.aload_n 0, 1) := by decide +kernel
theorem dX4_copy_60 : decode cX4_copy 60 = .ok (.getfield 41, 3) := by decide +kernel
theorem dX4_copy_63 : decode cX4_copy 63 = .ok (.putfield 41, 3) := by decide +kernel
theorem dX4_copy_66 : decode cX4_copy 66 = .ok (.aload_n 1, 1) := by decide +kernel
theorem dX4_copy_67 : decode cX4_copy 67 = .ok (.aload_n 0, 1) := by decide +kernel
theorem dX4_copy_68 : decode cX4_copy 68 = .ok (.getfield 44, 3) := by decide +kernel
theorem dX4_copy_71 : decode cX4_copy 71 = .ok (.putfield 44, 3) := by decide +kernel
theorem dX4_copy_74 : decode cX4_copy 74 = .ok (.aload_n 1, 1) := by decide +kernel
theorem dX4_copy_75 : decode cX4_copy 75 = .ok (.aload_n 0, 1) := by decide +kernel
theorem dX4_copy_76 : decode cX4_copy 76 = .ok (.getfield 47, 3) := by decide +kernel
theorem dX4_copy_79 : decode cX4_copy 79 = .ok (.putfield 47, 3) := by decide +kernel
theorem dX4_copy_82 : decode cX4_copy 82 = .ok (.aload_n 1, 1) := by decide +kernel
theorem dX4_copy_83 : decode cX4_copy 83 = .ok (.aload_n 0, 1) := by decide +kernel
theorem dX4_copy_84 : decode cX4_copy 84 = .ok (.getfield 50, 3) := by decide +kernel
theorem dX4_copy_87 : decode cX4_copy 87 = .ok (.putfield 50, 3) := by decide +kernel
theorem dX4_copy_90 : decode cX4_copy 90 = .ok (.aload_n 1, 1) := by decide +kernel
theorem dX4_copy_91 : decode cX4_copy 91 = .ok (.aload_n 0, 1) := by decide +kernel
theorem dX4_copy_92 : decode cX4_copy 92 = .ok (.getfield 53, 3) := by decide +kernel
theorem dX4_copy_95 : decode cX4_copy 95 = .ok (.putfield 53, 3) := by decide +kernel
theorem dX4_copy_98 : decode cX4_copy 98 = .ok (.aload_n 1, 1) := by decide +kernel
theorem dX4_copy_99 : decode cX4_copy 99 = .ok (.aload_n 0, 1) := by decide +kernel
theorem dX4_copy_100 : decode cX4_copy 100 = .ok (.getfield 56, 3) := by decide +kernel
theorem dX4_copy_103 : decode cX4_copy 103 = .ok (.putfield 56, 3) := by decide +kernel
theorem dX4_copy_106 : decode cX4_copy 106 = .ok (.aload_n 1, 1) := by decide +kernel
theorem dX4_copy_107 : decode cX4_copy 107 = .ok (.aload_n 0, 1) := by decide +kernel
theorem dX4_copy_108 : decode cX4_copy 108 = .ok (.getfield 59, 3) := by decide +kernel
theorem dX4_copy_111 : decode cX4_copy 111 = .ok (.putfield 59, 3) := by decide +kernel
theorem dX4_copy_114 : decode cX4_copy 114 = .ok (.return_, 1) := by decide +kernel
theorem dX5_init_0 : decode cX5_init 0 = .ok (.aload_n 0, 1) := by decide +kernel
theorem dX5_init_1 : decode cX5_init 1 = .ok (.invokespecial 3, 3) := by decide +kernel
theorem dX5_init_4 : decode cX5_init 4 = .ok (.aload_n 0, 1) := by decide +kernel
theorem dX5_init_5 : decode cX5_init 5 = .ok (.bipush 60, 2) := by decide +kernel
theorem dX5_init_7 : decode cX5_init 7 = .ok (.newarray .char, 2) := by decide +kernel
theorem dX5_init_9 : decode cX5_init 9 = .ok (.putfield 9, 3) := by decide +kernel
theorem dX5_init_12 : decode cX5_init 12 = .ok (.aload_n 0, 1) := by decide +kernel
theorem dX5_init_13 : decode cX5_init 13 = .ok (.iconst 0, 1) := by decide +kernel
theorem dX5_init_14 : decode cX5_init 14 = .ok (.putfield 15, 3) := by decide +kernel
theorem dX5_init_17 : decode cX5_init 17 = .ok (.return_, 1) := by decide +kernel
theorem dX5_clear_0 : decode cX5_clear 0 = .ok (.aload_n 0, 1) := by decide +kernel
theorem dX5_clear_1 : decode cX5_clear 1 = .ok (.iconst 0, 1) := by decide +kernel
theorem dX5_clear_2 : decode cX5_clear 2 = .ok (.putfield 15, 3) := by decide +kernel
theorem dX5_clear_5 : decode cX5_clear 5 = .ok (.return_, 1) := by decide +kernel
theorem dX5_putSign_0 : decode cX5_putSign 0 = .ok (.aload_n 0, 1) := by decide +kernel
theorem dX5_putSign_1 : decode cX5_putSign 1 = .ok (.getfield 15, 3) := by decide +kernel
theorem dX5_putSign_4 : decode cX5_putSign 4 = .ok (.ifCond .lt 35, 3) := by decide +kernel
theorem dX5_putSign_7 : decode cX5_putSign 7 = .ok (.aload_n 0, 1) := by decide +kernel
theorem dX5_putSign_8 : decode cX5_putSign 8 = .ok (.getfield 15, 3) := by decide +kernel
theorem dX5_putSign_11 : decode cX5_putSign 11 = .ok (.aload_n 0, 1) := by decide +kernel
theorem dX5_putSign_12 : decode cX5_putSign 12 = .ok (.getfield 9, 3) := by decide +kernel
theorem dX5_putSign_15 : decode cX5_putSign 15 = .ok (.arraylength, 1) := by decide +kernel
theorem dX5_putSign_16 : decode cX5_putSign 16 = .ok (.if_icmp .ge 23, 3) := by decide +kernel
theorem dX5_putSign_19 : decode cX5_putSign 19 = .ok (.aload_n 0, 1) := by decide +kernel
theorem dX5_putSign_20 : decode cX5_putSign 20 = .ok (.getfield 9, 3) := by decide +kernel
theorem dX5_putSign_23 : decode cX5_putSign 23 = .ok (.aload_n 0, 1) := by decide +kernel
theorem dX5_putSign_24 : decode cX5_putSign 24 = .ok (.getfield 15, 3) := by decide +kernel
theorem dX5_putSign_27 : decode cX5_putSign 27 = .ok (.iload_n 1, 1) := by decide +kernel
theorem dX5_putSign_28 : decode cX5_putSign 28 = .ok (.castore, 1) := by decide +kernel
theorem dX5_putSign_29 : decode cX5_putSign 29 = .ok (.aload_n 0, 1) := by decide +kernel
theorem dX5_putSign_30 : decode cX5_putSign 30 = .ok (.dup, 1) := by decide +kernel
theorem dX5_putSign_31 : decode cX5_putSign 31 = .ok (.getfield 15, 3) := by decide +kernel
theorem dX5_putSign_34 : decode cX5_putSign 34 = .ok (.iconst 1, 1) := by decide +kernel
theorem dX5_putSign_35 : decode cX5_putSign 35 = .ok (.iadd, 1) := by decide +kernel
theorem dX5_putSign_36 : decode cX5_putSign 36 = .ok (.putfield 15, 3) := by decide +kernel
theorem dX5_putSign_39 : decode cX5_putSign 39 = .ok (.return_, 1) := by decide +kernel
theorem dX5_signAt_0 : decode cX5_signAt 0 = .ok (.iload_n 1, 1) := by decide +kernel
theorem dX5_signAt_1 : decode cX5_signAt 1 = .ok (.ifCond .lt 29, 3) := by decide +kernel
theorem dX5_signAt_4 : decode cX5_signAt 4 = .ok (.iload_n 1, 1) := by decide +kernel
theorem dX5_signAt_5 : decode cX5_signAt 5 = .ok (.aload_n 0, 1) := by decide +kernel
theorem dX5_signAt_6 : decode cX5_signAt 6 = .ok (.getfield 15, 3) := by decide +kernel
theorem dX5_signAt_9 : decode cX5_signAt 9 = .ok (.if_icmp .ge 21, 3) := by decide +kernel
theorem dX5_signAt_12 : decode cX5_signAt 12 = .ok (.iload_n 1, 1) := by decide +kernel
theorem dX5_signAt_13 : decode cX5_signAt 13 = .ok (.aload_n 0, 1) := by decide +kernel
theorem dX5_signAt_14 : decode cX5_signAt 14 = .ok (.getfield 9, 3) := by decide +kernel
theorem dX5_signAt_17 : decode cX5_signAt 17 = .ok (.arraylength, 1) := by decide +kernel
theorem dX5_signAt_18 : decode cX5_signAt 18 = .ok (.if_icmp .ge 12, 3) := by decide +kernel
theorem dX5_signAt_21 : decode cX5_signAt 21 = .ok (.aload_n 0, 1) := by decide +kernel
theorem dX5_signAt_22 : decode cX5_signAt 22 = .ok (.getfield 9, 3) := by decide +kernel
theorem dX5_signAt_25 : decode cX5_signAt 25 = .ok (.iload_n 1, 1) := by decide +kernel
theorem dX5_signAt_26 : decode cX5_signAt 26 = .ok (.caload, 1) := by decide +kernel
theorem dX5_signAt_27 : decode cX5_signAt 27 = .ok (.goto 4, 3) := by decide +kernel
theorem dX5_signAt_30 : decode cX5_signAt 30 = .ok (.iconst (-1), 1) := by decide +kernel
theorem dX5_signAt_31 : decode cX5_signAt 31 = .ok (.ireturn, 1) := by decide +kernel
theorem dX6_init_0 : decode cX6_init 0 = .ok (.aload_n 0, 1) := by decide +kernel
theorem dX6_init_1 : decode cX6_init 1 = .ok (.invokespecial 3, 3) := by decide +kernel
theorem dX6_init_4 : decode cX6_init 4 = .ok (.aload_n 0, 1) := by decide +kernel
theorem dX6_init_5 : decode cX6_init 5 = .ok (.iconst 0, 1) := by decide +kernel
theorem dX6_init_6 : decode cX6_init 6 = .ok (.putfield 9, 3) := by decide +kernel
theorem dX6_init_9 : decode cX6_init 9 = .ok (.aload_n 0, 1) := by decide +kernel
theorem dX6_init_10 : decode cX6_init 10 = .ok (.fconst 0, 1) := by decide +kernel
theorem dX6_init_11 : decode cX6_init 11 = .ok (.putfield 15, 3) := by decide +kernel
theorem dX6_init_14 : decode cX6_init 14 = .ok (.aload_n 0, 1) := by decide +kernel
theorem dX6_init_15 : decode cX6_init 15 = .ok (.new 19, 3) := by decide +kernel
theorem dX6_init_18 : decode cX6_init 18 = .ok (.dup, 1) := by decide +kernel
theorem dX6_init_19 : decode cX6_init 19 = .ok (.bipush 64, 2) := by decide +kernel
theorem dX6_init_21 : decode cX6_init 21 = .ok (.invokespecial 21, 3) := by decide +kernel
theorem dX6_init_24 : decode cX6_init 24 = .ok (.putfield 24, 3) := by decide +kernel
theorem dX6_init_27 : decode cX6_init 27 = .ok (.aload_n 0, 1) := by decide +kernel
theorem dX6_init_28 : decode cX6_init 28 = .ok (.new 19, 3) := by decide +kernel
theorem dX6_init_31 : decode cX6_init 31 = .ok (.dup, 1) := by decide +kernel
theorem dX6_init_32 : decode cX6_init 32 = .ok (.bipush 64, 2) := by decide +kernel
theorem dX6_init_34 : decode cX6_init 34 = .ok (.invokespecial 21, 3) := by decide +kernel
theorem dX6_init_37 : decode cX6_init 37 = .ok (.putfield 28, 3) := by decide +kernel
theorem dX6_init_40 : decode cX6_init 40 = .ok (.aload_n 0, 1) := by decide +kernel
theorem dX6_init_41 : decode cX6_init 41 = .ok (.bipush 64, 2) := by decide +kernel
theorem dX6_init_43 : decode cX6_init 43 = .ok (.newarray .float, 2) := by decide +kernel
theorem dX6_init_45 : decode cX6_init 45 = .ok (.putfield 31, 3) := by decide +kernel
theorem dX6_init_48 : decode cX6_init 48 = .ok (.aload_n 0, 1) := by decide +kernel
theorem dX6_init_49 : decode cX6_init 49 = .ok (.new 19, 3) := by decide +kernel
theorem dX6_init_52 : decode cX6_init 52 = .ok (.dup, 1) := by decide +kernel
theorem dX6_init_53 : decode cX6_init 53 = .ok (.bipush 64, 2) := by decide +kernel
theorem dX6_init_55 : decode cX6_init 55 = .ok (.invokespecial 21, 3) := by decide +kernel
theorem dX6_init_58 : decode cX6_init 58 = .ok (.putfield 35, 3) := by decide +kernel
theorem dX6_init_61 : decode cX6_init 61 = .ok (.return_, 1) := by decide +kernel
theorem dX6_add_0 : decode cX6_add 0 = .ok (.aload_n 0, 1) := by decide +kernel
theorem dX6_add_1 : decode cX6_add 1 = .ok (.getfield 9, 3) := by decide +kernel
theorem dX6_add_4 : decode cX6_add 4 = .ok (.ifCond .lt 78, 3) := by decide +kernel
theorem dX6_add_7 : decode cX6_add 7 = .ok (.aload_n 0, 1) := by decide +kernel
theorem dX6_add_8 : decode cX6_add 8 = .ok (.getfield 9, 3) := by decide +kernel
theorem dX6_add_11 : decode cX6_add 11 = .ok (.aload_n 0, 1) := by decide +kernel
theorem dX6_add_12 : decode cX6_add 12 = .ok (.getfield 31, 3) := by decide +kernel
theorem dX6_add_15 : decode cX6_add 15 = .ok (.arraylength, 1) := by decide +kernel
theorem dX6_add_16 : decode cX6_add 16 = .ok (.if_icmp .ge 66, 3) := by decide +kernel
theorem dX6_add_19 : decode cX6_add 19 = .ok (.aload_n 0, 1) := by decide +kernel
theorem dX6_add_20 : decode cX6_add 20 = .ok (.getfield 24, 3) := by decide +kernel
theorem dX6_add_23 : decode cX6_add 23 = .ok (.aload_n 0, 1) := by decide +kernel
theorem dX6_add_24 : decode cX6_add 24 = .ok (.getfield 9, 3) := by decide +kernel
theorem dX6_add_27 : decode cX6_add 27 = .ok (.iload_n 1, 1) := by decide +kernel
theorem dX6_add_28 : decode cX6_add 28 = .ok (.invokevirtual 38, 3) := by decide +kernel
theorem dX6_add_31 : decode cX6_add 31 = .ok (.aload_n 0, 1) := by decide +kernel
theorem dX6_add_32 : decode cX6_add 32 = .ok (.getfield 28, 3) := by decide +kernel
theorem dX6_add_35 : decode cX6_add 35 = .ok (.aload_n 0, 1) := by decide +kernel
theorem dX6_add_36 : decode cX6_add 36 = .ok (.getfield 9, 3) := by decide +kernel
theorem dX6_add_39 : decode cX6_add 39 = .ok (.iload_n 2, 1) := by decide +kernel
theorem dX6_add_40 : decode cX6_add 40 = .ok (.invokevirtual 38, 3) := by decide +kernel
theorem dX6_add_43 : decode cX6_add 43 = .ok (.aload_n 0, 1) := by decide +kernel
theorem dX6_add_44 : decode cX6_add 44 = .ok (.getfield 31, 3) := by decide +kernel
theorem dX6_add_47 : decode cX6_add 47 = .ok (.aload_n 0, 1) := by decide +kernel
theorem dX6_add_48 : decode cX6_add 48 = .ok (.getfield 9, 3) := by decide +kernel
theorem dX6_add_51 : decode cX6_add 51 = .ok (.fload_n 3, 1) := by decide +kernel
theorem dX6_add_52 : decode cX6_add 52 = .ok (.fastore, 1) := by decide +kernel
theorem dX6_add_53 : decode cX6_add 53 = .ok (.aload_n 0, 1) := by decide +kernel
theorem dX6_add_54 : decode cX6_add 54 = .ok (.getfield 35, 3) := by decide +kernel
theorem dX6_add_57 : decode cX6_add 57 = .ok (.iload_n 1, 1) := by decide +kernel
theorem dX6_add_58 : decode cX6_add 58 = .ok (.iconst 1, 1) := by decide +kernel
theorem dX6_add_59 : decode cX6_add 59 = .ok (.invokevirtual 38, 3) := by decide +kernel
theorem dX6_add_62 : decode cX6_add 62 = .ok (.aload_n 0, 1) := by decide +kernel
theorem dX6_add_63 : decode cX6_add 63 = .ok (.aload_n 0, 1) := by decide +kernel
theorem dX6_add_64 : decode cX6_add 64 = .ok (.getfield 15, 3) := by decide +kernel
theorem dX6_add_67 : decode cX6_add 67 = .ok (.fload_n 3, 1) := by decide +kernel
theorem dX6_add_68 : decode cX6_add 68 = .ok (.fadd, 1) := by decide +kernel
theorem dX6_add_69 : decode cX6_add 69 = .ok (.putfield 15, 3) := by decide +kernel
theorem dX6_add_72 : decode cX6_add 72 = .ok (.aload_n 0, 1) := by decide +kernel
theorem dX6_add_73 : decode cX6_add 73 = .ok (.dup, 1) := by decide +kernel
theorem dX6_add_74 : decode cX6_add 74 = .ok (.getfield 9, 3) := by decide +kernel
theorem dX6_add_77 : decode cX6_add 77 = .ok (.iconst 1, 1) := by decide +kernel
theorem dX6_add_78 : decode cX6_add 78 = .ok (.iadd, 1) := by decide +kernel
theorem dX6_add_79 : decode cX6_add 79 = .ok (.putfield 9, 3) := by decide +kernel
theorem dX6_add_82 : decode cX6_add 82 = .ok (.return_, 1) := by decide +kernel
theorem dX6_laughAt_0 : decode cX6_laughAt 0 = .ok (.iload_n 1, 1) := by decide +kernel
theorem dX6_laughAt_1 : decode cX6_laughAt 1 = .ok (.ifCond .lt 21, 3) := by decide +kernel
theorem dX6_laughAt_4 : decode cX6_laughAt 4 = .ok (.iload_n 1, 1) := by decide +kernel
theorem dX6_laughAt_5 : decode cX6_laughAt 5 = .ok (.aload_n 0, 1) := by decide +kernel
theorem dX6_laughAt_6 : decode cX6_laughAt 6 = .ok (.getfield 31, 3) := by decide +kernel
theorem dX6_laughAt_9 : decode cX6_laughAt 9 = .ok (.arraylength, 1) := by decide +kernel
theorem dX6_laughAt_10 : decode cX6_laughAt 10 = .ok (.if_icmp .ge 12, 3) := by decide +kernel
theorem dX6_laughAt_13 : decode cX6_laughAt 13 = .ok (.aload_n 0, 1) := by decide +kernel
theorem dX6_laughAt_14 : decode cX6_laughAt 14 = .ok (.getfield 31, 3) := by decide +kernel
theorem dX6_laughAt_17 : decode cX6_laughAt 17 = .ok (.iload_n 1, 1) := by decide +kernel
theorem dX6_laughAt_18 : decode cX6_laughAt 18 = .ok (.faload, 1) := by decide +kernel
theorem dX6_laughAt_19 : decode cX6_laughAt 19 = .ok (.goto 4, 3) := by decide +kernel
theorem dX6_laughAt_22 : decode cX6_laughAt 22 = .ok (.fconst 0, 1) := by decide +kernel
theorem dX6_laughAt_23 : decode cX6_laughAt 23 = .ok (.freturn, 1) := by decide +kernel
theorem dX6_sumAgain_0 : decode cX6_sumAgain 0 = .ok (.fconst 0, 1) := by decide +kernel
theorem dX6_sumAgain_1 : decode cX6_sumAgain 1 = .ok (.fstore_n 1, 1) := by decide +kernel
theorem dX6_sumAgain_2 : decode cX6_sumAgain 2 = .ok (.iconst 0, 1) := by decide +kernel
theorem dX6_sumAgain_3 : decode cX6_sumAgain 3 = .ok (.istore_n 2, 1) := by decide +kernel
theorem dX6_sumAgain_4 : decode cX6_sumAgain 4 = .ok (.iload_n 2, 1) := by decide +kernel
theorem dX6_sumAgain_5 : decode cX6_sumAgain 5 = .ok (.aload_n 0, 1) := by decide +kernel
theorem dX6_sumAgain_6 : decode cX6_sumAgain 6 = .ok (.getfield 9, 3) := by decide +kernel
theorem dX6_sumAgain_9 : decode cX6_sumAgain 9 = .ok (.if_icmp .ge 17, 3) := by decide +kernel
theorem dX6_sumAgain_12 : decode cX6_sumAgain 12 = .ok (.fload_n 1, 1) := by decide +kernel
theorem dX6_sumAgain_13 : decode cX6_sumAgain 13 = .ok (.aload_n 0, 1) := by decide +kernel
theorem dX6_sumAgain_14 : decode cX6_sumAgain 14 = .ok (.iload_n 2, 1) := by decide +kernel
theorem dX6_sumAgain_15 : decode cX6_sumAgain 15 = .ok (.invokevirtual 42, 3) := by decide +kernel
theorem dX6_sumAgain_18 : decode cX6_sumAgain 18 = .ok (.fadd, 1) := by decide +kernel
theorem dX6_sumAgain_19 : decode cX6_sumAgain 19 = .ok (.fstore_n 1, 1) := by decide +kernel
theorem dX6_sumAgain_20 : decode cX6_sumAgain 20 = .ok (.iinc 2 1, 3) := by decide +kernel
theorem dX6_sumAgain_23 : decode cX6_sumAgain 23 = .ok (.goto (-19), 3) := by decide +kernel
theorem dX6_sumAgain_26 : decode cX6_sumAgain 26 = .ok (.fload_n 1, 1) := by decide +kernel
theorem dX6_sumAgain_27 : decode cX6_sumAgain 27 = .ok (.freturn, 1) := by decide +kernel
theorem dX6_countFrom_0 : decode cX6_countFrom 0 = .ok (.iconst 0, 1) := by decide +kernel
theorem dX6_countFrom_1 : decode cX6_countFrom 1 = .ok (.istore_n 2, 1) := by decide +kernel
theorem dX6_countFrom_2 : decode cX6_countFrom 2 = .ok (.iconst 0, 1) := by decide +kernel
theorem dX6_countFrom_3 : decode cX6_countFrom 3 = .ok (.istore_n 3, 1) := by decide +kernel
theorem dX6_countFrom_4 : decode cX6_countFrom 4 = .ok (.iload_n 3, 1) := by decide +kernel
theorem dX6_countFrom_5 : decode cX6_countFrom 5 = .ok (.aload_n 0, 1) := by decide +kernel
theorem dX6_countFrom_6 : decode cX6_countFrom 6 = .ok (.getfield 9, 3) := by decide +kernel
theorem dX6_countFrom_9 : decode cX6_countFrom 9 = .ok (.if_icmp .ge 24, 3) := by decide +kernel
theorem dX6_countFrom_12 : decode cX6_countFrom 12 = .ok (.aload_n 0, 1) := by decide +kernel
theorem dX6_countFrom_13 : decode cX6_countFrom 13 = .ok (.getfield 28, 3) := by decide +kernel
theorem dX6_countFrom_16 : decode cX6_countFrom 16 = .ok (.iload_n 3, 1) := by decide +kernel
theorem dX6_countFrom_17 : decode cX6_countFrom 17 = .ok (.invokevirtual 46, 3) := by decide +kernel
theorem dX6_countFrom_20 : decode cX6_countFrom 20 = .ok (.iload_n 1, 1) := by decide +kernel
theorem dX6_countFrom_21 : decode cX6_countFrom 21 = .ok (.if_icmp .ne 6, 3) := by decide +kernel
theorem dX6_countFrom_24 : decode cX6_countFrom 24 = .ok (.iinc 2 1, 3) := by decide +kernel
theorem dX6_countFrom_27 : decode cX6_countFrom 27 = .ok (.iinc 3 1, 3) := by decide +kernel
theorem dX6_countFrom_30 : decode cX6_countFrom 30 = .ok (.goto (-26), 3) := by decide +kernel
theorem dX6_countFrom_33 : decode cX6_countFrom 33 = .ok (.iload_n 2, 1) := by decide +kernel
theorem dX6_countFrom_34 : decode cX6_countFrom 34 = .ok (.ireturn, 1) := by decide +kernel
theorem dX6_copy_0 : decode cX6_copy 0 = .ok (.aload_n 1, 1) := by decide +kernel
theorem dX6_copy_1 : decode cX6_copy 1 = .ok (.aload_n 0, 1) := by decide +kernel
theorem dX6_copy_2 : decode cX6_copy 2 = .ok (.getfield 9, 3) := by decide +kernel
theorem dX6_copy_5 : decode cX6_copy 5 = .ok (.putfield 9, 3) := by decide +kernel
theorem dX6_copy_8 : decode cX6_copy 8 = .ok (.aload_n 1, 1) := by decide +kernel
theorem dX6_copy_9 : decode cX6_copy 9 = .ok (.aload_n 0, 1) := by decide +kernel
theorem dX6_copy_10 : decode cX6_copy 10 = .ok (.getfield 15, 3) := by decide +kernel
theorem dX6_copy_13 : decode cX6_copy 13 = .ok (.putfield 15, 3) := by decide +kernel
theorem dX6_copy_16 : decode cX6_copy 16 = .ok (.aload_n 0, 1) := by decide +kernel
theorem dX6_copy_17 : decode cX6_copy 17 = .ok (.getfield 24, 3) := by decide +kernel
theorem dX6_copy_20 : decode cX6_copy 20 = .ok (.aload_n 1, 1) := by decide +kernel
theorem dX6_copy_21 : decode cX6_copy 21 = .ok (.getfield 24, 3) := by decide +kernel
theorem dX6_copy_24 : decode cX6_copy 24 = .ok (.invokestatic 50, 3) := by decide +kernel
theorem dX6_copy_27 : decode cX6_copy 27 = .ok (.aload_n 0, 1) := by decide +kernel
theorem dX6_copy_28 : decode cX6_copy 28 = .ok (.getfield 28, 3) := by decide +kernel
theorem dX6_copy_31 : decode cX6_copy 31 = .ok (.aload_n 1, 1) := by decide +kernel
theorem dX6_copy_32 : decode cX6_copy 32 = .ok (.getfield 28, 3) := by decide +kernel
theorem dX6_copy_35 : decode cX6_copy 35 = .ok (.invokestatic 50, 3) := by decide +kernel
theorem dX6_copy_38 : decode cX6_copy 38 = .ok (.aload_n 0, 1) := by decide +kernel
theorem dX6_copy_39 : decode cX6_copy 39 = .ok (.getfield 35, 3) := by decide +kernel
theorem dX6_copy_42 : decode cX6_copy 42 = .ok (.aload_n 1, 1) := by decide +kernel
theorem dX6_copy_43 : decode cX6_copy 43 = .ok (.getfield 35, 3) := by decide +kernel
theorem dX6_copy_46 : decode cX6_copy 46 = .ok (.invokestatic 50, 3) := by decide +kernel
theorem dX6_copy_49 : decode cX6_copy 49 = .ok (.aload_n 0, 1) := by decide +kernel
theorem dX6_copy_50 : decode cX6_copy 50 = .ok (.getfield 31, 3) := by decide +kernel
theorem dX6_copy_53 : decode cX6_copy 53 = .ok (.iconst 0, 1) := by decide +kernel
theorem dX6_copy_54 : decode cX6_copy 54 = .ok (.aload_n 1, 1) := by decide +kernel
theorem dX6_copy_55 : decode cX6_copy 55 = .ok (.getfield 31, 3) := by decide +kernel
theorem dX6_copy_58 : decode cX6_copy 58 = .ok (.iconst 0, 1) := by decide +kernel
theorem dX6_copy_59 : decode cX6_copy 59 = .ok (.aload_n 0, 1) := by decide +kernel
theorem dX6_copy_60 : decode cX6_copy 60 = .ok (.getfield 31, 3) := by decide +kernel
theorem dX6_copy_63 : decode cX6_copy 63 = .ok (.arraylength, 1) := by decide +kernel
theorem dX6_copy_64 : decode cX6_copy 64 = .ok (.aload_n 1, 1) := by decide +kernel
theorem dX6_copy_65 : decode cX6_copy 65 = .ok (.getfield 31, 3) := by decide +kernel
theorem dX6_copy_68 : decode cX6_copy 68 = .ok (.arraylength, 1) := by decide +kernel
theorem dX6_copy_69 : decode cX6_copy 69 = .ok (.invokestatic 54, 3) := by decide +kernel
theorem dX6_copy_72 : decode cX6_copy 72 = .ok (.invokestatic 60, 3) := by decide +kernel
theorem dX6_copy_75 : decode cX6_copy 75 = .ok (.return_, 1) := by decide +kernel
