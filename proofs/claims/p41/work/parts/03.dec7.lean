theorem dX7_init_0 : decode cX7_init 0 = .ok (.aload_n 0, 1) := by decide +kernel
theorem dX7_init_1 : decode cX7_init 1 = .ok (.invokespecial 3, 3) := by decide +kernel
theorem dX7_init_4 : decode cX7_init 4 = .ok (.aload_n 0, 1) := by decide +kernel
theorem dX7_init_5 : decode cX7_init 5 = .ok (.new 9, 3) := by decide +kernel
theorem dX7_init_8 : decode cX7_init 8 = .ok (.dup, 1) := by decide +kernel
theorem dX7_init_9 : decode cX7_init 9 = .ok (.invokespecial 11, 3) := by decide +kernel
theorem dX7_init_12 : decode cX7_init 12 = .ok (.putfield 12, 3) := by decide +kernel
theorem dX7_init_15 : decode cX7_init 15 = .ok (.aload_n 0, 1) := by decide +kernel
theorem dX7_init_16 : decode cX7_init 16 = .ok (.new 9, 3) := by decide +kernel
theorem dX7_init_19 : decode cX7_init 19 = .ok (.dup, 1) := by decide +kernel
theorem dX7_init_20 : decode cX7_init 20 = .ok (.invokespecial 11, 3) := by decide +kernel
theorem dX7_init_23 : decode cX7_init 23 = .ok (.putfield 16, 3) := by decide +kernel
theorem dX7_init_26 : decode cX7_init 26 = .ok (.aload_n 0, 1) := by decide +kernel
theorem dX7_init_27 : decode cX7_init 27 = .ok (.iconst 0, 1) := by decide +kernel
theorem dX7_init_28 : decode cX7_init 28 = .ok (.putfield 19, 3) := by decide +kernel
theorem dX7_init_31 : decode cX7_init 31 = .ok (.aload_n 0, 1) := by decide +kernel
theorem dX7_init_32 : decode cX7_init 32 = .ok (.new 23, 3) := by decide +kernel
theorem dX7_init_35 : decode cX7_init 35 = .ok (.dup, 1) := by decide +kernel
theorem dX7_init_36 : decode cX7_init 36 = .ok (.invokespecial 25, 3) := by decide +kernel
theorem dX7_init_39 : decode cX7_init 39 = .ok (.putfield 26, 3) := by decide +kernel
theorem dX7_init_42 : decode cX7_init 42 = .ok (.aload_n 0, 1) := by decide +kernel
theorem dX7_init_43 : decode cX7_init 43 = .ok (.new 30, 3) := by decide +kernel
theorem dX7_init_46 : decode cX7_init 46 = .ok (.dup, 1) := by decide +kernel
theorem dX7_init_47 : decode cX7_init 47 = .ok (.invokespecial 32, 3) := by decide +kernel
theorem dX7_init_50 : decode cX7_init 50 = .ok (.putfield 33, 3) := by decide +kernel
theorem dX7_init_53 : decode cX7_init 53 = .ok (.aload_n 0, 1) := by decide +kernel
theorem dX7_init_54 : decode cX7_init 54 = .ok (.new 30, 3) := by decide +kernel
theorem dX7_init_57 : decode cX7_init 57 = .ok (.dup, 1) := by decide +kernel
theorem dX7_init_58 : decode cX7_init 58 = .ok (.invokespecial 32, 3) := by decide +kernel
theorem dX7_init_61 : decode cX7_init 61 = .ok (.putfield 37, 3) := by decide +kernel
theorem dX7_init_64 : decode cX7_init 64 = .ok (.aload_n 0, 1) := by decide +kernel
theorem dX7_init_65 : decode cX7_init 65 = .ok (.new 40, 3) := by decide +kernel
theorem dX7_init_68 : decode cX7_init 68 = .ok (.dup, 1) := by decide +kernel
theorem dX7_init_69 : decode cX7_init 69 = .ok (.invokespecial 42, 3) := by decide +kernel
theorem dX7_init_72 : decode cX7_init 72 = .ok (.putfield 43, 3) := by decide +kernel
theorem dX7_init_75 : decode cX7_init 75 = .ok (.aload_n 0, 1) := by decide +kernel
theorem dX7_init_76 : decode cX7_init 76 = .ok (.iconst (-1), 1) := by decide +kernel
theorem dX7_init_77 : decode cX7_init 77 = .ok (.putfield 47, 3) := by decide +kernel
theorem dX7_init_80 : decode cX7_init 80 = .ok (.aload_n 0, 1) := by decide +kernel
theorem dX7_init_81 : decode cX7_init 81 = .ok (.iconst 0, 1) := by decide +kernel
theorem dX7_init_82 : decode cX7_init 82 = .ok (.putfield 51, 3) := by decide +kernel
theorem dX7_init_85 : decode cX7_init 85 = .ok (.aload_n 0, 1) := by decide +kernel
theorem dX7_init_86 : decode cX7_init 86 = .ok (.iconst 0, 1) := by decide +kernel
theorem dX7_init_87 : decode cX7_init 87 = .ok (.putfield 54, 3) := by decide +kernel
theorem dX7_init_90 : decode cX7_init 90 = .ok (.aload_n 0, 1) := by decide +kernel
theorem dX7_init_91 : decode cX7_init 91 = .ok (.iconst 0, 1) := by decide +kernel
theorem dX7_init_92 : decode cX7_init 92 = .ok (.putfield 57, 3) := by decide +kernel
theorem dX7_init_95 : decode cX7_init 95 = .ok (.aload_n 0, 1) := by decide +kernel
theorem dX7_init_96 : decode cX7_init 96 = .ok (.iconst 0, 1) := by decide +kernel
theorem dX7_init_97 : decode cX7_init 97 = .ok (.putfield 60, 3) := by decide +kernel
theorem dX7_init_100 : decode cX7_init 100 = .ok (.return_, 1) := by decide +kernel
theorem dX7_joke_0 : decode cX7_joke 0 = .ok (.aload_n 0, 1) := by decide +kernel
theorem dX7_joke_1 : decode cX7_joke 1 = .ok (.getfield 26, 3) := by decide +kernel
theorem dX7_joke_4 : decode cX7_joke 4 = .ok (.aload_n 0, 1) := by decide +kernel
theorem dX7_joke_5 : decode cX7_joke 5 = .ok (.getfield 12, 3) := by decide +kernel
theorem dX7_joke_8 : decode cX7_joke 8 = .ok (.invokevirtual 63, 3) := by decide +kernel
theorem dX7_joke_11 : decode cX7_joke 11 = .ok (.aload_n 0, 1) := by decide +kernel
theorem dX7_joke_12 : decode cX7_joke 12 = .ok (.aload_n 0, 1) := by decide +kernel
theorem dX7_joke_13 : decode cX7_joke 13 = .ok (.iload_n 1, 1) := by decide +kernel
theorem dX7_joke_14 : decode cX7_joke 14 = .ok (.iload_n 2, 1) := by decide +kernel
theorem dX7_joke_15 : decode cX7_joke 15 = .ok (.iload_n 3, 1) := by decide +kernel
theorem dX7_joke_16 : decode cX7_joke 16 = .ok (.iload 4, 2) := by decide +kernel
theorem dX7_joke_18 : decode cX7_joke 18 = .ok (.invokevirtual 67, 3) := by decide +kernel
theorem dX7_joke_21 : decode cX7_joke 21 = .ok (.invokevirtual 71, 3) := by decide +kernel
theorem dX7_joke_24 : decode cX7_joke 24 = .ok (.ireturn, 1) := by decide +kernel
theorem dX7_prime_0 : decode cX7_prime 0 = .ok (.aload_n 0, 1) := by decide +kernel
theorem dX7_prime_1 : decode cX7_prime 1 = .ok (.getfield 26, 3) := by decide +kernel
theorem dX7_prime_4 : decode cX7_prime 4 = .ok (.aload_n 0, 1) := by decide +kernel
theorem dX7_prime_5 : decode cX7_prime 5 = .ok (.getfield 12, 3) := by decide +kernel
theorem dX7_prime_8 : decode cX7_prime 8 = .ok (.invokevirtual 63, 3) := by decide +kernel
theorem dX7_prime_11 : decode cX7_prime 11 = .ok (.aload_n 0, 1) := by decide +kernel
theorem dX7_prime_12 : decode cX7_prime 12 = .ok (.aload_n 0, 1) := by decide +kernel
theorem dX7_prime_13 : decode cX7_prime 13 = .ok (.iload_n 1, 1) := by decide +kernel
theorem dX7_prime_14 : decode cX7_prime 14 = .ok (.invokevirtual 75, 3) := by decide +kernel
theorem dX7_prime_17 : decode cX7_prime 17 = .ok (.invokevirtual 71, 3) := by decide +kernel
theorem dX7_prime_20 : decode cX7_prime 20 = .ok (.ireturn, 1) := by decide +kernel
theorem dX7_drop_0 : decode cX7_drop 0 = .ok (.aload_n 0, 1) := by decide +kernel
theorem dX7_drop_1 : decode cX7_drop 1 = .ok (.getfield 26, 3) := by decide +kernel
theorem dX7_drop_4 : decode cX7_drop 4 = .ok (.aload_n 0, 1) := by decide +kernel
theorem dX7_drop_5 : decode cX7_drop 5 = .ok (.getfield 12, 3) := by decide +kernel
theorem dX7_drop_8 : decode cX7_drop 8 = .ok (.invokevirtual 63, 3) := by decide +kernel
theorem dX7_drop_11 : decode cX7_drop 11 = .ok (.aload_n 0, 1) := by decide +kernel
theorem dX7_drop_12 : decode cX7_drop 12 = .ok (.aload_n 0, 1) := by decide +kernel
theorem dX7_drop_13 : decode cX7_drop 13 = .ok (.iload_n 1, 1) := by decide +kernel
theorem dX7_drop_14 : decode cX7_drop 14 = .ok (.invokevirtual 78, 3) := by decide +kernel
theorem dX7_drop_17 : decode cX7_drop 17 = .ok (.invokevirtual 71, 3) := by decide +kernel
theorem dX7_drop_20 : decode cX7_drop 20 = .ok (.ireturn, 1) := by decide +kernel
theorem dX7_drain_0 : decode cX7_drain 0 = .ok (.aload_n 0, 1) := by decide +kernel
theorem dX7_drain_1 : decode cX7_drain 1 = .ok (.getfield 26, 3) := by decide +kernel
theorem dX7_drain_4 : decode cX7_drain 4 = .ok (.aload_n 0, 1) := by decide +kernel
theorem dX7_drain_5 : decode cX7_drain 5 = .ok (.getfield 12, 3) := by decide +kernel
theorem dX7_drain_8 : decode cX7_drain 8 = .ok (.invokevirtual 63, 3) := by decide +kernel
theorem dX7_drain_11 : decode cX7_drain 11 = .ok (.aload_n 0, 1) := by decide +kernel
theorem dX7_drain_12 : decode cX7_drain 12 = .ok (.aload_n 0, 1) := by decide +kernel
theorem dX7_drain_13 : decode cX7_drain 13 = .ok (.iload_n 1, 1) := by decide +kernel
theorem dX7_drain_14 : decode cX7_drain 14 = .ok (.invokevirtual 81, 3) := by decide +kernel
theorem dX7_drain_17 : decode cX7_drain 17 = .ok (.invokevirtual 71, 3) := by decide +kernel
theorem dX7_drain_20 : decode cX7_drain 20 = .ok (.ireturn, 1) := by decide +kernel
theorem dX7_stroke_0 : decode cX7_stroke 0 = .ok (.aload_n 0, 1) := by decide +kernel
theorem dX7_stroke_1 : decode cX7_stroke 1 = .ok (.getfield 26, 3) := by decide +kernel
theorem dX7_stroke_4 : decode cX7_stroke 4 = .ok (.aload_n 0, 1) := by decide +kernel
theorem dX7_stroke_5 : decode cX7_stroke 5 = .ok (.getfield 12, 3) := by decide +kernel
theorem dX7_stroke_8 : decode cX7_stroke 8 = .ok (.invokevirtual 63, 3) := by decide +kernel
theorem dX7_stroke_11 : decode cX7_stroke 11 = .ok (.aload_n 0, 1) := by decide +kernel
theorem dX7_stroke_12 : decode cX7_stroke 12 = .ok (.aload_n 0, 1) := by decide +kernel
theorem dX7_stroke_13 : decode cX7_stroke 13 = .ok (.iload_n 1, 1) := by decide +kernel
theorem dX7_stroke_14 : decode cX7_stroke 14 = .ok (.invokevirtual 84, 3) := by decide +kernel
theorem dX7_stroke_17 : decode cX7_stroke 17 = .ok (.invokevirtual 71, 3) := by decide +kernel
theorem dX7_stroke_20 : decode cX7_stroke 20 = .ok (.ireturn, 1) := by decide +kernel
theorem dX7_bucket_0 : decode cX7_bucket 0 = .ok (.aload_n 0, 1) := by decide +kernel
theorem dX7_bucket_1 : decode cX7_bucket 1 = .ok (.getfield 26, 3) := by decide +kernel
theorem dX7_bucket_4 : decode cX7_bucket 4 = .ok (.aload_n 0, 1) := by decide +kernel
theorem dX7_bucket_5 : decode cX7_bucket 5 = .ok (.getfield 12, 3) := by decide +kernel
theorem dX7_bucket_8 : decode cX7_bucket 8 = .ok (.invokevirtual 63, 3) := by decide +kernel
theorem dX7_bucket_11 : decode cX7_bucket 11 = .ok (.aload_n 0, 1) := by decide +kernel
theorem dX7_bucket_12 : decode cX7_bucket 12 = .ok (.aload_n 0, 1) := by decide +kernel
theorem dX7_bucket_13 : decode cX7_bucket 13 = .ok (.iload_n 1, 1) := by decide +kernel
theorem dX7_bucket_14 : decode cX7_bucket 14 = .ok (.iload_n 2, 1) := by decide +kernel
theorem dX7_bucket_15 : decode cX7_bucket 15 = .ok (.invokevirtual 87, 3) := by decide +kernel
theorem dX7_bucket_18 : decode cX7_bucket 18 = .ok (.invokevirtual 71, 3) := by decide +kernel
theorem dX7_bucket_21 : decode cX7_bucket 21 = .ok (.ireturn, 1) := by decide +kernel
theorem dX7_go_0 : decode cX7_go 0 = .ok (.aload_n 0, 1) := by decide +kernel
theorem dX7_go_1 : decode cX7_go 1 = .ok (.getfield 26, 3) := by decide +kernel
theorem dX7_go_4 : decode cX7_go 4 = .ok (.aload_n 0, 1) := by decide +kernel
theorem dX7_go_5 : decode cX7_go 5 = .ok (.getfield 12, 3) := by decide +kernel
theorem dX7_go_8 : decode cX7_go 8 = .ok (.invokevirtual 63, 3) := by decide +kernel
theorem dX7_go_11 : decode cX7_go 11 = .ok (.aload_n 0, 1) := by decide +kernel
theorem dX7_go_12 : decode cX7_go 12 = .ok (.aload_n 0, 1) := by decide +kernel
theorem dX7_go_13 : decode cX7_go 13 = .ok (.iload_n 1, 1) := by decide +kernel
theorem dX7_go_14 : decode cX7_go 14 = .ok (.invokevirtual 91, 3) := by decide +kernel
theorem dX7_go_17 : decode cX7_go 17 = .ok (.invokevirtual 71, 3) := by decide +kernel
theorem dX7_go_20 : decode cX7_go 20 = .ok (.ireturn, 1) := by decide +kernel
theorem dX7_pump_0 : decode cX7_pump 0 = .ok (.aload_n 0, 1) := by decide +kernel
theorem dX7_pump_1 : decode cX7_pump 1 = .ok (.getfield 26, 3) := by decide +kernel
theorem dX7_pump_4 : decode cX7_pump 4 = .ok (.aload_n 0, 1) := by decide +kernel
theorem dX7_pump_5 : decode cX7_pump 5 = .ok (.getfield 12, 3) := by decide +kernel
theorem dX7_pump_8 : decode cX7_pump 8 = .ok (.invokevirtual 63, 3) := by decide +kernel
theorem dX7_pump_11 : decode cX7_pump 11 = .ok (.aload_n 0, 1) := by decide +kernel
theorem dX7_pump_12 : decode cX7_pump 12 = .ok (.aload_n 0, 1) := by decide +kernel
theorem dX7_pump_13 : decode cX7_pump 13 = .ok (.iload_n 1, 1) := by decide +kernel
theorem dX7_pump_14 : decode cX7_pump 14 = .ok (.invokevirtual 94, 3) := by decide +kernel
theorem dX7_pump_17 : decode cX7_pump 17 = .ok (.invokevirtual 71, 3) := by decide +kernel
theorem dX7_pump_20 : decode cX7_pump 20 = .ok (.ireturn, 1) := by decide +kernel
theorem dX7_read_0 : decode cX7_read 0 = .ok (.bipush (-2), 2) := by decide +kernel
theorem dX7_read_2 : decode cX7_read 2 = .ok (.istore_n 1, 1) := by decide +kernel
theorem dX7_read_3 : decode cX7_read 3 = .ok (.aload_n 0, 1) := by decide +kernel
theorem dX7_read_4 : decode cX7_read 4 = .ok (.getfield 43, 3) := by decide +kernel
theorem dX7_read_7 : decode cX7_read 7 = .ok (.aload_n 0, 1) := by decide +kernel
theorem dX7_read_8 : decode cX7_read 8 = .ok (.getfield 33, 3) := by decide +kernel
theorem dX7_read_11 : decode cX7_read 11 = .ok (.invokevirtual 97, 3) := by decide +kernel
theorem dX7_read_14 : decode cX7_read 14 = .ok (.ifCond .eq 26, 3) := by decide +kernel
theorem dX7_read_17 : decode cX7_read 17 = .ok (.aload_n 0, 1) := by decide +kernel
theorem dX7_read_18 : decode cX7_read 18 = .ok (.getfield 26, 3) := by decide +kernel
theorem dX7_read_21 : decode cX7_read 21 = .ok (.aload_n 0, 1) := by decide +kernel
theorem dX7_read_22 : decode cX7_read 22 = .ok (.getfield 12, 3) := by decide +kernel
theorem dX7_read_25 : decode cX7_read 25 = .ok (.invokevirtual 63, 3) := by decide +kernel
theorem dX7_read_28 : decode cX7_read 28 = .ok (.aload_n 0, 1) := by decide +kernel
theorem dX7_read_29 : decode cX7_read 29 = .ok (.aload_n 0, 1) := by decide +kernel
theorem dX7_read_30 : decode cX7_read 30 = .ok (.invokevirtual 101, 3) := by decide +kernel
theorem dX7_read_33 : decode cX7_read 33 = .ok (.invokevirtual 71, 3) := by decide +kernel
theorem dX7_read_36 : decode cX7_read 36 = .ok (.istore_n 1, 1) := by decide +kernel
theorem dX7_read_37 : decode cX7_read 37 = .ok (.goto 14, 3) := by decide +kernel
theorem dX7_read_40 : decode cX7_read 40 = .ok (.aload_n 0, 1) := by decide +kernel
theorem dX7_read_41 : decode cX7_read 41 = .ok (.aload_n 0, 1) := by decide +kernel
theorem dX7_read_42 : decode cX7_read 42 = .ok (.getfield 43, 3) := by decide +kernel
theorem dX7_read_45 : decode cX7_read 45 = .ok (.getfield 105, 3) := by decide +kernel
theorem dX7_read_48 : decode cX7_read 48 = .ok (.putfield 47, 3) := by decide +kernel
theorem dX7_read_51 : decode cX7_read 51 = .ok (.aload_n 0, 1) := by decide +kernel
theorem dX7_read_52 : decode cX7_read 52 = .ok (.getfield 33, 3) := by decide +kernel
theorem dX7_read_55 : decode cX7_read 55 = .ok (.invokevirtual 108, 3) := by decide +kernel
theorem dX7_read_58 : decode cX7_read 58 = .ok (.iload_n 1, 1) := by decide +kernel
theorem dX7_read_59 : decode cX7_read 59 = .ok (.ireturn, 1) := by decide +kernel
theorem dX7_undo_0 : decode cX7_undo 0 = .ok (.aload_n 0, 1) := by decide +kernel
theorem dX7_undo_1 : decode cX7_undo 1 = .ok (.getfield 26, 3) := by decide +kernel
theorem dX7_undo_4 : decode cX7_undo 4 = .ok (.getfield 111, 3) := by decide +kernel
theorem dX7_undo_7 : decode cX7_undo 7 = .ok (.ifCond .ne 6, 3) := by decide +kernel
theorem dX7_undo_10 : decode cX7_undo 10 = .ok (.bipush (-3), 2) := by decide +kernel
theorem dX7_undo_12 : decode cX7_undo 12 = .ok (.ireturn, 1) := by decide +kernel
theorem dX7_undo_13 : decode cX7_undo 13 = .ok (.aload_n 0, 1) := by decide +kernel
theorem dX7_undo_14 : decode cX7_undo 14 = .ok (.getfield 26, 3) := by decide +kernel
theorem dX7_undo_17 : decode cX7_undo 17 = .ok (.aload_n 0, 1) := by decide +kernel
theorem dX7_undo_18 : decode cX7_undo 18 = .ok (.getfield 12, 3) := by decide +kernel
theorem dX7_undo_21 : decode cX7_undo 21 = .ok (.invokevirtual 114, 3) := by decide +kernel
theorem dX7_undo_24 : decode cX7_undo 24 = .ok (.aload_n 0, 1) := by decide +kernel
theorem dX7_undo_25 : decode cX7_undo 25 = .ok (.getfield 26, 3) := by decide +kernel
theorem dX7_undo_28 : decode cX7_undo 28 = .ok (.getfield 111, 3) := by decide +kernel
theorem dX7_undo_31 : decode cX7_undo 31 = .ok (.ireturn, 1) := by decide +kernel
theorem dX7_save_0 : decode cX7_save 0 = .ok (.aload_n 0, 1) := by decide +kernel
theorem dX7_save_1 : decode cX7_save 1 = .ok (.getfield 12, 3) := by decide +kernel
theorem dX7_save_4 : decode cX7_save 4 = .ok (.aload_n 0, 1) := by decide +kernel
theorem dX7_save_5 : decode cX7_save 5 = .ok (.getfield 16, 3) := by decide +kernel
theorem dX7_save_8 : decode cX7_save 8 = .ok (.invokestatic 117, 3) := by decide +kernel
theorem dX7_save_11 : decode cX7_save 11 = .ok (.aload_n 0, 1) := by decide +kernel
theorem dX7_save_12 : decode cX7_save 12 = .ok (.iconst 1, 1) := by decide +kernel
theorem dX7_save_13 : decode cX7_save 13 = .ok (.putfield 19, 3) := by decide +kernel
theorem dX7_save_16 : decode cX7_save 16 = .ok (.aload_n 0, 1) := by decide +kernel
theorem dX7_save_17 : decode cX7_save 17 = .ok (.getfield 12, 3) := by decide +kernel
theorem dX7_save_20 : decode cX7_save 20 = .ok (.getfield 121, 3) := by decide +kernel
theorem dX7_save_23 : decode cX7_save 23 = .ok (.getfield 125, 3) := by decide +kernel
theorem dX7_save_26 : decode cX7_save 26 = .ok (.ireturn, 1) := by decide +kernel
theorem dX7_restore_0 : decode cX7_restore 0 = .ok (.aload_n 0, 1) := by decide +kernel
theorem dX7_restore_1 : decode cX7_restore 1 = .ok (.getfield 19, 3) := by decide +kernel
theorem dX7_restore_4 : decode cX7_restore 4 = .ok (.ifCond .ne 6, 3) := by decide +kernel
theorem dX7_restore_7 : decode cX7_restore 7 = .ok (.bipush (-3), 2) := by decide +kernel
theorem dX7_restore_9 : decode cX7_restore 9 = .ok (.ireturn, 1) := by decide +kernel
theorem dX7_restore_10 : decode cX7_restore 10 = .ok (.aload_n 0, 1) := by decide +kernel
theorem dX7_restore_11 : decode cX7_restore 11 = .ok (.getfield 16, 3) := by decide +kernel
theorem dX7_restore_14 : decode cX7_restore 14 = .ok (.aload_n 0, 1) := by decide +kernel
theorem dX7_restore_15 : decode cX7_restore 15 = .ok (.getfield 12, 3) := by decide +kernel
theorem dX7_restore_18 : decode cX7_restore 18 = .ok (.invokestatic 117, 3) := by decide +kernel
theorem dX7_restore_21 : decode cX7_restore 21 = .ok (.aload_n 0, 1) := by decide +kernel
theorem dX7_restore_22 : decode cX7_restore 22 = .ok (.getfield 26, 3) := by decide +kernel
theorem dX7_restore_25 : decode cX7_restore 25 = .ok (.invokevirtual 128, 3) := by decide +kernel
theorem dX7_restore_28 : decode cX7_restore 28 = .ok (.aload_n 0, 1) := by decide +kernel
theorem dX7_restore_29 : decode cX7_restore 29 = .ok (.getfield 12, 3) := by decide +kernel
theorem dX7_restore_32 : decode cX7_restore 32 = .ok (.getfield 121, 3) := by decide +kernel
theorem dX7_restore_35 : decode cX7_restore 35 = .ok (.getfield 125, 3) := by decide +kernel
theorem dX7_restore_38 : decode cX7_restore 38 = .ok (.ireturn, 1) := by decide +kernel
theorem dX7_jokeOf_0 : decode cX7_jokeOf 0 = .ok (.aload_n 0, 1) := by decide +kernel
theorem dX7_jokeOf_1 : decode cX7_jokeOf 1 = .ok (.getfield 12, 3) := by decide +kernel
theorem dX7_jokeOf_4 : decode cX7_jokeOf 4 = .ok (.getfield 121, 3) := by decide +kernel
theorem dX7_jokeOf_7 : decode cX7_jokeOf 7 = .ok (.astore_n 3, 1) := by decide +kernel
theorem dX7_jokeOf_8 : decode cX7_jokeOf 8 = .ok (.aload_n 3, 1) := by decide +kernel
theorem dX7_jokeOf_9 : decode cX7_jokeOf 9 = .ok (.iload_n 1, 1) := by decide +kernel
theorem dX7_jokeOf_10 : decode cX7_jokeOf 10 = .ok (.invokevirtual 131, 3) := by decide +kernel
theorem dX7_jokeOf_13 : decode cX7_jokeOf 13 = .ok (.ifCond .ne 5, 3) := by decide +kernel
theorem dX7_jokeOf_16 : decode cX7_jokeOf 16 = .ok (.iconst (-1), 1) := by decide +kernel
theorem dX7_jokeOf_17 : decode cX7_jokeOf 17 = .ok (.ireturn, 1) := by decide +kernel
theorem dX7_jokeOf_18 : decode cX7_jokeOf 18 = .ok (.iload_n 2, 1) := by decide +kernel
theorem dX7_jokeOf_19 : decode cX7_jokeOf 19 = .ok (.tableswitch 105 0 5 #[37, 46, 55, 64, 73, 82], 37) := by decide +kernel
theorem dX7_jokeOf_56 : decode cX7_jokeOf 56 = .ok (.aload_n 3, 1) := by decide +kernel
theorem dX7_jokeOf_57 : decode cX7_jokeOf 57 = .ok (.getfield 135, 3) := by decide +kernel
theorem dX7_jokeOf_60 : decode cX7_jokeOf 60 = .ok (.iload_n 1, 1) := by decide +kernel
theorem dX7_jokeOf_61 : decode cX7_jokeOf 61 = .ok (.invokevirtual 139, 3) := by decide +kernel
theorem dX7_jokeOf_64 : decode cX7_jokeOf 64 = .ok (.ireturn, 1) := by decide +kernel
theorem dX7_jokeOf_65 : decode cX7_jokeOf 65 = .ok (.aload_n 3, 1) := by decide +kernel
theorem dX7_jokeOf_66 : decode cX7_jokeOf 66 = .ok (.getfield 144, 3) := by decide +kernel
theorem dX7_jokeOf_69 : decode cX7_jokeOf 69 = .ok (.iload_n 1, 1) := by decide +kernel
theorem dX7_jokeOf_70 : decode cX7_jokeOf 70 = .ok (.invokevirtual 139, 3) := by decide +kernel
theorem dX7_jokeOf_73 : decode cX7_jokeOf 73 = .ok (.ireturn, 1) := by decide +kernel
theorem dX7_jokeOf_74 : decode cX7_jokeOf 74 = .ok (.aload_n 3, 1) := by decide +kernel
theorem dX7_jokeOf_75 : decode cX7_jokeOf 75 = .ok (.getfield 147, 3) := by decide +kernel
theorem dX7_jokeOf_78 : decode cX7_jokeOf 78 = .ok (.iload_n 1, 1) := by decide +kernel
theorem dX7_jokeOf_79 : decode cX7_jokeOf 79 = .ok (.invokevirtual 139, 3) := by decide +kernel
theorem dX7_jokeOf_82 : decode cX7_jokeOf 82 = .ok (.ireturn, 1) := by decide +kernel
theorem dX7_jokeOf_83 : decode cX7_jokeOf 83 = .ok (.aload_n 3, 1) := by decide +kernel
theorem dX7_jokeOf_84 : decode cX7_jokeOf 84 = .ok (.getfield 150, 3) := by decide +kernel
theorem dX7_jokeOf_87 : decode cX7_jokeOf 87 = .ok (.iload_n 1, 1) := by decide +kernel
theorem dX7_jokeOf_88 : decode cX7_jokeOf 88 = .ok (.invokevirtual 139, 3) := by decide +kernel
theorem dX7_jokeOf_91 : decode cX7_jokeOf 91 = .ok (.ireturn, 1) := by decide +kernel
theorem dX7_jokeOf_92 : decode cX7_jokeOf 92 = .ok (.aload_n 3, 1) := by decide +kernel
theorem dX7_jokeOf_93 : decode cX7_jokeOf 93 = .ok (.getfield 153, 3) := by decide +kernel
theorem dX7_jokeOf_96 : decode cX7_jokeOf 96 = .ok (.iload_n 1, 1) := by decide +kernel
theorem dX7_jokeOf_97 : decode cX7_jokeOf 97 = .ok (.invokevirtual 139, 3) := by decide +kernel
theorem dX7_jokeOf_100 : decode cX7_jokeOf 100 = .ok (.ireturn, 1) := by decide +kernel
theorem dX7_jokeOf_101 : decode cX7_jokeOf 101 = .ok (.aload_n 3, 1) := by decide +kernel
theorem dX7_jokeOf_102 : decode cX7_jokeOf 102 = .ok (.aload_n 3, 1) := by decide +kernel
theorem dX7_jokeOf_103 : decode cX7_jokeOf 103 = .ok (.getfield 135, 3) := by decide +kernel
theorem dX7_jokeOf_106 : decode cX7_jokeOf 106 = .ok (.iload_n 1, 1) := by decide +kernel
theorem dX7_jokeOf_107 : decode cX7_jokeOf 107 = .ok (.invokevirtual 139, 3) := by decide +kernel
theorem dX7_jokeOf_110 : decode cX7_jokeOf 110 = .ok (.aload_n 3, 1) := by decide +kernel
theorem dX7_jokeOf_111 : decode cX7_jokeOf 111 = .ok (.getfield 144, 3) := by decide +kernel
theorem dX7_jokeOf_114 : decode cX7_jokeOf 114 = .ok (.iload_n 1, 1) := by decide +kernel
theorem dX7_jokeOf_115 : decode cX7_jokeOf 115 = .ok (.invokevirtual 139, 3) := by decide +kernel
theorem dX7_jokeOf_118 : decode cX7_jokeOf 118 = .ok (.iconst 1, 1) := by decide +kernel
theorem dX7_jokeOf_119 : decode cX7_jokeOf 119 = .ok (.isub, 1) := by decide +kernel
theorem dX7_jokeOf_120 : decode cX7_jokeOf 120 = .ok (.invokevirtual 156, 3) := by decide +kernel
theorem dX7_jokeOf_123 : decode cX7_jokeOf 123 = .ok (.ireturn, 1) := by decide +kernel
theorem dX7_jokeOf_124 : decode cX7_jokeOf 124 = .ok (.bipush (-2), 2) := by decide +kernel
theorem dX7_jokeOf_126 : decode cX7_jokeOf 126 = .ok (.ireturn, 1) := by decide +kernel
theorem dX7_wellOf_0 : decode cX7_wellOf 0 = .ok (.iload_n 1, 1) := by decide +kernel
theorem dX7_wellOf_1 : decode cX7_wellOf 1 = .ok (.invokestatic 159, 3) := by decide +kernel
theorem dX7_wellOf_4 : decode cX7_wellOf 4 = .ok (.ifCond .ne 5, 3) := by decide +kernel
theorem dX7_wellOf_7 : decode cX7_wellOf 7 = .ok (.iconst (-1), 1) := by decide +kernel
theorem dX7_wellOf_8 : decode cX7_wellOf 8 = .ok (.ireturn, 1) := by decide +kernel
theorem dX7_wellOf_9 : decode cX7_wellOf 9 = .ok (.iload_n 2, 1) := by decide +kernel
theorem dX7_wellOf_10 : decode cX7_wellOf 10 = .ok (.tableswitch 72 0 3 #[30, 42, 54, 60], 30) := by decide +kernel
theorem dX7_wellOf_40 : decode cX7_wellOf 40 = .ok (.aload_n 0, 1) := by decide +kernel
theorem dX7_wellOf_41 : decode cX7_wellOf 41 = .ok (.getfield 12, 3) := by decide +kernel
theorem dX7_wellOf_44 : decode cX7_wellOf 44 = .ok (.getfield 162, 3) := by decide +kernel
theorem dX7_wellOf_47 : decode cX7_wellOf 47 = .ok (.iload_n 1, 1) := by decide +kernel
theorem dX7_wellOf_48 : decode cX7_wellOf 48 = .ok (.invokevirtual 139, 3) := by decide +kernel
theorem dX7_wellOf_51 : decode cX7_wellOf 51 = .ok (.ireturn, 1) := by decide +kernel
theorem dX7_wellOf_52 : decode cX7_wellOf 52 = .ok (.aload_n 0, 1) := by decide +kernel
theorem dX7_wellOf_53 : decode cX7_wellOf 53 = .ok (.getfield 12, 3) := by decide +kernel
theorem dX7_wellOf_56 : decode cX7_wellOf 56 = .ok (.getfield 121, 3) := by decide +kernel
theorem dX7_wellOf_59 : decode cX7_wellOf 59 = .ok (.iload_n 1, 1) := by decide +kernel
theorem dX7_wellOf_60 : decode cX7_wellOf 60 = .ok (.invokevirtual 165, 3) := by decide +kernel
theorem dX7_wellOf_63 : decode cX7_wellOf 63 = .ok (.ireturn, 1) := by decide +kernel
theorem dX7_wellOf_64 : decode cX7_wellOf 64 = .ok (.aload_n 0, 1) := by decide +kernel
theorem dX7_wellOf_65 : decode cX7_wellOf 65 = .ok (.iload_n 1, 1) := by decide +kernel
theorem dX7_wellOf_66 : decode cX7_wellOf 66 = .ok (.invokevirtual 168, 3) := by decide +kernel
theorem dX7_wellOf_69 : decode cX7_wellOf 69 = .ok (.ireturn, 1) := by decide +kernel
theorem dX7_wellOf_70 : decode cX7_wellOf 70 = .ok (.aload_n 0, 1) := by decide +kernel
theorem dX7_wellOf_71 : decode cX7_wellOf 71 = .ok (.getfield 12, 3) := by decide +kernel
theorem dX7_wellOf_74 : decode cX7_wellOf 74 = .ok (.getfield 171, 3) := by decide +kernel
theorem dX7_wellOf_77 : decode cX7_wellOf 77 = .ok (.iload_n 1, 1) := by decide +kernel
theorem dX7_wellOf_78 : decode cX7_wellOf 78 = .ok (.invokevirtual 175, 3) := by decide +kernel
theorem dX7_wellOf_81 : decode cX7_wellOf 81 = .ok (.ireturn, 1) := by decide +kernel
theorem dX7_wellOf_82 : decode cX7_wellOf 82 = .ok (.bipush (-2), 2) := by decide +kernel
theorem dX7_wellOf_84 : decode cX7_wellOf 84 = .ok (.ireturn, 1) := by decide +kernel
theorem dX7_isKnown_0 : decode cX7_isKnown 0 = .ok (.iload_n 1, 1) := by decide +kernel
theorem dX7_isKnown_1 : decode cX7_isKnown 1 = .ok (.iconst 0, 1) := by decide +kernel
theorem dX7_isKnown_2 : decode cX7_isKnown 2 = .ok (.bipush 63, 2) := by decide +kernel
theorem dX7_isKnown_4 : decode cX7_isKnown 4 = .ok (.invokestatic 180, 3) := by decide +kernel
theorem dX7_isKnown_7 : decode cX7_isKnown 7 = .ok (.ifCond .ne 5, 3) := by decide +kernel
theorem dX7_isKnown_10 : decode cX7_isKnown 10 = .ok (.iconst (-1), 1) := by decide +kernel
theorem dX7_isKnown_11 : decode cX7_isKnown 11 = .ok (.ireturn, 1) := by decide +kernel
theorem dX7_isKnown_12 : decode cX7_isKnown 12 = .ok (.aload_n 0, 1) := by decide +kernel
theorem dX7_isKnown_13 : decode cX7_isKnown 13 = .ok (.getfield 12, 3) := by decide +kernel
theorem dX7_isKnown_16 : decode cX7_isKnown 16 = .ok (.getfield 171, 3) := by decide +kernel
theorem dX7_isKnown_19 : decode cX7_isKnown 19 = .ok (.getfield 184, 3) := by decide +kernel
theorem dX7_isKnown_22 : decode cX7_isKnown 22 = .ok (.iload_n 1, 1) := by decide +kernel
theorem dX7_isKnown_23 : decode cX7_isKnown 23 = .ok (.invokevirtual 139, 3) := by decide +kernel
theorem dX7_isKnown_26 : decode cX7_isKnown 26 = .ok (.ireturn, 1) := by decide +kernel
theorem dX7_inWell_0 : decode cX7_inWell 0 = .ok (.iload_n 1, 1) := by decide +kernel
theorem dX7_inWell_1 : decode cX7_inWell 1 = .ok (.invokestatic 159, 3) := by decide +kernel
theorem dX7_inWell_4 : decode cX7_inWell 4 = .ok (.ifCond .eq 18, 3) := by decide +kernel
theorem dX7_inWell_7 : decode cX7_inWell 7 = .ok (.aload_n 0, 1) := by decide +kernel
theorem dX7_inWell_8 : decode cX7_inWell 8 = .ok (.getfield 12, 3) := by decide +kernel
theorem dX7_inWell_11 : decode cX7_inWell 11 = .ok (.getfield 121, 3) := by decide +kernel
theorem dX7_inWell_14 : decode cX7_inWell 14 = .ok (.iload_n 1, 1) := by decide +kernel
theorem dX7_inWell_15 : decode cX7_inWell 15 = .ok (.iload_n 2, 1) := by decide +kernel
theorem dX7_inWell_16 : decode cX7_inWell 16 = .ok (.invokevirtual 187, 3) := by decide +kernel
theorem dX7_inWell_19 : decode cX7_inWell 19 = .ok (.goto 4, 3) := by decide +kernel
theorem dX7_inWell_22 : decode cX7_inWell 22 = .ok (.iconst (-1), 1) := by decide +kernel
theorem dX7_inWell_23 : decode cX7_inWell 23 = .ok (.ireturn, 1) := by decide +kernel
theorem dX7_funniest_0 : decode cX7_funniest 0 = .ok (.iconst 0, 1) := by decide +kernel
theorem dX7_funniest_1 : decode cX7_funniest 1 = .ok (.istore_n 2, 1) := by decide +kernel
theorem dX7_funniest_2 : decode cX7_funniest 2 = .ok (.iload_n 2, 1) := by decide +kernel
theorem dX7_funniest_3 : decode cX7_funniest 3 = .ok (.aload_n 0, 1) := by decide +kernel
theorem dX7_funniest_4 : decode cX7_funniest 4 = .ok (.getfield 12, 3) := by decide +kernel
theorem dX7_funniest_7 : decode cX7_funniest 7 = .ok (.getfield 121, 3) := by decide +kernel
theorem dX7_funniest_10 : decode cX7_funniest 10 = .ok (.getfield 125, 3) := by decide +kernel
theorem dX7_funniest_13 : decode cX7_funniest 13 = .ok (.if_icmp .ge 20, 3) := by decide +kernel
theorem dX7_funniest_16 : decode cX7_funniest 16 = .ok (.aload_n 0, 1) := by decide +kernel
theorem dX7_funniest_17 : decode cX7_funniest 17 = .ok (.iload_n 2, 1) := by decide +kernel
theorem dX7_funniest_18 : decode cX7_funniest 18 = .ok (.invokevirtual 190, 3) := by decide +kernel
theorem dX7_funniest_21 : decode cX7_funniest 21 = .ok (.iload_n 1, 1) := by decide +kernel
theorem dX7_funniest_22 : decode cX7_funniest 22 = .ok (.if_icmp .ne 5, 3) := by decide +kernel
theorem dX7_funniest_25 : decode cX7_funniest 25 = .ok (.iload_n 2, 1) := by decide +kernel
theorem dX7_funniest_26 : decode cX7_funniest 26 = .ok (.ireturn, 1) := by decide +kernel
theorem dX7_funniest_27 : decode cX7_funniest 27 = .ok (.iinc 2 1, 3) := by decide +kernel
theorem dX7_funniest_30 : decode cX7_funniest 30 = .ok (.goto (-28), 3) := by decide +kernel
theorem dX7_funniest_33 : decode cX7_funniest 33 = .ok (.iconst (-1), 1) := by decide +kernel
theorem dX7_funniest_34 : decode cX7_funniest 34 = .ok (.ireturn, 1) := by decide +kernel
theorem dX7_fullest_0 : decode cX7_fullest 0 = .ok (.iconst 0, 1) := by decide +kernel
theorem dX7_fullest_1 : decode cX7_fullest 1 = .ok (.istore_n 2, 1) := by decide +kernel
theorem dX7_fullest_2 : decode cX7_fullest 2 = .ok (.iload_n 2, 1) := by decide +kernel
theorem dX7_fullest_3 : decode cX7_fullest 3 = .ok (.iconst 4, 1) := by decide +kernel
theorem dX7_fullest_4 : decode cX7_fullest 4 = .ok (.if_icmp .ge 20, 3) := by decide +kernel
theorem dX7_fullest_7 : decode cX7_fullest 7 = .ok (.aload_n 0, 1) := by decide +kernel
theorem dX7_fullest_8 : decode cX7_fullest 8 = .ok (.iload_n 2, 1) := by decide +kernel
theorem dX7_fullest_9 : decode cX7_fullest 9 = .ok (.invokevirtual 193, 3) := by decide +kernel
theorem dX7_fullest_12 : decode cX7_fullest 12 = .ok (.iload_n 1, 1) := by decide +kernel
theorem dX7_fullest_13 : decode cX7_fullest 13 = .ok (.if_icmp .ne 5, 3) := by decide +kernel
theorem dX7_fullest_16 : decode cX7_fullest 16 = .ok (.iload_n 2, 1) := by decide +kernel
theorem dX7_fullest_17 : decode cX7_fullest 17 = .ok (.ireturn, 1) := by decide +kernel
theorem dX7_fullest_18 : decode cX7_fullest 18 = .ok (.iinc 2 1, 3) := by decide +kernel
theorem dX7_fullest_21 : decode cX7_fullest 21 = .ok (.goto (-19), 3) := by decide +kernel
theorem dX7_fullest_24 : decode cX7_fullest 24 = .ok (.iconst (-1), 1) := by decide +kernel
theorem dX7_fullest_25 : decode cX7_fullest 25 = .ok (.ireturn, 1) := by decide +kernel
theorem dX7_laughBits_0 : decode cX7_laughBits 0 = .ok (.aload_n 0, 1) := by decide +kernel
theorem dX7_laughBits_1 : decode cX7_laughBits 1 = .ok (.getfield 12, 3) := by decide +kernel
theorem dX7_laughBits_4 : decode cX7_laughBits 4 = .ok (.getfield 121, 3) := by decide +kernel
theorem dX7_laughBits_7 : decode cX7_laughBits 7 = .ok (.iload_n 1, 1) := by decide +kernel
theorem dX7_laughBits_8 : decode cX7_laughBits 8 = .ok (.invokevirtual 131, 3) := by decide +kernel
theorem dX7_laughBits_11 : decode cX7_laughBits 11 = .ok (.ifCond .ne 5, 3) := by decide +kernel
theorem dX7_laughBits_14 : decode cX7_laughBits 14 = .ok (.iconst (-1), 1) := by decide +kernel
theorem dX7_laughBits_15 : decode cX7_laughBits 15 = .ok (.ireturn, 1) := by decide +kernel
theorem dX7_laughBits_16 : decode cX7_laughBits 16 = .ok (.iload_n 2, 1) := by decide +kernel
theorem dX7_laughBits_17 : decode cX7_laughBits 17 = .ok (.iconst 0, 1) := by decide +kernel
theorem dX7_laughBits_18 : decode cX7_laughBits 18 = .ok (.bipush 50, 2) := by decide +kernel
theorem dX7_laughBits_20 : decode cX7_laughBits 20 = .ok (.invokestatic 180, 3) := by decide +kernel
theorem dX7_laughBits_23 : decode cX7_laughBits 23 = .ok (.ifCond .ne 6, 3) := by decide +kernel
theorem dX7_laughBits_26 : decode cX7_laughBits 26 = .ok (.bipush (-2), 2) := by decide +kernel
theorem dX7_laughBits_28 : decode cX7_laughBits 28 = .ok (.ireturn, 1) := by decide +kernel
theorem dX7_laughBits_29 : decode cX7_laughBits 29 = .ok (.aload_n 0, 1) := by decide +kernel
theorem dX7_laughBits_30 : decode cX7_laughBits 30 = .ok (.getfield 12, 3) := by decide +kernel
theorem dX7_laughBits_33 : decode cX7_laughBits 33 = .ok (.iload_n 1, 1) := by decide +kernel
theorem dX7_laughBits_34 : decode cX7_laughBits 34 = .ok (.iload_n 2, 1) := by decide +kernel
theorem dX7_laughBits_35 : decode cX7_laughBits 35 = .ok (.invokevirtual 199, 3) := by decide +kernel
theorem dX7_laughBits_38 : decode cX7_laughBits 38 = .ok (.invokestatic 203, 3) := by decide +kernel
theorem dX7_laughBits_41 : decode cX7_laughBits 41 = .ok (.ireturn, 1) := by decide +kernel
theorem dX7_laughs_0 : decode cX7_laughs 0 = .ok (.aload_n 0, 1) := by decide +kernel
theorem dX7_laughs_1 : decode cX7_laughs 1 = .ok (.getfield 12, 3) := by decide +kernel
theorem dX7_laughs_4 : decode cX7_laughs 4 = .ok (.getfield 171, 3) := by decide +kernel
theorem dX7_laughs_7 : decode cX7_laughs 7 = .ok (.getfield 207, 3) := by decide +kernel
theorem dX7_laughs_10 : decode cX7_laughs 10 = .ok (.freturn, 1) := by decide +kernel
theorem dX7_wholeLaughs_0 : decode cX7_wholeLaughs 0 = .ok (.aload_n 0, 1) := by decide +kernel
theorem dX7_wholeLaughs_1 : decode cX7_wholeLaughs 1 = .ok (.getfield 12, 3) := by decide +kernel
theorem dX7_wholeLaughs_4 : decode cX7_wholeLaughs 4 = .ok (.getfield 171, 3) := by decide +kernel
theorem dX7_wholeLaughs_7 : decode cX7_wholeLaughs 7 = .ok (.getfield 207, 3) := by decide +kernel
theorem dX7_wholeLaughs_10 : decode cX7_wholeLaughs 10 = .ok (.f2i, 1) := by decide +kernel
theorem dX7_wholeLaughs_11 : decode cX7_wholeLaughs 11 = .ok (.ireturn, 1) := by decide +kernel
theorem dX7_liftedOf_0 : decode cX7_liftedOf 0 = .ok (.aload_n 0, 1) := by decide +kernel
theorem dX7_liftedOf_1 : decode cX7_liftedOf 1 = .ok (.getfield 12, 3) := by decide +kernel
theorem dX7_liftedOf_4 : decode cX7_liftedOf 4 = .ok (.getfield 171, 3) := by decide +kernel
theorem dX7_liftedOf_7 : decode cX7_liftedOf 7 = .ok (.astore_n 3, 1) := by decide +kernel
theorem dX7_liftedOf_8 : decode cX7_liftedOf 8 = .ok (.iload_n 1, 1) := by decide +kernel
theorem dX7_liftedOf_9 : decode cX7_liftedOf 9 = .ok (.iconst 0, 1) := by decide +kernel
theorem dX7_liftedOf_10 : decode cX7_liftedOf 10 = .ok (.aload_n 3, 1) := by decide +kernel
theorem dX7_liftedOf_11 : decode cX7_liftedOf 11 = .ok (.getfield 215, 3) := by decide +kernel
theorem dX7_liftedOf_14 : decode cX7_liftedOf 14 = .ok (.iconst 1, 1) := by decide +kernel
theorem dX7_liftedOf_15 : decode cX7_liftedOf 15 = .ok (.isub, 1) := by decide +kernel
theorem dX7_liftedOf_16 : decode cX7_liftedOf 16 = .ok (.invokestatic 180, 3) := by decide +kernel
theorem dX7_liftedOf_19 : decode cX7_liftedOf 19 = .ok (.ifCond .ne 5, 3) := by decide +kernel
theorem dX7_liftedOf_22 : decode cX7_liftedOf 22 = .ok (.iconst (-1), 1) := by decide +kernel
theorem dX7_liftedOf_23 : decode cX7_liftedOf 23 = .ok (.ireturn, 1) := by decide +kernel
theorem dX7_liftedOf_24 : decode cX7_liftedOf 24 = .ok (.aload_n 3, 1) := by decide +kernel
theorem dX7_liftedOf_25 : decode cX7_liftedOf 25 = .ok (.getfield 215, 3) := by decide +kernel
theorem dX7_liftedOf_28 : decode cX7_liftedOf 28 = .ok (.iconst 1, 1) := by decide +kernel
theorem dX7_liftedOf_29 : decode cX7_liftedOf 29 = .ok (.isub, 1) := by decide +kernel
theorem dX7_liftedOf_30 : decode cX7_liftedOf 30 = .ok (.iload_n 1, 1) := by decide +kernel
theorem dX7_liftedOf_31 : decode cX7_liftedOf 31 = .ok (.isub, 1) := by decide +kernel
theorem dX7_liftedOf_32 : decode cX7_liftedOf 32 = .ok (.istore 4, 2) := by decide +kernel
theorem dX7_liftedOf_34 : decode cX7_liftedOf 34 = .ok (.iload_n 2, 1) := by decide +kernel
theorem dX7_liftedOf_35 : decode cX7_liftedOf 35 = .ok (.tableswitch 55 0 2 #[25, 35, 45], 25) := by decide +kernel
theorem dX7_liftedOf_60 : decode cX7_liftedOf 60 = .ok (.aload_n 3, 1) := by decide +kernel
theorem dX7_liftedOf_61 : decode cX7_liftedOf 61 = .ok (.getfield 216, 3) := by decide +kernel
theorem dX7_liftedOf_64 : decode cX7_liftedOf 64 = .ok (.iload 4, 2) := by decide +kernel
theorem dX7_liftedOf_66 : decode cX7_liftedOf 66 = .ok (.invokevirtual 139, 3) := by decide +kernel
theorem dX7_liftedOf_69 : decode cX7_liftedOf 69 = .ok (.ireturn, 1) := by decide +kernel
theorem dX7_liftedOf_70 : decode cX7_liftedOf 70 = .ok (.aload_n 3, 1) := by decide +kernel
theorem dX7_liftedOf_71 : decode cX7_liftedOf 71 = .ok (.getfield 217, 3) := by decide +kernel
theorem dX7_liftedOf_74 : decode cX7_liftedOf 74 = .ok (.iload 4, 2) := by decide +kernel
theorem dX7_liftedOf_76 : decode cX7_liftedOf 76 = .ok (.invokevirtual 139, 3) := by decide +kernel
theorem dX7_liftedOf_79 : decode cX7_liftedOf 79 = .ok (.ireturn, 1) := by decide +kernel
theorem dX7_liftedOf_80 : decode cX7_liftedOf 80 = .ok (.aload_n 3, 1) := by decide +kernel
theorem dX7_liftedOf_81 : decode cX7_liftedOf 81 = .ok (.iload 4, 2) := by decide +kernel
theorem dX7_liftedOf_83 : decode cX7_liftedOf 83 = .ok (.invokevirtual 218, 3) := by decide +kernel
theorem dX7_liftedOf_86 : decode cX7_liftedOf 86 = .ok (.invokestatic 203, 3) := by decide +kernel
theorem dX7_liftedOf_89 : decode cX7_liftedOf 89 = .ok (.ireturn, 1) := by decide +kernel
theorem dX7_liftedOf_90 : decode cX7_liftedOf 90 = .ok (.bipush (-2), 2) := by decide +kernel
theorem dX7_liftedOf_92 : decode cX7_liftedOf 92 = .ok (.ireturn, 1) := by decide +kernel
theorem dX7_strokes_0 : decode cX7_strokes 0 = .ok (.iload_n 1, 1) := by decide +kernel
theorem dX7_strokes_1 : decode cX7_strokes 1 = .ok (.iconst 1, 1) := by decide +kernel
theorem dX7_strokes_2 : decode cX7_strokes 2 = .ok (.bipush 30, 2) := by decide +kernel
theorem dX7_strokes_4 : decode cX7_strokes 4 = .ok (.invokestatic 180, 3) := by decide +kernel
theorem dX7_strokes_7 : decode cX7_strokes 7 = .ok (.ifCond .ne 6, 3) := by decide +kernel
theorem dX7_strokes_10 : decode cX7_strokes 10 = .ok (.bipush (-2), 2) := by decide +kernel
theorem dX7_strokes_12 : decode cX7_strokes 12 = .ok (.ireturn, 1) := by decide +kernel
theorem dX7_strokes_13 : decode cX7_strokes 13 = .ok (.aload_n 0, 1) := by decide +kernel
theorem dX7_strokes_14 : decode cX7_strokes 14 = .ok (.getfield 12, 3) := by decide +kernel
theorem dX7_strokes_17 : decode cX7_strokes 17 = .ok (.getfield 226, 3) := by decide +kernel
theorem dX7_strokes_20 : decode cX7_strokes 20 = .ok (.istore_n 2, 1) := by decide +kernel
theorem dX7_strokes_21 : decode cX7_strokes 21 = .ok (.iconst 0, 1) := by decide +kernel
theorem dX7_strokes_22 : decode cX7_strokes 22 = .ok (.istore_n 3, 1) := by decide +kernel
theorem dX7_strokes_23 : decode cX7_strokes 23 = .ok (.iconst 0, 1) := by decide +kernel
theorem dX7_strokes_24 : decode cX7_strokes 24 = .ok (.istore 4, 2) := by decide +kernel
theorem dX7_strokes_26 : decode cX7_strokes 26 = .ok (.iload 4, 2) := by decide +kernel
theorem dX7_strokes_28 : decode cX7_strokes 28 = .ok (.bipush 30, 2) := by decide +kernel
theorem dX7_strokes_30 : decode cX7_strokes 30 = .ok (.if_icmp .ge 29, 3) := by decide +kernel
theorem dX7_strokes_33 : decode cX7_strokes 33 = .ok (.iload_n 2, 1) := by decide +kernel
theorem dX7_strokes_34 : decode cX7_strokes 34 = .ok (.iload_n 1, 1) := by decide +kernel
theorem dX7_strokes_35 : decode cX7_strokes 35 = .ok (.if_icmp .ge 24, 3) := by decide +kernel
theorem dX7_strokes_38 : decode cX7_strokes 38 = .ok (.iload_n 2, 1) := by decide +kernel
theorem dX7_strokes_39 : decode cX7_strokes 39 = .ok (.aload_n 0, 1) := by decide +kernel
theorem dX7_strokes_40 : decode cX7_strokes 40 = .ok (.getfield 12, 3) := by decide +kernel
theorem dX7_strokes_43 : decode cX7_strokes 43 = .ok (.getfield 229, 3) := by decide +kernel
theorem dX7_strokes_46 : decode cX7_strokes 46 = .ok (.invokestatic 232, 3) := by decide +kernel
theorem dX7_strokes_49 : decode cX7_strokes 49 = .ok (.istore_n 2, 1) := by decide +kernel
theorem dX7_strokes_50 : decode cX7_strokes 50 = .ok (.iinc 3 1, 3) := by decide +kernel
theorem dX7_strokes_53 : decode cX7_strokes 53 = .ok (.iinc 4 1, 3) := by decide +kernel
theorem dX7_strokes_56 : decode cX7_strokes 56 = .ok (.goto (-30), 3) := by decide +kernel
theorem dX7_strokes_59 : decode cX7_strokes 59 = .ok (.iload_n 3, 1) := by decide +kernel
theorem dX7_strokes_60 : decode cX7_strokes 60 = .ok (.ireturn, 1) := by decide +kernel
theorem dX7_strokesAgain_0 : decode cX7_strokesAgain 0 = .ok (.iload_n 1, 1) := by decide +kernel
theorem dX7_strokesAgain_1 : decode cX7_strokesAgain 1 = .ok (.iconst 1, 1) := by decide +kernel
theorem dX7_strokesAgain_2 : decode cX7_strokesAgain 2 = .ok (.bipush 30, 2) := by decide +kernel
theorem dX7_strokesAgain_4 : decode cX7_strokesAgain 4 = .ok (.invokestatic 180, 3) := by decide +kernel
theorem dX7_strokesAgain_7 : decode cX7_strokesAgain 7 = .ok (.ifCond .ne 6, 3) := by decide +kernel
theorem dX7_strokesAgain_10 : decode cX7_strokesAgain 10 = .ok (.bipush (-2), 2) := by decide +kernel
theorem dX7_strokesAgain_12 : decode cX7_strokesAgain 12 = .ok (.ireturn, 1) := by decide +kernel
theorem dX7_strokesAgain_13 : decode cX7_strokesAgain 13 = .ok (.iload_n 1, 1) := by decide +kernel
theorem dX7_strokesAgain_14 : decode cX7_strokesAgain 14 = .ok (.aload_n 0, 1) := by decide +kernel
theorem dX7_strokesAgain_15 : decode cX7_strokesAgain 15 = .ok (.getfield 12, 3) := by decide +kernel
theorem dX7_strokesAgain_18 : decode cX7_strokesAgain 18 = .ok (.getfield 226, 3) := by decide +kernel
theorem dX7_strokesAgain_21 : decode cX7_strokesAgain 21 = .ok (.isub, 1) := by decide +kernel
theorem dX7_strokesAgain_22 : decode cX7_strokesAgain 22 = .ok (.istore_n 2, 1) := by decide +kernel
theorem dX7_strokesAgain_23 : decode cX7_strokesAgain 23 = .ok (.iload_n 2, 1) := by decide +kernel
theorem dX7_strokesAgain_24 : decode cX7_strokesAgain 24 = .ok (.ifCond .le 14, 3) := by decide +kernel
theorem dX7_strokesAgain_27 : decode cX7_strokesAgain 27 = .ok (.aload_n 0, 1) := by decide +kernel
theorem dX7_strokesAgain_28 : decode cX7_strokesAgain 28 = .ok (.getfield 12, 3) := by decide +kernel
theorem dX7_strokesAgain_31 : decode cX7_strokesAgain 31 = .ok (.getfield 229, 3) := by decide +kernel
theorem dX7_strokesAgain_34 : decode cX7_strokesAgain 34 = .ok (.iconst 1, 1) := by decide +kernel
theorem dX7_strokesAgain_35 : decode cX7_strokesAgain 35 = .ok (.if_icmp .ge 5, 3) := by decide +kernel
theorem dX7_strokesAgain_38 : decode cX7_strokesAgain 38 = .ok (.iconst 0, 1) := by decide +kernel
theorem dX7_strokesAgain_39 : decode cX7_strokesAgain 39 = .ok (.ireturn, 1) := by decide +kernel
theorem dX7_strokesAgain_40 : decode cX7_strokesAgain 40 = .ok (.iload_n 2, 1) := by decide +kernel
theorem dX7_strokesAgain_41 : decode cX7_strokesAgain 41 = .ok (.aload_n 0, 1) := by decide +kernel
theorem dX7_strokesAgain_42 : decode cX7_strokesAgain 42 = .ok (.getfield 12, 3) := by decide +kernel
theorem dX7_strokesAgain_45 : decode cX7_strokesAgain 45 = .ok (.getfield 229, 3) := by decide +kernel
theorem dX7_strokesAgain_48 : decode cX7_strokesAgain 48 = .ok (.iadd, 1) := by decide +kernel
theorem dX7_strokesAgain_49 : decode cX7_strokesAgain 49 = .ok (.iconst 1, 1) := by decide +kernel
theorem dX7_strokesAgain_50 : decode cX7_strokesAgain 50 = .ok (.isub, 1) := by decide +kernel
theorem dX7_strokesAgain_51 : decode cX7_strokesAgain 51 = .ok (.aload_n 0, 1) := by decide +kernel
theorem dX7_strokesAgain_52 : decode cX7_strokesAgain 52 = .ok (.getfield 12, 3) := by decide +kernel
theorem dX7_strokesAgain_55 : decode cX7_strokesAgain 55 = .ok (.getfield 229, 3) := by decide +kernel
theorem dX7_strokesAgain_58 : decode cX7_strokesAgain 58 = .ok (.idiv, 1) := by decide +kernel
theorem dX7_strokesAgain_59 : decode cX7_strokesAgain 59 = .ok (.ireturn, 1) := by decide +kernel
theorem dX7_would_0 : decode cX7_would 0 = .ok (.iload_n 1, 1) := by decide +kernel
theorem dX7_would_1 : decode cX7_would 1 = .ok (.iconst 0, 1) := by decide +kernel
theorem dX7_would_2 : decode cX7_would 2 = .ok (.bipush 20, 2) := by decide +kernel
theorem dX7_would_4 : decode cX7_would 4 = .ok (.invokestatic 180, 3) := by decide +kernel
theorem dX7_would_7 : decode cX7_would 7 = .ok (.ifCond .ne 6, 3) := by decide +kernel
theorem dX7_would_10 : decode cX7_would 10 = .ok (.bipush (-2), 2) := by decide +kernel
theorem dX7_would_12 : decode cX7_would 12 = .ok (.ireturn, 1) := by decide +kernel
theorem dX7_would_13 : decode cX7_would 13 = .ok (.aload_n 0, 1) := by decide +kernel
theorem dX7_would_14 : decode cX7_would 14 = .ok (.getfield 12, 3) := by decide +kernel
theorem dX7_would_17 : decode cX7_would 17 = .ok (.getfield 226, 3) := by decide +kernel
theorem dX7_would_20 : decode cX7_would 20 = .ok (.istore_n 2, 1) := by decide +kernel
theorem dX7_would_21 : decode cX7_would 21 = .ok (.aload_n 0, 1) := by decide +kernel
theorem dX7_would_22 : decode cX7_would 22 = .ok (.getfield 12, 3) := by decide +kernel
theorem dX7_would_25 : decode cX7_would 25 = .ok (.getfield 235, 3) := by decide +kernel
theorem dX7_would_28 : decode cX7_would 28 = .ok (.istore_n 3, 1) := by decide +kernel
theorem dX7_would_29 : decode cX7_would 29 = .ok (.iconst 0, 1) := by decide +kernel
theorem dX7_would_30 : decode cX7_would 30 = .ok (.istore 4, 2) := by decide +kernel
theorem dX7_would_32 : decode cX7_would 32 = .ok (.iconst 0, 1) := by decide +kernel
theorem dX7_would_33 : decode cX7_would 33 = .ok (.istore 5, 2) := by decide +kernel
theorem dX7_would_35 : decode cX7_would 35 = .ok (.iload 5, 2) := by decide +kernel
theorem dX7_would_37 : decode cX7_would 37 = .ok (.iload_n 1, 1) := by decide +kernel
theorem dX7_would_38 : decode cX7_would 38 = .ok (.if_icmp .ge 84, 3) := by decide +kernel
theorem dX7_would_41 : decode cX7_would 41 = .ok (.iload_n 3, 1) := by decide +kernel
theorem dX7_would_42 : decode cX7_would 42 = .ok (.bipush 40, 2) := by decide +kernel
theorem dX7_would_44 : decode cX7_would 44 = .ok (.if_icmp .gt 78, 3) := by decide +kernel
theorem dX7_would_47 : decode cX7_would 47 = .ok (.iload_n 2, 1) := by decide +kernel
theorem dX7_would_48 : decode cX7_would 48 = .ok (.aload_n 0, 1) := by decide +kernel
theorem dX7_would_49 : decode cX7_would 49 = .ok (.getfield 12, 3) := by decide +kernel
theorem dX7_would_52 : decode cX7_would 52 = .ok (.getfield 229, 3) := by decide +kernel
theorem dX7_would_55 : decode cX7_would 55 = .ok (.invokestatic 232, 3) := by decide +kernel
theorem dX7_would_58 : decode cX7_would 58 = .ok (.istore_n 2, 1) := by decide +kernel
theorem dX7_would_59 : decode cX7_would 59 = .ok (.iload_n 3, 1) := by decide +kernel
theorem dX7_would_60 : decode cX7_would 60 = .ok (.iload_n 2, 1) := by decide +kernel
theorem dX7_would_61 : decode cX7_would 61 = .ok (.invokestatic 238, 3) := by decide +kernel
theorem dX7_would_64 : decode cX7_would 64 = .ok (.iadd, 1) := by decide +kernel
theorem dX7_would_65 : decode cX7_would 65 = .ok (.istore_n 3, 1) := by decide +kernel
theorem dX7_would_66 : decode cX7_would 66 = .ok (.aload_n 0, 1) := by decide +kernel
theorem dX7_would_67 : decode cX7_would 67 = .ok (.getfield 12, 3) := by decide +kernel
theorem dX7_would_70 : decode cX7_would 70 = .ok (.getfield 121, 3) := by decide +kernel
theorem dX7_would_73 : decode cX7_would 73 = .ok (.aload_n 0, 1) := by decide +kernel
theorem dX7_would_74 : decode cX7_would 74 = .ok (.getfield 12, 3) := by decide +kernel
theorem dX7_would_77 : decode cX7_would 77 = .ok (.getfield 241, 3) := by decide +kernel
theorem dX7_would_80 : decode cX7_would 80 = .ok (.iload_n 2, 1) := by decide +kernel
theorem dX7_would_81 : decode cX7_would 81 = .ok (.invokevirtual 156, 3) := by decide +kernel
theorem dX7_would_84 : decode cX7_would 84 = .ok (.iload 4, 2) := by decide +kernel
theorem dX7_would_86 : decode cX7_would 86 = .ok (.isub, 1) := by decide +kernel
theorem dX7_would_87 : decode cX7_would 87 = .ok (.istore 6, 2) := by decide +kernel
theorem dX7_would_89 : decode cX7_would 89 = .ok (.iload 4, 2) := by decide +kernel
theorem dX7_would_91 : decode cX7_would 91 = .ok (.iload 6, 2) := by decide +kernel
theorem dX7_would_93 : decode cX7_would 93 = .ok (.aload_n 0, 1) := by decide +kernel
theorem dX7_would_94 : decode cX7_would 94 = .ok (.getfield 12, 3) := by decide +kernel
theorem dX7_would_97 : decode cX7_would 97 = .ok (.getfield 162, 3) := by decide +kernel
theorem dX7_would_100 : decode cX7_would 100 = .ok (.aload_n 0, 1) := by decide +kernel
theorem dX7_would_101 : decode cX7_would 101 = .ok (.getfield 12, 3) := by decide +kernel
theorem dX7_would_104 : decode cX7_would 104 = .ok (.getfield 241, 3) := by decide +kernel
theorem dX7_would_107 : decode cX7_would 107 = .ok (.invokevirtual 139, 3) := by decide +kernel
theorem dX7_would_110 : decode cX7_would 110 = .ok (.invokestatic 244, 3) := by decide +kernel
theorem dX7_would_113 : decode cX7_would 113 = .ok (.iadd, 1) := by decide +kernel
theorem dX7_would_114 : decode cX7_would 114 = .ok (.istore 4, 2) := by decide +kernel
theorem dX7_would_116 : decode cX7_would 116 = .ok (.iinc 5 1, 3) := by decide +kernel
theorem dX7_would_119 : decode cX7_would 119 = .ok (.goto (-84), 3) := by decide +kernel
theorem dX7_would_122 : decode cX7_would 122 = .ok (.iload 4, 2) := by decide +kernel
theorem dX7_would_124 : decode cX7_would 124 = .ok (.ireturn, 1) := by decide +kernel
theorem dX7_groansIn_0 : decode cX7_groansIn 0 = .ok (.iload_n 1, 1) := by decide +kernel
theorem dX7_groansIn_1 : decode cX7_groansIn 1 = .ok (.iconst 0, 1) := by decide +kernel
theorem dX7_groansIn_2 : decode cX7_groansIn 2 = .ok (.bipush 20, 2) := by decide +kernel
theorem dX7_groansIn_4 : decode cX7_groansIn 4 = .ok (.invokestatic 180, 3) := by decide +kernel
theorem dX7_groansIn_7 : decode cX7_groansIn 7 = .ok (.ifCond .ne 6, 3) := by decide +kernel
theorem dX7_groansIn_10 : decode cX7_groansIn 10 = .ok (.bipush (-2), 2) := by decide +kernel
theorem dX7_groansIn_12 : decode cX7_groansIn 12 = .ok (.ireturn, 1) := by decide +kernel
theorem dX7_groansIn_13 : decode cX7_groansIn 13 = .ok (.aload_n 0, 1) := by decide +kernel
theorem dX7_groansIn_14 : decode cX7_groansIn 14 = .ok (.getfield 12, 3) := by decide +kernel
theorem dX7_groansIn_17 : decode cX7_groansIn 17 = .ok (.getfield 226, 3) := by decide +kernel
theorem dX7_groansIn_20 : decode cX7_groansIn 20 = .ok (.istore_n 2, 1) := by decide +kernel
theorem dX7_groansIn_21 : decode cX7_groansIn 21 = .ok (.aload_n 0, 1) := by decide +kernel
theorem dX7_groansIn_22 : decode cX7_groansIn 22 = .ok (.getfield 12, 3) := by decide +kernel
theorem dX7_groansIn_25 : decode cX7_groansIn 25 = .ok (.getfield 235, 3) := by decide +kernel
theorem dX7_groansIn_28 : decode cX7_groansIn 28 = .ok (.istore_n 3, 1) := by decide +kernel
theorem dX7_groansIn_29 : decode cX7_groansIn 29 = .ok (.iconst 0, 1) := by decide +kernel
theorem dX7_groansIn_30 : decode cX7_groansIn 30 = .ok (.istore 4, 2) := by decide +kernel
theorem dX7_groansIn_32 : decode cX7_groansIn 32 = .ok (.iload 4, 2) := by decide +kernel
theorem dX7_groansIn_34 : decode cX7_groansIn 34 = .ok (.iload_n 1, 1) := by decide +kernel
theorem dX7_groansIn_35 : decode cX7_groansIn 35 = .ok (.if_icmp .ge 34, 3) := by decide +kernel
theorem dX7_groansIn_38 : decode cX7_groansIn 38 = .ok (.iload_n 3, 1) := by decide +kernel
theorem dX7_groansIn_39 : decode cX7_groansIn 39 = .ok (.bipush 40, 2) := by decide +kernel
theorem dX7_groansIn_41 : decode cX7_groansIn 41 = .ok (.if_icmp .gt 28, 3) := by decide +kernel
theorem dX7_groansIn_44 : decode cX7_groansIn 44 = .ok (.iload_n 2, 1) := by decide +kernel
theorem dX7_groansIn_45 : decode cX7_groansIn 45 = .ok (.aload_n 0, 1) := by decide +kernel
theorem dX7_groansIn_46 : decode cX7_groansIn 46 = .ok (.getfield 12, 3) := by decide +kernel
theorem dX7_groansIn_49 : decode cX7_groansIn 49 = .ok (.getfield 229, 3) := by decide +kernel
theorem dX7_groansIn_52 : decode cX7_groansIn 52 = .ok (.invokestatic 232, 3) := by decide +kernel
theorem dX7_groansIn_55 : decode cX7_groansIn 55 = .ok (.istore_n 2, 1) := by decide +kernel
theorem dX7_groansIn_56 : decode cX7_groansIn 56 = .ok (.iload_n 3, 1) := by decide +kernel
theorem dX7_groansIn_57 : decode cX7_groansIn 57 = .ok (.iload_n 2, 1) := by decide +kernel
theorem dX7_groansIn_58 : decode cX7_groansIn 58 = .ok (.invokestatic 238, 3) := by decide +kernel
theorem dX7_groansIn_61 : decode cX7_groansIn 61 = .ok (.iadd, 1) := by decide +kernel
theorem dX7_groansIn_62 : decode cX7_groansIn 62 = .ok (.istore_n 3, 1) := by decide +kernel
theorem dX7_groansIn_63 : decode cX7_groansIn 63 = .ok (.iinc 4 1, 3) := by decide +kernel
theorem dX7_groansIn_66 : decode cX7_groansIn 66 = .ok (.goto (-34), 3) := by decide +kernel
theorem dX7_groansIn_69 : decode cX7_groansIn 69 = .ok (.iload_n 3, 1) := by decide +kernel
theorem dX7_groansIn_70 : decode cX7_groansIn 70 = .ok (.ireturn, 1) := by decide +kernel
theorem dX7_bestStroke_0 : decode cX7_bestStroke 0 = .ok (.aload_n 0, 1) := by decide +kernel
theorem dX7_bestStroke_1 : decode cX7_bestStroke 1 = .ok (.getfield 12, 3) := by decide +kernel
theorem dX7_bestStroke_4 : decode cX7_bestStroke 4 = .ok (.getfield 121, 3) := by decide +kernel
theorem dX7_bestStroke_7 : decode cX7_bestStroke 7 = .ok (.aload_n 0, 1) := by decide +kernel
theorem dX7_bestStroke_8 : decode cX7_bestStroke 8 = .ok (.getfield 12, 3) := by decide +kernel
theorem dX7_bestStroke_11 : decode cX7_bestStroke 11 = .ok (.getfield 241, 3) := by decide +kernel
theorem dX7_bestStroke_14 : decode cX7_bestStroke 14 = .ok (.invokevirtual 165, 3) := by decide +kernel
theorem dX7_bestStroke_17 : decode cX7_bestStroke 17 = .ok (.ifCond .ne 6, 3) := by decide +kernel
theorem dX7_bestStroke_20 : decode cX7_bestStroke 20 = .ok (.bipush (-6), 2) := by decide +kernel
theorem dX7_bestStroke_22 : decode cX7_bestStroke 22 = .ok (.ireturn, 1) := by decide +kernel
theorem dX7_bestStroke_23 : decode cX7_bestStroke 23 = .ok (.aload_n 0, 1) := by decide +kernel
theorem dX7_bestStroke_24 : decode cX7_bestStroke 24 = .ok (.aload_n 0, 1) := by decide +kernel
theorem dX7_bestStroke_25 : decode cX7_bestStroke 25 = .ok (.getfield 12, 3) := by decide +kernel
theorem dX7_bestStroke_28 : decode cX7_bestStroke 28 = .ok (.getfield 241, 3) := by decide +kernel
theorem dX7_bestStroke_31 : decode cX7_bestStroke 31 = .ok (.invokevirtual 168, 3) := by decide +kernel
theorem dX7_bestStroke_34 : decode cX7_bestStroke 34 = .ok (.istore_n 1, 1) := by decide +kernel
theorem dX7_bestStroke_35 : decode cX7_bestStroke 35 = .ok (.iconst 1, 1) := by decide +kernel
theorem dX7_bestStroke_36 : decode cX7_bestStroke 36 = .ok (.istore_n 2, 1) := by decide +kernel
theorem dX7_bestStroke_37 : decode cX7_bestStroke 37 = .ok (.iconst 2, 1) := by decide +kernel
theorem dX7_bestStroke_38 : decode cX7_bestStroke 38 = .ok (.istore_n 3, 1) := by decide +kernel
theorem dX7_bestStroke_39 : decode cX7_bestStroke 39 = .ok (.iload_n 3, 1) := by decide +kernel
theorem dX7_bestStroke_40 : decode cX7_bestStroke 40 = .ok (.bipush 10, 2) := by decide +kernel
theorem dX7_bestStroke_42 : decode cX7_bestStroke 42 = .ok (.if_icmp .gt 26, 3) := by decide +kernel
theorem dX7_bestStroke_45 : decode cX7_bestStroke 45 = .ok (.aload_n 0, 1) := by decide +kernel
theorem dX7_bestStroke_46 : decode cX7_bestStroke 46 = .ok (.iload_n 1, 1) := by decide +kernel
theorem dX7_bestStroke_47 : decode cX7_bestStroke 47 = .ok (.iload_n 3, 1) := by decide +kernel
theorem dX7_bestStroke_48 : decode cX7_bestStroke 48 = .ok (.invokevirtual 249, 3) := by decide +kernel
theorem dX7_bestStroke_51 : decode cX7_bestStroke 51 = .ok (.aload_n 0, 1) := by decide +kernel
theorem dX7_bestStroke_52 : decode cX7_bestStroke 52 = .ok (.iload_n 1, 1) := by decide +kernel
theorem dX7_bestStroke_53 : decode cX7_bestStroke 53 = .ok (.iload_n 2, 1) := by decide +kernel
theorem dX7_bestStroke_54 : decode cX7_bestStroke 54 = .ok (.invokevirtual 249, 3) := by decide +kernel
theorem dX7_bestStroke_57 : decode cX7_bestStroke 57 = .ok (.if_icmp .ge 5, 3) := by decide +kernel
theorem dX7_bestStroke_60 : decode cX7_bestStroke 60 = .ok (.iload_n 3, 1) := by decide +kernel
theorem dX7_bestStroke_61 : decode cX7_bestStroke 61 = .ok (.istore_n 2, 1) := by decide +kernel
theorem dX7_bestStroke_62 : decode cX7_bestStroke 62 = .ok (.iinc 3 1, 3) := by decide +kernel
theorem dX7_bestStroke_65 : decode cX7_bestStroke 65 = .ok (.goto (-26), 3) := by decide +kernel
theorem dX7_bestStroke_68 : decode cX7_bestStroke 68 = .ok (.iload_n 2, 1) := by decide +kernel
theorem dX7_bestStroke_69 : decode cX7_bestStroke 69 = .ok (.ireturn, 1) := by decide +kernel
theorem dX7_isCounted_0 : decode cX7_isCounted 0 = .ok (.aload_n 0, 1) := by decide +kernel
theorem dX7_isCounted_1 : decode cX7_isCounted 1 = .ok (.getfield 12, 3) := by decide +kernel
theorem dX7_isCounted_4 : decode cX7_isCounted 4 = .ok (.getfield 252, 3) := by decide +kernel
theorem dX7_isCounted_7 : decode cX7_isCounted 7 = .ok (.aload_n 0, 1) := by decide +kernel
theorem dX7_isCounted_8 : decode cX7_isCounted 8 = .ok (.getfield 12, 3) := by decide +kernel
theorem dX7_isCounted_11 : decode cX7_isCounted 11 = .ok (.getfield 121, 3) := by decide +kernel
theorem dX7_isCounted_14 : decode cX7_isCounted 14 = .ok (.getfield 125, 3) := by decide +kernel
theorem dX7_isCounted_17 : decode cX7_isCounted 17 = .ok (.aload_n 0, 1) := by decide +kernel
theorem dX7_isCounted_18 : decode cX7_isCounted 18 = .ok (.getfield 12, 3) := by decide +kernel
theorem dX7_isCounted_21 : decode cX7_isCounted 21 = .ok (.getfield 171, 3) := by decide +kernel
theorem dX7_isCounted_24 : decode cX7_isCounted 24 = .ok (.getfield 215, 3) := by decide +kernel
theorem dX7_isCounted_27 : decode cX7_isCounted 27 = .ok (.iadd, 1) := by decide +kernel
theorem dX7_isCounted_28 : decode cX7_isCounted 28 = .ok (.aload_n 0, 1) := by decide +kernel
theorem dX7_isCounted_29 : decode cX7_isCounted 29 = .ok (.getfield 12, 3) := by decide +kernel
theorem dX7_isCounted_32 : decode cX7_isCounted 32 = .ok (.getfield 255, 3) := by decide +kernel
theorem dX7_isCounted_35 : decode cX7_isCounted 35 = .ok (.iadd, 1) := by decide +kernel
theorem dX7_isCounted_36 : decode cX7_isCounted 36 = .ok (.if_icmp .ne 7, 3) := by decide +kernel
theorem dX7_isCounted_39 : decode cX7_isCounted 39 = .ok (.iconst 1, 1) := by decide +kernel
theorem dX7_isCounted_40 : decode cX7_isCounted 40 = .ok (.goto 4, 3) := by decide +kernel
theorem dX7_isCounted_43 : decode cX7_isCounted 43 = .ok (.iconst 0, 1) := by decide +kernel
theorem dX7_isCounted_44 : decode cX7_isCounted 44 = .ok (.istore_n 1, 1) := by decide +kernel
theorem dX7_isCounted_45 : decode cX7_isCounted 45 = .ok (.iload_n 1, 1) := by decide +kernel
theorem dX7_isCounted_46 : decode cX7_isCounted 46 = .ok (.ifCond .eq 28, 3) := by decide +kernel
theorem dX7_isCounted_49 : decode cX7_isCounted 49 = .ok (.aload_n 0, 1) := by decide +kernel
theorem dX7_isCounted_50 : decode cX7_isCounted 50 = .ok (.invokevirtual 258, 3) := by decide +kernel
theorem dX7_isCounted_53 : decode cX7_isCounted 53 = .ok (.ifCond .eq 21, 3) := by decide +kernel
theorem dX7_isCounted_56 : decode cX7_isCounted 56 = .ok (.aload_n 0, 1) := by decide +kernel
theorem dX7_isCounted_57 : decode cX7_isCounted 57 = .ok (.invokevirtual 262, 3) := by decide +kernel
theorem dX7_isCounted_60 : decode cX7_isCounted 60 = .ok (.ifCond .eq 14, 3) := by decide +kernel
theorem dX7_isCounted_63 : decode cX7_isCounted 63 = .ok (.aload_n 0, 1) := by decide +kernel
theorem dX7_isCounted_64 : decode cX7_isCounted 64 = .ok (.invokevirtual 265, 3) := by decide +kernel
theorem dX7_isCounted_67 : decode cX7_isCounted 67 = .ok (.ifCond .eq 7, 3) := by decide +kernel
theorem dX7_isCounted_70 : decode cX7_isCounted 70 = .ok (.iconst 1, 1) := by decide +kernel
theorem dX7_isCounted_71 : decode cX7_isCounted 71 = .ok (.goto 4, 3) := by decide +kernel
theorem dX7_isCounted_74 : decode cX7_isCounted 74 = .ok (.iconst 0, 1) := by decide +kernel
theorem dX7_isCounted_75 : decode cX7_isCounted 75 = .ok (.ireturn, 1) := by decide +kernel
theorem dX7_account_0 : decode cX7_account 0 = .ok (.iload_n 1, 1) := by decide +kernel
theorem dX7_account_1 : decode cX7_account 1 = .ok (.tableswitch 192 0 13 #[71, 82, 90, 98, 106, 114, 122, 133, 141, 149, 157, 165, 176, 184], 71) := by decide +kernel
theorem dX7_account_72 : decode cX7_account 72 = .ok (.aload_n 0, 1) := by decide +kernel
theorem dX7_account_73 : decode cX7_account 73 = .ok (.getfield 12, 3) := by decide +kernel
theorem dX7_account_76 : decode cX7_account 76 = .ok (.getfield 121, 3) := by decide +kernel
theorem dX7_account_79 : decode cX7_account 79 = .ok (.getfield 125, 3) := by decide +kernel
theorem dX7_account_82 : decode cX7_account 82 = .ok (.ireturn, 1) := by decide +kernel
theorem dX7_account_83 : decode cX7_account 83 = .ok (.aload_n 0, 1) := by decide +kernel
theorem dX7_account_84 : decode cX7_account 84 = .ok (.getfield 12, 3) := by decide +kernel
theorem dX7_account_87 : decode cX7_account 87 = .ok (.getfield 241, 3) := by decide +kernel
theorem dX7_account_90 : decode cX7_account 90 = .ok (.ireturn, 1) := by decide +kernel
theorem dX7_account_91 : decode cX7_account 91 = .ok (.aload_n 0, 1) := by decide +kernel
theorem dX7_account_92 : decode cX7_account 92 = .ok (.getfield 12, 3) := by decide +kernel
theorem dX7_account_95 : decode cX7_account 95 = .ok (.getfield 229, 3) := by decide +kernel
theorem dX7_account_98 : decode cX7_account 98 = .ok (.ireturn, 1) := by decide +kernel
theorem dX7_account_99 : decode cX7_account 99 = .ok (.aload_n 0, 1) := by decide +kernel
theorem dX7_account_100 : decode cX7_account 100 = .ok (.getfield 12, 3) := by decide +kernel
theorem dX7_account_103 : decode cX7_account 103 = .ok (.getfield 226, 3) := by decide +kernel
theorem dX7_account_106 : decode cX7_account 106 = .ok (.ireturn, 1) := by decide +kernel
theorem dX7_account_107 : decode cX7_account 107 = .ok (.aload_n 0, 1) := by decide +kernel
theorem dX7_account_108 : decode cX7_account 108 = .ok (.getfield 12, 3) := by decide +kernel
theorem dX7_account_111 : decode cX7_account 111 = .ok (.getfield 235, 3) := by decide +kernel
theorem dX7_account_114 : decode cX7_account 114 = .ok (.ireturn, 1) := by decide +kernel
theorem dX7_account_115 : decode cX7_account 115 = .ok (.aload_n 0, 1) := by decide +kernel
theorem dX7_account_116 : decode cX7_account 116 = .ok (.getfield 12, 3) := by decide +kernel
theorem dX7_account_119 : decode cX7_account 119 = .ok (.getfield 268, 3) := by decide +kernel
theorem dX7_account_122 : decode cX7_account 122 = .ok (.ireturn, 1) := by decide +kernel
theorem dX7_account_123 : decode cX7_account 123 = .ok (.aload_n 0, 1) := by decide +kernel
theorem dX7_account_124 : decode cX7_account 124 = .ok (.getfield 12, 3) := by decide +kernel
theorem dX7_account_127 : decode cX7_account 127 = .ok (.getfield 171, 3) := by decide +kernel
theorem dX7_account_130 : decode cX7_account 130 = .ok (.getfield 215, 3) := by decide +kernel
theorem dX7_account_133 : decode cX7_account 133 = .ok (.ireturn, 1) := by decide +kernel
theorem dX7_account_134 : decode cX7_account 134 = .ok (.aload_n 0, 1) := by decide +kernel
theorem dX7_account_135 : decode cX7_account 135 = .ok (.getfield 12, 3) := by decide +kernel
theorem dX7_account_138 : decode cX7_account 138 = .ok (.getfield 252, 3) := by decide +kernel
theorem dX7_account_141 : decode cX7_account 141 = .ok (.ireturn, 1) := by decide +kernel
theorem dX7_account_142 : decode cX7_account 142 = .ok (.aload_n 0, 1) := by decide +kernel
theorem dX7_account_143 : decode cX7_account 143 = .ok (.getfield 12, 3) := by decide +kernel
theorem dX7_account_146 : decode cX7_account 146 = .ok (.getfield 255, 3) := by decide +kernel
theorem dX7_account_149 : decode cX7_account 149 = .ok (.ireturn, 1) := by decide +kernel
theorem dX7_account_150 : decode cX7_account 150 = .ok (.aload_n 0, 1) := by decide +kernel
theorem dX7_account_151 : decode cX7_account 151 = .ok (.getfield 12, 3) := by decide +kernel
theorem dX7_account_154 : decode cX7_account 154 = .ok (.getfield 271, 3) := by decide +kernel
theorem dX7_account_157 : decode cX7_account 157 = .ok (.ireturn, 1) := by decide +kernel
theorem dX7_account_158 : decode cX7_account 158 = .ok (.aload_n 0, 1) := by decide +kernel
theorem dX7_account_159 : decode cX7_account 159 = .ok (.getfield 12, 3) := by decide +kernel
theorem dX7_account_162 : decode cX7_account 162 = .ok (.getfield 274, 3) := by decide +kernel
theorem dX7_account_165 : decode cX7_account 165 = .ok (.ireturn, 1) := by decide +kernel
theorem dX7_account_166 : decode cX7_account 166 = .ok (.aload_n 0, 1) := by decide +kernel
theorem dX7_account_167 : decode cX7_account 167 = .ok (.getfield 12, 3) := by decide +kernel
theorem dX7_account_170 : decode cX7_account 170 = .ok (.getfield 121, 3) := by decide +kernel
theorem dX7_account_173 : decode cX7_account 173 = .ok (.invokevirtual 277, 3) := by decide +kernel
theorem dX7_account_176 : decode cX7_account 176 = .ok (.ireturn, 1) := by decide +kernel
theorem dX7_account_177 : decode cX7_account 177 = .ok (.aload_n 0, 1) := by decide +kernel
theorem dX7_account_178 : decode cX7_account 178 = .ok (.getfield 33, 3) := by decide +kernel
theorem dX7_account_181 : decode cX7_account 181 = .ok (.getfield 280, 3) := by decide +kernel
theorem dX7_account_184 : decode cX7_account 184 = .ok (.ireturn, 1) := by decide +kernel
theorem dX7_account_185 : decode cX7_account 185 = .ok (.aload_n 0, 1) := by decide +kernel
theorem dX7_account_186 : decode cX7_account 186 = .ok (.getfield 26, 3) := by decide +kernel
theorem dX7_account_189 : decode cX7_account 189 = .ok (.getfield 111, 3) := by decide +kernel
theorem dX7_account_192 : decode cX7_account 192 = .ok (.ireturn, 1) := by decide +kernel
theorem dX7_account_193 : decode cX7_account 193 = .ok (.bipush (-2), 2) := by decide +kernel
theorem dX7_account_195 : decode cX7_account 195 = .ok (.ireturn, 1) := by decide +kernel
theorem dX7_append_0 : decode cX7_append 0 = .ok (.iload_n 1, 1) := by decide +kernel
theorem dX7_append_1 : decode cX7_append 1 = .ok (.bipush 32, 2) := by decide +kernel
theorem dX7_append_3 : decode cX7_append 3 = .ok (.bipush 126, 2) := by decide +kernel
theorem dX7_append_5 : decode cX7_append 5 = .ok (.invokestatic 180, 3) := by decide +kernel
theorem dX7_append_8 : decode cX7_append 8 = .ok (.ifCond .ne 6, 3) := by decide +kernel
theorem dX7_append_11 : decode cX7_append 11 = .ok (.bipush (-2), 2) := by decide +kernel
theorem dX7_append_13 : decode cX7_append 13 = .ok (.ireturn, 1) := by decide +kernel
theorem dX7_append_14 : decode cX7_append 14 = .ok (.aload_n 0, 1) := by decide +kernel
theorem dX7_append_15 : decode cX7_append 15 = .ok (.getfield 33, 3) := by decide +kernel
theorem dX7_append_18 : decode cX7_append 18 = .ok (.getfield 280, 3) := by decide +kernel
theorem dX7_append_21 : decode cX7_append 21 = .ok (.bipush 60, 2) := by decide +kernel
theorem dX7_append_23 : decode cX7_append 23 = .ok (.if_icmp .lt 6, 3) := by decide +kernel
theorem dX7_append_26 : decode cX7_append 26 = .ok (.bipush (-4), 2) := by decide +kernel
theorem dX7_append_28 : decode cX7_append 28 = .ok (.ireturn, 1) := by decide +kernel
theorem dX7_append_29 : decode cX7_append 29 = .ok (.aload_n 0, 1) := by decide +kernel
theorem dX7_append_30 : decode cX7_append 30 = .ok (.getfield 33, 3) := by decide +kernel
theorem dX7_append_33 : decode cX7_append 33 = .ok (.iload_n 1, 1) := by decide +kernel
theorem dX7_append_34 : decode cX7_append 34 = .ok (.invokevirtual 285, 3) := by decide +kernel
theorem dX7_append_37 : decode cX7_append 37 = .ok (.aload_n 0, 1) := by decide +kernel
theorem dX7_append_38 : decode cX7_append 38 = .ok (.getfield 33, 3) := by decide +kernel
theorem dX7_append_41 : decode cX7_append 41 = .ok (.getfield 280, 3) := by decide +kernel
theorem dX7_append_44 : decode cX7_append 44 = .ok (.ireturn, 1) := by decide +kernel
theorem dX7_reason_0 : decode cX7_reason 0 = .ok (.iload_n 1, 1) := by decide +kernel
theorem dX7_reason_1 : decode cX7_reason 1 = .ok (.iconst 0, 1) := by decide +kernel
theorem dX7_reason_2 : decode cX7_reason 2 = .ok (.iconst 1, 1) := by decide +kernel
theorem dX7_reason_3 : decode cX7_reason 3 = .ok (.invokestatic 180, 3) := by decide +kernel
theorem dX7_reason_6 : decode cX7_reason 6 = .ok (.ifCond .ne 6, 3) := by decide +kernel
theorem dX7_reason_9 : decode cX7_reason 9 = .ok (.bipush (-2), 2) := by decide +kernel
theorem dX7_reason_11 : decode cX7_reason 11 = .ok (.ireturn, 1) := by decide +kernel
theorem dX7_reason_12 : decode cX7_reason 12 = .ok (.aload_n 0, 1) := by decide +kernel
theorem dX7_reason_13 : decode cX7_reason 13 = .ok (.getfield 51, 3) := by decide +kernel
theorem dX7_reason_16 : decode cX7_reason 16 = .ok (.ifCond .ne 6, 3) := by decide +kernel
theorem dX7_reason_19 : decode cX7_reason 19 = .ok (.bipush (-3), 2) := by decide +kernel
theorem dX7_reason_21 : decode cX7_reason 21 = .ok (.ireturn, 1) := by decide +kernel
theorem dX7_reason_22 : decode cX7_reason 22 = .ok (.iload_n 1, 1) := by decide +kernel
theorem dX7_reason_23 : decode cX7_reason 23 = .ok (.ifCond .ne 19, 3) := by decide +kernel
theorem dX7_reason_26 : decode cX7_reason 26 = .ok (.iload_n 2, 1) := by decide +kernel
theorem dX7_reason_27 : decode cX7_reason 27 = .ok (.ifCond .eq 10, 3) := by decide +kernel
theorem dX7_reason_30 : decode cX7_reason 30 = .ok (.aload_n 0, 1) := by decide +kernel
theorem dX7_reason_31 : decode cX7_reason 31 = .ok (.getfield 54, 3) := by decide +kernel
theorem dX7_reason_34 : decode cX7_reason 34 = .ok (.goto 7, 3) := by decide +kernel
theorem dX7_reason_37 : decode cX7_reason 37 = .ok (.aload_n 0, 1) := by decide +kernel
theorem dX7_reason_38 : decode cX7_reason 38 = .ok (.getfield 51, 3) := by decide +kernel
theorem dX7_reason_41 : decode cX7_reason 41 = .ok (.ireturn, 1) := by decide +kernel
theorem dX7_reason_42 : decode cX7_reason 42 = .ok (.aload_n 0, 1) := by decide +kernel
theorem dX7_reason_43 : decode cX7_reason 43 = .ok (.getfield 57, 3) := by decide +kernel
theorem dX7_reason_46 : decode cX7_reason 46 = .ok (.ifCond .ne 6, 3) := by decide +kernel
theorem dX7_reason_49 : decode cX7_reason 49 = .ok (.bipush (-6), 2) := by decide +kernel
theorem dX7_reason_51 : decode cX7_reason 51 = .ok (.ireturn, 1) := by decide +kernel
theorem dX7_reason_52 : decode cX7_reason 52 = .ok (.iload_n 2, 1) := by decide +kernel
theorem dX7_reason_53 : decode cX7_reason 53 = .ok (.ifCond .eq 10, 3) := by decide +kernel
theorem dX7_reason_56 : decode cX7_reason 56 = .ok (.aload_n 0, 1) := by decide +kernel
theorem dX7_reason_57 : decode cX7_reason 57 = .ok (.getfield 60, 3) := by decide +kernel
theorem dX7_reason_60 : decode cX7_reason 60 = .ok (.goto 7, 3) := by decide +kernel
theorem dX7_reason_63 : decode cX7_reason 63 = .ok (.aload_n 0, 1) := by decide +kernel
theorem dX7_reason_64 : decode cX7_reason 64 = .ok (.getfield 57, 3) := by decide +kernel
theorem dX7_reason_67 : decode cX7_reason 67 = .ok (.ireturn, 1) := by decide +kernel
theorem dX7_letCome_0 : decode cX7_letCome 0 = .ok (.iload_n 1, 1) := by decide +kernel
theorem dX7_letCome_1 : decode cX7_letCome 1 = .ok (.invokestatic 159, 3) := by decide +kernel
theorem dX7_letCome_4 : decode cX7_letCome 4 = .ok (.ifCond .ne 5, 3) := by decide +kernel
theorem dX7_letCome_7 : decode cX7_letCome 7 = .ok (.iconst (-1), 1) := by decide +kernel
theorem dX7_letCome_8 : decode cX7_letCome 8 = .ok (.ireturn, 1) := by decide +kernel
theorem dX7_letCome_9 : decode cX7_letCome 9 = .ok (.iload_n 2, 1) := by decide +kernel
theorem dX7_letCome_10 : decode cX7_letCome 10 = .ok (.iconst 1, 1) := by decide +kernel
theorem dX7_letCome_11 : decode cX7_letCome 11 = .ok (.bipush 30, 2) := by decide +kernel
theorem dX7_letCome_13 : decode cX7_letCome 13 = .ok (.invokestatic 180, 3) := by decide +kernel
theorem dX7_letCome_16 : decode cX7_letCome 16 = .ok (.ifCond .eq 24, 3) := by decide +kernel
theorem dX7_letCome_19 : decode cX7_letCome 19 = .ok (.iload_n 3, 1) := by decide +kernel
theorem dX7_letCome_20 : decode cX7_letCome 20 = .ok (.iconst 0, 1) := by decide +kernel
theorem dX7_letCome_21 : decode cX7_letCome 21 = .ok (.bipush 63, 2) := by decide +kernel
theorem dX7_letCome_23 : decode cX7_letCome 23 = .ok (.invokestatic 180, 3) := by decide +kernel
theorem dX7_letCome_26 : decode cX7_letCome 26 = .ok (.ifCond .eq 14, 3) := by decide +kernel
theorem dX7_letCome_29 : decode cX7_letCome 29 = .ok (.iload 4, 2) := by decide +kernel
theorem dX7_letCome_31 : decode cX7_letCome 31 = .ok (.iconst 1, 1) := by decide +kernel
theorem dX7_letCome_32 : decode cX7_letCome 32 = .ok (.bipush 9, 2) := by decide +kernel
theorem dX7_letCome_34 : decode cX7_letCome 34 = .ok (.invokestatic 180, 3) := by decide +kernel
theorem dX7_letCome_37 : decode cX7_letCome 37 = .ok (.ifCond .ne 6, 3) := by decide +kernel
theorem dX7_letCome_40 : decode cX7_letCome 40 = .ok (.bipush (-2), 2) := by decide +kernel
theorem dX7_letCome_42 : decode cX7_letCome 42 = .ok (.ireturn, 1) := by decide +kernel
theorem dX7_letCome_43 : decode cX7_letCome 43 = .ok (.aload_n 0, 1) := by decide +kernel
theorem dX7_letCome_44 : decode cX7_letCome 44 = .ok (.getfield 12, 3) := by decide +kernel
theorem dX7_letCome_47 : decode cX7_letCome 47 = .ok (.getfield 121, 3) := by decide +kernel
theorem dX7_letCome_50 : decode cX7_letCome 50 = .ok (.astore 5, 2) := by decide +kernel
theorem dX7_letCome_52 : decode cX7_letCome 52 = .ok (.aload_n 0, 1) := by decide +kernel
theorem dX7_letCome_53 : decode cX7_letCome 53 = .ok (.getfield 12, 3) := by decide +kernel
theorem dX7_letCome_56 : decode cX7_letCome 56 = .ok (.getfield 171, 3) := by decide +kernel
theorem dX7_letCome_59 : decode cX7_letCome 59 = .ok (.getfield 184, 3) := by decide +kernel
theorem dX7_letCome_62 : decode cX7_letCome 62 = .ok (.iload_n 3, 1) := by decide +kernel
theorem dX7_letCome_63 : decode cX7_letCome 63 = .ok (.invokevirtual 139, 3) := by decide +kernel
theorem dX7_letCome_66 : decode cX7_letCome 66 = .ok (.ifCond .eq 10, 3) := by decide +kernel
theorem dX7_letCome_69 : decode cX7_letCome 69 = .ok (.aload_n 0, 1) := by decide +kernel
theorem dX7_letCome_70 : decode cX7_letCome 70 = .ok (.iconst 3, 1) := by decide +kernel
theorem dX7_letCome_71 : decode cX7_letCome 71 = .ok (.iload_n 3, 1) := by decide +kernel
theorem dX7_letCome_72 : decode cX7_letCome 72 = .ok (.invokevirtual 295, 3) := by decide +kernel
theorem dX7_letCome_75 : decode cX7_letCome 75 = .ok (.ireturn, 1) := by decide +kernel
theorem dX7_letCome_76 : decode cX7_letCome 76 = .ok (.aload 5, 2) := by decide +kernel
theorem dX7_letCome_78 : decode cX7_letCome 78 = .ok (.iload_n 3, 1) := by decide +kernel
theorem dX7_letCome_79 : decode cX7_letCome 79 = .ok (.invokevirtual 298, 3) := by decide +kernel
theorem dX7_letCome_82 : decode cX7_letCome 82 = .ok (.istore 6, 2) := by decide +kernel
theorem dX7_letCome_84 : decode cX7_letCome 84 = .ok (.iload 6, 2) := by decide +kernel
theorem dX7_letCome_86 : decode cX7_letCome 86 = .ok (.iconst (-1), 1) := by decide +kernel
theorem dX7_letCome_87 : decode cX7_letCome 87 = .ok (.if_icmp .eq 11, 3) := by decide +kernel
theorem dX7_letCome_90 : decode cX7_letCome 90 = .ok (.aload_n 0, 1) := by decide +kernel
theorem dX7_letCome_91 : decode cX7_letCome 91 = .ok (.iconst 4, 1) := by decide +kernel
theorem dX7_letCome_92 : decode cX7_letCome 92 = .ok (.iload 6, 2) := by decide +kernel
theorem dX7_letCome_94 : decode cX7_letCome 94 = .ok (.invokevirtual 295, 3) := by decide +kernel
theorem dX7_letCome_97 : decode cX7_letCome 97 = .ok (.ireturn, 1) := by decide +kernel
theorem dX7_letCome_98 : decode cX7_letCome 98 = .ok (.aload 5, 2) := by decide +kernel
theorem dX7_letCome_100 : decode cX7_letCome 100 = .ok (.iload_n 1, 1) := by decide +kernel
theorem dX7_letCome_101 : decode cX7_letCome 101 = .ok (.iload_n 2, 1) := by decide +kernel
theorem dX7_letCome_102 : decode cX7_letCome 102 = .ok (.invokevirtual 301, 3) := by decide +kernel
theorem dX7_letCome_105 : decode cX7_letCome 105 = .ok (.istore 6, 2) := by decide +kernel
theorem dX7_letCome_107 : decode cX7_letCome 107 = .ok (.iload 6, 2) := by decide +kernel
theorem dX7_letCome_109 : decode cX7_letCome 109 = .ok (.iconst (-1), 1) := by decide +kernel
theorem dX7_letCome_110 : decode cX7_letCome 110 = .ok (.if_icmp .eq 11, 3) := by decide +kernel
theorem dX7_letCome_113 : decode cX7_letCome 113 = .ok (.aload_n 0, 1) := by decide +kernel
theorem dX7_letCome_114 : decode cX7_letCome 114 = .ok (.iconst 2, 1) := by decide +kernel
theorem dX7_letCome_115 : decode cX7_letCome 115 = .ok (.iload 6, 2) := by decide +kernel
theorem dX7_letCome_117 : decode cX7_letCome 117 = .ok (.invokevirtual 295, 3) := by decide +kernel
theorem dX7_letCome_120 : decode cX7_letCome 120 = .ok (.ireturn, 1) := by decide +kernel
theorem dX7_letCome_121 : decode cX7_letCome 121 = .ok (.aload 5, 2) := by decide +kernel
theorem dX7_letCome_123 : decode cX7_letCome 123 = .ok (.getfield 125, 3) := by decide +kernel
theorem dX7_letCome_126 : decode cX7_letCome 126 = .ok (.bipush 12, 2) := by decide +kernel
theorem dX7_letCome_128 : decode cX7_letCome 128 = .ok (.if_icmp .lt 14, 3) := by decide +kernel
theorem dX7_letCome_131 : decode cX7_letCome 131 = .ok (.aload_n 0, 1) := by decide +kernel
theorem dX7_letCome_132 : decode cX7_letCome 132 = .ok (.iconst 1, 1) := by decide +kernel
theorem dX7_letCome_133 : decode cX7_letCome 133 = .ok (.aload 5, 2) := by decide +kernel
theorem dX7_letCome_135 : decode cX7_letCome 135 = .ok (.getfield 125, 3) := by decide +kernel
theorem dX7_letCome_138 : decode cX7_letCome 138 = .ok (.invokevirtual 295, 3) := by decide +kernel
theorem dX7_letCome_141 : decode cX7_letCome 141 = .ok (.ireturn, 1) := by decide +kernel
theorem dX7_letCome_142 : decode cX7_letCome 142 = .ok (.aload 5, 2) := by decide +kernel
theorem dX7_letCome_144 : decode cX7_letCome 144 = .ok (.iload_n 1, 1) := by decide +kernel
theorem dX7_letCome_145 : decode cX7_letCome 145 = .ok (.invokevirtual 165, 3) := by decide +kernel
theorem dX7_letCome_148 : decode cX7_letCome 148 = .ok (.bipush 6, 2) := by decide +kernel
theorem dX7_letCome_150 : decode cX7_letCome 150 = .ok (.if_icmp .lt 15, 3) := by decide +kernel
theorem dX7_letCome_153 : decode cX7_letCome 153 = .ok (.aload_n 0, 1) := by decide +kernel
theorem dX7_letCome_154 : decode cX7_letCome 154 = .ok (.iconst 1, 1) := by decide +kernel
theorem dX7_letCome_155 : decode cX7_letCome 155 = .ok (.aload 5, 2) := by decide +kernel
theorem dX7_letCome_157 : decode cX7_letCome 157 = .ok (.iload_n 1, 1) := by decide +kernel
theorem dX7_letCome_158 : decode cX7_letCome 158 = .ok (.invokevirtual 165, 3) := by decide +kernel
theorem dX7_letCome_161 : decode cX7_letCome 161 = .ok (.invokevirtual 295, 3) := by decide +kernel
theorem dX7_letCome_164 : decode cX7_letCome 164 = .ok (.ireturn, 1) := by decide +kernel
theorem dX7_letCome_165 : decode cX7_letCome 165 = .ok (.aload 5, 2) := by decide +kernel
theorem dX7_letCome_167 : decode cX7_letCome 167 = .ok (.iload_n 1, 1) := by decide +kernel
theorem dX7_letCome_168 : decode cX7_letCome 168 = .ok (.iload_n 2, 1) := by decide +kernel
theorem dX7_letCome_169 : decode cX7_letCome 169 = .ok (.iload_n 3, 1) := by decide +kernel
theorem dX7_letCome_170 : decode cX7_letCome 170 = .ok (.iload 4, 2) := by decide +kernel
theorem dX7_letCome_172 : decode cX7_letCome 172 = .ok (.invokevirtual 304, 3) := by decide +kernel
theorem dX7_letCome_175 : decode cX7_letCome 175 = .ok (.aload_n 0, 1) := by decide +kernel
theorem dX7_letCome_176 : decode cX7_letCome 176 = .ok (.getfield 12, 3) := by decide +kernel
theorem dX7_letCome_179 : decode cX7_letCome 179 = .ok (.dup, 1) := by decide +kernel
theorem dX7_letCome_180 : decode cX7_letCome 180 = .ok (.getfield 252, 3) := by decide +kernel
theorem dX7_letCome_183 : decode cX7_letCome 183 = .ok (.iconst 1, 1) := by decide +kernel
theorem dX7_letCome_184 : decode cX7_letCome 184 = .ok (.iadd, 1) := by decide +kernel
theorem dX7_letCome_185 : decode cX7_letCome 185 = .ok (.putfield 252, 3) := by decide +kernel
theorem dX7_letCome_188 : decode cX7_letCome 188 = .ok (.aload 5, 2) := by decide +kernel
theorem dX7_letCome_190 : decode cX7_letCome 190 = .ok (.getfield 125, 3) := by decide +kernel
theorem dX7_letCome_193 : decode cX7_letCome 193 = .ok (.iconst 1, 1) := by decide +kernel
theorem dX7_letCome_194 : decode cX7_letCome 194 = .ok (.isub, 1) := by decide +kernel
theorem dX7_letCome_195 : decode cX7_letCome 195 = .ok (.ireturn, 1) := by decide +kernel
theorem dX7_makePrimed_0 : decode cX7_makePrimed 0 = .ok (.aload_n 0, 1) := by decide +kernel
theorem dX7_makePrimed_1 : decode cX7_makePrimed 1 = .ok (.getfield 12, 3) := by decide +kernel
theorem dX7_makePrimed_4 : decode cX7_makePrimed 4 = .ok (.getfield 121, 3) := by decide +kernel
theorem dX7_makePrimed_7 : decode cX7_makePrimed 7 = .ok (.iload_n 1, 1) := by decide +kernel
theorem dX7_makePrimed_8 : decode cX7_makePrimed 8 = .ok (.invokevirtual 131, 3) := by decide +kernel
theorem dX7_makePrimed_11 : decode cX7_makePrimed 11 = .ok (.ifCond .ne 5, 3) := by decide +kernel
theorem dX7_makePrimed_14 : decode cX7_makePrimed 14 = .ok (.iconst (-1), 1) := by decide +kernel
theorem dX7_makePrimed_15 : decode cX7_makePrimed 15 = .ok (.ireturn, 1) := by decide +kernel
theorem dX7_makePrimed_16 : decode cX7_makePrimed 16 = .ok (.aload_n 0, 1) := by decide +kernel
theorem dX7_makePrimed_17 : decode cX7_makePrimed 17 = .ok (.getfield 12, 3) := by decide +kernel
theorem dX7_makePrimed_20 : decode cX7_makePrimed 20 = .ok (.getfield 121, 3) := by decide +kernel
theorem dX7_makePrimed_23 : decode cX7_makePrimed 23 = .ok (.getfield 153, 3) := by decide +kernel
theorem dX7_makePrimed_26 : decode cX7_makePrimed 26 = .ok (.iload_n 1, 1) := by decide +kernel
theorem dX7_makePrimed_27 : decode cX7_makePrimed 27 = .ok (.invokevirtual 139, 3) := by decide +kernel
theorem dX7_makePrimed_30 : decode cX7_makePrimed 30 = .ok (.ifCond .eq 10, 3) := by decide +kernel
theorem dX7_makePrimed_33 : decode cX7_makePrimed 33 = .ok (.aload_n 0, 1) := by decide +kernel
theorem dX7_makePrimed_34 : decode cX7_makePrimed 34 = .ok (.iconst 5, 1) := by decide +kernel
theorem dX7_makePrimed_35 : decode cX7_makePrimed 35 = .ok (.iload_n 1, 1) := by decide +kernel
theorem dX7_makePrimed_36 : decode cX7_makePrimed 36 = .ok (.invokevirtual 295, 3) := by decide +kernel
theorem dX7_makePrimed_39 : decode cX7_makePrimed 39 = .ok (.ireturn, 1) := by decide +kernel
theorem dX7_makePrimed_40 : decode cX7_makePrimed 40 = .ok (.aload_n 0, 1) := by decide +kernel
theorem dX7_makePrimed_41 : decode cX7_makePrimed 41 = .ok (.getfield 12, 3) := by decide +kernel
theorem dX7_makePrimed_44 : decode cX7_makePrimed 44 = .ok (.getfield 268, 3) := by decide +kernel
theorem dX7_makePrimed_47 : decode cX7_makePrimed 47 = .ok (.ifCond .ne 17, 3) := by decide +kernel
theorem dX7_makePrimed_50 : decode cX7_makePrimed 50 = .ok (.aload_n 0, 1) := by decide +kernel
theorem dX7_makePrimed_51 : decode cX7_makePrimed 51 = .ok (.bipush 6, 2) := by decide +kernel
theorem dX7_makePrimed_53 : decode cX7_makePrimed 53 = .ok (.aload_n 0, 1) := by decide +kernel
theorem dX7_makePrimed_54 : decode cX7_makePrimed 54 = .ok (.getfield 12, 3) := by decide +kernel
theorem dX7_makePrimed_57 : decode cX7_makePrimed 57 = .ok (.getfield 235, 3) := by decide +kernel
theorem dX7_makePrimed_60 : decode cX7_makePrimed 60 = .ok (.invokevirtual 295, 3) := by decide +kernel
theorem dX7_makePrimed_63 : decode cX7_makePrimed 63 = .ok (.ireturn, 1) := by decide +kernel
theorem dX7_makePrimed_64 : decode cX7_makePrimed 64 = .ok (.aload_n 0, 1) := by decide +kernel
theorem dX7_makePrimed_65 : decode cX7_makePrimed 65 = .ok (.getfield 12, 3) := by decide +kernel
theorem dX7_makePrimed_68 : decode cX7_makePrimed 68 = .ok (.getfield 121, 3) := by decide +kernel
theorem dX7_makePrimed_71 : decode cX7_makePrimed 71 = .ok (.getfield 153, 3) := by decide +kernel
theorem dX7_makePrimed_74 : decode cX7_makePrimed 74 = .ok (.iload_n 1, 1) := by decide +kernel
theorem dX7_makePrimed_75 : decode cX7_makePrimed 75 = .ok (.iconst 1, 1) := by decide +kernel
theorem dX7_makePrimed_76 : decode cX7_makePrimed 76 = .ok (.invokevirtual 308, 3) := by decide +kernel
theorem dX7_makePrimed_79 : decode cX7_makePrimed 79 = .ok (.aload_n 0, 1) := by decide +kernel
theorem dX7_makePrimed_80 : decode cX7_makePrimed 80 = .ok (.getfield 12, 3) := by decide +kernel
theorem dX7_makePrimed_83 : decode cX7_makePrimed 83 = .ok (.dup, 1) := by decide +kernel
theorem dX7_makePrimed_84 : decode cX7_makePrimed 84 = .ok (.getfield 268, 3) := by decide +kernel
theorem dX7_makePrimed_87 : decode cX7_makePrimed 87 = .ok (.iconst 1, 1) := by decide +kernel
theorem dX7_makePrimed_88 : decode cX7_makePrimed 88 = .ok (.isub, 1) := by decide +kernel
theorem dX7_makePrimed_89 : decode cX7_makePrimed 89 = .ok (.putfield 268, 3) := by decide +kernel
theorem dX7_makePrimed_92 : decode cX7_makePrimed 92 = .ok (.aload_n 0, 1) := by decide +kernel
theorem dX7_makePrimed_93 : decode cX7_makePrimed 93 = .ok (.getfield 12, 3) := by decide +kernel
theorem dX7_makePrimed_96 : decode cX7_makePrimed 96 = .ok (.getfield 268, 3) := by decide +kernel
theorem dX7_makePrimed_99 : decode cX7_makePrimed 99 = .ok (.ireturn, 1) := by decide +kernel
theorem dX7_letGo_0 : decode cX7_letGo 0 = .ok (.aload_n 0, 1) := by decide +kernel
theorem dX7_letGo_1 : decode cX7_letGo 1 = .ok (.getfield 12, 3) := by decide +kernel
theorem dX7_letGo_4 : decode cX7_letGo 4 = .ok (.getfield 121, 3) := by decide +kernel
theorem dX7_letGo_7 : decode cX7_letGo 7 = .ok (.iload_n 1, 1) := by decide +kernel
theorem dX7_letGo_8 : decode cX7_letGo 8 = .ok (.invokevirtual 131, 3) := by decide +kernel
theorem dX7_letGo_11 : decode cX7_letGo 11 = .ok (.ifCond .ne 5, 3) := by decide +kernel
theorem dX7_letGo_14 : decode cX7_letGo 14 = .ok (.iconst (-1), 1) := by decide +kernel
theorem dX7_letGo_15 : decode cX7_letGo 15 = .ok (.ireturn, 1) := by decide +kernel
theorem dX7_letGo_16 : decode cX7_letGo 16 = .ok (.aload_n 0, 1) := by decide +kernel
theorem dX7_letGo_17 : decode cX7_letGo 17 = .ok (.getfield 12, 3) := by decide +kernel
theorem dX7_letGo_20 : decode cX7_letGo 20 = .ok (.getfield 121, 3) := by decide +kernel
theorem dX7_letGo_23 : decode cX7_letGo 23 = .ok (.iload_n 1, 1) := by decide +kernel
theorem dX7_letGo_24 : decode cX7_letGo 24 = .ok (.invokevirtual 312, 3) := by decide +kernel
theorem dX7_letGo_27 : decode cX7_letGo 27 = .ok (.aload_n 0, 1) := by decide +kernel
theorem dX7_letGo_28 : decode cX7_letGo 28 = .ok (.getfield 12, 3) := by decide +kernel
theorem dX7_letGo_31 : decode cX7_letGo 31 = .ok (.dup, 1) := by decide +kernel
theorem dX7_letGo_32 : decode cX7_letGo 32 = .ok (.getfield 255, 3) := by decide +kernel
theorem dX7_letGo_35 : decode cX7_letGo 35 = .ok (.iconst 1, 1) := by decide +kernel
theorem dX7_letGo_36 : decode cX7_letGo 36 = .ok (.iadd, 1) := by decide +kernel
theorem dX7_letGo_37 : decode cX7_letGo 37 = .ok (.putfield 255, 3) := by decide +kernel
theorem dX7_letGo_40 : decode cX7_letGo 40 = .ok (.aload_n 0, 1) := by decide +kernel
theorem dX7_letGo_41 : decode cX7_letGo 41 = .ok (.getfield 12, 3) := by decide +kernel
theorem dX7_letGo_44 : decode cX7_letGo 44 = .ok (.getfield 121, 3) := by decide +kernel
theorem dX7_letGo_47 : decode cX7_letGo 47 = .ok (.getfield 125, 3) := by decide +kernel
theorem dX7_letGo_50 : decode cX7_letGo 50 = .ok (.ireturn, 1) := by decide +kernel
theorem dX7_drainGroans_0 : decode cX7_drainGroans 0 = .ok (.iload_n 1, 1) := by decide +kernel
theorem dX7_drainGroans_1 : decode cX7_drainGroans 1 = .ok (.iconst 1, 1) := by decide +kernel
theorem dX7_drainGroans_2 : decode cX7_drainGroans 2 = .ok (.bipush 50, 2) := by decide +kernel
theorem dX7_drainGroans_4 : decode cX7_drainGroans 4 = .ok (.invokestatic 180, 3) := by decide +kernel
theorem dX7_drainGroans_7 : decode cX7_drainGroans 7 = .ok (.ifCond .ne 6, 3) := by decide +kernel
theorem dX7_drainGroans_10 : decode cX7_drainGroans 10 = .ok (.bipush (-2), 2) := by decide +kernel
theorem dX7_drainGroans_12 : decode cX7_drainGroans 12 = .ok (.ireturn, 1) := by decide +kernel
theorem dX7_drainGroans_13 : decode cX7_drainGroans 13 = .ok (.aload_n 0, 1) := by decide +kernel
theorem dX7_drainGroans_14 : decode cX7_drainGroans 14 = .ok (.getfield 12, 3) := by decide +kernel
theorem dX7_drainGroans_17 : decode cX7_drainGroans 17 = .ok (.getfield 235, 3) := by decide +kernel
theorem dX7_drainGroans_20 : decode cX7_drainGroans 20 = .ok (.iload_n 1, 1) := by decide +kernel
theorem dX7_drainGroans_21 : decode cX7_drainGroans 21 = .ok (.if_icmp .ge 17, 3) := by decide +kernel
theorem dX7_drainGroans_24 : decode cX7_drainGroans 24 = .ok (.aload_n 0, 1) := by decide +kernel
theorem dX7_drainGroans_25 : decode cX7_drainGroans 25 = .ok (.bipush 7, 2) := by decide +kernel
theorem dX7_drainGroans_27 : decode cX7_drainGroans 27 = .ok (.aload_n 0, 1) := by decide +kernel
theorem dX7_drainGroans_28 : decode cX7_drainGroans 28 = .ok (.getfield 12, 3) := by decide +kernel
theorem dX7_drainGroans_31 : decode cX7_drainGroans 31 = .ok (.getfield 235, 3) := by decide +kernel
theorem dX7_drainGroans_34 : decode cX7_drainGroans 34 = .ok (.invokevirtual 295, 3) := by decide +kernel
theorem dX7_drainGroans_37 : decode cX7_drainGroans 37 = .ok (.ireturn, 1) := by decide +kernel
theorem dX7_drainGroans_38 : decode cX7_drainGroans 38 = .ok (.aload_n 0, 1) := by decide +kernel
theorem dX7_drainGroans_39 : decode cX7_drainGroans 39 = .ok (.getfield 12, 3) := by decide +kernel
theorem dX7_drainGroans_42 : decode cX7_drainGroans 42 = .ok (.dup, 1) := by decide +kernel
theorem dX7_drainGroans_43 : decode cX7_drainGroans 43 = .ok (.getfield 235, 3) := by decide +kernel
theorem dX7_drainGroans_46 : decode cX7_drainGroans 46 = .ok (.iload_n 1, 1) := by decide +kernel
theorem dX7_drainGroans_47 : decode cX7_drainGroans 47 = .ok (.isub, 1) := by decide +kernel
theorem dX7_drainGroans_48 : decode cX7_drainGroans 48 = .ok (.putfield 235, 3) := by decide +kernel
theorem dX7_drainGroans_51 : decode cX7_drainGroans 51 = .ok (.aload_n 0, 1) := by decide +kernel
theorem dX7_drainGroans_52 : decode cX7_drainGroans 52 = .ok (.getfield 12, 3) := by decide +kernel
theorem dX7_drainGroans_55 : decode cX7_drainGroans 55 = .ok (.dup, 1) := by decide +kernel
theorem dX7_drainGroans_56 : decode cX7_drainGroans 56 = .ok (.getfield 274, 3) := by decide +kernel
theorem dX7_drainGroans_59 : decode cX7_drainGroans 59 = .ok (.iload_n 1, 1) := by decide +kernel
theorem dX7_drainGroans_60 : decode cX7_drainGroans 60 = .ok (.iadd, 1) := by decide +kernel
theorem dX7_drainGroans_61 : decode cX7_drainGroans 61 = .ok (.putfield 274, 3) := by decide +kernel
theorem dX7_drainGroans_64 : decode cX7_drainGroans 64 = .ok (.aload_n 0, 1) := by decide +kernel
theorem dX7_drainGroans_65 : decode cX7_drainGroans 65 = .ok (.getfield 12, 3) := by decide +kernel
theorem dX7_drainGroans_68 : decode cX7_drainGroans 68 = .ok (.bipush 9, 2) := by decide +kernel
theorem dX7_drainGroans_70 : decode cX7_drainGroans 70 = .ok (.aload_n 0, 1) := by decide +kernel
theorem dX7_drainGroans_71 : decode cX7_drainGroans 71 = .ok (.getfield 12, 3) := by decide +kernel
theorem dX7_drainGroans_74 : decode cX7_drainGroans 74 = .ok (.getfield 268, 3) := by decide +kernel
theorem dX7_drainGroans_77 : decode cX7_drainGroans 77 = .ok (.iload_n 1, 1) := by decide +kernel
theorem dX7_drainGroans_78 : decode cX7_drainGroans 78 = .ok (.bipush 10, 2) := by decide +kernel
theorem dX7_drainGroans_80 : decode cX7_drainGroans 80 = .ok (.idiv, 1) := by decide +kernel
theorem dX7_drainGroans_81 : decode cX7_drainGroans 81 = .ok (.iadd, 1) := by decide +kernel
theorem dX7_drainGroans_82 : decode cX7_drainGroans 82 = .ok (.invokestatic 244, 3) := by decide +kernel
theorem dX7_drainGroans_85 : decode cX7_drainGroans 85 = .ok (.putfield 268, 3) := by decide +kernel
theorem dX7_drainGroans_88 : decode cX7_drainGroans 88 = .ok (.aload_n 0, 1) := by decide +kernel
theorem dX7_drainGroans_89 : decode cX7_drainGroans 89 = .ok (.getfield 12, 3) := by decide +kernel
theorem dX7_drainGroans_92 : decode cX7_drainGroans 92 = .ok (.getfield 268, 3) := by decide +kernel
theorem dX7_drainGroans_95 : decode cX7_drainGroans 95 = .ok (.ireturn, 1) := by decide +kernel
theorem dX7_setStroke_0 : decode cX7_setStroke 0 = .ok (.iload_n 1, 1) := by decide +kernel
theorem dX7_setStroke_1 : decode cX7_setStroke 1 = .ok (.iconst 1, 1) := by decide +kernel
theorem dX7_setStroke_2 : decode cX7_setStroke 2 = .ok (.bipush 10, 2) := by decide +kernel
theorem dX7_setStroke_4 : decode cX7_setStroke 4 = .ok (.invokestatic 180, 3) := by decide +kernel
theorem dX7_setStroke_7 : decode cX7_setStroke 7 = .ok (.ifCond .ne 6, 3) := by decide +kernel
theorem dX7_setStroke_10 : decode cX7_setStroke 10 = .ok (.bipush (-2), 2) := by decide +kernel
theorem dX7_setStroke_12 : decode cX7_setStroke 12 = .ok (.ireturn, 1) := by decide +kernel
theorem dX7_setStroke_13 : decode cX7_setStroke 13 = .ok (.aload_n 0, 1) := by decide +kernel
theorem dX7_setStroke_14 : decode cX7_setStroke 14 = .ok (.getfield 12, 3) := by decide +kernel
theorem dX7_setStroke_17 : decode cX7_setStroke 17 = .ok (.getfield 229, 3) := by decide +kernel
theorem dX7_setStroke_20 : decode cX7_setStroke 20 = .ok (.iload_n 1, 1) := by decide +kernel
theorem dX7_setStroke_21 : decode cX7_setStroke 21 = .ok (.if_icmp .ne 10, 3) := by decide +kernel
theorem dX7_setStroke_24 : decode cX7_setStroke 24 = .ok (.aload_n 0, 1) := by decide +kernel
theorem dX7_setStroke_25 : decode cX7_setStroke 25 = .ok (.iconst 5, 1) := by decide +kernel
theorem dX7_setStroke_26 : decode cX7_setStroke 26 = .ok (.iload_n 1, 1) := by decide +kernel
theorem dX7_setStroke_27 : decode cX7_setStroke 27 = .ok (.invokevirtual 295, 3) := by decide +kernel
theorem dX7_setStroke_30 : decode cX7_setStroke 30 = .ok (.ireturn, 1) := by decide +kernel
theorem dX7_setStroke_31 : decode cX7_setStroke 31 = .ok (.aload_n 0, 1) := by decide +kernel
theorem dX7_setStroke_32 : decode cX7_setStroke 32 = .ok (.getfield 12, 3) := by decide +kernel
theorem dX7_setStroke_35 : decode cX7_setStroke 35 = .ok (.getfield 229, 3) := by decide +kernel
theorem dX7_setStroke_38 : decode cX7_setStroke 38 = .ok (.istore_n 2, 1) := by decide +kernel
theorem dX7_setStroke_39 : decode cX7_setStroke 39 = .ok (.aload_n 0, 1) := by decide +kernel
theorem dX7_setStroke_40 : decode cX7_setStroke 40 = .ok (.getfield 12, 3) := by decide +kernel
theorem dX7_setStroke_43 : decode cX7_setStroke 43 = .ok (.iload_n 1, 1) := by decide +kernel
theorem dX7_setStroke_44 : decode cX7_setStroke 44 = .ok (.putfield 229, 3) := by decide +kernel
theorem dX7_setStroke_47 : decode cX7_setStroke 47 = .ok (.iload_n 2, 1) := by decide +kernel
theorem dX7_setStroke_48 : decode cX7_setStroke 48 = .ok (.ireturn, 1) := by decide +kernel
theorem dX7_setBucket_0 : decode cX7_setBucket 0 = .ok (.iload_n 1, 1) := by decide +kernel
theorem dX7_setBucket_1 : decode cX7_setBucket 1 = .ok (.invokestatic 159, 3) := by decide +kernel
theorem dX7_setBucket_4 : decode cX7_setBucket 4 = .ok (.ifCond .ne 5, 3) := by decide +kernel
theorem dX7_setBucket_7 : decode cX7_setBucket 7 = .ok (.iconst (-1), 1) := by decide +kernel
theorem dX7_setBucket_8 : decode cX7_setBucket 8 = .ok (.ireturn, 1) := by decide +kernel
theorem dX7_setBucket_9 : decode cX7_setBucket 9 = .ok (.iload_n 2, 1) := by decide +kernel
theorem dX7_setBucket_10 : decode cX7_setBucket 10 = .ok (.iconst 1, 1) := by decide +kernel
theorem dX7_setBucket_11 : decode cX7_setBucket 11 = .ok (.iconst 5, 1) := by decide +kernel
theorem dX7_setBucket_12 : decode cX7_setBucket 12 = .ok (.invokestatic 180, 3) := by decide +kernel
theorem dX7_setBucket_15 : decode cX7_setBucket 15 = .ok (.ifCond .ne 6, 3) := by decide +kernel
theorem dX7_setBucket_18 : decode cX7_setBucket 18 = .ok (.bipush (-2), 2) := by decide +kernel
theorem dX7_setBucket_20 : decode cX7_setBucket 20 = .ok (.ireturn, 1) := by decide +kernel
theorem dX7_setBucket_21 : decode cX7_setBucket 21 = .ok (.aload_n 0, 1) := by decide +kernel
theorem dX7_setBucket_22 : decode cX7_setBucket 22 = .ok (.getfield 12, 3) := by decide +kernel
theorem dX7_setBucket_25 : decode cX7_setBucket 25 = .ok (.getfield 162, 3) := by decide +kernel
theorem dX7_setBucket_28 : decode cX7_setBucket 28 = .ok (.iload_n 1, 1) := by decide +kernel
theorem dX7_setBucket_29 : decode cX7_setBucket 29 = .ok (.invokevirtual 139, 3) := by decide +kernel
theorem dX7_setBucket_32 : decode cX7_setBucket 32 = .ok (.istore_n 3, 1) := by decide +kernel
theorem dX7_setBucket_33 : decode cX7_setBucket 33 = .ok (.iload_n 3, 1) := by decide +kernel
theorem dX7_setBucket_34 : decode cX7_setBucket 34 = .ok (.iload_n 2, 1) := by decide +kernel
theorem dX7_setBucket_35 : decode cX7_setBucket 35 = .ok (.if_icmp .ne 10, 3) := by decide +kernel
theorem dX7_setBucket_38 : decode cX7_setBucket 38 = .ok (.aload_n 0, 1) := by decide +kernel
theorem dX7_setBucket_39 : decode cX7_setBucket 39 = .ok (.iconst 5, 1) := by decide +kernel
theorem dX7_setBucket_40 : decode cX7_setBucket 40 = .ok (.iload_n 1, 1) := by decide +kernel
theorem dX7_setBucket_41 : decode cX7_setBucket 41 = .ok (.invokevirtual 295, 3) := by decide +kernel
theorem dX7_setBucket_44 : decode cX7_setBucket 44 = .ok (.ireturn, 1) := by decide +kernel
theorem dX7_setBucket_45 : decode cX7_setBucket 45 = .ok (.aload_n 0, 1) := by decide +kernel
theorem dX7_setBucket_46 : decode cX7_setBucket 46 = .ok (.getfield 12, 3) := by decide +kernel
theorem dX7_setBucket_49 : decode cX7_setBucket 49 = .ok (.getfield 162, 3) := by decide +kernel
theorem dX7_setBucket_52 : decode cX7_setBucket 52 = .ok (.iload_n 1, 1) := by decide +kernel
theorem dX7_setBucket_53 : decode cX7_setBucket 53 = .ok (.iload_n 2, 1) := by decide +kernel
theorem dX7_setBucket_54 : decode cX7_setBucket 54 = .ok (.invokevirtual 308, 3) := by decide +kernel
theorem dX7_setBucket_57 : decode cX7_setBucket 57 = .ok (.iload_n 3, 1) := by decide +kernel
theorem dX7_setBucket_58 : decode cX7_setBucket 58 = .ok (.ireturn, 1) := by decide +kernel
theorem dX7_moveTo_0 : decode cX7_moveTo 0 = .ok (.iload_n 1, 1) := by decide +kernel
theorem dX7_moveTo_1 : decode cX7_moveTo 1 = .ok (.invokestatic 159, 3) := by decide +kernel
theorem dX7_moveTo_4 : decode cX7_moveTo 4 = .ok (.ifCond .ne 5, 3) := by decide +kernel
theorem dX7_moveTo_7 : decode cX7_moveTo 7 = .ok (.iconst (-1), 1) := by decide +kernel
theorem dX7_moveTo_8 : decode cX7_moveTo 8 = .ok (.ireturn, 1) := by decide +kernel
theorem dX7_moveTo_9 : decode cX7_moveTo 9 = .ok (.aload_n 0, 1) := by decide +kernel
theorem dX7_moveTo_10 : decode cX7_moveTo 10 = .ok (.getfield 12, 3) := by decide +kernel
theorem dX7_moveTo_13 : decode cX7_moveTo 13 = .ok (.getfield 241, 3) := by decide +kernel
theorem dX7_moveTo_16 : decode cX7_moveTo 16 = .ok (.iload_n 1, 1) := by decide +kernel
theorem dX7_moveTo_17 : decode cX7_moveTo 17 = .ok (.if_icmp .ne 10, 3) := by decide +kernel
theorem dX7_moveTo_20 : decode cX7_moveTo 20 = .ok (.aload_n 0, 1) := by decide +kernel
theorem dX7_moveTo_21 : decode cX7_moveTo 21 = .ok (.iconst 5, 1) := by decide +kernel
theorem dX7_moveTo_22 : decode cX7_moveTo 22 = .ok (.iload_n 1, 1) := by decide +kernel
theorem dX7_moveTo_23 : decode cX7_moveTo 23 = .ok (.invokevirtual 295, 3) := by decide +kernel
theorem dX7_moveTo_26 : decode cX7_moveTo 26 = .ok (.ireturn, 1) := by decide +kernel
theorem dX7_moveTo_27 : decode cX7_moveTo 27 = .ok (.aload_n 0, 1) := by decide +kernel
theorem dX7_moveTo_28 : decode cX7_moveTo 28 = .ok (.getfield 12, 3) := by decide +kernel
theorem dX7_moveTo_31 : decode cX7_moveTo 31 = .ok (.getfield 241, 3) := by decide +kernel
theorem dX7_moveTo_34 : decode cX7_moveTo 34 = .ok (.istore_n 2, 1) := by decide +kernel
theorem dX7_moveTo_35 : decode cX7_moveTo 35 = .ok (.aload_n 0, 1) := by decide +kernel
theorem dX7_moveTo_36 : decode cX7_moveTo 36 = .ok (.getfield 12, 3) := by decide +kernel
theorem dX7_moveTo_39 : decode cX7_moveTo 39 = .ok (.iload_n 1, 1) := by decide +kernel
theorem dX7_moveTo_40 : decode cX7_moveTo 40 = .ok (.putfield 241, 3) := by decide +kernel
theorem dX7_moveTo_43 : decode cX7_moveTo 43 = .ok (.aload_n 0, 1) := by decide +kernel
theorem dX7_moveTo_44 : decode cX7_moveTo 44 = .ok (.getfield 12, 3) := by decide +kernel
theorem dX7_moveTo_47 : decode cX7_moveTo 47 = .ok (.iconst 0, 1) := by decide +kernel
theorem dX7_moveTo_48 : decode cX7_moveTo 48 = .ok (.putfield 226, 3) := by decide +kernel
theorem dX7_moveTo_51 : decode cX7_moveTo 51 = .ok (.iload_n 2, 1) := by decide +kernel
theorem dX7_moveTo_52 : decode cX7_moveTo 52 = .ok (.ireturn, 1) := by decide +kernel
theorem dX7_makeStrokes_0 : decode cX7_makeStrokes 0 = .ok (.iload_n 1, 1) := by decide +kernel
theorem dX7_makeStrokes_1 : decode cX7_makeStrokes 1 = .ok (.iconst 1, 1) := by decide +kernel
theorem dX7_makeStrokes_2 : decode cX7_makeStrokes 2 = .ok (.bipush 9, 2) := by decide +kernel
theorem dX7_makeStrokes_4 : decode cX7_makeStrokes 4 = .ok (.invokestatic 180, 3) := by decide +kernel
theorem dX7_makeStrokes_7 : decode cX7_makeStrokes 7 = .ok (.ifCond .ne 6, 3) := by decide +kernel
theorem dX7_makeStrokes_10 : decode cX7_makeStrokes 10 = .ok (.bipush (-2), 2) := by decide +kernel
theorem dX7_makeStrokes_12 : decode cX7_makeStrokes 12 = .ok (.ireturn, 1) := by decide +kernel
theorem dX7_makeStrokes_13 : decode cX7_makeStrokes 13 = .ok (.aload_n 0, 1) := by decide +kernel
theorem dX7_makeStrokes_14 : decode cX7_makeStrokes 14 = .ok (.getfield 12, 3) := by decide +kernel
theorem dX7_makeStrokes_17 : decode cX7_makeStrokes 17 = .ok (.getfield 235, 3) := by decide +kernel
theorem dX7_makeStrokes_20 : decode cX7_makeStrokes 20 = .ok (.bipush 40, 2) := by decide +kernel
theorem dX7_makeStrokes_22 : decode cX7_makeStrokes 22 = .ok (.if_icmp .le 17, 3) := by decide +kernel
theorem dX7_makeStrokes_25 : decode cX7_makeStrokes 25 = .ok (.aload_n 0, 1) := by decide +kernel
theorem dX7_makeStrokes_26 : decode cX7_makeStrokes 26 = .ok (.bipush 8, 2) := by decide +kernel
theorem dX7_makeStrokes_28 : decode cX7_makeStrokes 28 = .ok (.aload_n 0, 1) := by decide +kernel
theorem dX7_makeStrokes_29 : decode cX7_makeStrokes 29 = .ok (.getfield 12, 3) := by decide +kernel
theorem dX7_makeStrokes_32 : decode cX7_makeStrokes 32 = .ok (.getfield 235, 3) := by decide +kernel
theorem dX7_makeStrokes_35 : decode cX7_makeStrokes 35 = .ok (.invokevirtual 295, 3) := by decide +kernel
theorem dX7_makeStrokes_38 : decode cX7_makeStrokes 38 = .ok (.ireturn, 1) := by decide +kernel
theorem dX7_makeStrokes_39 : decode cX7_makeStrokes 39 = .ok (.iconst 0, 1) := by decide +kernel
theorem dX7_makeStrokes_40 : decode cX7_makeStrokes 40 = .ok (.istore_n 2, 1) := by decide +kernel
theorem dX7_makeStrokes_41 : decode cX7_makeStrokes 41 = .ok (.iconst 0, 1) := by decide +kernel
theorem dX7_makeStrokes_42 : decode cX7_makeStrokes 42 = .ok (.istore_n 3, 1) := by decide +kernel
theorem dX7_makeStrokes_43 : decode cX7_makeStrokes 43 = .ok (.iload_n 3, 1) := by decide +kernel
theorem dX7_makeStrokes_44 : decode cX7_makeStrokes 44 = .ok (.iload_n 1, 1) := by decide +kernel
theorem dX7_makeStrokes_45 : decode cX7_makeStrokes 45 = .ok (.if_icmp .ge 31, 3) := by decide +kernel
theorem dX7_makeStrokes_48 : decode cX7_makeStrokes 48 = .ok (.aload_n 0, 1) := by decide +kernel
theorem dX7_makeStrokes_49 : decode cX7_makeStrokes 49 = .ok (.getfield 12, 3) := by decide +kernel
theorem dX7_makeStrokes_52 : decode cX7_makeStrokes 52 = .ok (.getfield 235, 3) := by decide +kernel
theorem dX7_makeStrokes_55 : decode cX7_makeStrokes 55 = .ok (.bipush 40, 2) := by decide +kernel
theorem dX7_makeStrokes_57 : decode cX7_makeStrokes 57 = .ok (.if_icmp .gt 19, 3) := by decide +kernel
theorem dX7_makeStrokes_60 : decode cX7_makeStrokes 60 = .ok (.iload_n 2, 1) := by decide +kernel
theorem dX7_makeStrokes_61 : decode cX7_makeStrokes 61 = .ok (.aload_n 0, 1) := by decide +kernel
theorem dX7_makeStrokes_62 : decode cX7_makeStrokes 62 = .ok (.getfield 12, 3) := by decide +kernel
theorem dX7_makeStrokes_65 : decode cX7_makeStrokes 65 = .ok (.invokevirtual 315, 3) := by decide +kernel
theorem dX7_makeStrokes_68 : decode cX7_makeStrokes 68 = .ok (.iadd, 1) := by decide +kernel
theorem dX7_makeStrokes_69 : decode cX7_makeStrokes 69 = .ok (.istore_n 2, 1) := by decide +kernel
theorem dX7_makeStrokes_70 : decode cX7_makeStrokes 70 = .ok (.iinc 3 1, 3) := by decide +kernel
theorem dX7_makeStrokes_73 : decode cX7_makeStrokes 73 = .ok (.goto (-30), 3) := by decide +kernel
theorem dX7_makeStrokes_76 : decode cX7_makeStrokes 76 = .ok (.iload_n 2, 1) := by decide +kernel
theorem dX7_makeStrokes_77 : decode cX7_makeStrokes 77 = .ok (.ireturn, 1) := by decide +kernel
theorem dX7_keepChange_0 : decode cX7_keepChange 0 = .ok (.iload_n 1, 1) := by decide +kernel
theorem dX7_keepChange_1 : decode cX7_keepChange 1 = .ok (.ifCond .lt 10, 3) := by decide +kernel
theorem dX7_keepChange_4 : decode cX7_keepChange 4 = .ok (.aload_n 0, 1) := by decide +kernel
theorem dX7_keepChange_5 : decode cX7_keepChange 5 = .ok (.getfield 26, 3) := by decide +kernel
theorem dX7_keepChange_8 : decode cX7_keepChange 8 = .ok (.invokevirtual 318, 3) := by decide +kernel
theorem dX7_keepChange_11 : decode cX7_keepChange 11 = .ok (.iload_n 1, 1) := by decide +kernel
theorem dX7_keepChange_12 : decode cX7_keepChange 12 = .ok (.ireturn, 1) := by decide +kernel
theorem dX7_refuse_0 : decode cX7_refuse 0 = .ok (.aload_n 0, 1) := by decide +kernel
theorem dX7_refuse_1 : decode cX7_refuse 1 = .ok (.iload_n 1, 1) := by decide +kernel
theorem dX7_refuse_2 : decode cX7_refuse 2 = .ok (.putfield 51, 3) := by decide +kernel
theorem dX7_refuse_5 : decode cX7_refuse 5 = .ok (.aload_n 0, 1) := by decide +kernel
theorem dX7_refuse_6 : decode cX7_refuse 6 = .ok (.iload_n 2, 1) := by decide +kernel
theorem dX7_refuse_7 : decode cX7_refuse 7 = .ok (.putfield 54, 3) := by decide +kernel
theorem dX7_refuse_10 : decode cX7_refuse 10 = .ok (.aload_n 0, 1) := by decide +kernel
theorem dX7_refuse_11 : decode cX7_refuse 11 = .ok (.iconst 0, 1) := by decide +kernel
theorem dX7_refuse_12 : decode cX7_refuse 12 = .ok (.putfield 57, 3) := by decide +kernel
theorem dX7_refuse_15 : decode cX7_refuse 15 = .ok (.aload_n 0, 1) := by decide +kernel
theorem dX7_refuse_16 : decode cX7_refuse 16 = .ok (.iconst 0, 1) := by decide +kernel
theorem dX7_refuse_17 : decode cX7_refuse 17 = .ok (.putfield 60, 3) := by decide +kernel
theorem dX7_refuse_20 : decode cX7_refuse 20 = .ok (.bipush (-5), 2) := by decide +kernel
theorem dX7_refuse_22 : decode cX7_refuse 22 = .ok (.ireturn, 1) := by decide +kernel
theorem dX7_doCommands_0 : decode cX7_doCommands 0 = .ok (.iconst 0, 1) := by decide +kernel
theorem dX7_doCommands_1 : decode cX7_doCommands 1 = .ok (.istore_n 1, 1) := by decide +kernel
theorem dX7_doCommands_2 : decode cX7_doCommands 2 = .ok (.iload_n 1, 1) := by decide +kernel
theorem dX7_doCommands_3 : decode cX7_doCommands 3 = .ok (.aload_n 0, 1) := by decide +kernel
theorem dX7_doCommands_4 : decode cX7_doCommands 4 = .ok (.getfield 43, 3) := by decide +kernel
theorem dX7_doCommands_7 : decode cX7_doCommands 7 = .ok (.getfield 321, 3) := by decide +kernel
theorem dX7_doCommands_10 : decode cX7_doCommands 10 = .ok (.if_icmp .ge 47, 3) := by decide +kernel
theorem dX7_doCommands_13 : decode cX7_doCommands 13 = .ok (.aload_n 0, 1) := by decide +kernel
theorem dX7_doCommands_14 : decode cX7_doCommands 14 = .ok (.iload_n 1, 1) := by decide +kernel
theorem dX7_doCommands_15 : decode cX7_doCommands 15 = .ok (.invokevirtual 322, 3) := by decide +kernel
theorem dX7_doCommands_18 : decode cX7_doCommands 18 = .ok (.istore_n 2, 1) := by decide +kernel
theorem dX7_doCommands_19 : decode cX7_doCommands 19 = .ok (.iload_n 2, 1) := by decide +kernel
theorem dX7_doCommands_20 : decode cX7_doCommands 20 = .ok (.ifCond .ge 31, 3) := by decide +kernel
theorem dX7_doCommands_23 : decode cX7_doCommands 23 = .ok (.aload_n 0, 1) := by decide +kernel
theorem dX7_doCommands_24 : decode cX7_doCommands 24 = .ok (.getfield 26, 3) := by decide +kernel
theorem dX7_doCommands_27 : decode cX7_doCommands 27 = .ok (.aload_n 0, 1) := by decide +kernel
theorem dX7_doCommands_28 : decode cX7_doCommands 28 = .ok (.getfield 12, 3) := by decide +kernel
theorem dX7_doCommands_31 : decode cX7_doCommands 31 = .ok (.invokevirtual 325, 3) := by decide +kernel
theorem dX7_doCommands_34 : decode cX7_doCommands 34 = .ok (.aload_n 0, 1) := by decide +kernel
theorem dX7_doCommands_35 : decode cX7_doCommands 35 = .ok (.iload_n 1, 1) := by decide +kernel
theorem dX7_doCommands_36 : decode cX7_doCommands 36 = .ok (.iload_n 2, 1) := by decide +kernel
theorem dX7_doCommands_37 : decode cX7_doCommands 37 = .ok (.bipush (-5), 2) := by decide +kernel
theorem dX7_doCommands_39 : decode cX7_doCommands 39 = .ok (.if_icmp .ne 7, 3) := by decide +kernel
theorem dX7_doCommands_42 : decode cX7_doCommands 42 = .ok (.iconst 1, 1) := by decide +kernel
theorem dX7_doCommands_43 : decode cX7_doCommands 43 = .ok (.goto 4, 3) := by decide +kernel
theorem dX7_doCommands_46 : decode cX7_doCommands 46 = .ok (.iconst 0, 1) := by decide +kernel
theorem dX7_doCommands_47 : decode cX7_doCommands 47 = .ok (.invokevirtual 328, 3) := by decide +kernel
theorem dX7_doCommands_50 : decode cX7_doCommands 50 = .ok (.ireturn, 1) := by decide +kernel
theorem dX7_doCommands_51 : decode cX7_doCommands 51 = .ok (.iinc 1 1, 3) := by decide +kernel
theorem dX7_doCommands_54 : decode cX7_doCommands 54 = .ok (.goto (-52), 3) := by decide +kernel
theorem dX7_doCommands_57 : decode cX7_doCommands 57 = .ok (.aload_n 0, 1) := by decide +kernel
theorem dX7_doCommands_58 : decode cX7_doCommands 58 = .ok (.getfield 43, 3) := by decide +kernel
theorem dX7_doCommands_61 : decode cX7_doCommands 61 = .ok (.getfield 321, 3) := by decide +kernel
theorem dX7_doCommands_64 : decode cX7_doCommands 64 = .ok (.ireturn, 1) := by decide +kernel
theorem dX7_doCommand_0 : decode cX7_doCommand 0 = .ok (.aload_n 0, 1) := by decide +kernel
theorem dX7_doCommand_1 : decode cX7_doCommand 1 = .ok (.getfield 43, 3) := by decide +kernel
theorem dX7_doCommand_4 : decode cX7_doCommand 4 = .ok (.iload_n 1, 1) := by decide +kernel
theorem dX7_doCommand_5 : decode cX7_doCommand 5 = .ok (.iconst 0, 1) := by decide +kernel
theorem dX7_doCommand_6 : decode cX7_doCommand 6 = .ok (.invokevirtual 332, 3) := by decide +kernel
theorem dX7_doCommand_9 : decode cX7_doCommand 9 = .ok (.istore_n 2, 1) := by decide +kernel
theorem dX7_doCommand_10 : decode cX7_doCommand 10 = .ok (.aload_n 0, 1) := by decide +kernel
theorem dX7_doCommand_11 : decode cX7_doCommand 11 = .ok (.getfield 43, 3) := by decide +kernel
theorem dX7_doCommand_14 : decode cX7_doCommand 14 = .ok (.iload_n 1, 1) := by decide +kernel
theorem dX7_doCommand_15 : decode cX7_doCommand 15 = .ok (.iconst 1, 1) := by decide +kernel
theorem dX7_doCommand_16 : decode cX7_doCommand 16 = .ok (.invokevirtual 332, 3) := by decide +kernel
theorem dX7_doCommand_19 : decode cX7_doCommand 19 = .ok (.istore_n 3, 1) := by decide +kernel
theorem dX7_doCommand_20 : decode cX7_doCommand 20 = .ok (.aload_n 0, 1) := by decide +kernel
theorem dX7_doCommand_21 : decode cX7_doCommand 21 = .ok (.getfield 43, 3) := by decide +kernel
theorem dX7_doCommand_24 : decode cX7_doCommand 24 = .ok (.getfield 335, 3) := by decide +kernel
theorem dX7_doCommand_27 : decode cX7_doCommand 27 = .ok (.iload_n 1, 1) := by decide +kernel
theorem dX7_doCommand_28 : decode cX7_doCommand 28 = .ok (.invokevirtual 139, 3) := by decide +kernel
theorem dX7_doCommand_31 : decode cX7_doCommand 31 = .ok (.tableswitch 113 0 7 #[45, 70, 76, 82, 88, 94, 101, 107], 45) := by decide +kernel
theorem dX7_doCommand_76 : decode cX7_doCommand 76 = .ok (.aload_n 0, 1) := by decide +kernel
theorem dX7_doCommand_77 : decode cX7_doCommand 77 = .ok (.iload_n 2, 1) := by decide +kernel
theorem dX7_doCommand_78 : decode cX7_doCommand 78 = .ok (.iload_n 3, 1) := by decide +kernel
theorem dX7_doCommand_79 : decode cX7_doCommand 79 = .ok (.aload_n 0, 1) := by decide +kernel
theorem dX7_doCommand_80 : decode cX7_doCommand 80 = .ok (.getfield 43, 3) := by decide +kernel
theorem dX7_doCommand_83 : decode cX7_doCommand 83 = .ok (.iload_n 1, 1) := by decide +kernel
theorem dX7_doCommand_84 : decode cX7_doCommand 84 = .ok (.iconst 2, 1) := by decide +kernel
theorem dX7_doCommand_85 : decode cX7_doCommand 85 = .ok (.invokevirtual 332, 3) := by decide +kernel
theorem dX7_doCommand_88 : decode cX7_doCommand 88 = .ok (.aload_n 0, 1) := by decide +kernel
theorem dX7_doCommand_89 : decode cX7_doCommand 89 = .ok (.getfield 43, 3) := by decide +kernel
theorem dX7_doCommand_92 : decode cX7_doCommand 92 = .ok (.iload_n 1, 1) := by decide +kernel
theorem dX7_doCommand_93 : decode cX7_doCommand 93 = .ok (.iconst 3, 1) := by decide +kernel
theorem dX7_doCommand_94 : decode cX7_doCommand 94 = .ok (.invokevirtual 332, 3) := by decide +kernel
theorem dX7_doCommand_97 : decode cX7_doCommand 97 = .ok (.invokevirtual 67, 3) := by decide +kernel
theorem dX7_doCommand_100 : decode cX7_doCommand 100 = .ok (.ireturn, 1) := by decide +kernel
theorem dX7_doCommand_101 : decode cX7_doCommand 101 = .ok (.aload_n 0, 1) := by decide +kernel
theorem dX7_doCommand_102 : decode cX7_doCommand 102 = .ok (.iload_n 2, 1) := by decide +kernel
theorem dX7_doCommand_103 : decode cX7_doCommand 103 = .ok (.invokevirtual 75, 3) := by decide +kernel
theorem dX7_doCommand_106 : decode cX7_doCommand 106 = .ok (.ireturn, 1) := by decide +kernel
theorem dX7_doCommand_107 : decode cX7_doCommand 107 = .ok (.aload_n 0, 1) := by decide +kernel
theorem dX7_doCommand_108 : decode cX7_doCommand 108 = .ok (.iload_n 2, 1) := by decide +kernel
theorem dX7_doCommand_109 : decode cX7_doCommand 109 = .ok (.invokevirtual 78, 3) := by decide +kernel
theorem dX7_doCommand_112 : decode cX7_doCommand 112 = .ok (.ireturn, 1) := by decide +kernel
theorem dX7_doCommand_113 : decode cX7_doCommand 113 = .ok (.aload_n 0, 1) := by decide +kernel
theorem dX7_doCommand_114 : decode cX7_doCommand 114 = .ok (.iload_n 2, 1) := by decide +kernel
theorem dX7_doCommand_115 : decode cX7_doCommand 115 = .ok (.invokevirtual 81, 3) := by decide +kernel
theorem dX7_doCommand_118 : decode cX7_doCommand 118 = .ok (.ireturn, 1) := by decide +kernel
theorem dX7_doCommand_119 : decode cX7_doCommand 119 = .ok (.aload_n 0, 1) := by decide +kernel
theorem dX7_doCommand_120 : decode cX7_doCommand 120 = .ok (.iload_n 2, 1) := by decide +kernel
theorem dX7_doCommand_121 : decode cX7_doCommand 121 = .ok (.invokevirtual 84, 3) := by decide +kernel
theorem dX7_doCommand_124 : decode cX7_doCommand 124 = .ok (.ireturn, 1) := by decide +kernel
theorem dX7_doCommand_125 : decode cX7_doCommand 125 = .ok (.aload_n 0, 1) := by decide +kernel
theorem dX7_doCommand_126 : decode cX7_doCommand 126 = .ok (.iload_n 2, 1) := by decide +kernel
theorem dX7_doCommand_127 : decode cX7_doCommand 127 = .ok (.iload_n 3, 1) := by decide +kernel
theorem dX7_doCommand_128 : decode cX7_doCommand 128 = .ok (.invokevirtual 87, 3) := by decide +kernel
theorem dX7_doCommand_131 : decode cX7_doCommand 131 = .ok (.ireturn, 1) := by decide +kernel
theorem dX7_doCommand_132 : decode cX7_doCommand 132 = .ok (.aload_n 0, 1) := by decide +kernel
theorem dX7_doCommand_133 : decode cX7_doCommand 133 = .ok (.iload_n 2, 1) := by decide +kernel
theorem dX7_doCommand_134 : decode cX7_doCommand 134 = .ok (.invokevirtual 91, 3) := by decide +kernel
theorem dX7_doCommand_137 : decode cX7_doCommand 137 = .ok (.ireturn, 1) := by decide +kernel
theorem dX7_doCommand_138 : decode cX7_doCommand 138 = .ok (.aload_n 0, 1) := by decide +kernel
theorem dX7_doCommand_139 : decode cX7_doCommand 139 = .ok (.iload_n 2, 1) := by decide +kernel
theorem dX7_doCommand_140 : decode cX7_doCommand 140 = .ok (.invokevirtual 94, 3) := by decide +kernel
theorem dX7_doCommand_143 : decode cX7_doCommand 143 = .ok (.ireturn, 1) := by decide +kernel
theorem dX7_doCommand_144 : decode cX7_doCommand 144 = .ok (.bipush (-2), 2) := by decide +kernel
theorem dX7_doCommand_146 : decode cX7_doCommand 146 = .ok (.ireturn, 1) := by decide +kernel
theorem dX7_refuseCommand_0 : decode cX7_refuseCommand 0 = .ok (.iload_n 2, 1) := by decide +kernel
theorem dX7_refuseCommand_1 : decode cX7_refuseCommand 1 = .ok (.ifCond .eq 10, 3) := by decide +kernel
theorem dX7_refuseCommand_4 : decode cX7_refuseCommand 4 = .ok (.aload_n 0, 1) := by decide +kernel
theorem dX7_refuseCommand_5 : decode cX7_refuseCommand 5 = .ok (.getfield 51, 3) := by decide +kernel
theorem dX7_refuseCommand_8 : decode cX7_refuseCommand 8 = .ok (.goto 4, 3) := by decide +kernel
theorem dX7_refuseCommand_11 : decode cX7_refuseCommand 11 = .ok (.iconst 0, 1) := by decide +kernel
theorem dX7_refuseCommand_12 : decode cX7_refuseCommand 12 = .ok (.istore_n 3, 1) := by decide +kernel
theorem dX7_refuseCommand_13 : decode cX7_refuseCommand 13 = .ok (.iload_n 2, 1) := by decide +kernel
theorem dX7_refuseCommand_14 : decode cX7_refuseCommand 14 = .ok (.ifCond .eq 10, 3) := by decide +kernel
theorem dX7_refuseCommand_17 : decode cX7_refuseCommand 17 = .ok (.aload_n 0, 1) := by decide +kernel
theorem dX7_refuseCommand_18 : decode cX7_refuseCommand 18 = .ok (.getfield 54, 3) := by decide +kernel
theorem dX7_refuseCommand_21 : decode cX7_refuseCommand 21 = .ok (.goto 4, 3) := by decide +kernel
theorem dX7_refuseCommand_24 : decode cX7_refuseCommand 24 = .ok (.iconst 0, 1) := by decide +kernel
theorem dX7_refuseCommand_25 : decode cX7_refuseCommand 25 = .ok (.istore 4, 2) := by decide +kernel
theorem dX7_refuseCommand_27 : decode cX7_refuseCommand 27 = .ok (.aload_n 0, 1) := by decide +kernel
theorem dX7_refuseCommand_28 : decode cX7_refuseCommand 28 = .ok (.bipush 9, 2) := by decide +kernel
theorem dX7_refuseCommand_30 : decode cX7_refuseCommand 30 = .ok (.iload_n 1, 1) := by decide +kernel
theorem dX7_refuseCommand_31 : decode cX7_refuseCommand 31 = .ok (.invokevirtual 295, 3) := by decide +kernel
theorem dX7_refuseCommand_34 : decode cX7_refuseCommand 34 = .ok (.pop, 1) := by decide +kernel
theorem dX7_refuseCommand_35 : decode cX7_refuseCommand 35 = .ok (.aload_n 0, 1) := by decide +kernel
theorem dX7_refuseCommand_36 : decode cX7_refuseCommand 36 = .ok (.iload_n 3, 1) := by decide +kernel
theorem dX7_refuseCommand_37 : decode cX7_refuseCommand 37 = .ok (.putfield 57, 3) := by decide +kernel
theorem dX7_refuseCommand_40 : decode cX7_refuseCommand 40 = .ok (.aload_n 0, 1) := by decide +kernel
theorem dX7_refuseCommand_41 : decode cX7_refuseCommand 41 = .ok (.iload 4, 2) := by decide +kernel
theorem dX7_refuseCommand_43 : decode cX7_refuseCommand 43 = .ok (.putfield 60, 3) := by decide +kernel
theorem dX7_refuseCommand_46 : decode cX7_refuseCommand 46 = .ok (.bipush (-5), 2) := by decide +kernel
theorem dX7_refuseCommand_48 : decode cX7_refuseCommand 48 = .ok (.ireturn, 1) := by decide +kernel
theorem dX7_leastDepth_0 : decode cX7_leastDepth 0 = .ok (.aload_n 0, 1) := by decide +kernel
theorem dX7_leastDepth_1 : decode cX7_leastDepth 1 = .ok (.getfield 12, 3) := by decide +kernel
theorem dX7_leastDepth_4 : decode cX7_leastDepth 4 = .ok (.getfield 121, 3) := by decide +kernel
theorem dX7_leastDepth_7 : decode cX7_leastDepth 7 = .ok (.iload_n 1, 1) := by decide +kernel
theorem dX7_leastDepth_8 : decode cX7_leastDepth 8 = .ok (.iconst 0, 1) := by decide +kernel
theorem dX7_leastDepth_9 : decode cX7_leastDepth 9 = .ok (.invokevirtual 187, 3) := by decide +kernel
theorem dX7_leastDepth_12 : decode cX7_leastDepth 12 = .ok (.istore_n 2, 1) := by decide +kernel
theorem dX7_leastDepth_13 : decode cX7_leastDepth 13 = .ok (.iload_n 2, 1) := by decide +kernel
theorem dX7_leastDepth_14 : decode cX7_leastDepth 14 = .ok (.iconst (-1), 1) := by decide +kernel
theorem dX7_leastDepth_15 : decode cX7_leastDepth 15 = .ok (.if_icmp .ne 7, 3) := by decide +kernel
theorem dX7_leastDepth_18 : decode cX7_leastDepth 18 = .ok (.iconst 0, 1) := by decide +kernel
theorem dX7_leastDepth_19 : decode cX7_leastDepth 19 = .ok (.goto 17, 3) := by decide +kernel
theorem dX7_leastDepth_22 : decode cX7_leastDepth 22 = .ok (.aload_n 0, 1) := by decide +kernel
theorem dX7_leastDepth_23 : decode cX7_leastDepth 23 = .ok (.getfield 12, 3) := by decide +kernel
theorem dX7_leastDepth_26 : decode cX7_leastDepth 26 = .ok (.getfield 121, 3) := by decide +kernel
theorem dX7_leastDepth_29 : decode cX7_leastDepth 29 = .ok (.getfield 144, 3) := by decide +kernel
theorem dX7_leastDepth_32 : decode cX7_leastDepth 32 = .ok (.iload_n 2, 1) := by decide +kernel
theorem dX7_leastDepth_33 : decode cX7_leastDepth 33 = .ok (.invokevirtual 139, 3) := by decide +kernel
theorem dX7_leastDepth_36 : decode cX7_leastDepth 36 = .ok (.ireturn, 1) := by decide +kernel
theorem dX7_countFunnier_0 : decode cX7_countFunnier 0 = .ok (.iconst 0, 1) := by decide +kernel
theorem dX7_countFunnier_1 : decode cX7_countFunnier 1 = .ok (.istore_n 2, 1) := by decide +kernel
theorem dX7_countFunnier_2 : decode cX7_countFunnier 2 = .ok (.iconst 0, 1) := by decide +kernel
theorem dX7_countFunnier_3 : decode cX7_countFunnier 3 = .ok (.istore_n 3, 1) := by decide +kernel
theorem dX7_countFunnier_4 : decode cX7_countFunnier 4 = .ok (.iload_n 3, 1) := by decide +kernel
theorem dX7_countFunnier_5 : decode cX7_countFunnier 5 = .ok (.aload_n 0, 1) := by decide +kernel
theorem dX7_countFunnier_6 : decode cX7_countFunnier 6 = .ok (.getfield 12, 3) := by decide +kernel
theorem dX7_countFunnier_9 : decode cX7_countFunnier 9 = .ok (.getfield 121, 3) := by decide +kernel
theorem dX7_countFunnier_12 : decode cX7_countFunnier 12 = .ok (.getfield 125, 3) := by decide +kernel
theorem dX7_countFunnier_15 : decode cX7_countFunnier 15 = .ok (.if_icmp .ge 21, 3) := by decide +kernel
theorem dX7_countFunnier_18 : decode cX7_countFunnier 18 = .ok (.aload_n 0, 1) := by decide +kernel
theorem dX7_countFunnier_19 : decode cX7_countFunnier 19 = .ok (.iload_n 3, 1) := by decide +kernel
theorem dX7_countFunnier_20 : decode cX7_countFunnier 20 = .ok (.iload_n 1, 1) := by decide +kernel
theorem dX7_countFunnier_21 : decode cX7_countFunnier 21 = .ok (.invokevirtual 338, 3) := by decide +kernel
theorem dX7_countFunnier_24 : decode cX7_countFunnier 24 = .ok (.ifCond .eq 6, 3) := by decide +kernel
theorem dX7_countFunnier_27 : decode cX7_countFunnier 27 = .ok (.iinc 2 1, 3) := by decide +kernel
theorem dX7_countFunnier_30 : decode cX7_countFunnier 30 = .ok (.iinc 3 1, 3) := by decide +kernel
theorem dX7_countFunnier_33 : decode cX7_countFunnier 33 = .ok (.goto (-29), 3) := by decide +kernel
theorem dX7_countFunnier_36 : decode cX7_countFunnier 36 = .ok (.iload_n 2, 1) := by decide +kernel
theorem dX7_countFunnier_37 : decode cX7_countFunnier 37 = .ok (.ireturn, 1) := by decide +kernel
theorem dX7_isFunnier_0 : decode cX7_isFunnier 0 = .ok (.aload_n 0, 1) := by decide +kernel
theorem dX7_isFunnier_1 : decode cX7_isFunnier 1 = .ok (.getfield 12, 3) := by decide +kernel
theorem dX7_isFunnier_4 : decode cX7_isFunnier 4 = .ok (.iload_n 1, 1) := by decide +kernel
theorem dX7_isFunnier_5 : decode cX7_isFunnier 5 = .ok (.aload_n 0, 1) := by decide +kernel
theorem dX7_isFunnier_6 : decode cX7_isFunnier 6 = .ok (.getfield 12, 3) := by decide +kernel
theorem dX7_isFunnier_9 : decode cX7_isFunnier 9 = .ok (.getfield 235, 3) := by decide +kernel
theorem dX7_isFunnier_12 : decode cX7_isFunnier 12 = .ok (.invokevirtual 199, 3) := by decide +kernel
theorem dX7_isFunnier_15 : decode cX7_isFunnier 15 = .ok (.fstore_n 3, 1) := by decide +kernel
theorem dX7_isFunnier_16 : decode cX7_isFunnier 16 = .ok (.aload_n 0, 1) := by decide +kernel
theorem dX7_isFunnier_17 : decode cX7_isFunnier 17 = .ok (.getfield 12, 3) := by decide +kernel
theorem dX7_isFunnier_20 : decode cX7_isFunnier 20 = .ok (.iload_n 2, 1) := by decide +kernel
theorem dX7_isFunnier_21 : decode cX7_isFunnier 21 = .ok (.aload_n 0, 1) := by decide +kernel
theorem dX7_isFunnier_22 : decode cX7_isFunnier 22 = .ok (.getfield 12, 3) := by decide +kernel
theorem dX7_isFunnier_25 : decode cX7_isFunnier 25 = .ok (.getfield 235, 3) := by decide +kernel
theorem dX7_isFunnier_28 : decode cX7_isFunnier 28 = .ok (.invokevirtual 199, 3) := by decide +kernel
theorem dX7_isFunnier_31 : decode cX7_isFunnier 31 = .ok (.fstore 4, 2) := by decide +kernel
theorem dX7_isFunnier_33 : decode cX7_isFunnier 33 = .ok (.fload_n 3, 1) := by decide +kernel
theorem dX7_isFunnier_34 : decode cX7_isFunnier 34 = .ok (.fload 4, 2) := by decide +kernel
theorem dX7_isFunnier_36 : decode cX7_isFunnier 36 = .ok (.fcmp .l, 1) := by decide +kernel
theorem dX7_isFunnier_37 : decode cX7_isFunnier 37 = .ok (.ifCond .eq 16, 3) := by decide +kernel
theorem dX7_isFunnier_40 : decode cX7_isFunnier 40 = .ok (.fload_n 3, 1) := by decide +kernel
theorem dX7_isFunnier_41 : decode cX7_isFunnier 41 = .ok (.fload 4, 2) := by decide +kernel
theorem dX7_isFunnier_43 : decode cX7_isFunnier 43 = .ok (.fcmp .l, 1) := by decide +kernel
theorem dX7_isFunnier_44 : decode cX7_isFunnier 44 = .ok (.ifCond .le 7, 3) := by decide +kernel
theorem dX7_isFunnier_47 : decode cX7_isFunnier 47 = .ok (.iconst 1, 1) := by decide +kernel
theorem dX7_isFunnier_48 : decode cX7_isFunnier 48 = .ok (.goto 4, 3) := by decide +kernel
theorem dX7_isFunnier_51 : decode cX7_isFunnier 51 = .ok (.iconst 0, 1) := by decide +kernel
theorem dX7_isFunnier_52 : decode cX7_isFunnier 52 = .ok (.ireturn, 1) := by decide +kernel
theorem dX7_isFunnier_53 : decode cX7_isFunnier 53 = .ok (.aload_n 0, 1) := by decide +kernel
theorem dX7_isFunnier_54 : decode cX7_isFunnier 54 = .ok (.getfield 12, 3) := by decide +kernel
theorem dX7_isFunnier_57 : decode cX7_isFunnier 57 = .ok (.getfield 121, 3) := by decide +kernel
theorem dX7_isFunnier_60 : decode cX7_isFunnier 60 = .ok (.getfield 144, 3) := by decide +kernel
theorem dX7_isFunnier_63 : decode cX7_isFunnier 63 = .ok (.iload_n 1, 1) := by decide +kernel
theorem dX7_isFunnier_64 : decode cX7_isFunnier 64 = .ok (.invokevirtual 139, 3) := by decide +kernel
theorem dX7_isFunnier_67 : decode cX7_isFunnier 67 = .ok (.istore 5, 2) := by decide +kernel
theorem dX7_isFunnier_69 : decode cX7_isFunnier 69 = .ok (.aload_n 0, 1) := by decide +kernel
theorem dX7_isFunnier_70 : decode cX7_isFunnier 70 = .ok (.getfield 12, 3) := by decide +kernel
theorem dX7_isFunnier_73 : decode cX7_isFunnier 73 = .ok (.getfield 121, 3) := by decide +kernel
theorem dX7_isFunnier_76 : decode cX7_isFunnier 76 = .ok (.getfield 144, 3) := by decide +kernel
theorem dX7_isFunnier_79 : decode cX7_isFunnier 79 = .ok (.iload_n 2, 1) := by decide +kernel
theorem dX7_isFunnier_80 : decode cX7_isFunnier 80 = .ok (.invokevirtual 139, 3) := by decide +kernel
theorem dX7_isFunnier_83 : decode cX7_isFunnier 83 = .ok (.istore 6, 2) := by decide +kernel
theorem dX7_isFunnier_85 : decode cX7_isFunnier 85 = .ok (.iload 5, 2) := by decide +kernel
theorem dX7_isFunnier_87 : decode cX7_isFunnier 87 = .ok (.iload 6, 2) := by decide +kernel
theorem dX7_isFunnier_89 : decode cX7_isFunnier 89 = .ok (.if_icmp .eq 18, 3) := by decide +kernel
theorem dX7_isFunnier_92 : decode cX7_isFunnier 92 = .ok (.iload 5, 2) := by decide +kernel
theorem dX7_isFunnier_94 : decode cX7_isFunnier 94 = .ok (.iload 6, 2) := by decide +kernel
theorem dX7_isFunnier_96 : decode cX7_isFunnier 96 = .ok (.if_icmp .ge 7, 3) := by decide +kernel
theorem dX7_isFunnier_99 : decode cX7_isFunnier 99 = .ok (.iconst 1, 1) := by decide +kernel
theorem dX7_isFunnier_100 : decode cX7_isFunnier 100 = .ok (.goto 17, 3) := by decide +kernel
theorem dX7_isFunnier_103 : decode cX7_isFunnier 103 = .ok (.iconst 0, 1) := by decide +kernel
theorem dX7_isFunnier_104 : decode cX7_isFunnier 104 = .ok (.goto 13, 3) := by decide +kernel
theorem dX7_isFunnier_107 : decode cX7_isFunnier 107 = .ok (.iload_n 1, 1) := by decide +kernel
theorem dX7_isFunnier_108 : decode cX7_isFunnier 108 = .ok (.iload_n 2, 1) := by decide +kernel
theorem dX7_isFunnier_109 : decode cX7_isFunnier 109 = .ok (.if_icmp .ge 7, 3) := by decide +kernel
theorem dX7_isFunnier_112 : decode cX7_isFunnier 112 = .ok (.iconst 1, 1) := by decide +kernel
theorem dX7_isFunnier_113 : decode cX7_isFunnier 113 = .ok (.goto 4, 3) := by decide +kernel
theorem dX7_isFunnier_116 : decode cX7_isFunnier 116 = .ok (.iconst 0, 1) := by decide +kernel
theorem dX7_isFunnier_117 : decode cX7_isFunnier 117 = .ok (.ireturn, 1) := by decide +kernel
theorem dX7_countFuller_0 : decode cX7_countFuller 0 = .ok (.iconst 0, 1) := by decide +kernel
theorem dX7_countFuller_1 : decode cX7_countFuller 1 = .ok (.istore_n 2, 1) := by decide +kernel
theorem dX7_countFuller_2 : decode cX7_countFuller 2 = .ok (.iconst 0, 1) := by decide +kernel
theorem dX7_countFuller_3 : decode cX7_countFuller 3 = .ok (.istore_n 3, 1) := by decide +kernel
theorem dX7_countFuller_4 : decode cX7_countFuller 4 = .ok (.iload_n 3, 1) := by decide +kernel
theorem dX7_countFuller_5 : decode cX7_countFuller 5 = .ok (.iconst 4, 1) := by decide +kernel
theorem dX7_countFuller_6 : decode cX7_countFuller 6 = .ok (.if_icmp .ge 21, 3) := by decide +kernel
theorem dX7_countFuller_9 : decode cX7_countFuller 9 = .ok (.aload_n 0, 1) := by decide +kernel
theorem dX7_countFuller_10 : decode cX7_countFuller 10 = .ok (.iload_n 3, 1) := by decide +kernel
theorem dX7_countFuller_11 : decode cX7_countFuller 11 = .ok (.iload_n 1, 1) := by decide +kernel
theorem dX7_countFuller_12 : decode cX7_countFuller 12 = .ok (.invokevirtual 342, 3) := by decide +kernel
theorem dX7_countFuller_15 : decode cX7_countFuller 15 = .ok (.ifCond .eq 6, 3) := by decide +kernel
theorem dX7_countFuller_18 : decode cX7_countFuller 18 = .ok (.iinc 2 1, 3) := by decide +kernel
theorem dX7_countFuller_21 : decode cX7_countFuller 21 = .ok (.iinc 3 1, 3) := by decide +kernel
theorem dX7_countFuller_24 : decode cX7_countFuller 24 = .ok (.goto (-20), 3) := by decide +kernel
theorem dX7_countFuller_27 : decode cX7_countFuller 27 = .ok (.iload_n 2, 1) := by decide +kernel
theorem dX7_countFuller_28 : decode cX7_countFuller 28 = .ok (.ireturn, 1) := by decide +kernel
theorem dX7_isFuller_0 : decode cX7_isFuller 0 = .ok (.aload_n 0, 1) := by decide +kernel
theorem dX7_isFuller_1 : decode cX7_isFuller 1 = .ok (.getfield 12, 3) := by decide +kernel
theorem dX7_isFuller_4 : decode cX7_isFuller 4 = .ok (.getfield 121, 3) := by decide +kernel
theorem dX7_isFuller_7 : decode cX7_isFuller 7 = .ok (.iload_n 1, 1) := by decide +kernel
theorem dX7_isFuller_8 : decode cX7_isFuller 8 = .ok (.invokevirtual 165, 3) := by decide +kernel
theorem dX7_isFuller_11 : decode cX7_isFuller 11 = .ok (.istore_n 3, 1) := by decide +kernel
theorem dX7_isFuller_12 : decode cX7_isFuller 12 = .ok (.aload_n 0, 1) := by decide +kernel
theorem dX7_isFuller_13 : decode cX7_isFuller 13 = .ok (.getfield 12, 3) := by decide +kernel
theorem dX7_isFuller_16 : decode cX7_isFuller 16 = .ok (.getfield 121, 3) := by decide +kernel
theorem dX7_isFuller_19 : decode cX7_isFuller 19 = .ok (.iload_n 2, 1) := by decide +kernel
theorem dX7_isFuller_20 : decode cX7_isFuller 20 = .ok (.invokevirtual 165, 3) := by decide +kernel
theorem dX7_isFuller_23 : decode cX7_isFuller 23 = .ok (.istore 4, 2) := by decide +kernel
theorem dX7_isFuller_25 : decode cX7_isFuller 25 = .ok (.iload_n 3, 1) := by decide +kernel
theorem dX7_isFuller_26 : decode cX7_isFuller 26 = .ok (.iload 4, 2) := by decide +kernel
theorem dX7_isFuller_28 : decode cX7_isFuller 28 = .ok (.if_icmp .eq 15, 3) := by decide +kernel
theorem dX7_isFuller_31 : decode cX7_isFuller 31 = .ok (.iload_n 3, 1) := by decide +kernel
theorem dX7_isFuller_32 : decode cX7_isFuller 32 = .ok (.iload 4, 2) := by decide +kernel
theorem dX7_isFuller_34 : decode cX7_isFuller 34 = .ok (.if_icmp .le 7, 3) := by decide +kernel
theorem dX7_isFuller_37 : decode cX7_isFuller 37 = .ok (.iconst 1, 1) := by decide +kernel
theorem dX7_isFuller_38 : decode cX7_isFuller 38 = .ok (.goto 4, 3) := by decide +kernel
theorem dX7_isFuller_41 : decode cX7_isFuller 41 = .ok (.iconst 0, 1) := by decide +kernel
theorem dX7_isFuller_42 : decode cX7_isFuller 42 = .ok (.ireturn, 1) := by decide +kernel
theorem dX7_isFuller_43 : decode cX7_isFuller 43 = .ok (.aload_n 0, 1) := by decide +kernel
theorem dX7_isFuller_44 : decode cX7_isFuller 44 = .ok (.getfield 12, 3) := by decide +kernel
theorem dX7_isFuller_47 : decode cX7_isFuller 47 = .ok (.getfield 162, 3) := by decide +kernel
theorem dX7_isFuller_50 : decode cX7_isFuller 50 = .ok (.iload_n 1, 1) := by decide +kernel
theorem dX7_isFuller_51 : decode cX7_isFuller 51 = .ok (.invokevirtual 139, 3) := by decide +kernel
theorem dX7_isFuller_54 : decode cX7_isFuller 54 = .ok (.istore 5, 2) := by decide +kernel
theorem dX7_isFuller_56 : decode cX7_isFuller 56 = .ok (.aload_n 0, 1) := by decide +kernel
theorem dX7_isFuller_57 : decode cX7_isFuller 57 = .ok (.getfield 12, 3) := by decide +kernel
theorem dX7_isFuller_60 : decode cX7_isFuller 60 = .ok (.getfield 162, 3) := by decide +kernel
theorem dX7_isFuller_63 : decode cX7_isFuller 63 = .ok (.iload_n 2, 1) := by decide +kernel
theorem dX7_isFuller_64 : decode cX7_isFuller 64 = .ok (.invokevirtual 139, 3) := by decide +kernel
theorem dX7_isFuller_67 : decode cX7_isFuller 67 = .ok (.istore 6, 2) := by decide +kernel
theorem dX7_isFuller_69 : decode cX7_isFuller 69 = .ok (.iload 5, 2) := by decide +kernel
theorem dX7_isFuller_71 : decode cX7_isFuller 71 = .ok (.iload 6, 2) := by decide +kernel
theorem dX7_isFuller_73 : decode cX7_isFuller 73 = .ok (.if_icmp .eq 18, 3) := by decide +kernel
theorem dX7_isFuller_76 : decode cX7_isFuller 76 = .ok (.iload 5, 2) := by decide +kernel
theorem dX7_isFuller_78 : decode cX7_isFuller 78 = .ok (.iload 6, 2) := by decide +kernel
theorem dX7_isFuller_80 : decode cX7_isFuller 80 = .ok (.if_icmp .le 7, 3) := by decide +kernel
theorem dX7_isFuller_83 : decode cX7_isFuller 83 = .ok (.iconst 1, 1) := by decide +kernel
theorem dX7_isFuller_84 : decode cX7_isFuller 84 = .ok (.goto 17, 3) := by decide +kernel
theorem dX7_isFuller_87 : decode cX7_isFuller 87 = .ok (.iconst 0, 1) := by decide +kernel
theorem dX7_isFuller_88 : decode cX7_isFuller 88 = .ok (.goto 13, 3) := by decide +kernel
theorem dX7_isFuller_91 : decode cX7_isFuller 91 = .ok (.iload_n 1, 1) := by decide +kernel
theorem dX7_isFuller_92 : decode cX7_isFuller 92 = .ok (.iload_n 2, 1) := by decide +kernel
theorem dX7_isFuller_93 : decode cX7_isFuller 93 = .ok (.if_icmp .ge 7, 3) := by decide +kernel
theorem dX7_isFuller_96 : decode cX7_isFuller 96 = .ok (.iconst 1, 1) := by decide +kernel
theorem dX7_isFuller_97 : decode cX7_isFuller 97 = .ok (.goto 4, 3) := by decide +kernel
theorem dX7_isFuller_100 : decode cX7_isFuller 100 = .ok (.iconst 0, 1) := by decide +kernel
theorem dX7_isFuller_101 : decode cX7_isFuller 101 = .ok (.ireturn, 1) := by decide +kernel
theorem dX7_groansToReach_0 : decode cX7_groansToReach 0 = .ok (.aload_n 0, 1) := by decide +kernel
theorem dX7_groansToReach_1 : decode cX7_groansToReach 1 = .ok (.getfield 12, 3) := by decide +kernel
theorem dX7_groansToReach_4 : decode cX7_groansToReach 4 = .ok (.getfield 226, 3) := by decide +kernel
theorem dX7_groansToReach_7 : decode cX7_groansToReach 7 = .ok (.iload_n 2, 1) := by decide +kernel
theorem dX7_groansToReach_8 : decode cX7_groansToReach 8 = .ok (.invokestatic 232, 3) := by decide +kernel
theorem dX7_groansToReach_11 : decode cX7_groansToReach 11 = .ok (.istore_n 3, 1) := by decide +kernel
theorem dX7_groansToReach_12 : decode cX7_groansToReach 12 = .ok (.iload_n 3, 1) := by decide +kernel
theorem dX7_groansToReach_13 : decode cX7_groansToReach 13 = .ok (.invokestatic 238, 3) := by decide +kernel
theorem dX7_groansToReach_16 : decode cX7_groansToReach 16 = .ok (.istore 4, 2) := by decide +kernel
theorem dX7_groansToReach_18 : decode cX7_groansToReach 18 = .ok (.iconst 0, 1) := by decide +kernel
theorem dX7_groansToReach_19 : decode cX7_groansToReach 19 = .ok (.istore 5, 2) := by decide +kernel
theorem dX7_groansToReach_21 : decode cX7_groansToReach 21 = .ok (.iload 5, 2) := by decide +kernel
theorem dX7_groansToReach_23 : decode cX7_groansToReach 23 = .ok (.bipush 30, 2) := by decide +kernel
theorem dX7_groansToReach_25 : decode cX7_groansToReach 25 = .ok (.if_icmp .ge 29, 3) := by decide +kernel
theorem dX7_groansToReach_28 : decode cX7_groansToReach 28 = .ok (.iload_n 3, 1) := by decide +kernel
theorem dX7_groansToReach_29 : decode cX7_groansToReach 29 = .ok (.iload_n 1, 1) := by decide +kernel
theorem dX7_groansToReach_30 : decode cX7_groansToReach 30 = .ok (.if_icmp .ge 24, 3) := by decide +kernel
theorem dX7_groansToReach_33 : decode cX7_groansToReach 33 = .ok (.iload_n 3, 1) := by decide +kernel
theorem dX7_groansToReach_34 : decode cX7_groansToReach 34 = .ok (.iload_n 2, 1) := by decide +kernel
theorem dX7_groansToReach_35 : decode cX7_groansToReach 35 = .ok (.invokestatic 232, 3) := by decide +kernel
theorem dX7_groansToReach_38 : decode cX7_groansToReach 38 = .ok (.istore_n 3, 1) := by decide +kernel
theorem dX7_groansToReach_39 : decode cX7_groansToReach 39 = .ok (.iload 4, 2) := by decide +kernel
theorem dX7_groansToReach_41 : decode cX7_groansToReach 41 = .ok (.iload_n 3, 1) := by decide +kernel
theorem dX7_groansToReach_42 : decode cX7_groansToReach 42 = .ok (.invokestatic 238, 3) := by decide +kernel
theorem dX7_groansToReach_45 : decode cX7_groansToReach 45 = .ok (.iadd, 1) := by decide +kernel
theorem dX7_groansToReach_46 : decode cX7_groansToReach 46 = .ok (.istore 4, 2) := by decide +kernel
theorem dX7_groansToReach_48 : decode cX7_groansToReach 48 = .ok (.iinc 5 1, 3) := by decide +kernel
theorem dX7_groansToReach_51 : decode cX7_groansToReach 51 = .ok (.goto (-30), 3) := by decide +kernel
theorem dX7_groansToReach_54 : decode cX7_groansToReach 54 = .ok (.iload 4, 2) := by decide +kernel
theorem dX7_groansToReach_56 : decode cX7_groansToReach 56 = .ok (.ireturn, 1) := by decide +kernel
theorem dX7_areLaughsAlike_0 : decode cX7_areLaughsAlike 0 = .ok (.aload_n 0, 1) := by decide +kernel
theorem dX7_areLaughsAlike_1 : decode cX7_areLaughsAlike 1 = .ok (.getfield 12, 3) := by decide +kernel
theorem dX7_areLaughsAlike_4 : decode cX7_areLaughsAlike 4 = .ok (.getfield 171, 3) := by decide +kernel
theorem dX7_areLaughsAlike_7 : decode cX7_areLaughsAlike 7 = .ok (.getfield 207, 3) := by decide +kernel
theorem dX7_areLaughsAlike_10 : decode cX7_areLaughsAlike 10 = .ok (.aload_n 0, 1) := by decide +kernel
theorem dX7_areLaughsAlike_11 : decode cX7_areLaughsAlike 11 = .ok (.getfield 12, 3) := by decide +kernel
theorem dX7_areLaughsAlike_14 : decode cX7_areLaughsAlike 14 = .ok (.getfield 171, 3) := by decide +kernel
theorem dX7_areLaughsAlike_17 : decode cX7_areLaughsAlike 17 = .ok (.invokevirtual 211, 3) := by decide +kernel
theorem dX7_areLaughsAlike_20 : decode cX7_areLaughsAlike 20 = .ok (.fcmp .l, 1) := by decide +kernel
theorem dX7_areLaughsAlike_21 : decode cX7_areLaughsAlike 21 = .ok (.ifCond .ne 7, 3) := by decide +kernel
theorem dX7_areLaughsAlike_24 : decode cX7_areLaughsAlike 24 = .ok (.iconst 1, 1) := by decide +kernel
theorem dX7_areLaughsAlike_25 : decode cX7_areLaughsAlike 25 = .ok (.goto 4, 3) := by decide +kernel
theorem dX7_areLaughsAlike_28 : decode cX7_areLaughsAlike 28 = .ok (.iconst 0, 1) := by decide +kernel
theorem dX7_areLaughsAlike_29 : decode cX7_areLaughsAlike 29 = .ok (.ireturn, 1) := by decide +kernel
theorem dX7_areStrokesAlike_0 : decode cX7_areStrokesAlike 0 = .ok (.iconst 1, 1) := by decide +kernel
theorem dX7_areStrokesAlike_1 : decode cX7_areStrokesAlike 1 = .ok (.istore_n 1, 1) := by decide +kernel
theorem dX7_areStrokesAlike_2 : decode cX7_areStrokesAlike 2 = .ok (.iload_n 1, 1) := by decide +kernel
theorem dX7_areStrokesAlike_3 : decode cX7_areStrokesAlike 3 = .ok (.bipush 30, 2) := by decide +kernel
theorem dX7_areStrokesAlike_5 : decode cX7_areStrokesAlike 5 = .ok (.if_icmp .gt 24, 3) := by decide +kernel
theorem dX7_areStrokesAlike_8 : decode cX7_areStrokesAlike 8 = .ok (.aload_n 0, 1) := by decide +kernel
theorem dX7_areStrokesAlike_9 : decode cX7_areStrokesAlike 9 = .ok (.iload_n 1, 1) := by decide +kernel
theorem dX7_areStrokesAlike_10 : decode cX7_areStrokesAlike 10 = .ok (.invokevirtual 345, 3) := by decide +kernel
theorem dX7_areStrokesAlike_13 : decode cX7_areStrokesAlike 13 = .ok (.aload_n 0, 1) := by decide +kernel
theorem dX7_areStrokesAlike_14 : decode cX7_areStrokesAlike 14 = .ok (.iload_n 1, 1) := by decide +kernel
theorem dX7_areStrokesAlike_15 : decode cX7_areStrokesAlike 15 = .ok (.invokevirtual 348, 3) := by decide +kernel
theorem dX7_areStrokesAlike_18 : decode cX7_areStrokesAlike 18 = .ok (.if_icmp .eq 5, 3) := by decide +kernel
theorem dX7_areStrokesAlike_21 : decode cX7_areStrokesAlike 21 = .ok (.iconst 0, 1) := by decide +kernel
theorem dX7_areStrokesAlike_22 : decode cX7_areStrokesAlike 22 = .ok (.ireturn, 1) := by decide +kernel
theorem dX7_areStrokesAlike_23 : decode cX7_areStrokesAlike 23 = .ok (.iinc 1 1, 3) := by decide +kernel
theorem dX7_areStrokesAlike_26 : decode cX7_areStrokesAlike 26 = .ok (.goto (-24), 3) := by decide +kernel
theorem dX7_areStrokesAlike_29 : decode cX7_areStrokesAlike 29 = .ok (.iconst 1, 1) := by decide +kernel
theorem dX7_areStrokesAlike_30 : decode cX7_areStrokesAlike 30 = .ok (.ireturn, 1) := by decide +kernel
theorem dX7_areSignsUnknown_0 : decode cX7_areSignsUnknown 0 = .ok (.iconst 0, 1) := by decide +kernel
theorem dX7_areSignsUnknown_1 : decode cX7_areSignsUnknown 1 = .ok (.istore_n 1, 1) := by decide +kernel
theorem dX7_areSignsUnknown_2 : decode cX7_areSignsUnknown 2 = .ok (.iload_n 1, 1) := by decide +kernel
theorem dX7_areSignsUnknown_3 : decode cX7_areSignsUnknown 3 = .ok (.aload_n 0, 1) := by decide +kernel
theorem dX7_areSignsUnknown_4 : decode cX7_areSignsUnknown 4 = .ok (.getfield 12, 3) := by decide +kernel
theorem dX7_areSignsUnknown_7 : decode cX7_areSignsUnknown 7 = .ok (.getfield 121, 3) := by decide +kernel
theorem dX7_areSignsUnknown_10 : decode cX7_areSignsUnknown 10 = .ok (.getfield 125, 3) := by decide +kernel
theorem dX7_areSignsUnknown_13 : decode cX7_areSignsUnknown 13 = .ok (.if_icmp .ge 41, 3) := by decide +kernel
theorem dX7_areSignsUnknown_16 : decode cX7_areSignsUnknown 16 = .ok (.aload_n 0, 1) := by decide +kernel
theorem dX7_areSignsUnknown_17 : decode cX7_areSignsUnknown 17 = .ok (.getfield 12, 3) := by decide +kernel
theorem dX7_areSignsUnknown_20 : decode cX7_areSignsUnknown 20 = .ok (.getfield 171, 3) := by decide +kernel
theorem dX7_areSignsUnknown_23 : decode cX7_areSignsUnknown 23 = .ok (.getfield 184, 3) := by decide +kernel
theorem dX7_areSignsUnknown_26 : decode cX7_areSignsUnknown 26 = .ok (.aload_n 0, 1) := by decide +kernel
theorem dX7_areSignsUnknown_27 : decode cX7_areSignsUnknown 27 = .ok (.getfield 12, 3) := by decide +kernel
theorem dX7_areSignsUnknown_30 : decode cX7_areSignsUnknown 30 = .ok (.getfield 121, 3) := by decide +kernel
theorem dX7_areSignsUnknown_33 : decode cX7_areSignsUnknown 33 = .ok (.getfield 147, 3) := by decide +kernel
theorem dX7_areSignsUnknown_36 : decode cX7_areSignsUnknown 36 = .ok (.iload_n 1, 1) := by decide +kernel
theorem dX7_areSignsUnknown_37 : decode cX7_areSignsUnknown 37 = .ok (.invokevirtual 139, 3) := by decide +kernel
theorem dX7_areSignsUnknown_40 : decode cX7_areSignsUnknown 40 = .ok (.invokevirtual 139, 3) := by decide +kernel
theorem dX7_areSignsUnknown_43 : decode cX7_areSignsUnknown 43 = .ok (.ifCond .eq 5, 3) := by decide +kernel
theorem dX7_areSignsUnknown_46 : decode cX7_areSignsUnknown 46 = .ok (.iconst 0, 1) := by decide +kernel
theorem dX7_areSignsUnknown_47 : decode cX7_areSignsUnknown 47 = .ok (.ireturn, 1) := by decide +kernel
theorem dX7_areSignsUnknown_48 : decode cX7_areSignsUnknown 48 = .ok (.iinc 1 1, 3) := by decide +kernel
theorem dX7_areSignsUnknown_51 : decode cX7_areSignsUnknown 51 = .ok (.goto (-49), 3) := by decide +kernel
theorem dX7_areSignsUnknown_54 : decode cX7_areSignsUnknown 54 = .ok (.iconst 1, 1) := by decide +kernel
theorem dX7_areSignsUnknown_55 : decode cX7_areSignsUnknown 55 = .ok (.ireturn, 1) := by decide +kernel
theorem dX7_isWell_0 : decode cX7_isWell 0 = .ok (.iload_n 0, 1) := by decide +kernel
theorem dX7_isWell_1 : decode cX7_isWell 1 = .ok (.iconst 0, 1) := by decide +kernel
theorem dX7_isWell_2 : decode cX7_isWell 2 = .ok (.iconst 3, 1) := by decide +kernel
theorem dX7_isWell_3 : decode cX7_isWell 3 = .ok (.invokestatic 180, 3) := by decide +kernel
theorem dX7_isWell_6 : decode cX7_isWell 6 = .ok (.ireturn, 1) := by decide +kernel
theorem dX7_isWithin_0 : decode cX7_isWithin 0 = .ok (.iload_n 0, 1) := by decide +kernel
theorem dX7_isWithin_1 : decode cX7_isWithin 1 = .ok (.iload_n 1, 1) := by decide +kernel
theorem dX7_isWithin_2 : decode cX7_isWithin 2 = .ok (.if_icmp .lt 12, 3) := by decide +kernel
theorem dX7_isWithin_5 : decode cX7_isWithin 5 = .ok (.iload_n 0, 1) := by decide +kernel
theorem dX7_isWithin_6 : decode cX7_isWithin 6 = .ok (.iload_n 2, 1) := by decide +kernel
theorem dX7_isWithin_7 : decode cX7_isWithin 7 = .ok (.if_icmp .gt 7, 3) := by decide +kernel
theorem dX7_isWithin_10 : decode cX7_isWithin 10 = .ok (.iconst 1, 1) := by decide +kernel
theorem dX7_isWithin_11 : decode cX7_isWithin 11 = .ok (.goto 4, 3) := by decide +kernel
theorem dX7_isWithin_14 : decode cX7_isWithin 14 = .ok (.iconst 0, 1) := by decide +kernel
theorem dX7_isWithin_15 : decode cX7_isWithin 15 = .ok (.ireturn, 1) := by decide +kernel
theorem dX7_bitsOf_0 : decode cX7_bitsOf 0 = .ok (.fload_n 0, 1) := by decide +kernel
theorem dX7_bitsOf_1 : decode cX7_bitsOf 1 = .ok (.fconst 0, 1) := by decide +kernel
theorem dX7_bitsOf_2 : decode cX7_bitsOf 2 = .ok (.fcmp .g, 1) := by decide +kernel
theorem dX7_bitsOf_3 : decode cX7_bitsOf 3 = .ok (.ifCond .gt 5, 3) := by decide +kernel
theorem dX7_bitsOf_6 : decode cX7_bitsOf 6 = .ok (.iconst 0, 1) := by decide +kernel
theorem dX7_bitsOf_7 : decode cX7_bitsOf 7 = .ok (.ireturn, 1) := by decide +kernel
theorem dX7_bitsOf_8 : decode cX7_bitsOf 8 = .ok (.fload_n 0, 1) := by decide +kernel
theorem dX7_bitsOf_9 : decode cX7_bitsOf 9 = .ok (.fstore_n 1, 1) := by decide +kernel
theorem dX7_bitsOf_10 : decode cX7_bitsOf 10 = .ok (.bipush 127, 2) := by decide +kernel
theorem dX7_bitsOf_12 : decode cX7_bitsOf 12 = .ok (.istore_n 2, 1) := by decide +kernel
theorem dX7_bitsOf_13 : decode cX7_bitsOf 13 = .ok (.iconst 0, 1) := by decide +kernel
theorem dX7_bitsOf_14 : decode cX7_bitsOf 14 = .ok (.istore_n 3, 1) := by decide +kernel
theorem dX7_bitsOf_15 : decode cX7_bitsOf 15 = .ok (.iload_n 3, 1) := by decide +kernel
theorem dX7_bitsOf_16 : decode cX7_bitsOf 16 = .ok (.sipush 128, 3) := by decide +kernel
theorem dX7_bitsOf_19 : decode cX7_bitsOf 19 = .ok (.if_icmp .ge 22, 3) := by decide +kernel
theorem dX7_bitsOf_22 : decode cX7_bitsOf 22 = .ok (.fload_n 1, 1) := by decide +kernel
theorem dX7_bitsOf_23 : decode cX7_bitsOf 23 = .ok (.fconst 2, 1) := by decide +kernel
theorem dX7_bitsOf_24 : decode cX7_bitsOf 24 = .ok (.fcmp .l, 1) := by decide +kernel
theorem dX7_bitsOf_25 : decode cX7_bitsOf 25 = .ok (.ifCond .lt 16, 3) := by decide +kernel
theorem dX7_bitsOf_28 : decode cX7_bitsOf 28 = .ok (.fload_n 1, 1) := by decide +kernel
theorem dX7_bitsOf_29 : decode cX7_bitsOf 29 = .ok (.fconst 2, 1) := by decide +kernel
theorem dX7_bitsOf_30 : decode cX7_bitsOf 30 = .ok (.fdiv, 1) := by decide +kernel
theorem dX7_bitsOf_31 : decode cX7_bitsOf 31 = .ok (.fstore_n 1, 1) := by decide +kernel
theorem dX7_bitsOf_32 : decode cX7_bitsOf 32 = .ok (.iinc 2 1, 3) := by decide +kernel
theorem dX7_bitsOf_35 : decode cX7_bitsOf 35 = .ok (.iinc 3 1, 3) := by decide +kernel
theorem dX7_bitsOf_38 : decode cX7_bitsOf 38 = .ok (.goto (-23), 3) := by decide +kernel
theorem dX7_bitsOf_41 : decode cX7_bitsOf 41 = .ok (.iconst 0, 1) := by decide +kernel
theorem dX7_bitsOf_42 : decode cX7_bitsOf 42 = .ok (.istore_n 3, 1) := by decide +kernel
theorem dX7_bitsOf_43 : decode cX7_bitsOf 43 = .ok (.iload_n 3, 1) := by decide +kernel
theorem dX7_bitsOf_44 : decode cX7_bitsOf 44 = .ok (.bipush 126, 2) := by decide +kernel
theorem dX7_bitsOf_46 : decode cX7_bitsOf 46 = .ok (.if_icmp .ge 22, 3) := by decide +kernel
theorem dX7_bitsOf_49 : decode cX7_bitsOf 49 = .ok (.fload_n 1, 1) := by decide +kernel
theorem dX7_bitsOf_50 : decode cX7_bitsOf 50 = .ok (.fconst 1, 1) := by decide +kernel
theorem dX7_bitsOf_51 : decode cX7_bitsOf 51 = .ok (.fcmp .g, 1) := by decide +kernel
theorem dX7_bitsOf_52 : decode cX7_bitsOf 52 = .ok (.ifCond .ge 16, 3) := by decide +kernel
theorem dX7_bitsOf_55 : decode cX7_bitsOf 55 = .ok (.fload_n 1, 1) := by decide +kernel
theorem dX7_bitsOf_56 : decode cX7_bitsOf 56 = .ok (.fconst 2, 1) := by decide +kernel
theorem dX7_bitsOf_57 : decode cX7_bitsOf 57 = .ok (.fmul, 1) := by decide +kernel
theorem dX7_bitsOf_58 : decode cX7_bitsOf 58 = .ok (.fstore_n 1, 1) := by decide +kernel
theorem dX7_bitsOf_59 : decode cX7_bitsOf 59 = .ok (.iinc 2 (-1), 3) := by decide +kernel
theorem dX7_bitsOf_62 : decode cX7_bitsOf 62 = .ok (.iinc 3 1, 3) := by decide +kernel
theorem dX7_bitsOf_65 : decode cX7_bitsOf 65 = .ok (.goto (-22), 3) := by decide +kernel
theorem dX7_bitsOf_68 : decode cX7_bitsOf 68 = .ok (.iload_n 2, 1) := by decide +kernel
theorem dX7_bitsOf_69 : decode cX7_bitsOf 69 = .ok (.bipush 23, 2) := by decide +kernel
theorem dX7_bitsOf_71 : decode cX7_bitsOf 71 = .ok (.ishl, 1) := by decide +kernel
theorem dX7_bitsOf_72 : decode cX7_bitsOf 72 = .ok (.fload_n 1, 1) := by decide +kernel
theorem dX7_bitsOf_73 : decode cX7_bitsOf 73 = .ok (.fconst 1, 1) := by decide +kernel
theorem dX7_bitsOf_74 : decode cX7_bitsOf 74 = .ok (.fsub, 1) := by decide +kernel
theorem dX7_bitsOf_75 : decode cX7_bitsOf 75 = .ok (.ldc_w 351, 3) := by decide +kernel
theorem dX7_bitsOf_78 : decode cX7_bitsOf 78 = .ok (.fmul, 1) := by decide +kernel
theorem dX7_bitsOf_79 : decode cX7_bitsOf 79 = .ok (.f2i, 1) := by decide +kernel
theorem dX7_bitsOf_80 : decode cX7_bitsOf 80 = .ok (.iadd, 1) := by decide +kernel
theorem dX7_bitsOf_81 : decode cX7_bitsOf 81 = .ok (.ireturn, 1) := by decide +kernel
