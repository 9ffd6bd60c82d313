theorem dX0_init_0 : decode cX0_init 0 = .ok (.aload_n 0, 1) := by decide +kernel
theorem dX0_init_1 : decode cX0_init 1 = .ok (.invokespecial 3, 3) := by decide +kernel
theorem dX0_init_4 : decode cX0_init 4 = .ok (.aload_n 0, 1) := by decide +kernel
theorem dX0_init_5 : decode cX0_init 5 = .ok (.lconst 0, 1) := by decide +kernel
theorem dX0_init_6 : decode cX0_init 6 = .ok (.putfield 9, 3) := by decide +kernel
theorem dX0_init_9 : decode cX0_init 9 = .ok (.aload_n 0, 1) := by decide +kernel
theorem dX0_init_10 : decode cX0_init 10 = .ok (.iconst 0, 1) := by decide +kernel
theorem dX0_init_11 : decode cX0_init 11 = .ok (.putfield 15, 3) := by decide +kernel
theorem dX0_init_14 : decode cX0_init 14 = .ok (.aload_n 0, 1) := by decide +kernel
theorem dX0_init_15 : decode cX0_init 15 = .ok (.bipush 6, 2) := by decide +kernel
theorem dX0_init_17 : decode cX0_init 17 = .ok (.newarray .long, 2) := by decide +kernel
theorem dX0_init_19 : decode cX0_init 19 = .ok (.putfield 19, 3) := by decide +kernel
theorem dX0_init_22 : decode cX0_init 22 = .ok (.return_, 1) := by decide +kernel
theorem dX0_indexOf_0 : decode cX0_indexOf 0 = .ok (.iconst 0, 1) := by decide +kernel
theorem dX0_indexOf_1 : decode cX0_indexOf 1 = .ok (.istore_n 3, 1) := by decide +kernel
theorem dX0_indexOf_2 : decode cX0_indexOf 2 = .ok (.iload_n 3, 1) := by decide +kernel
theorem dX0_indexOf_3 : decode cX0_indexOf 3 = .ok (.aload_n 0, 1) := by decide +kernel
theorem dX0_indexOf_4 : decode cX0_indexOf 4 = .ok (.getfield 15, 3) := by decide +kernel
theorem dX0_indexOf_7 : decode cX0_indexOf 7 = .ok (.if_icmp .ge 22, 3) := by decide +kernel
theorem dX0_indexOf_10 : decode cX0_indexOf 10 = .ok (.aload_n 0, 1) := by decide +kernel
theorem dX0_indexOf_11 : decode cX0_indexOf 11 = .ok (.getfield 19, 3) := by decide +kernel
theorem dX0_indexOf_14 : decode cX0_indexOf 14 = .ok (.iload_n 3, 1) := by decide +kernel
theorem dX0_indexOf_15 : decode cX0_indexOf 15 = .ok (.laload, 1) := by decide +kernel
theorem dX0_indexOf_16 : decode cX0_indexOf 16 = .ok (.lload_n 1, 1) := by decide +kernel
theorem dX0_indexOf_17 : decode cX0_indexOf 17 = .ok (.lcmp, 1) := by decide +kernel
theorem dX0_indexOf_18 : decode cX0_indexOf 18 = .ok (.ifCond .ne 5, 3) := by decide +kernel
theorem dX0_indexOf_21 : decode cX0_indexOf 21 = .ok (.iload_n 3, 1) := by decide +kernel
theorem dX0_indexOf_22 : decode cX0_indexOf 22 = .ok (.ireturn, 1) := by decide +kernel
theorem dX0_indexOf_23 : decode cX0_indexOf 23 = .ok (.iinc 3 1, 3) := by decide +kernel
theorem dX0_indexOf_26 : decode cX0_indexOf 26 = .ok (.goto (-24), 3) := by decide +kernel
theorem dX0_indexOf_29 : decode cX0_indexOf 29 = .ok (.iconst (-1), 1) := by decide +kernel
theorem dX0_indexOf_30 : decode cX0_indexOf 30 = .ok (.ireturn, 1) := by decide +kernel
theorem dX0_wordAt_0 : decode cX0_wordAt 0 = .ok (.iload_n 1, 1) := by decide +kernel
theorem dX0_wordAt_1 : decode cX0_wordAt 1 = .ok (.ifCond .lt 20, 3) := by decide +kernel
theorem dX0_wordAt_4 : decode cX0_wordAt 4 = .ok (.iload_n 1, 1) := by decide +kernel
theorem dX0_wordAt_5 : decode cX0_wordAt 5 = .ok (.aload_n 0, 1) := by decide +kernel
theorem dX0_wordAt_6 : decode cX0_wordAt 6 = .ok (.getfield 15, 3) := by decide +kernel
theorem dX0_wordAt_9 : decode cX0_wordAt 9 = .ok (.if_icmp .ge 12, 3) := by decide +kernel
theorem dX0_wordAt_12 : decode cX0_wordAt 12 = .ok (.aload_n 0, 1) := by decide +kernel
theorem dX0_wordAt_13 : decode cX0_wordAt 13 = .ok (.getfield 19, 3) := by decide +kernel
theorem dX0_wordAt_16 : decode cX0_wordAt 16 = .ok (.iload_n 1, 1) := by decide +kernel
theorem dX0_wordAt_17 : decode cX0_wordAt 17 = .ok (.laload, 1) := by decide +kernel
theorem dX0_wordAt_18 : decode cX0_wordAt 18 = .ok (.goto 4, 3) := by decide +kernel
theorem dX0_wordAt_21 : decode cX0_wordAt 21 = .ok (.lconst 0, 1) := by decide +kernel
theorem dX0_wordAt_22 : decode cX0_wordAt 22 = .ok (.lreturn, 1) := by decide +kernel
theorem dX0_add_0 : decode cX0_add 0 = .ok (.aload_n 0, 1) := by decide +kernel
theorem dX0_add_1 : decode cX0_add 1 = .ok (.getfield 15, 3) := by decide +kernel
theorem dX0_add_4 : decode cX0_add 4 = .ok (.aload_n 0, 1) := by decide +kernel
theorem dX0_add_5 : decode cX0_add 5 = .ok (.getfield 19, 3) := by decide +kernel
theorem dX0_add_8 : decode cX0_add 8 = .ok (.arraylength, 1) := by decide +kernel
theorem dX0_add_9 : decode cX0_add 9 = .ok (.if_icmp .ge 23, 3) := by decide +kernel
theorem dX0_add_12 : decode cX0_add 12 = .ok (.aload_n 0, 1) := by decide +kernel
theorem dX0_add_13 : decode cX0_add 13 = .ok (.getfield 19, 3) := by decide +kernel
theorem dX0_add_16 : decode cX0_add 16 = .ok (.aload_n 0, 1) := by decide +kernel
theorem dX0_add_17 : decode cX0_add 17 = .ok (.getfield 15, 3) := by decide +kernel
theorem dX0_add_20 : decode cX0_add 20 = .ok (.lload_n 1, 1) := by decide +kernel
theorem dX0_add_21 : decode cX0_add 21 = .ok (.lastore, 1) := by decide +kernel
theorem dX0_add_22 : decode cX0_add 22 = .ok (.aload_n 0, 1) := by decide +kernel
theorem dX0_add_23 : decode cX0_add 23 = .ok (.dup, 1) := by decide +kernel
theorem dX0_add_24 : decode cX0_add 24 = .ok (.getfield 15, 3) := by decide +kernel
theorem dX0_add_27 : decode cX0_add 27 = .ok (.iconst 1, 1) := by decide +kernel
theorem dX0_add_28 : decode cX0_add 28 = .ok (.iadd, 1) := by decide +kernel
theorem dX0_add_29 : decode cX0_add 29 = .ok (.putfield 15, 3) := by decide +kernel
theorem dX0_add_32 : decode cX0_add 32 = .ok (.return_, 1) := by decide +kernel
theorem dX1_init_0 : decode cX1_init 0 = .ok (.aload_n 0, 1) := by decide +kernel
theorem dX1_init_1 : decode cX1_init 1 = .ok (.invokespecial 3, 3) := by decide +kernel
theorem dX1_init_4 : decode cX1_init 4 = .ok (.aload_n 0, 1) := by decide +kernel
theorem dX1_init_5 : decode cX1_init 5 = .ok (.iconst 0, 1) := by decide +kernel
theorem dX1_init_6 : decode cX1_init 6 = .ok (.putfield 9, 3) := by decide +kernel
theorem dX1_init_9 : decode cX1_init 9 = .ok (.aload_n 0, 1) := by decide +kernel
theorem dX1_init_10 : decode cX1_init 10 = .ok (.iconst 1, 1) := by decide +kernel
theorem dX1_init_11 : decode cX1_init 11 = .ok (.putfield 15, 3) := by decide +kernel
theorem dX1_init_14 : decode cX1_init 14 = .ok (.aload_n 0, 1) := by decide +kernel
theorem dX1_init_15 : decode cX1_init 15 = .ok (.iconst 5, 1) := by decide +kernel
theorem dX1_init_16 : decode cX1_init 16 = .ok (.anewarray 18, 3) := by decide +kernel
theorem dX1_init_19 : decode cX1_init 19 = .ok (.putfield 20, 3) := by decide +kernel
theorem dX1_init_22 : decode cX1_init 22 = .ok (.iconst 0, 1) := by decide +kernel
theorem dX1_init_23 : decode cX1_init 23 = .ok (.istore_n 1, 1) := by decide +kernel
theorem dX1_init_24 : decode cX1_init 24 = .ok (.iload_n 1, 1) := by decide +kernel
theorem dX1_init_25 : decode cX1_init 25 = .ok (.iconst 5, 1) := by decide +kernel
theorem dX1_init_26 : decode cX1_init 26 = .ok (.if_icmp .ge 22, 3) := by decide +kernel
theorem dX1_init_29 : decode cX1_init 29 = .ok (.aload_n 0, 1) := by decide +kernel
theorem dX1_init_30 : decode cX1_init 30 = .ok (.getfield 20, 3) := by decide +kernel
theorem dX1_init_33 : decode cX1_init 33 = .ok (.iload_n 1, 1) := by decide +kernel
theorem dX1_init_34 : decode cX1_init 34 = .ok (.new 18, 3) := by decide +kernel
theorem dX1_init_37 : decode cX1_init 37 = .ok (.dup, 1) := by decide +kernel
theorem dX1_init_38 : decode cX1_init 38 = .ok (.invokespecial 24, 3) := by decide +kernel
theorem dX1_init_41 : decode cX1_init 41 = .ok (.aastore, 1) := by decide +kernel
theorem dX1_init_42 : decode cX1_init 42 = .ok (.iinc 1 1, 3) := by decide +kernel
theorem dX1_init_45 : decode cX1_init 45 = .ok (.goto (-21), 3) := by decide +kernel
theorem dX1_init_48 : decode cX1_init 48 = .ok (.aload_n 0, 1) := by decide +kernel
theorem dX1_init_49 : decode cX1_init 49 = .ok (.new 18, 3) := by decide +kernel
theorem dX1_init_52 : decode cX1_init 52 = .ok (.dup, 1) := by decide +kernel
theorem dX1_init_53 : decode cX1_init 53 = .ok (.invokespecial 24, 3) := by decide +kernel
theorem dX1_init_56 : decode cX1_init 56 = .ok (.putfield 25, 3) := by decide +kernel
theorem dX1_init_59 : decode cX1_init 59 = .ok (.aload_n 0, 1) := by decide +kernel
theorem dX1_init_60 : decode cX1_init 60 = .ok (.new 29, 3) := by decide +kernel
theorem dX1_init_63 : decode cX1_init 63 = .ok (.dup, 1) := by decide +kernel
theorem dX1_init_64 : decode cX1_init 64 = .ok (.invokespecial 31, 3) := by decide +kernel
theorem dX1_init_67 : decode cX1_init 67 = .ok (.putfield 32, 3) := by decide +kernel
theorem dX1_init_70 : decode cX1_init 70 = .ok (.return_, 1) := by decide +kernel
theorem dX1_clear_0 : decode cX1_clear 0 = .ok (.aload_n 0, 1) := by decide +kernel
theorem dX1_clear_1 : decode cX1_clear 1 = .ok (.iconst 0, 1) := by decide +kernel
theorem dX1_clear_2 : decode cX1_clear 2 = .ok (.putfield 9, 3) := by decide +kernel
theorem dX1_clear_5 : decode cX1_clear 5 = .ok (.aload_n 0, 1) := by decide +kernel
theorem dX1_clear_6 : decode cX1_clear 6 = .ok (.iconst 1, 1) := by decide +kernel
theorem dX1_clear_7 : decode cX1_clear 7 = .ok (.putfield 15, 3) := by decide +kernel
theorem dX1_clear_10 : decode cX1_clear 10 = .ok (.iconst 0, 1) := by decide +kernel
theorem dX1_clear_11 : decode cX1_clear 11 = .ok (.istore_n 1, 1) := by decide +kernel
theorem dX1_clear_12 : decode cX1_clear 12 = .ok (.iload_n 1, 1) := by decide +kernel
theorem dX1_clear_13 : decode cX1_clear 13 = .ok (.iconst 5, 1) := by decide +kernel
theorem dX1_clear_14 : decode cX1_clear 14 = .ok (.if_icmp .ge 19, 3) := by decide +kernel
theorem dX1_clear_17 : decode cX1_clear 17 = .ok (.aload_n 0, 1) := by decide +kernel
theorem dX1_clear_18 : decode cX1_clear 18 = .ok (.getfield 20, 3) := by decide +kernel
theorem dX1_clear_21 : decode cX1_clear 21 = .ok (.iload_n 1, 1) := by decide +kernel
theorem dX1_clear_22 : decode cX1_clear 22 = .ok (.aaload, 1) := by decide +kernel
theorem dX1_clear_23 : decode cX1_clear 23 = .ok (.iconst 0, 1) := by decide +kernel
theorem dX1_clear_24 : decode cX1_clear 24 = .ok (.putfield 36, 3) := by decide +kernel
theorem dX1_clear_27 : decode cX1_clear 27 = .ok (.iinc 1 1, 3) := by decide +kernel
theorem dX1_clear_30 : decode cX1_clear 30 = .ok (.goto (-18), 3) := by decide +kernel
theorem dX1_clear_33 : decode cX1_clear 33 = .ok (.aload_n 0, 1) := by decide +kernel
theorem dX1_clear_34 : decode cX1_clear 34 = .ok (.getfield 25, 3) := by decide +kernel
theorem dX1_clear_37 : decode cX1_clear 37 = .ok (.iconst 0, 1) := by decide +kernel
theorem dX1_clear_38 : decode cX1_clear 38 = .ok (.putfield 36, 3) := by decide +kernel
theorem dX1_clear_41 : decode cX1_clear 41 = .ok (.aload_n 0, 1) := by decide +kernel
theorem dX1_clear_42 : decode cX1_clear 42 = .ok (.getfield 32, 3) := by decide +kernel
theorem dX1_clear_45 : decode cX1_clear 45 = .ok (.iconst 0, 1) := by decide +kernel
theorem dX1_clear_46 : decode cX1_clear 46 = .ok (.putfield 39, 3) := by decide +kernel
theorem dX1_clear_49 : decode cX1_clear 49 = .ok (.return_, 1) := by decide +kernel
theorem dX1_inputNamed_0 : decode cX1_inputNamed 0 = .ok (.iconst 0, 1) := by decide +kernel
theorem dX1_inputNamed_1 : decode cX1_inputNamed 1 = .ok (.istore_n 3, 1) := by decide +kernel
theorem dX1_inputNamed_2 : decode cX1_inputNamed 2 = .ok (.iload_n 3, 1) := by decide +kernel
theorem dX1_inputNamed_3 : decode cX1_inputNamed 3 = .ok (.aload_n 0, 1) := by decide +kernel
theorem dX1_inputNamed_4 : decode cX1_inputNamed 4 = .ok (.getfield 9, 3) := by decide +kernel
theorem dX1_inputNamed_7 : decode cX1_inputNamed 7 = .ok (.if_icmp .ge 25, 3) := by decide +kernel
theorem dX1_inputNamed_10 : decode cX1_inputNamed 10 = .ok (.aload_n 0, 1) := by decide +kernel
theorem dX1_inputNamed_11 : decode cX1_inputNamed 11 = .ok (.getfield 20, 3) := by decide +kernel
theorem dX1_inputNamed_14 : decode cX1_inputNamed 14 = .ok (.iload_n 3, 1) := by decide +kernel
theorem dX1_inputNamed_15 : decode cX1_inputNamed 15 = .ok (.aaload, 1) := by decide +kernel
theorem dX1_inputNamed_16 : decode cX1_inputNamed 16 = .ok (.getfield 40, 3) := by decide +kernel
theorem dX1_inputNamed_19 : decode cX1_inputNamed 19 = .ok (.lload_n 1, 1) := by decide +kernel
theorem dX1_inputNamed_20 : decode cX1_inputNamed 20 = .ok (.lcmp, 1) := by decide +kernel
theorem dX1_inputNamed_21 : decode cX1_inputNamed 21 = .ok (.ifCond .ne 5, 3) := by decide +kernel
theorem dX1_inputNamed_24 : decode cX1_inputNamed 24 = .ok (.iload_n 3, 1) := by decide +kernel
theorem dX1_inputNamed_25 : decode cX1_inputNamed 25 = .ok (.ireturn, 1) := by decide +kernel
theorem dX1_inputNamed_26 : decode cX1_inputNamed 26 = .ok (.iinc 3 1, 3) := by decide +kernel
theorem dX1_inputNamed_29 : decode cX1_inputNamed 29 = .ok (.goto (-27), 3) := by decide +kernel
theorem dX1_inputNamed_32 : decode cX1_inputNamed 32 = .ok (.iconst (-1), 1) := by decide +kernel
theorem dX1_inputNamed_33 : decode cX1_inputNamed 33 = .ok (.ireturn, 1) := by decide +kernel
theorem dX1_sizes_0 : decode cX1_sizes 0 = .ok (.aload_n 0, 1) := by decide +kernel
theorem dX1_sizes_1 : decode cX1_sizes 1 = .ok (.getfield 9, 3) := by decide +kernel
theorem dX1_sizes_4 : decode cX1_sizes 4 = .ok (.newarray .int, 2) := by decide +kernel
theorem dX1_sizes_6 : decode cX1_sizes 6 = .ok (.astore_n 1, 1) := by decide +kernel
theorem dX1_sizes_7 : decode cX1_sizes 7 = .ok (.iconst 0, 1) := by decide +kernel
theorem dX1_sizes_8 : decode cX1_sizes 8 = .ok (.istore_n 2, 1) := by decide +kernel
theorem dX1_sizes_9 : decode cX1_sizes 9 = .ok (.iload_n 2, 1) := by decide +kernel
theorem dX1_sizes_10 : decode cX1_sizes 10 = .ok (.aload_n 0, 1) := by decide +kernel
theorem dX1_sizes_11 : decode cX1_sizes 11 = .ok (.getfield 9, 3) := by decide +kernel
theorem dX1_sizes_14 : decode cX1_sizes 14 = .ok (.if_icmp .ge 21, 3) := by decide +kernel
theorem dX1_sizes_17 : decode cX1_sizes 17 = .ok (.aload_n 1, 1) := by decide +kernel
theorem dX1_sizes_18 : decode cX1_sizes 18 = .ok (.iload_n 2, 1) := by decide +kernel
theorem dX1_sizes_19 : decode cX1_sizes 19 = .ok (.aload_n 0, 1) := by decide +kernel
theorem dX1_sizes_20 : decode cX1_sizes 20 = .ok (.getfield 20, 3) := by decide +kernel
theorem dX1_sizes_23 : decode cX1_sizes 23 = .ok (.iload_n 2, 1) := by decide +kernel
theorem dX1_sizes_24 : decode cX1_sizes 24 = .ok (.aaload, 1) := by decide +kernel
theorem dX1_sizes_25 : decode cX1_sizes 25 = .ok (.getfield 36, 3) := by decide +kernel
theorem dX1_sizes_28 : decode cX1_sizes 28 = .ok (.iastore, 1) := by decide +kernel
theorem dX1_sizes_29 : decode cX1_sizes 29 = .ok (.iinc 2 1, 3) := by decide +kernel
theorem dX1_sizes_32 : decode cX1_sizes 32 = .ok (.goto (-23), 3) := by decide +kernel
theorem dX1_sizes_35 : decode cX1_sizes 35 = .ok (.aload_n 1, 1) := by decide +kernel
theorem dX1_sizes_36 : decode cX1_sizes 36 = .ok (.areturn, 1) := by decide +kernel
theorem dX2_init_0 : decode cX2_init 0 = .ok (.aload_n 0, 1) := by decide +kernel
theorem dX2_init_1 : decode cX2_init 1 = .ok (.invokespecial 3, 3) := by decide +kernel
theorem dX2_init_4 : decode cX2_init 4 = .ok (.aload_n 0, 1) := by decide +kernel
theorem dX2_init_5 : decode cX2_init 5 = .ok (.sipush 1001, 3) := by decide +kernel
theorem dX2_init_8 : decode cX2_init 8 = .ok (.newarray .int, 2) := by decide +kernel
theorem dX2_init_10 : decode cX2_init 10 = .ok (.putfield 9, 3) := by decide +kernel
theorem dX2_init_13 : decode cX2_init 13 = .ok (.aload_n 0, 1) := by decide +kernel
theorem dX2_init_14 : decode cX2_init 14 = .ok (.sipush 1001, 3) := by decide +kernel
theorem dX2_init_17 : decode cX2_init 17 = .ok (.newarray .int, 2) := by decide +kernel
theorem dX2_init_19 : decode cX2_init 19 = .ok (.putfield 15, 3) := by decide +kernel
theorem dX2_init_22 : decode cX2_init 22 = .ok (.aload_n 0, 1) := by decide +kernel
theorem dX2_init_23 : decode cX2_init 23 = .ok (.sipush 1001, 3) := by decide +kernel
theorem dX2_init_26 : decode cX2_init 26 = .ok (.newarray .long, 2) := by decide +kernel
theorem dX2_init_28 : decode cX2_init 28 = .ok (.putfield 18, 3) := by decide +kernel
theorem dX2_init_31 : decode cX2_init 31 = .ok (.aload_n 0, 1) := by decide +kernel
theorem dX2_init_32 : decode cX2_init 32 = .ok (.iconst 0, 1) := by decide +kernel
theorem dX2_init_33 : decode cX2_init 33 = .ok (.putfield 22, 3) := by decide +kernel
theorem dX2_init_36 : decode cX2_init 36 = .ok (.aload_n 0, 1) := by decide +kernel
theorem dX2_init_37 : decode cX2_init 37 = .ok (.iconst 0, 1) := by decide +kernel
theorem dX2_init_38 : decode cX2_init 38 = .ok (.putfield 26, 3) := by decide +kernel
theorem dX2_init_41 : decode cX2_init 41 = .ok (.aload_n 0, 1) := by decide +kernel
theorem dX2_init_42 : decode cX2_init 42 = .ok (.bipush 15, 2) := by decide +kernel
theorem dX2_init_44 : decode cX2_init 44 = .ok (.putfield 29, 3) := by decide +kernel
theorem dX2_init_47 : decode cX2_init 47 = .ok (.aload_n 0, 1) := by decide +kernel
theorem dX2_init_48 : decode cX2_init 48 = .ok (.iconst 0, 1) := by decide +kernel
theorem dX2_init_49 : decode cX2_init 49 = .ok (.putfield 32, 3) := by decide +kernel
theorem dX2_init_52 : decode cX2_init 52 = .ok (.aload_n 0, 1) := by decide +kernel
theorem dX2_init_53 : decode cX2_init 53 = .ok (.lconst 0, 1) := by decide +kernel
theorem dX2_init_54 : decode cX2_init 54 = .ok (.putfield 35, 3) := by decide +kernel
theorem dX2_init_57 : decode cX2_init 57 = .ok (.return_, 1) := by decide +kernel
theorem dX2_open_0 : decode cX2_open 0 = .ok (.iload_n 2, 1) := by decide +kernel
theorem dX2_open_1 : decode cX2_open 1 = .ok (.aload_n 1, 1) := by decide +kernel
theorem dX2_open_2 : decode cX2_open 2 = .ok (.arraylength, 1) := by decide +kernel
theorem dX2_open_3 : decode cX2_open 3 = .ok (.invokestatic 39, 3) := by decide +kernel
theorem dX2_open_6 : decode cX2_open 6 = .ok (.istore_n 3, 1) := by decide +kernel
theorem dX2_open_7 : decode cX2_open 7 = .ok (.iconst 0, 1) := by decide +kernel
theorem dX2_open_8 : decode cX2_open 8 = .ok (.istore 4, 2) := by decide +kernel
theorem dX2_open_10 : decode cX2_open 10 = .ok (.aload_n 0, 1) := by decide +kernel
theorem dX2_open_11 : decode cX2_open 11 = .ok (.iconst 0, 1) := by decide +kernel
theorem dX2_open_12 : decode cX2_open 12 = .ok (.putfield 22, 3) := by decide +kernel
theorem dX2_open_15 : decode cX2_open 15 = .ok (.iload 4, 2) := by decide +kernel
theorem dX2_open_17 : decode cX2_open 17 = .ok (.iload_n 3, 1) := by decide +kernel
theorem dX2_open_18 : decode cX2_open 18 = .ok (.if_icmp .ge 130, 3) := by decide +kernel
theorem dX2_open_21 : decode cX2_open 21 = .ok (.aload_n 1, 1) := by decide +kernel
theorem dX2_open_22 : decode cX2_open 22 = .ok (.iload 4, 2) := by decide +kernel
theorem dX2_open_24 : decode cX2_open 24 = .ok (.baload, 1) := by decide +kernel
theorem dX2_open_25 : decode cX2_open 25 = .ok (.istore 5, 2) := by decide +kernel
theorem dX2_open_27 : decode cX2_open 27 = .ok (.iload 5, 2) := by decide +kernel
theorem dX2_open_29 : decode cX2_open 29 = .ok (.invokestatic 45, 3) := by decide +kernel
theorem dX2_open_32 : decode cX2_open 32 = .ok (.ifCond .eq 23, 3) := by decide +kernel
theorem dX2_open_35 : decode cX2_open 35 = .ok (.iload 4, 2) := by decide +kernel
theorem dX2_open_37 : decode cX2_open 37 = .ok (.iconst 1, 1) := by decide +kernel
theorem dX2_open_38 : decode cX2_open 38 = .ok (.iadd, 1) := by decide +kernel
theorem dX2_open_39 : decode cX2_open 39 = .ok (.aload_n 0, 1) := by decide +kernel
theorem dX2_open_40 : decode cX2_open 40 = .ok (.aload_n 1, 1) := by decide +kernel
theorem dX2_open_41 : decode cX2_open 41 = .ok (.iload 4, 2) := by decide +kernel
theorem dX2_open_43 : decode cX2_open 43 = .ok (.iload_n 3, 1) := by decide +kernel
theorem dX2_open_44 : decode cX2_open 44 = .ok (.invokevirtual 49, 3) := by decide +kernel
theorem dX2_open_47 : decode cX2_open 47 = .ok (.invokestatic 53, 3) := by decide +kernel
theorem dX2_open_50 : decode cX2_open 50 = .ok (.istore 4, 2) := by decide +kernel
theorem dX2_open_52 : decode cX2_open 52 = .ok (.goto 93, 3) := by decide +kernel
theorem dX2_open_55 : decode cX2_open 55 = .ok (.iload 5, 2) := by decide +kernel
theorem dX2_open_57 : decode cX2_open 57 = .ok (.bipush 32, 2) := by decide +kernel
theorem dX2_open_59 : decode cX2_open 59 = .ok (.if_icmp .eq 10, 3) := by decide +kernel
theorem dX2_open_62 : decode cX2_open 62 = .ok (.iload 5, 2) := by decide +kernel
theorem dX2_open_64 : decode cX2_open 64 = .ok (.bipush 10, 2) := by decide +kernel
theorem dX2_open_66 : decode cX2_open 66 = .ok (.if_icmp .ne 9, 3) := by decide +kernel
theorem dX2_open_69 : decode cX2_open 69 = .ok (.iinc 4 1, 3) := by decide +kernel
theorem dX2_open_72 : decode cX2_open 72 = .ok (.goto 73, 3) := by decide +kernel
theorem dX2_open_75 : decode cX2_open 75 = .ok (.iload 5, 2) := by decide +kernel
theorem dX2_open_77 : decode cX2_open 77 = .ok (.bipush 45, 2) := by decide +kernel
theorem dX2_open_79 : decode cX2_open 79 = .ok (.if_icmp .ne 26, 3) := by decide +kernel
theorem dX2_open_82 : decode cX2_open 82 = .ok (.iload 4, 2) := by decide +kernel
theorem dX2_open_84 : decode cX2_open 84 = .ok (.iconst 1, 1) := by decide +kernel
theorem dX2_open_85 : decode cX2_open 85 = .ok (.iadd, 1) := by decide +kernel
theorem dX2_open_86 : decode cX2_open 86 = .ok (.iload_n 3, 1) := by decide +kernel
theorem dX2_open_87 : decode cX2_open 87 = .ok (.if_icmp .ge 18, 3) := by decide +kernel
theorem dX2_open_90 : decode cX2_open 90 = .ok (.aload_n 1, 1) := by decide +kernel
theorem dX2_open_91 : decode cX2_open 91 = .ok (.iload 4, 2) := by decide +kernel
theorem dX2_open_93 : decode cX2_open 93 = .ok (.iconst 1, 1) := by decide +kernel
theorem dX2_open_94 : decode cX2_open 94 = .ok (.iadd, 1) := by decide +kernel
theorem dX2_open_95 : decode cX2_open 95 = .ok (.baload, 1) := by decide +kernel
theorem dX2_open_96 : decode cX2_open 96 = .ok (.bipush 62, 2) := by decide +kernel
theorem dX2_open_98 : decode cX2_open 98 = .ok (.if_icmp .ne 7, 3) := by decide +kernel
theorem dX2_open_101 : decode cX2_open 101 = .ok (.iconst 1, 1) := by decide +kernel
theorem dX2_open_102 : decode cX2_open 102 = .ok (.goto 4, 3) := by decide +kernel
theorem dX2_open_105 : decode cX2_open 105 = .ok (.iconst 0, 1) := by decide +kernel
theorem dX2_open_106 : decode cX2_open 106 = .ok (.istore 6, 2) := by decide +kernel
theorem dX2_open_108 : decode cX2_open 108 = .ok (.aload_n 0, 1) := by decide +kernel
theorem dX2_open_109 : decode cX2_open 109 = .ok (.iload 6, 2) := by decide +kernel
theorem dX2_open_111 : decode cX2_open 111 = .ok (.ifCond .eq 8, 3) := by decide +kernel
theorem dX2_open_114 : decode cX2_open 114 = .ok (.bipush 13, 2) := by decide +kernel
theorem dX2_open_116 : decode cX2_open 116 = .ok (.goto 8, 3) := by decide +kernel
theorem dX2_open_119 : decode cX2_open 119 = .ok (.iload 5, 2) := by decide +kernel
theorem dX2_open_121 : decode cX2_open 121 = .ok (.invokestatic 56, 3) := by decide +kernel
theorem dX2_open_124 : decode cX2_open 124 = .ok (.iload 4, 2) := by decide +kernel
theorem dX2_open_126 : decode cX2_open 126 = .ok (.lconst 0, 1) := by decide +kernel
theorem dX2_open_127 : decode cX2_open 127 = .ok (.invokevirtual 60, 3) := by decide +kernel
theorem dX2_open_130 : decode cX2_open 130 = .ok (.iload 4, 2) := by decide +kernel
theorem dX2_open_132 : decode cX2_open 132 = .ok (.iload 6, 2) := by decide +kernel
theorem dX2_open_134 : decode cX2_open 134 = .ok (.ifCond .eq 7, 3) := by decide +kernel
theorem dX2_open_137 : decode cX2_open 137 = .ok (.iconst 2, 1) := by decide +kernel
theorem dX2_open_138 : decode cX2_open 138 = .ok (.goto 4, 3) := by decide +kernel
theorem dX2_open_141 : decode cX2_open 141 = .ok (.iconst 1, 1) := by decide +kernel
theorem dX2_open_142 : decode cX2_open 142 = .ok (.iadd, 1) := by decide +kernel
theorem dX2_open_143 : decode cX2_open 143 = .ok (.istore 4, 2) := by decide +kernel
theorem dX2_open_145 : decode cX2_open 145 = .ok (.goto (-130), 3) := by decide +kernel
theorem dX2_open_148 : decode cX2_open 148 = .ok (.aload_n 0, 1) := by decide +kernel
theorem dX2_open_149 : decode cX2_open 149 = .ok (.bipush 15, 2) := by decide +kernel
theorem dX2_open_151 : decode cX2_open 151 = .ok (.iload_n 3, 1) := by decide +kernel
theorem dX2_open_152 : decode cX2_open 152 = .ok (.lconst 0, 1) := by decide +kernel
theorem dX2_open_153 : decode cX2_open 153 = .ok (.invokevirtual 60, 3) := by decide +kernel
theorem dX2_open_156 : decode cX2_open 156 = .ok (.aload_n 0, 1) := by decide +kernel
theorem dX2_open_157 : decode cX2_open 157 = .ok (.iconst (-1), 1) := by decide +kernel
theorem dX2_open_158 : decode cX2_open 158 = .ok (.putfield 26, 3) := by decide +kernel
theorem dX2_open_161 : decode cX2_open 161 = .ok (.aload_n 0, 1) := by decide +kernel
theorem dX2_open_162 : decode cX2_open 162 = .ok (.invokevirtual 64, 3) := by decide +kernel
theorem dX2_open_165 : decode cX2_open 165 = .ok (.return_, 1) := by decide +kernel
theorem dX2_next_0 : decode cX2_next 0 = .ok (.aload_n 0, 1) := by decide +kernel
theorem dX2_next_1 : decode cX2_next 1 = .ok (.getfield 26, 3) := by decide +kernel
theorem dX2_next_4 : decode cX2_next 4 = .ok (.iconst 1, 1) := by decide +kernel
theorem dX2_next_5 : decode cX2_next 5 = .ok (.iadd, 1) := by decide +kernel
theorem dX2_next_6 : decode cX2_next 6 = .ok (.aload_n 0, 1) := by decide +kernel
theorem dX2_next_7 : decode cX2_next 7 = .ok (.getfield 22, 3) := by decide +kernel
theorem dX2_next_10 : decode cX2_next 10 = .ok (.if_icmp .ge 52, 3) := by decide +kernel
theorem dX2_next_13 : decode cX2_next 13 = .ok (.aload_n 0, 1) := by decide +kernel
theorem dX2_next_14 : decode cX2_next 14 = .ok (.dup, 1) := by decide +kernel
theorem dX2_next_15 : decode cX2_next 15 = .ok (.getfield 26, 3) := by decide +kernel
theorem dX2_next_18 : decode cX2_next 18 = .ok (.iconst 1, 1) := by decide +kernel
theorem dX2_next_19 : decode cX2_next 19 = .ok (.iadd, 1) := by decide +kernel
theorem dX2_next_20 : decode cX2_next 20 = .ok (.putfield 26, 3) := by decide +kernel
theorem dX2_next_23 : decode cX2_next 23 = .ok (.aload_n 0, 1) := by decide +kernel
theorem dX2_next_24 : decode cX2_next 24 = .ok (.aload_n 0, 1) := by decide +kernel
theorem dX2_next_25 : decode cX2_next 25 = .ok (.getfield 9, 3) := by decide +kernel
theorem dX2_next_28 : decode cX2_next 28 = .ok (.aload_n 0, 1) := by decide +kernel
theorem dX2_next_29 : decode cX2_next 29 = .ok (.getfield 26, 3) := by decide +kernel
theorem dX2_next_32 : decode cX2_next 32 = .ok (.iaload, 1) := by decide +kernel
theorem dX2_next_33 : decode cX2_next 33 = .ok (.putfield 29, 3) := by decide +kernel
theorem dX2_next_36 : decode cX2_next 36 = .ok (.aload_n 0, 1) := by decide +kernel
theorem dX2_next_37 : decode cX2_next 37 = .ok (.aload_n 0, 1) := by decide +kernel
theorem dX2_next_38 : decode cX2_next 38 = .ok (.getfield 15, 3) := by decide +kernel
theorem dX2_next_41 : decode cX2_next 41 = .ok (.aload_n 0, 1) := by decide +kernel
theorem dX2_next_42 : decode cX2_next 42 = .ok (.getfield 26, 3) := by decide +kernel
theorem dX2_next_45 : decode cX2_next 45 = .ok (.iaload, 1) := by decide +kernel
theorem dX2_next_46 : decode cX2_next 46 = .ok (.putfield 32, 3) := by decide +kernel
theorem dX2_next_49 : decode cX2_next 49 = .ok (.aload_n 0, 1) := by decide +kernel
theorem dX2_next_50 : decode cX2_next 50 = .ok (.aload_n 0, 1) := by decide +kernel
theorem dX2_next_51 : decode cX2_next 51 = .ok (.getfield 18, 3) := by decide +kernel
theorem dX2_next_54 : decode cX2_next 54 = .ok (.aload_n 0, 1) := by decide +kernel
theorem dX2_next_55 : decode cX2_next 55 = .ok (.getfield 26, 3) := by decide +kernel
theorem dX2_next_58 : decode cX2_next 58 = .ok (.laload, 1) := by decide +kernel
theorem dX2_next_59 : decode cX2_next 59 = .ok (.putfield 35, 3) := by decide +kernel
theorem dX2_next_62 : decode cX2_next 62 = .ok (.return_, 1) := by decide +kernel
theorem dX2_add_0 : decode cX2_add 0 = .ok (.aload_n 0, 1) := by decide +kernel
theorem dX2_add_1 : decode cX2_add 1 = .ok (.getfield 22, 3) := by decide +kernel
theorem dX2_add_4 : decode cX2_add 4 = .ok (.aload_n 0, 1) := by decide +kernel
theorem dX2_add_5 : decode cX2_add 5 = .ok (.getfield 9, 3) := by decide +kernel
theorem dX2_add_8 : decode cX2_add 8 = .ok (.arraylength, 1) := by decide +kernel
theorem dX2_add_9 : decode cX2_add 9 = .ok (.if_icmp .ge 43, 3) := by decide +kernel
theorem dX2_add_12 : decode cX2_add 12 = .ok (.aload_n 0, 1) := by decide +kernel
theorem dX2_add_13 : decode cX2_add 13 = .ok (.getfield 9, 3) := by decide +kernel
theorem dX2_add_16 : decode cX2_add 16 = .ok (.aload_n 0, 1) := by decide +kernel
theorem dX2_add_17 : decode cX2_add 17 = .ok (.getfield 22, 3) := by decide +kernel
theorem dX2_add_20 : decode cX2_add 20 = .ok (.iload_n 1, 1) := by decide +kernel
theorem dX2_add_21 : decode cX2_add 21 = .ok (.iastore, 1) := by decide +kernel
theorem dX2_add_22 : decode cX2_add 22 = .ok (.aload_n 0, 1) := by decide +kernel
theorem dX2_add_23 : decode cX2_add 23 = .ok (.getfield 15, 3) := by decide +kernel
theorem dX2_add_26 : decode cX2_add 26 = .ok (.aload_n 0, 1) := by decide +kernel
theorem dX2_add_27 : decode cX2_add 27 = .ok (.getfield 22, 3) := by decide +kernel
theorem dX2_add_30 : decode cX2_add 30 = .ok (.iload_n 2, 1) := by decide +kernel
theorem dX2_add_31 : decode cX2_add 31 = .ok (.iastore, 1) := by decide +kernel
theorem dX2_add_32 : decode cX2_add 32 = .ok (.aload_n 0, 1) := by decide +kernel
theorem dX2_add_33 : decode cX2_add 33 = .ok (.getfield 18, 3) := by decide +kernel
theorem dX2_add_36 : decode cX2_add 36 = .ok (.aload_n 0, 1) := by decide +kernel
theorem dX2_add_37 : decode cX2_add 37 = .ok (.getfield 22, 3) := by decide +kernel
theorem dX2_add_40 : decode cX2_add 40 = .ok (.lload_n 3, 1) := by decide +kernel
theorem dX2_add_41 : decode cX2_add 41 = .ok (.lastore, 1) := by decide +kernel
theorem dX2_add_42 : decode cX2_add 42 = .ok (.aload_n 0, 1) := by decide +kernel
theorem dX2_add_43 : decode cX2_add 43 = .ok (.dup, 1) := by decide +kernel
theorem dX2_add_44 : decode cX2_add 44 = .ok (.getfield 22, 3) := by decide +kernel
theorem dX2_add_47 : decode cX2_add 47 = .ok (.iconst 1, 1) := by decide +kernel
theorem dX2_add_48 : decode cX2_add 48 = .ok (.iadd, 1) := by decide +kernel
theorem dX2_add_49 : decode cX2_add 49 = .ok (.putfield 22, 3) := by decide +kernel
theorem dX2_add_52 : decode cX2_add 52 = .ok (.return_, 1) := by decide +kernel
theorem dX2_isWordSign_0 : decode cX2_isWordSign 0 = .ok (.iload_n 0, 1) := by decide +kernel
theorem dX2_isWordSign_1 : decode cX2_isWordSign 1 = .ok (.bipush 97, 2) := by decide +kernel
theorem dX2_isWordSign_3 : decode cX2_isWordSign 3 = .ok (.if_icmp .lt 9, 3) := by decide +kernel
theorem dX2_isWordSign_6 : decode cX2_isWordSign 6 = .ok (.iload_n 0, 1) := by decide +kernel
theorem dX2_isWordSign_7 : decode cX2_isWordSign 7 = .ok (.bipush 122, 2) := by decide +kernel
theorem dX2_isWordSign_9 : decode cX2_isWordSign 9 = .ok (.if_icmp .le 15, 3) := by decide +kernel
theorem dX2_isWordSign_12 : decode cX2_isWordSign 12 = .ok (.iload_n 0, 1) := by decide +kernel
theorem dX2_isWordSign_13 : decode cX2_isWordSign 13 = .ok (.bipush 48, 2) := by decide +kernel
theorem dX2_isWordSign_15 : decode cX2_isWordSign 15 = .ok (.if_icmp .lt 13, 3) := by decide +kernel
theorem dX2_isWordSign_18 : decode cX2_isWordSign 18 = .ok (.iload_n 0, 1) := by decide +kernel
theorem dX2_isWordSign_19 : decode cX2_isWordSign 19 = .ok (.bipush 57, 2) := by decide +kernel
theorem dX2_isWordSign_21 : decode cX2_isWordSign 21 = .ok (.if_icmp .gt 7, 3) := by decide +kernel
theorem dX2_isWordSign_24 : decode cX2_isWordSign 24 = .ok (.iconst 1, 1) := by decide +kernel
theorem dX2_isWordSign_25 : decode cX2_isWordSign 25 = .ok (.goto 4, 3) := by decide +kernel
theorem dX2_isWordSign_28 : decode cX2_isWordSign 28 = .ok (.iconst 0, 1) := by decide +kernel
theorem dX2_isWordSign_29 : decode cX2_isWordSign 29 = .ok (.ireturn, 1) := by decide +kernel
theorem dX2_kindOfSign_0 : decode cX2_kindOfSign 0 = .ok (.iload_n 0, 1) := by decide +kernel
theorem dX2_kindOfSign_1 : decode cX2_kindOfSign 1 = .ok (.lookupswitch 66 #[(33, 57), (42, 51), (47, 54), (58, 63), (59, 60)], 51) := by decide +kernel
theorem dX2_kindOfSign_52 : decode cX2_kindOfSign 52 = .ok (.bipush 8, 2) := by decide +kernel
theorem dX2_kindOfSign_54 : decode cX2_kindOfSign 54 = .ok (.ireturn, 1) := by decide +kernel
theorem dX2_kindOfSign_55 : decode cX2_kindOfSign 55 = .ok (.bipush 9, 2) := by decide +kernel
theorem dX2_kindOfSign_57 : decode cX2_kindOfSign 57 = .ok (.ireturn, 1) := by decide +kernel
theorem dX2_kindOfSign_58 : decode cX2_kindOfSign 58 = .ok (.bipush 10, 2) := by decide +kernel
theorem dX2_kindOfSign_60 : decode cX2_kindOfSign 60 = .ok (.ireturn, 1) := by decide +kernel
theorem dX2_kindOfSign_61 : decode cX2_kindOfSign 61 = .ok (.bipush 11, 2) := by decide +kernel
theorem dX2_kindOfSign_63 : decode cX2_kindOfSign 63 = .ok (.ireturn, 1) := by decide +kernel
theorem dX2_kindOfSign_64 : decode cX2_kindOfSign 64 = .ok (.bipush 12, 2) := by decide +kernel
theorem dX2_kindOfSign_66 : decode cX2_kindOfSign 66 = .ok (.ireturn, 1) := by decide +kernel
theorem dX2_kindOfSign_67 : decode cX2_kindOfSign 67 = .ok (.bipush 16, 2) := by decide +kernel
theorem dX2_kindOfSign_69 : decode cX2_kindOfSign 69 = .ok (.ireturn, 1) := by decide +kernel
theorem dX2_cutWord_0 : decode cX2_cutWord 0 = .ok (.lconst 0, 1) := by decide +kernel
theorem dX2_cutWord_1 : decode cX2_cutWord 1 = .ok (.lstore 4, 2) := by decide +kernel
theorem dX2_cutWord_3 : decode cX2_cutWord 3 = .ok (.iload_n 2, 1) := by decide +kernel
theorem dX2_cutWord_4 : decode cX2_cutWord 4 = .ok (.istore 6, 2) := by decide +kernel
theorem dX2_cutWord_6 : decode cX2_cutWord 6 = .ok (.iload 6, 2) := by decide +kernel
theorem dX2_cutWord_8 : decode cX2_cutWord 8 = .ok (.iload_n 3, 1) := by decide +kernel
theorem dX2_cutWord_9 : decode cX2_cutWord 9 = .ok (.if_icmp .ge 32, 3) := by decide +kernel
theorem dX2_cutWord_12 : decode cX2_cutWord 12 = .ok (.aload_n 1, 1) := by decide +kernel
theorem dX2_cutWord_13 : decode cX2_cutWord 13 = .ok (.iload 6, 2) := by decide +kernel
theorem dX2_cutWord_15 : decode cX2_cutWord 15 = .ok (.baload, 1) := by decide +kernel
theorem dX2_cutWord_16 : decode cX2_cutWord 16 = .ok (.invokestatic 45, 3) := by decide +kernel
theorem dX2_cutWord_19 : decode cX2_cutWord 19 = .ok (.ifCond .eq 22, 3) := by decide +kernel
theorem dX2_cutWord_22 : decode cX2_cutWord 22 = .ok (.lload 4, 2) := by decide +kernel
theorem dX2_cutWord_24 : decode cX2_cutWord 24 = .ok (.bipush 8, 2) := by decide +kernel
theorem dX2_cutWord_26 : decode cX2_cutWord 26 = .ok (.lshl, 1) := by decide +kernel
theorem dX2_cutWord_27 : decode cX2_cutWord 27 = .ok (.aload_n 1, 1) := by decide +kernel
theorem dX2_cutWord_28 : decode cX2_cutWord 28 = .ok (.iload 6, 2) := by decide +kernel
theorem dX2_cutWord_30 : decode cX2_cutWord 30 = .ok (.baload, 1) := by decide +kernel
theorem dX2_cutWord_31 : decode cX2_cutWord 31 = .ok (.i2l, 1) := by decide +kernel
theorem dX2_cutWord_32 : decode cX2_cutWord 32 = .ok (.lor, 1) := by decide +kernel
theorem dX2_cutWord_33 : decode cX2_cutWord 33 = .ok (.lstore 4, 2) := by decide +kernel
theorem dX2_cutWord_35 : decode cX2_cutWord 35 = .ok (.iinc 6 1, 3) := by decide +kernel
theorem dX2_cutWord_38 : decode cX2_cutWord 38 = .ok (.goto (-32), 3) := by decide +kernel
theorem dX2_cutWord_41 : decode cX2_cutWord 41 = .ok (.aload_n 0, 1) := by decide +kernel
theorem dX2_cutWord_42 : decode cX2_cutWord 42 = .ok (.iload 6, 2) := by decide +kernel
theorem dX2_cutWord_44 : decode cX2_cutWord 44 = .ok (.iload_n 2, 1) := by decide +kernel
theorem dX2_cutWord_45 : decode cX2_cutWord 45 = .ok (.isub, 1) := by decide +kernel
theorem dX2_cutWord_46 : decode cX2_cutWord 46 = .ok (.bipush 8, 2) := by decide +kernel
theorem dX2_cutWord_48 : decode cX2_cutWord 48 = .ok (.if_icmp .le 8, 3) := by decide +kernel
theorem dX2_cutWord_51 : decode cX2_cutWord 51 = .ok (.bipush 14, 2) := by decide +kernel
theorem dX2_cutWord_53 : decode cX2_cutWord 53 = .ok (.goto 8, 3) := by decide +kernel
theorem dX2_cutWord_56 : decode cX2_cutWord 56 = .ok (.lload 4, 2) := by decide +kernel
theorem dX2_cutWord_58 : decode cX2_cutWord 58 = .ok (.invokestatic 67, 3) := by decide +kernel
theorem dX2_cutWord_61 : decode cX2_cutWord 61 = .ok (.iload_n 2, 1) := by decide +kernel
theorem dX2_cutWord_62 : decode cX2_cutWord 62 = .ok (.lload 4, 2) := by decide +kernel
theorem dX2_cutWord_64 : decode cX2_cutWord 64 = .ok (.invokevirtual 60, 3) := by decide +kernel
theorem dX2_cutWord_67 : decode cX2_cutWord 67 = .ok (.iload 6, 2) := by decide +kernel
theorem dX2_cutWord_69 : decode cX2_cutWord 69 = .ok (.ireturn, 1) := by decide +kernel
theorem dX2_kindOfWord_0 : decode cX2_kindOfWord 0 = .ok (.lload_n 0, 1) := by decide +kernel
theorem dX2_kindOfWord_1 : decode cX2_kindOfWord 1 = .ok (.ldc 71, 2) := by decide +kernel
theorem dX2_kindOfWord_3 : decode cX2_kindOfWord 3 = .ok (.invokestatic 73, 3) := by decide +kernel
theorem dX2_kindOfWord_6 : decode cX2_kindOfWord 6 = .ok (.ifCond .eq 5, 3) := by decide +kernel
theorem dX2_kindOfWord_9 : decode cX2_kindOfWord 9 = .ok (.iconst 1, 1) := by decide +kernel
theorem dX2_kindOfWord_10 : decode cX2_kindOfWord 10 = .ok (.ireturn, 1) := by decide +kernel
theorem dX2_kindOfWord_11 : decode cX2_kindOfWord 11 = .ok (.lload_n 0, 1) := by decide +kernel
theorem dX2_kindOfWord_12 : decode cX2_kindOfWord 12 = .ok (.ldc 77, 2) := by decide +kernel
theorem dX2_kindOfWord_14 : decode cX2_kindOfWord 14 = .ok (.invokestatic 73, 3) := by decide +kernel
theorem dX2_kindOfWord_17 : decode cX2_kindOfWord 17 = .ok (.ifCond .eq 5, 3) := by decide +kernel
theorem dX2_kindOfWord_20 : decode cX2_kindOfWord 20 = .ok (.iconst 2, 1) := by decide +kernel
theorem dX2_kindOfWord_21 : decode cX2_kindOfWord 21 = .ok (.ireturn, 1) := by decide +kernel
theorem dX2_kindOfWord_22 : decode cX2_kindOfWord 22 = .ok (.lload_n 0, 1) := by decide +kernel
theorem dX2_kindOfWord_23 : decode cX2_kindOfWord 23 = .ok (.ldc 79, 2) := by decide +kernel
theorem dX2_kindOfWord_25 : decode cX2_kindOfWord 25 = .ok (.invokestatic 73, 3) := by decide +kernel
theorem dX2_kindOfWord_28 : decode cX2_kindOfWord 28 = .ok (.ifCond .eq 5, 3) := by decide +kernel
theorem dX2_kindOfWord_31 : decode cX2_kindOfWord 31 = .ok (.iconst 3, 1) := by decide +kernel
theorem dX2_kindOfWord_32 : decode cX2_kindOfWord 32 = .ok (.ireturn, 1) := by decide +kernel
theorem dX2_kindOfWord_33 : decode cX2_kindOfWord 33 = .ok (.lload_n 0, 1) := by decide +kernel
theorem dX2_kindOfWord_34 : decode cX2_kindOfWord 34 = .ok (.ldc 81, 2) := by decide +kernel
theorem dX2_kindOfWord_36 : decode cX2_kindOfWord 36 = .ok (.invokestatic 73, 3) := by decide +kernel
theorem dX2_kindOfWord_39 : decode cX2_kindOfWord 39 = .ok (.ifCond .eq 5, 3) := by decide +kernel
theorem dX2_kindOfWord_42 : decode cX2_kindOfWord 42 = .ok (.iconst 4, 1) := by decide +kernel
theorem dX2_kindOfWord_43 : decode cX2_kindOfWord 43 = .ok (.ireturn, 1) := by decide +kernel
theorem dX2_kindOfWord_44 : decode cX2_kindOfWord 44 = .ok (.lload_n 0, 1) := by decide +kernel
theorem dX2_kindOfWord_45 : decode cX2_kindOfWord 45 = .ok (.ldc 83, 2) := by decide +kernel
theorem dX2_kindOfWord_47 : decode cX2_kindOfWord 47 = .ok (.invokestatic 73, 3) := by decide +kernel
theorem dX2_kindOfWord_50 : decode cX2_kindOfWord 50 = .ok (.ifCond .eq 5, 3) := by decide +kernel
theorem dX2_kindOfWord_53 : decode cX2_kindOfWord 53 = .ok (.iconst 5, 1) := by decide +kernel
theorem dX2_kindOfWord_54 : decode cX2_kindOfWord 54 = .ok (.ireturn, 1) := by decide +kernel
theorem dX2_kindOfWord_55 : decode cX2_kindOfWord 55 = .ok (.lload_n 0, 1) := by decide +kernel
theorem dX2_kindOfWord_56 : decode cX2_kindOfWord 56 = .ok (.ldc 85, 2) := by decide +kernel
theorem dX2_kindOfWord_58 : decode cX2_kindOfWord 58 = .ok (.invokestatic 73, 3) := by decide +kernel
theorem dX2_kindOfWord_61 : decode cX2_kindOfWord 61 = .ok (.ifCond .eq 6, 3) := by decide +kernel
theorem dX2_kindOfWord_64 : decode cX2_kindOfWord 64 = .ok (.bipush 6, 2) := by decide +kernel
theorem dX2_kindOfWord_66 : decode cX2_kindOfWord 66 = .ok (.ireturn, 1) := by decide +kernel
theorem dX2_kindOfWord_67 : decode cX2_kindOfWord 67 = .ok (.lload_n 0, 1) := by decide +kernel
theorem dX2_kindOfWord_68 : decode cX2_kindOfWord 68 = .ok (.ldc 87, 2) := by decide +kernel
theorem dX2_kindOfWord_70 : decode cX2_kindOfWord 70 = .ok (.invokestatic 73, 3) := by decide +kernel
theorem dX2_kindOfWord_73 : decode cX2_kindOfWord 73 = .ok (.ifCond .eq 8, 3) := by decide +kernel
theorem dX2_kindOfWord_76 : decode cX2_kindOfWord 76 = .ok (.bipush 7, 2) := by decide +kernel
theorem dX2_kindOfWord_78 : decode cX2_kindOfWord 78 = .ok (.goto 4, 3) := by decide +kernel
theorem dX2_kindOfWord_81 : decode cX2_kindOfWord 81 = .ok (.iconst 0, 1) := by decide +kernel
theorem dX2_kindOfWord_82 : decode cX2_kindOfWord 82 = .ok (.ireturn, 1) := by decide +kernel
theorem dX2_spells_0 : decode cX2_spells 0 = .ok (.lconst 0, 1) := by decide +kernel
theorem dX2_spells_1 : decode cX2_spells 1 = .ok (.lstore_n 3, 1) := by decide +kernel
theorem dX2_spells_2 : decode cX2_spells 2 = .ok (.iconst 0, 1) := by decide +kernel
theorem dX2_spells_3 : decode cX2_spells 3 = .ok (.istore 5, 2) := by decide +kernel
theorem dX2_spells_5 : decode cX2_spells 5 = .ok (.iload 5, 2) := by decide +kernel
theorem dX2_spells_7 : decode cX2_spells 7 = .ok (.aload_n 2, 1) := by decide +kernel
theorem dX2_spells_8 : decode cX2_spells 8 = .ok (.invokevirtual 89, 3) := by decide +kernel
theorem dX2_spells_11 : decode cX2_spells 11 = .ok (.if_icmp .ge 22, 3) := by decide +kernel
theorem dX2_spells_14 : decode cX2_spells 14 = .ok (.lload_n 3, 1) := by decide +kernel
theorem dX2_spells_15 : decode cX2_spells 15 = .ok (.bipush 8, 2) := by decide +kernel
theorem dX2_spells_17 : decode cX2_spells 17 = .ok (.lshl, 1) := by decide +kernel
theorem dX2_spells_18 : decode cX2_spells 18 = .ok (.aload_n 2, 1) := by decide +kernel
theorem dX2_spells_19 : decode cX2_spells 19 = .ok (.iload 5, 2) := by decide +kernel
theorem dX2_spells_21 : decode cX2_spells 21 = .ok (.invokevirtual 95, 3) := by decide +kernel
theorem dX2_spells_24 : decode cX2_spells 24 = .ok (.i2l, 1) := by decide +kernel
theorem dX2_spells_25 : decode cX2_spells 25 = .ok (.lor, 1) := by decide +kernel
theorem dX2_spells_26 : decode cX2_spells 26 = .ok (.lstore_n 3, 1) := by decide +kernel
theorem dX2_spells_27 : decode cX2_spells 27 = .ok (.iinc 5 1, 3) := by decide +kernel
theorem dX2_spells_30 : decode cX2_spells 30 = .ok (.goto (-25), 3) := by decide +kernel
theorem dX2_spells_33 : decode cX2_spells 33 = .ok (.lload_n 3, 1) := by decide +kernel
theorem dX2_spells_34 : decode cX2_spells 34 = .ok (.lload_n 0, 1) := by decide +kernel
theorem dX2_spells_35 : decode cX2_spells 35 = .ok (.lcmp, 1) := by decide +kernel
theorem dX2_spells_36 : decode cX2_spells 36 = .ok (.ifCond .ne 7, 3) := by decide +kernel
theorem dX2_spells_39 : decode cX2_spells 39 = .ok (.iconst 1, 1) := by decide +kernel
theorem dX2_spells_40 : decode cX2_spells 40 = .ok (.goto 4, 3) := by decide +kernel
theorem dX2_spells_43 : decode cX2_spells 43 = .ok (.iconst 0, 1) := by decide +kernel
theorem dX2_spells_44 : decode cX2_spells 44 = .ok (.ireturn, 1) := by decide +kernel
theorem dX3_init_0 : decode cX3_init 0 = .ok (.aload_n 0, 1) := by decide +kernel
theorem dX3_init_1 : decode cX3_init 1 = .ok (.invokespecial 3, 3) := by decide +kernel
theorem dX3_init_4 : decode cX3_init 4 = .ok (.aload_n 0, 1) := by decide +kernel
theorem dX3_init_5 : decode cX3_init 5 = .ok (.sipush 2000, 3) := by decide +kernel
theorem dX3_init_8 : decode cX3_init 8 = .ok (.newarray .byte, 2) := by decide +kernel
theorem dX3_init_10 : decode cX3_init 10 = .ok (.putfield 9, 3) := by decide +kernel
theorem dX3_init_13 : decode cX3_init 13 = .ok (.aload_n 0, 1) := by decide +kernel
theorem dX3_init_14 : decode cX3_init 14 = .ok (.iconst 0, 1) := by decide +kernel
theorem dX3_init_15 : decode cX3_init 15 = .ok (.putfield 15, 3) := by decide +kernel
theorem dX3_init_18 : decode cX3_init 18 = .ok (.return_, 1) := by decide +kernel
theorem dX3_clear_0 : decode cX3_clear 0 = .ok (.aload_n 0, 1) := by decide +kernel
theorem dX3_clear_1 : decode cX3_clear 1 = .ok (.iconst 0, 1) := by decide +kernel
theorem dX3_clear_2 : decode cX3_clear 2 = .ok (.putfield 15, 3) := by decide +kernel
theorem dX3_clear_5 : decode cX3_clear 5 = .ok (.return_, 1) := by decide +kernel
theorem dX3_keptCount_0 : decode cX3_keptCount 0 = .ok (.aload_n 0, 1) := by decide +kernel
theorem dX3_keptCount_1 : decode cX3_keptCount 1 = .ok (.getfield 15, 3) := by decide +kernel
theorem dX3_keptCount_4 : decode cX3_keptCount 4 = .ok (.sipush 2000, 3) := by decide +kernel
theorem dX3_keptCount_7 : decode cX3_keptCount 7 = .ok (.invokestatic 19, 3) := by decide +kernel
theorem dX3_keptCount_10 : decode cX3_keptCount 10 = .ok (.ireturn, 1) := by decide +kernel
theorem dX3_putTerm_0 : decode cX3_putTerm 0 = .ok (.aload_n 0, 1) := by decide +kernel
theorem dX3_putTerm_1 : decode cX3_putTerm 1 = .ok (.aload_n 1, 1) := by decide +kernel
theorem dX3_putTerm_2 : decode cX3_putTerm 2 = .ok (.getfield 25, 3) := by decide +kernel
theorem dX3_putTerm_5 : decode cX3_putTerm 5 = .ok (.getfield 31, 3) := by decide +kernel
theorem dX3_putTerm_8 : decode cX3_putTerm 8 = .ok (.aload_n 1, 1) := by decide +kernel
theorem dX3_putTerm_9 : decode cX3_putTerm 9 = .ok (.getfield 37, 3) := by decide +kernel
theorem dX3_putTerm_12 : decode cX3_putTerm 12 = .ok (.getfield 41, 3) := by decide +kernel
theorem dX3_putTerm_15 : decode cX3_putTerm 15 = .ok (.iload_n 2, 1) := by decide +kernel
theorem dX3_putTerm_16 : decode cX3_putTerm 16 = .ok (.iaload, 1) := by decide +kernel
theorem dX3_putTerm_17 : decode cX3_putTerm 17 = .ok (.invokevirtual 47, 3) := by decide +kernel
theorem dX3_putTerm_20 : decode cX3_putTerm 20 = .ok (.invokevirtual 53, 3) := by decide +kernel
theorem dX3_putTerm_23 : decode cX3_putTerm 23 = .ok (.aload_n 0, 1) := by decide +kernel
theorem dX3_putTerm_24 : decode cX3_putTerm 24 = .ok (.ldc 57, 2) := by decide +kernel
theorem dX3_putTerm_26 : decode cX3_putTerm 26 = .ok (.invokevirtual 59, 3) := by decide +kernel
theorem dX3_putTerm_29 : decode cX3_putTerm 29 = .ok (.iconst 0, 1) := by decide +kernel
theorem dX3_putTerm_30 : decode cX3_putTerm 30 = .ok (.istore_n 3, 1) := by decide +kernel
theorem dX3_putTerm_31 : decode cX3_putTerm 31 = .ok (.iconst 0, 1) := by decide +kernel
theorem dX3_putTerm_32 : decode cX3_putTerm 32 = .ok (.istore 4, 2) := by decide +kernel
theorem dX3_putTerm_34 : decode cX3_putTerm 34 = .ok (.iload 4, 2) := by decide +kernel
theorem dX3_putTerm_36 : decode cX3_putTerm 36 = .ok (.aload_n 1, 1) := by decide +kernel
theorem dX3_putTerm_37 : decode cX3_putTerm 37 = .ok (.getfield 25, 3) := by decide +kernel
theorem dX3_putTerm_40 : decode cX3_putTerm 40 = .ok (.getfield 63, 3) := by decide +kernel
theorem dX3_putTerm_43 : decode cX3_putTerm 43 = .ok (.if_icmp .ge 86, 3) := by decide +kernel
theorem dX3_putTerm_46 : decode cX3_putTerm 46 = .ok (.aload_n 1, 1) := by decide +kernel
theorem dX3_putTerm_47 : decode cX3_putTerm 47 = .ok (.getfield 37, 3) := by decide +kernel
theorem dX3_putTerm_50 : decode cX3_putTerm 50 = .ok (.iload_n 2, 1) := by decide +kernel
theorem dX3_putTerm_51 : decode cX3_putTerm 51 = .ok (.iload 4, 2) := by decide +kernel
theorem dX3_putTerm_53 : decode cX3_putTerm 53 = .ok (.invokevirtual 66, 3) := by decide +kernel
theorem dX3_putTerm_56 : decode cX3_putTerm 56 = .ok (.istore 5, 2) := by decide +kernel
theorem dX3_putTerm_58 : decode cX3_putTerm 58 = .ok (.iload 5, 2) := by decide +kernel
theorem dX3_putTerm_60 : decode cX3_putTerm 60 = .ok (.iconst (-1), 1) := by decide +kernel
theorem dX3_putTerm_61 : decode cX3_putTerm 61 = .ok (.if_icmp .eq 62, 3) := by decide +kernel
theorem dX3_putTerm_64 : decode cX3_putTerm 64 = .ok (.aload_n 0, 1) := by decide +kernel
theorem dX3_putTerm_65 : decode cX3_putTerm 65 = .ok (.iload_n 3, 1) := by decide +kernel
theorem dX3_putTerm_66 : decode cX3_putTerm 66 = .ok (.ifCond .eq 8, 3) := by decide +kernel
theorem dX3_putTerm_69 : decode cX3_putTerm 69 = .ok (.ldc 69, 2) := by decide +kernel
theorem dX3_putTerm_71 : decode cX3_putTerm 71 = .ok (.goto 5, 3) := by decide +kernel
theorem dX3_putTerm_74 : decode cX3_putTerm 74 = .ok (.ldc 71, 2) := by decide +kernel
theorem dX3_putTerm_76 : decode cX3_putTerm 76 = .ok (.invokevirtual 59, 3) := by decide +kernel
theorem dX3_putTerm_79 : decode cX3_putTerm 79 = .ok (.aload_n 0, 1) := by decide +kernel
theorem dX3_putTerm_80 : decode cX3_putTerm 80 = .ok (.aload_n 1, 1) := by decide +kernel
theorem dX3_putTerm_81 : decode cX3_putTerm 81 = .ok (.getfield 25, 3) := by decide +kernel
theorem dX3_putTerm_84 : decode cX3_putTerm 84 = .ok (.getfield 73, 3) := by decide +kernel
theorem dX3_putTerm_87 : decode cX3_putTerm 87 = .ok (.iload 4, 2) := by decide +kernel
theorem dX3_putTerm_89 : decode cX3_putTerm 89 = .ok (.aaload, 1) := by decide +kernel
theorem dX3_putTerm_90 : decode cX3_putTerm 90 = .ok (.getfield 77, 3) := by decide +kernel
theorem dX3_putTerm_93 : decode cX3_putTerm 93 = .ok (.invokevirtual 53, 3) := by decide +kernel
theorem dX3_putTerm_96 : decode cX3_putTerm 96 = .ok (.aload_n 0, 1) := by decide +kernel
theorem dX3_putTerm_97 : decode cX3_putTerm 97 = .ok (.ldc 81, 2) := by decide +kernel
theorem dX3_putTerm_99 : decode cX3_putTerm 99 = .ok (.invokevirtual 59, 3) := by decide +kernel
theorem dX3_putTerm_102 : decode cX3_putTerm 102 = .ok (.aload_n 0, 1) := by decide +kernel
theorem dX3_putTerm_103 : decode cX3_putTerm 103 = .ok (.aload_n 1, 1) := by decide +kernel
theorem dX3_putTerm_104 : decode cX3_putTerm 104 = .ok (.getfield 25, 3) := by decide +kernel
theorem dX3_putTerm_107 : decode cX3_putTerm 107 = .ok (.getfield 73, 3) := by decide +kernel
theorem dX3_putTerm_110 : decode cX3_putTerm 110 = .ok (.iload 4, 2) := by decide +kernel
theorem dX3_putTerm_112 : decode cX3_putTerm 112 = .ok (.aaload, 1) := by decide +kernel
theorem dX3_putTerm_113 : decode cX3_putTerm 113 = .ok (.iload 5, 2) := by decide +kernel
theorem dX3_putTerm_115 : decode cX3_putTerm 115 = .ok (.invokevirtual 47, 3) := by decide +kernel
theorem dX3_putTerm_118 : decode cX3_putTerm 118 = .ok (.invokevirtual 53, 3) := by decide +kernel
theorem dX3_putTerm_121 : decode cX3_putTerm 121 = .ok (.iconst 1, 1) := by decide +kernel
theorem dX3_putTerm_122 : decode cX3_putTerm 122 = .ok (.istore_n 3, 1) := by decide +kernel
theorem dX3_putTerm_123 : decode cX3_putTerm 123 = .ok (.iinc 4 1, 3) := by decide +kernel
theorem dX3_putTerm_126 : decode cX3_putTerm 126 = .ok (.goto (-92), 3) := by decide +kernel
theorem dX3_putTerm_129 : decode cX3_putTerm 129 = .ok (.aload_n 0, 1) := by decide +kernel
theorem dX3_putTerm_130 : decode cX3_putTerm 130 = .ok (.iload_n 3, 1) := by decide +kernel
theorem dX3_putTerm_131 : decode cX3_putTerm 131 = .ok (.ifCond .eq 8, 3) := by decide +kernel
theorem dX3_putTerm_134 : decode cX3_putTerm 134 = .ok (.ldc 83, 2) := by decide +kernel
theorem dX3_putTerm_136 : decode cX3_putTerm 136 = .ok (.goto 5, 3) := by decide +kernel
theorem dX3_putTerm_139 : decode cX3_putTerm 139 = .ok (.ldc 85, 2) := by decide +kernel
theorem dX3_putTerm_141 : decode cX3_putTerm 141 = .ok (.invokevirtual 59, 3) := by decide +kernel
theorem dX3_putTerm_144 : decode cX3_putTerm 144 = .ok (.return_, 1) := by decide +kernel
theorem dX3_putWord_0 : decode cX3_putWord 0 = .ok (.bipush 56, 2) := by decide +kernel
theorem dX3_putWord_2 : decode cX3_putWord 2 = .ok (.istore_n 3, 1) := by decide +kernel
theorem dX3_putWord_3 : decode cX3_putWord 3 = .ok (.iload_n 3, 1) := by decide +kernel
theorem dX3_putWord_4 : decode cX3_putWord 4 = .ok (.ifCond .lt 30, 3) := by decide +kernel
theorem dX3_putWord_7 : decode cX3_putWord 7 = .ok (.lload_n 1, 1) := by decide +kernel
theorem dX3_putWord_8 : decode cX3_putWord 8 = .ok (.iload_n 3, 1) := by decide +kernel
theorem dX3_putWord_9 : decode cX3_putWord 9 = .ok (.lushr, 1) := by decide +kernel
theorem dX3_putWord_10 : decode cX3_putWord 10 = .ok (.l2i, 1) := by decide +kernel
theorem dX3_putWord_11 : decode cX3_putWord 11 = .ok (.sipush 255, 3) := by decide +kernel
theorem dX3_putWord_14 : decode cX3_putWord 14 = .ok (.iand, 1) := by decide +kernel
theorem dX3_putWord_15 : decode cX3_putWord 15 = .ok (.istore 4, 2) := by decide +kernel
theorem dX3_putWord_17 : decode cX3_putWord 17 = .ok (.iload 4, 2) := by decide +kernel
theorem dX3_putWord_19 : decode cX3_putWord 19 = .ok (.ifCond .eq 9, 3) := by decide +kernel
theorem dX3_putWord_22 : decode cX3_putWord 22 = .ok (.aload_n 0, 1) := by decide +kernel
theorem dX3_putWord_23 : decode cX3_putWord 23 = .ok (.iload 4, 2) := by decide +kernel
theorem dX3_putWord_25 : decode cX3_putWord 25 = .ok (.invokevirtual 87, 3) := by decide +kernel
theorem dX3_putWord_28 : decode cX3_putWord 28 = .ok (.iinc 3 (-8), 3) := by decide +kernel
theorem dX3_putWord_31 : decode cX3_putWord 31 = .ok (.goto (-28), 3) := by decide +kernel
theorem dX3_putWord_34 : decode cX3_putWord 34 = .ok (.return_, 1) := by decide +kernel
theorem dX3_putText_0 : decode cX3_putText 0 = .ok (.iconst 0, 1) := by decide +kernel
theorem dX3_putText_1 : decode cX3_putText 1 = .ok (.istore_n 2, 1) := by decide +kernel
theorem dX3_putText_2 : decode cX3_putText 2 = .ok (.iload_n 2, 1) := by decide +kernel
theorem dX3_putText_3 : decode cX3_putText 3 = .ok (.aload_n 1, 1) := by decide +kernel
theorem dX3_putText_4 : decode cX3_putText 4 = .ok (.invokevirtual 91, 3) := by decide +kernel
theorem dX3_putText_7 : decode cX3_putText 7 = .ok (.if_icmp .ge 18, 3) := by decide +kernel
theorem dX3_putText_10 : decode cX3_putText 10 = .ok (.aload_n 0, 1) := by decide +kernel
theorem dX3_putText_11 : decode cX3_putText 11 = .ok (.aload_n 1, 1) := by decide +kernel
theorem dX3_putText_12 : decode cX3_putText 12 = .ok (.iload_n 2, 1) := by decide +kernel
theorem dX3_putText_13 : decode cX3_putText 13 = .ok (.invokevirtual 96, 3) := by decide +kernel
theorem dX3_putText_16 : decode cX3_putText 16 = .ok (.invokevirtual 87, 3) := by decide +kernel
theorem dX3_putText_19 : decode cX3_putText 19 = .ok (.iinc 2 1, 3) := by decide +kernel
theorem dX3_putText_22 : decode cX3_putText 22 = .ok (.goto (-20), 3) := by decide +kernel
theorem dX3_putText_25 : decode cX3_putText 25 = .ok (.return_, 1) := by decide +kernel
theorem dX3_putSign_0 : decode cX3_putSign 0 = .ok (.aload_n 0, 1) := by decide +kernel
theorem dX3_putSign_1 : decode cX3_putSign 1 = .ok (.getfield 15, 3) := by decide +kernel
theorem dX3_putSign_4 : decode cX3_putSign 4 = .ok (.aload_n 0, 1) := by decide +kernel
theorem dX3_putSign_5 : decode cX3_putSign 5 = .ok (.getfield 9, 3) := by decide +kernel
theorem dX3_putSign_8 : decode cX3_putSign 8 = .ok (.arraylength, 1) := by decide +kernel
theorem dX3_putSign_9 : decode cX3_putSign 9 = .ok (.if_icmp .ge 14, 3) := by decide +kernel
theorem dX3_putSign_12 : decode cX3_putSign 12 = .ok (.aload_n 0, 1) := by decide +kernel
theorem dX3_putSign_13 : decode cX3_putSign 13 = .ok (.getfield 9, 3) := by decide +kernel
theorem dX3_putSign_16 : decode cX3_putSign 16 = .ok (.aload_n 0, 1) := by decide +kernel
theorem dX3_putSign_17 : decode cX3_putSign 17 = .ok (.getfield 15, 3) := by decide +kernel
theorem dX3_putSign_20 : decode cX3_putSign 20 = .ok (.iload_n 1, 1) := by decide +kernel
theorem dX3_putSign_21 : decode cX3_putSign 21 = .ok (.i2b, 1) := by decide +kernel
theorem dX3_putSign_22 : decode cX3_putSign 22 = .ok (.bastore, 1) := by decide +kernel
theorem dX3_putSign_23 : decode cX3_putSign 23 = .ok (.aload_n 0, 1) := by decide +kernel
theorem dX3_putSign_24 : decode cX3_putSign 24 = .ok (.dup, 1) := by decide +kernel
theorem dX3_putSign_25 : decode cX3_putSign 25 = .ok (.getfield 15, 3) := by decide +kernel
theorem dX3_putSign_28 : decode cX3_putSign 28 = .ok (.iconst 1, 1) := by decide +kernel
theorem dX3_putSign_29 : decode cX3_putSign 29 = .ok (.iadd, 1) := by decide +kernel
theorem dX3_putSign_30 : decode cX3_putSign 30 = .ok (.putfield 15, 3) := by decide +kernel
theorem dX3_putSign_33 : decode cX3_putSign 33 = .ok (.return_, 1) := by decide +kernel
theorem dX5_init_0 : decode cX5_init 0 = .ok (.aload_n 0, 1) := by decide +kernel
theorem dX5_init_1 : decode cX5_init 1 = .ok (.invokespecial 3, 3) := by decide +kernel
theorem dX5_init_4 : decode cX5_init 4 = .ok (.aload_n 0, 1) := by decide +kernel
theorem dX5_init_5 : decode cX5_init 5 = .ok (.aload_n 1, 1) := by decide +kernel
theorem dX5_init_6 : decode cX5_init 6 = .ok (.putfield 9, 3) := by decide +kernel
theorem dX5_init_9 : decode cX5_init 9 = .ok (.aload_n 0, 1) := by decide +kernel
theorem dX5_init_10 : decode cX5_init 10 = .ok (.aload_n 1, 1) := by decide +kernel
theorem dX5_init_11 : decode cX5_init 11 = .ok (.getfield 15, 3) := by decide +kernel
theorem dX5_init_14 : decode cX5_init 14 = .ok (.newarray .int, 2) := by decide +kernel
theorem dX5_init_16 : decode cX5_init 16 = .ok (.putfield 21, 3) := by decide +kernel
theorem dX5_init_19 : decode cX5_init 19 = .ok (.return_, 1) := by decide +kernel
theorem dX5_findAnswers_0 : decode cX5_findAnswers 0 = .ok (.iconst 0, 1) := by decide +kernel
theorem dX5_findAnswers_1 : decode cX5_findAnswers 1 = .ok (.istore_n 2, 1) := by decide +kernel
theorem dX5_findAnswers_2 : decode cX5_findAnswers 2 = .ok (.iload_n 2, 1) := by decide +kernel
theorem dX5_findAnswers_3 : decode cX5_findAnswers 3 = .ok (.aload_n 0, 1) := by decide +kernel
theorem dX5_findAnswers_4 : decode cX5_findAnswers 4 = .ok (.getfield 21, 3) := by decide +kernel
theorem dX5_findAnswers_7 : decode cX5_findAnswers 7 = .ok (.arraylength, 1) := by decide +kernel
theorem dX5_findAnswers_8 : decode cX5_findAnswers 8 = .ok (.if_icmp .ge 53, 3) := by decide +kernel
theorem dX5_findAnswers_11 : decode cX5_findAnswers 11 = .ok (.aload_n 1, 1) := by decide +kernel
theorem dX5_findAnswers_12 : decode cX5_findAnswers 12 = .ok (.getfield 25, 3) := by decide +kernel
theorem dX5_findAnswers_15 : decode cX5_findAnswers 15 = .ok (.iconst 0, 1) := by decide +kernel
theorem dX5_findAnswers_16 : decode cX5_findAnswers 16 = .ok (.aload_n 0, 1) := by decide +kernel
theorem dX5_findAnswers_17 : decode cX5_findAnswers 17 = .ok (.getfield 9, 3) := by decide +kernel
theorem dX5_findAnswers_20 : decode cX5_findAnswers 20 = .ok (.getfield 31, 3) := by decide +kernel
theorem dX5_findAnswers_23 : decode cX5_findAnswers 23 = .ok (.iload_n 2, 1) := by decide +kernel
theorem dX5_findAnswers_24 : decode cX5_findAnswers 24 = .ok (.invokevirtual 35, 3) := by decide +kernel
theorem dX5_findAnswers_27 : decode cX5_findAnswers 27 = .ok (.istore_n 3, 1) := by decide +kernel
theorem dX5_findAnswers_28 : decode cX5_findAnswers 28 = .ok (.aload_n 0, 1) := by decide +kernel
theorem dX5_findAnswers_29 : decode cX5_findAnswers 29 = .ok (.getfield 21, 3) := by decide +kernel
theorem dX5_findAnswers_32 : decode cX5_findAnswers 32 = .ok (.iload_n 2, 1) := by decide +kernel
theorem dX5_findAnswers_33 : decode cX5_findAnswers 33 = .ok (.iload_n 3, 1) := by decide +kernel
theorem dX5_findAnswers_34 : decode cX5_findAnswers 34 = .ok (.iconst (-1), 1) := by decide +kernel
theorem dX5_findAnswers_35 : decode cX5_findAnswers 35 = .ok (.if_icmp .ne 10, 3) := by decide +kernel
theorem dX5_findAnswers_38 : decode cX5_findAnswers 38 = .ok (.aload_n 1, 1) := by decide +kernel
theorem dX5_findAnswers_39 : decode cX5_findAnswers 39 = .ok (.getfield 41, 3) := by decide +kernel
theorem dX5_findAnswers_42 : decode cX5_findAnswers 42 = .ok (.goto 12, 3) := by decide +kernel
theorem dX5_findAnswers_45 : decode cX5_findAnswers 45 = .ok (.aload_n 1, 1) := by decide +kernel
theorem dX5_findAnswers_46 : decode cX5_findAnswers 46 = .ok (.getfield 25, 3) := by decide +kernel
theorem dX5_findAnswers_49 : decode cX5_findAnswers 49 = .ok (.getfield 44, 3) := by decide +kernel
theorem dX5_findAnswers_52 : decode cX5_findAnswers 52 = .ok (.iload_n 3, 1) := by decide +kernel
theorem dX5_findAnswers_53 : decode cX5_findAnswers 53 = .ok (.iaload, 1) := by decide +kernel
theorem dX5_findAnswers_54 : decode cX5_findAnswers 54 = .ok (.iastore, 1) := by decide +kernel
theorem dX5_findAnswers_55 : decode cX5_findAnswers 55 = .ok (.iinc 2 1, 3) := by decide +kernel
theorem dX5_findAnswers_58 : decode cX5_findAnswers 58 = .ok (.goto (-56), 3) := by decide +kernel
theorem dX5_findAnswers_61 : decode cX5_findAnswers 61 = .ok (.return_, 1) := by decide +kernel
theorem dX5_failsIn_0 : decode cX5_failsIn 0 = .ok (.aload_n 0, 1) := by decide +kernel
theorem dX5_failsIn_1 : decode cX5_failsIn 1 = .ok (.getfield 9, 3) := by decide +kernel
theorem dX5_failsIn_4 : decode cX5_failsIn 4 = .ok (.getfield 47, 3) := by decide +kernel
theorem dX5_failsIn_7 : decode cX5_failsIn 7 = .ok (.iload_n 1, 1) := by decide +kernel
theorem dX5_failsIn_8 : decode cX5_failsIn 8 = .ok (.iaload, 1) := by decide +kernel
theorem dX5_failsIn_9 : decode cX5_failsIn 9 = .ok (.istore_n 3, 1) := by decide +kernel
theorem dX5_failsIn_10 : decode cX5_failsIn 10 = .ok (.iload_n 3, 1) := by decide +kernel
theorem dX5_failsIn_11 : decode cX5_failsIn 11 = .ok (.iconst (-1), 1) := by decide +kernel
theorem dX5_failsIn_12 : decode cX5_failsIn 12 = .ok (.if_icmp .eq 13, 3) := by decide +kernel
theorem dX5_failsIn_15 : decode cX5_failsIn 15 = .ok (.iload_n 2, 1) := by decide +kernel
theorem dX5_failsIn_16 : decode cX5_failsIn 16 = .ok (.iconst (-1), 1) := by decide +kernel
theorem dX5_failsIn_17 : decode cX5_failsIn 17 = .ok (.if_icmp .eq 10, 3) := by decide +kernel
theorem dX5_failsIn_20 : decode cX5_failsIn 20 = .ok (.iload_n 2, 1) := by decide +kernel
theorem dX5_failsIn_21 : decode cX5_failsIn 21 = .ok (.iload_n 3, 1) := by decide +kernel
theorem dX5_failsIn_22 : decode cX5_failsIn 22 = .ok (.if_icmp .eq 5, 3) := by decide +kernel
theorem dX5_failsIn_25 : decode cX5_failsIn 25 = .ok (.iconst 0, 1) := by decide +kernel
theorem dX5_failsIn_26 : decode cX5_failsIn 26 = .ok (.ireturn, 1) := by decide +kernel
theorem dX5_failsIn_27 : decode cX5_failsIn 27 = .ok (.aload_n 0, 1) := by decide +kernel
theorem dX5_failsIn_28 : decode cX5_failsIn 28 = .ok (.getfield 21, 3) := by decide +kernel
theorem dX5_failsIn_31 : decode cX5_failsIn 31 = .ok (.iload_n 1, 1) := by decide +kernel
theorem dX5_failsIn_32 : decode cX5_failsIn 32 = .ok (.iaload, 1) := by decide +kernel
theorem dX5_failsIn_33 : decode cX5_failsIn 33 = .ok (.aload_n 0, 1) := by decide +kernel
theorem dX5_failsIn_34 : decode cX5_failsIn 34 = .ok (.getfield 9, 3) := by decide +kernel
theorem dX5_failsIn_37 : decode cX5_failsIn 37 = .ok (.getfield 50, 3) := by decide +kernel
theorem dX5_failsIn_40 : decode cX5_failsIn 40 = .ok (.iload_n 1, 1) := by decide +kernel
theorem dX5_failsIn_41 : decode cX5_failsIn 41 = .ok (.iaload, 1) := by decide +kernel
theorem dX5_failsIn_42 : decode cX5_failsIn 42 = .ok (.if_icmp .eq 7, 3) := by decide +kernel
theorem dX5_failsIn_45 : decode cX5_failsIn 45 = .ok (.iconst 1, 1) := by decide +kernel
theorem dX5_failsIn_46 : decode cX5_failsIn 46 = .ok (.goto 4, 3) := by decide +kernel
theorem dX5_failsIn_49 : decode cX5_failsIn 49 = .ok (.iconst 0, 1) := by decide +kernel
theorem dX5_failsIn_50 : decode cX5_failsIn 50 = .ok (.ireturn, 1) := by decide +kernel
theorem dX6_init_0 : decode cX6_init 0 = .ok (.aload_n 0, 1) := by decide +kernel
theorem dX6_init_1 : decode cX6_init 1 = .ok (.invokespecial 3, 3) := by decide +kernel
theorem dX6_init_4 : decode cX6_init 4 = .ok (.aload_n 0, 1) := by decide +kernel
theorem dX6_init_5 : decode cX6_init 5 = .ok (.iconst 0, 1) := by decide +kernel
theorem dX6_init_6 : decode cX6_init 6 = .ok (.putfield 9, 3) := by decide +kernel
theorem dX6_init_9 : decode cX6_init 9 = .ok (.aload_n 0, 1) := by decide +kernel
theorem dX6_init_10 : decode cX6_init 10 = .ok (.sipush 200, 3) := by decide +kernel
theorem dX6_init_13 : decode cX6_init 13 = .ok (.newarray .int, 2) := by decide +kernel
theorem dX6_init_15 : decode cX6_init 15 = .ok (.putfield 15, 3) := by decide +kernel
theorem dX6_init_18 : decode cX6_init 18 = .ok (.aload_n 0, 1) := by decide +kernel
theorem dX6_init_19 : decode cX6_init 19 = .ok (.bipush 40, 2) := by decide +kernel
theorem dX6_init_21 : decode cX6_init 21 = .ok (.newarray .int, 2) := by decide +kernel
theorem dX6_init_23 : decode cX6_init 23 = .ok (.putfield 19, 3) := by decide +kernel
theorem dX6_init_26 : decode cX6_init 26 = .ok (.return_, 1) := by decide +kernel
theorem dX6_open_0 : decode cX6_open 0 = .ok (.iconst 0, 1) := by decide +kernel
theorem dX6_open_1 : decode cX6_open 1 = .ok (.istore_n 1, 1) := by decide +kernel
theorem dX6_open_2 : decode cX6_open 2 = .ok (.iload_n 1, 1) := by decide +kernel
theorem dX6_open_3 : decode cX6_open 3 = .ok (.iconst 5, 1) := by decide +kernel
theorem dX6_open_4 : decode cX6_open 4 = .ok (.if_icmp .ge 33, 3) := by decide +kernel
theorem dX6_open_7 : decode cX6_open 7 = .ok (.aload_n 0, 1) := by decide +kernel
theorem dX6_open_8 : decode cX6_open 8 = .ok (.getfield 9, 3) := by decide +kernel
theorem dX6_open_11 : decode cX6_open 11 = .ok (.bipush 40, 2) := by decide +kernel
theorem dX6_open_13 : decode cX6_open 13 = .ok (.if_icmp .ge 24, 3) := by decide +kernel
theorem dX6_open_16 : decode cX6_open 16 = .ok (.aload_n 0, 1) := by decide +kernel
theorem dX6_open_17 : decode cX6_open 17 = .ok (.getfield 15, 3) := by decide +kernel
theorem dX6_open_20 : decode cX6_open 20 = .ok (.aload_n 0, 1) := by decide +kernel
theorem dX6_open_21 : decode cX6_open 21 = .ok (.getfield 9, 3) := by decide +kernel
theorem dX6_open_24 : decode cX6_open 24 = .ok (.iconst 5, 1) := by decide +kernel
theorem dX6_open_25 : decode cX6_open 25 = .ok (.imul, 1) := by decide +kernel
theorem dX6_open_26 : decode cX6_open 26 = .ok (.iload_n 1, 1) := by decide +kernel
theorem dX6_open_27 : decode cX6_open 27 = .ok (.iadd, 1) := by decide +kernel
theorem dX6_open_28 : decode cX6_open 28 = .ok (.bipush 63, 2) := by decide +kernel
theorem dX6_open_30 : decode cX6_open 30 = .ok (.iastore, 1) := by decide +kernel
theorem dX6_open_31 : decode cX6_open 31 = .ok (.iinc 1 1, 3) := by decide +kernel
theorem dX6_open_34 : decode cX6_open 34 = .ok (.goto (-32), 3) := by decide +kernel
theorem dX6_open_37 : decode cX6_open 37 = .ok (.return_, 1) := by decide +kernel
theorem dX6_narrow_0 : decode cX6_narrow 0 = .ok (.aload_n 0, 1) := by decide +kernel
theorem dX6_narrow_1 : decode cX6_narrow 1 = .ok (.getfield 9, 3) := by decide +kernel
theorem dX6_narrow_4 : decode cX6_narrow 4 = .ok (.bipush 40, 2) := by decide +kernel
theorem dX6_narrow_6 : decode cX6_narrow 6 = .ok (.if_icmp .ge 29, 3) := by decide +kernel
theorem dX6_narrow_9 : decode cX6_narrow 9 = .ok (.iload_n 1, 1) := by decide +kernel
theorem dX6_narrow_10 : decode cX6_narrow 10 = .ok (.ifCond .lt 25, 3) := by decide +kernel
theorem dX6_narrow_13 : decode cX6_narrow 13 = .ok (.iload_n 1, 1) := by decide +kernel
theorem dX6_narrow_14 : decode cX6_narrow 14 = .ok (.iconst 5, 1) := by decide +kernel
theorem dX6_narrow_15 : decode cX6_narrow 15 = .ok (.if_icmp .ge 20, 3) := by decide +kernel
theorem dX6_narrow_18 : decode cX6_narrow 18 = .ok (.aload_n 0, 1) := by decide +kernel
theorem dX6_narrow_19 : decode cX6_narrow 19 = .ok (.getfield 15, 3) := by decide +kernel
theorem dX6_narrow_22 : decode cX6_narrow 22 = .ok (.aload_n 0, 1) := by decide +kernel
theorem dX6_narrow_23 : decode cX6_narrow 23 = .ok (.getfield 9, 3) := by decide +kernel
theorem dX6_narrow_26 : decode cX6_narrow 26 = .ok (.iconst 5, 1) := by decide +kernel
theorem dX6_narrow_27 : decode cX6_narrow 27 = .ok (.imul, 1) := by decide +kernel
theorem dX6_narrow_28 : decode cX6_narrow 28 = .ok (.iload_n 1, 1) := by decide +kernel
theorem dX6_narrow_29 : decode cX6_narrow 29 = .ok (.iadd, 1) := by decide +kernel
theorem dX6_narrow_30 : decode cX6_narrow 30 = .ok (.dup2, 1) := by decide +kernel
theorem dX6_narrow_31 : decode cX6_narrow 31 = .ok (.iaload, 1) := by decide +kernel
theorem dX6_narrow_32 : decode cX6_narrow 32 = .ok (.iload_n 2, 1) := by decide +kernel
theorem dX6_narrow_33 : decode cX6_narrow 33 = .ok (.iand, 1) := by decide +kernel
theorem dX6_narrow_34 : decode cX6_narrow 34 = .ok (.iastore, 1) := by decide +kernel
theorem dX6_narrow_35 : decode cX6_narrow 35 = .ok (.return_, 1) := by decide +kernel
theorem dX6_close_0 : decode cX6_close 0 = .ok (.aload_n 0, 1) := by decide +kernel
theorem dX6_close_1 : decode cX6_close 1 = .ok (.getfield 9, 3) := by decide +kernel
theorem dX6_close_4 : decode cX6_close 4 = .ok (.bipush 40, 2) := by decide +kernel
theorem dX6_close_6 : decode cX6_close 6 = .ok (.if_icmp .ge 23, 3) := by decide +kernel
theorem dX6_close_9 : decode cX6_close 9 = .ok (.aload_n 0, 1) := by decide +kernel
theorem dX6_close_10 : decode cX6_close 10 = .ok (.getfield 19, 3) := by decide +kernel
theorem dX6_close_13 : decode cX6_close 13 = .ok (.aload_n 0, 1) := by decide +kernel
theorem dX6_close_14 : decode cX6_close 14 = .ok (.getfield 9, 3) := by decide +kernel
theorem dX6_close_17 : decode cX6_close 17 = .ok (.iload_n 1, 1) := by decide +kernel
theorem dX6_close_18 : decode cX6_close 18 = .ok (.iastore, 1) := by decide +kernel
theorem dX6_close_19 : decode cX6_close 19 = .ok (.aload_n 0, 1) := by decide +kernel
theorem dX6_close_20 : decode cX6_close 20 = .ok (.dup, 1) := by decide +kernel
theorem dX6_close_21 : decode cX6_close 21 = .ok (.getfield 9, 3) := by decide +kernel
theorem dX6_close_24 : decode cX6_close 24 = .ok (.iconst 1, 1) := by decide +kernel
theorem dX6_close_25 : decode cX6_close 25 = .ok (.iadd, 1) := by decide +kernel
theorem dX6_close_26 : decode cX6_close 26 = .ok (.putfield 9, 3) := by decide +kernel
theorem dX6_close_29 : decode cX6_close 29 = .ok (.return_, 1) := by decide +kernel
theorem dX6_cell_0 : decode cX6_cell 0 = .ok (.iload_n 1, 1) := by decide +kernel
theorem dX6_cell_1 : decode cX6_cell 1 = .ok (.iconst 5, 1) := by decide +kernel
theorem dX6_cell_2 : decode cX6_cell 2 = .ok (.imul, 1) := by decide +kernel
theorem dX6_cell_3 : decode cX6_cell 3 = .ok (.iload_n 2, 1) := by decide +kernel
theorem dX6_cell_4 : decode cX6_cell 4 = .ok (.iadd, 1) := by decide +kernel
theorem dX6_cell_5 : decode cX6_cell 5 = .ok (.istore_n 3, 1) := by decide +kernel
theorem dX6_cell_6 : decode cX6_cell 6 = .ok (.iload_n 3, 1) := by decide +kernel
theorem dX6_cell_7 : decode cX6_cell 7 = .ok (.ifCond .lt 21, 3) := by decide +kernel
theorem dX6_cell_10 : decode cX6_cell 10 = .ok (.iload_n 3, 1) := by decide +kernel
theorem dX6_cell_11 : decode cX6_cell 11 = .ok (.aload_n 0, 1) := by decide +kernel
theorem dX6_cell_12 : decode cX6_cell 12 = .ok (.getfield 15, 3) := by decide +kernel
theorem dX6_cell_15 : decode cX6_cell 15 = .ok (.arraylength, 1) := by decide +kernel
theorem dX6_cell_16 : decode cX6_cell 16 = .ok (.if_icmp .ge 12, 3) := by decide +kernel
theorem dX6_cell_19 : decode cX6_cell 19 = .ok (.aload_n 0, 1) := by decide +kernel
theorem dX6_cell_20 : decode cX6_cell 20 = .ok (.getfield 15, 3) := by decide +kernel
theorem dX6_cell_23 : decode cX6_cell 23 = .ok (.iload_n 3, 1) := by decide +kernel
theorem dX6_cell_24 : decode cX6_cell 24 = .ok (.iaload, 1) := by decide +kernel
theorem dX6_cell_25 : decode cX6_cell 25 = .ok (.goto 4, 3) := by decide +kernel
theorem dX6_cell_28 : decode cX6_cell 28 = .ok (.iconst 0, 1) := by decide +kernel
theorem dX6_cell_29 : decode cX6_cell 29 = .ok (.ireturn, 1) := by decide +kernel
theorem dX6_fits_0 : decode cX6_fits 0 = .ok (.iconst 0, 1) := by decide +kernel
theorem dX6_fits_1 : decode cX6_fits 1 = .ok (.istore 4, 2) := by decide +kernel
theorem dX6_fits_3 : decode cX6_fits 3 = .ok (.iload 4, 2) := by decide +kernel
theorem dX6_fits_5 : decode cX6_fits 5 = .ok (.aload_n 2, 1) := by decide +kernel
theorem dX6_fits_6 : decode cX6_fits 6 = .ok (.arraylength, 1) := by decide +kernel
theorem dX6_fits_7 : decode cX6_fits 7 = .ok (.if_icmp .ge 30, 3) := by decide +kernel
theorem dX6_fits_10 : decode cX6_fits 10 = .ok (.aload_n 0, 1) := by decide +kernel
theorem dX6_fits_11 : decode cX6_fits 11 = .ok (.iload_n 1, 1) := by decide +kernel
theorem dX6_fits_12 : decode cX6_fits 12 = .ok (.iload 4, 2) := by decide +kernel
theorem dX6_fits_14 : decode cX6_fits 14 = .ok (.invokevirtual 22, 3) := by decide +kernel
theorem dX6_fits_17 : decode cX6_fits 17 = .ok (.aload_n 2, 1) := by decide +kernel
theorem dX6_fits_18 : decode cX6_fits 18 = .ok (.iload 4, 2) := by decide +kernel
theorem dX6_fits_20 : decode cX6_fits 20 = .ok (.aaload, 1) := by decide +kernel
theorem dX6_fits_21 : decode cX6_fits 21 = .ok (.iload_n 3, 1) := by decide +kernel
theorem dX6_fits_22 : decode cX6_fits 22 = .ok (.iaload, 1) := by decide +kernel
theorem dX6_fits_23 : decode cX6_fits 23 = .ok (.ishr, 1) := by decide +kernel
theorem dX6_fits_24 : decode cX6_fits 24 = .ok (.iconst 1, 1) := by decide +kernel
theorem dX6_fits_25 : decode cX6_fits 25 = .ok (.iand, 1) := by decide +kernel
theorem dX6_fits_26 : decode cX6_fits 26 = .ok (.ifCond .ne 5, 3) := by decide +kernel
theorem dX6_fits_29 : decode cX6_fits 29 = .ok (.iconst 0, 1) := by decide +kernel
theorem dX6_fits_30 : decode cX6_fits 30 = .ok (.ireturn, 1) := by decide +kernel
theorem dX6_fits_31 : decode cX6_fits 31 = .ok (.iinc 4 1, 3) := by decide +kernel
theorem dX6_fits_34 : decode cX6_fits 34 = .ok (.goto (-31), 3) := by decide +kernel
theorem dX6_fits_37 : decode cX6_fits 37 = .ok (.iconst 1, 1) := by decide +kernel
theorem dX6_fits_38 : decode cX6_fits 38 = .ok (.ireturn, 1) := by decide +kernel
theorem dX6_firstFitting_0 : decode cX6_firstFitting 0 = .ok (.iload_n 1, 1) := by decide +kernel
theorem dX6_firstFitting_1 : decode cX6_firstFitting 1 = .ok (.istore 4, 2) := by decide +kernel
theorem dX6_firstFitting_3 : decode cX6_firstFitting 3 = .ok (.iload 4, 2) := by decide +kernel
theorem dX6_firstFitting_5 : decode cX6_firstFitting 5 = .ok (.aload_n 0, 1) := by decide +kernel
theorem dX6_firstFitting_6 : decode cX6_firstFitting 6 = .ok (.getfield 9, 3) := by decide +kernel
theorem dX6_firstFitting_9 : decode cX6_firstFitting 9 = .ok (.if_icmp .ge 23, 3) := by decide +kernel
theorem dX6_firstFitting_12 : decode cX6_firstFitting 12 = .ok (.aload_n 0, 1) := by decide +kernel
theorem dX6_firstFitting_13 : decode cX6_firstFitting 13 = .ok (.iload 4, 2) := by decide +kernel
theorem dX6_firstFitting_15 : decode cX6_firstFitting 15 = .ok (.aload_n 2, 1) := by decide +kernel
theorem dX6_firstFitting_16 : decode cX6_firstFitting 16 = .ok (.iload_n 3, 1) := by decide +kernel
theorem dX6_firstFitting_17 : decode cX6_firstFitting 17 = .ok (.invokevirtual 26, 3) := by decide +kernel
theorem dX6_firstFitting_20 : decode cX6_firstFitting 20 = .ok (.ifCond .eq 6, 3) := by decide +kernel
theorem dX6_firstFitting_23 : decode cX6_firstFitting 23 = .ok (.iload 4, 2) := by decide +kernel
theorem dX6_firstFitting_25 : decode cX6_firstFitting 25 = .ok (.ireturn, 1) := by decide +kernel
theorem dX6_firstFitting_26 : decode cX6_firstFitting 26 = .ok (.iinc 4 1, 3) := by decide +kernel
theorem dX6_firstFitting_29 : decode cX6_firstFitting 29 = .ok (.goto (-26), 3) := by decide +kernel
theorem dX6_firstFitting_32 : decode cX6_firstFitting 32 = .ok (.iconst (-1), 1) := by decide +kernel
theorem dX6_firstFitting_33 : decode cX6_firstFitting 33 = .ok (.ireturn, 1) := by decide +kernel
theorem dX9_init_0 : decode cX9_init 0 = .ok (.aload_n 0, 1) := by decide +kernel
theorem dX9_init_1 : decode cX9_init 1 = .ok (.invokespecial 1, 3) := by decide +kernel
theorem dX9_init_4 : decode cX9_init 4 = .ok (.aload_n 0, 1) := by decide +kernel
theorem dX9_init_5 : decode cX9_init 5 = .ok (.new 7, 3) := by decide +kernel
theorem dX9_init_8 : decode cX9_init 8 = .ok (.dup, 1) := by decide +kernel
theorem dX9_init_9 : decode cX9_init 9 = .ok (.invokespecial 9, 3) := by decide +kernel
theorem dX9_init_12 : decode cX9_init 12 = .ok (.putfield 10, 3) := by decide +kernel
theorem dX9_init_15 : decode cX9_init 15 = .ok (.aload_n 0, 1) := by decide +kernel
theorem dX9_init_16 : decode cX9_init 16 = .ok (.iconst 0, 1) := by decide +kernel
theorem dX9_init_17 : decode cX9_init 17 = .ok (.putfield 16, 3) := by decide +kernel
theorem dX9_init_20 : decode cX9_init 20 = .ok (.return_, 1) := by decide +kernel
theorem dX9_clear_0 : decode cX9_clear 0 = .ok (.aload_n 0, 1) := by decide +kernel
theorem dX9_clear_1 : decode cX9_clear 1 = .ok (.getfield 10, 3) := by decide +kernel
theorem dX9_clear_4 : decode cX9_clear 4 = .ok (.iconst 0, 1) := by decide +kernel
theorem dX9_clear_5 : decode cX9_clear 5 = .ok (.putfield 20, 3) := by decide +kernel
theorem dX9_clear_8 : decode cX9_clear 8 = .ok (.aload_n 0, 1) := by decide +kernel
theorem dX9_clear_9 : decode cX9_clear 9 = .ok (.iconst 0, 1) := by decide +kernel
theorem dX9_clear_10 : decode cX9_clear 10 = .ok (.putfield 16, 3) := by decide +kernel
theorem dX9_clear_13 : decode cX9_clear 13 = .ok (.return_, 1) := by decide +kernel
