theorem dX4_init_0 : decode cX4_init 0 = .ok (.aload_n 0, 1) := by decide +kernel
theorem dX4_init_1 : decode cX4_init 1 = .ok (.invokespecial 3, 3) := by decide +kernel
theorem dX4_init_4 : decode cX4_init 4 = .ok (.aload_n 0, 1) := by decide +kernel
theorem dX4_init_5 : decode cX4_init 5 = .ok (.new 9, 3) := by decide +kernel
theorem dX4_init_8 : decode cX4_init 8 = .ok (.dup, 1) := by decide +kernel
theorem dX4_init_9 : decode cX4_init 9 = .ok (.invokespecial 11, 3) := by decide +kernel
theorem dX4_init_12 : decode cX4_init 12 = .ok (.putfield 12, 3) := by decide +kernel
theorem dX4_init_15 : decode cX4_init 15 = .ok (.aload_n 0, 1) := by decide +kernel
theorem dX4_init_16 : decode cX4_init 16 = .ok (.iconst 0, 1) := by decide +kernel
theorem dX4_init_17 : decode cX4_init 17 = .ok (.putfield 18, 3) := by decide +kernel
theorem dX4_init_20 : decode cX4_init 20 = .ok (.return_, 1) := by decide +kernel
theorem dX4_place_0 : decode cX4_place 0 = .ok (.aload_n 0, 1) := by decide +kernel
theorem dX4_place_1 : decode cX4_place 1 = .ok (.getfield 12, 3) := by decide +kernel
theorem dX4_place_4 : decode cX4_place 4 = .ok (.getfield 22, 3) := by decide +kernel
theorem dX4_place_7 : decode cX4_place 7 = .ok (.ireturn, 1) := by decide +kernel
theorem dX4_readTable_0 : decode cX4_readTable 0 = .ok (.aload_n 3, 1) := by decide +kernel
theorem dX4_readTable_1 : decode cX4_readTable 1 = .ok (.invokevirtual 25, 3) := by decide +kernel
theorem dX4_readTable_4 : decode cX4_readTable 4 = .ok (.aload_n 0, 1) := by decide +kernel
theorem dX4_readTable_5 : decode cX4_readTable 5 = .ok (.iconst 0, 1) := by decide +kernel
theorem dX4_readTable_6 : decode cX4_readTable 6 = .ok (.putfield 18, 3) := by decide +kernel
theorem dX4_readTable_9 : decode cX4_readTable 9 = .ok (.aload_n 0, 1) := by decide +kernel
theorem dX4_readTable_10 : decode cX4_readTable 10 = .ok (.getfield 12, 3) := by decide +kernel
theorem dX4_readTable_13 : decode cX4_readTable 13 = .ok (.aload_n 1, 1) := by decide +kernel
theorem dX4_readTable_14 : decode cX4_readTable 14 = .ok (.iload_n 2, 1) := by decide +kernel
theorem dX4_readTable_15 : decode cX4_readTable 15 = .ok (.invokevirtual 30, 3) := by decide +kernel
theorem dX4_readTable_18 : decode cX4_readTable 18 = .ok (.aload_n 0, 1) := by decide +kernel
theorem dX4_readTable_19 : decode cX4_readTable 19 = .ok (.aload_n 3, 1) := by decide +kernel
theorem dX4_readTable_20 : decode cX4_readTable 20 = .ok (.invokevirtual 34, 3) := by decide +kernel
theorem dX4_readTable_23 : decode cX4_readTable 23 = .ok (.ifCond .eq 23, 3) := by decide +kernel
theorem dX4_readTable_26 : decode cX4_readTable 26 = .ok (.aload_n 0, 1) := by decide +kernel
theorem dX4_readTable_27 : decode cX4_readTable 27 = .ok (.aload_n 3, 1) := by decide +kernel
theorem dX4_readTable_28 : decode cX4_readTable 28 = .ok (.invokevirtual 38, 3) := by decide +kernel
theorem dX4_readTable_31 : decode cX4_readTable 31 = .ok (.ifCond .eq 15, 3) := by decide +kernel
theorem dX4_readTable_34 : decode cX4_readTable 34 = .ok (.aload_n 0, 1) := by decide +kernel
theorem dX4_readTable_35 : decode cX4_readTable 35 = .ok (.aload_n 3, 1) := by decide +kernel
theorem dX4_readTable_36 : decode cX4_readTable 36 = .ok (.invokevirtual 41, 3) := by decide +kernel
theorem dX4_readTable_39 : decode cX4_readTable 39 = .ok (.ifCond .eq 7, 3) := by decide +kernel
theorem dX4_readTable_42 : decode cX4_readTable 42 = .ok (.iconst 1, 1) := by decide +kernel
theorem dX4_readTable_43 : decode cX4_readTable 43 = .ok (.goto 4, 3) := by decide +kernel
theorem dX4_readTable_46 : decode cX4_readTable 46 = .ok (.iconst 0, 1) := by decide +kernel
theorem dX4_readTable_47 : decode cX4_readTable 47 = .ok (.istore 4, 2) := by decide +kernel
theorem dX4_readTable_49 : decode cX4_readTable 49 = .ok (.iload 4, 2) := by decide +kernel
theorem dX4_readTable_51 : decode cX4_readTable 51 = .ok (.ifCond .eq 7, 3) := by decide +kernel
theorem dX4_readTable_54 : decode cX4_readTable 54 = .ok (.iconst 0, 1) := by decide +kernel
theorem dX4_readTable_55 : decode cX4_readTable 55 = .ok (.goto 7, 3) := by decide +kernel
theorem dX4_readTable_58 : decode cX4_readTable 58 = .ok (.aload_n 0, 1) := by decide +kernel
theorem dX4_readTable_59 : decode cX4_readTable 59 = .ok (.getfield 18, 3) := by decide +kernel
theorem dX4_readTable_62 : decode cX4_readTable 62 = .ok (.ireturn, 1) := by decide +kernel
theorem dX4_readProgram_0 : decode cX4_readProgram 0 = .ok (.aload 4, 2) := by decide +kernel
theorem dX4_readProgram_2 : decode cX4_readProgram 2 = .ok (.invokevirtual 44, 3) := by decide +kernel
theorem dX4_readProgram_5 : decode cX4_readProgram 5 = .ok (.aload_n 0, 1) := by decide +kernel
theorem dX4_readProgram_6 : decode cX4_readProgram 6 = .ok (.iconst 0, 1) := by decide +kernel
theorem dX4_readProgram_7 : decode cX4_readProgram 7 = .ok (.putfield 18, 3) := by decide +kernel
theorem dX4_readProgram_10 : decode cX4_readProgram 10 = .ok (.aload_n 0, 1) := by decide +kernel
theorem dX4_readProgram_11 : decode cX4_readProgram 11 = .ok (.getfield 12, 3) := by decide +kernel
theorem dX4_readProgram_14 : decode cX4_readProgram 14 = .ok (.aload_n 1, 1) := by decide +kernel
theorem dX4_readProgram_15 : decode cX4_readProgram 15 = .ok (.iload_n 2, 1) := by decide +kernel
theorem dX4_readProgram_16 : decode cX4_readProgram 16 = .ok (.invokevirtual 30, 3) := by decide +kernel
theorem dX4_readProgram_19 : decode cX4_readProgram 19 = .ok (.aload_n 0, 1) := by decide +kernel
theorem dX4_readProgram_20 : decode cX4_readProgram 20 = .ok (.aload_n 3, 1) := by decide +kernel
theorem dX4_readProgram_21 : decode cX4_readProgram 21 = .ok (.aload 4, 2) := by decide +kernel
theorem dX4_readProgram_23 : decode cX4_readProgram 23 = .ok (.getfield 47, 3) := by decide +kernel
theorem dX4_readProgram_26 : decode cX4_readProgram 26 = .ok (.invokevirtual 51, 3) := by decide +kernel
theorem dX4_readProgram_29 : decode cX4_readProgram 29 = .ok (.ifCond .eq 17, 3) := by decide +kernel
theorem dX4_readProgram_32 : decode cX4_readProgram 32 = .ok (.aload_n 0, 1) := by decide +kernel
theorem dX4_readProgram_33 : decode cX4_readProgram 33 = .ok (.aload_n 3, 1) := by decide +kernel
theorem dX4_readProgram_34 : decode cX4_readProgram 34 = .ok (.aload 4, 2) := by decide +kernel
theorem dX4_readProgram_36 : decode cX4_readProgram 36 = .ok (.invokevirtual 55, 3) := by decide +kernel
theorem dX4_readProgram_39 : decode cX4_readProgram 39 = .ok (.ifCond .eq 7, 3) := by decide +kernel
theorem dX4_readProgram_42 : decode cX4_readProgram 42 = .ok (.iconst 1, 1) := by decide +kernel
theorem dX4_readProgram_43 : decode cX4_readProgram 43 = .ok (.goto 4, 3) := by decide +kernel
theorem dX4_readProgram_46 : decode cX4_readProgram 46 = .ok (.iconst 0, 1) := by decide +kernel
theorem dX4_readProgram_47 : decode cX4_readProgram 47 = .ok (.istore 5, 2) := by decide +kernel
theorem dX4_readProgram_49 : decode cX4_readProgram 49 = .ok (.iload 5, 2) := by decide +kernel
theorem dX4_readProgram_51 : decode cX4_readProgram 51 = .ok (.ifCond .eq 7, 3) := by decide +kernel
theorem dX4_readProgram_54 : decode cX4_readProgram 54 = .ok (.iconst 0, 1) := by decide +kernel
theorem dX4_readProgram_55 : decode cX4_readProgram 55 = .ok (.goto 7, 3) := by decide +kernel
theorem dX4_readProgram_58 : decode cX4_readProgram 58 = .ok (.aload_n 0, 1) := by decide +kernel
theorem dX4_readProgram_59 : decode cX4_readProgram 59 = .ok (.getfield 18, 3) := by decide +kernel
theorem dX4_readProgram_62 : decode cX4_readProgram 62 = .ok (.ireturn, 1) := by decide +kernel
theorem dX4_refuse_0 : decode cX4_refuse 0 = .ok (.aload_n 0, 1) := by decide +kernel
theorem dX4_refuse_1 : decode cX4_refuse 1 = .ok (.iload_n 1, 1) := by decide +kernel
theorem dX4_refuse_2 : decode cX4_refuse 2 = .ok (.putfield 18, 3) := by decide +kernel
theorem dX4_refuse_5 : decode cX4_refuse 5 = .ok (.iconst 0, 1) := by decide +kernel
theorem dX4_refuse_6 : decode cX4_refuse 6 = .ok (.ireturn, 1) := by decide +kernel
theorem dX4_pass_0 : decode cX4_pass 0 = .ok (.aload_n 0, 1) := by decide +kernel
theorem dX4_pass_1 : decode cX4_pass 1 = .ok (.getfield 12, 3) := by decide +kernel
theorem dX4_pass_4 : decode cX4_pass 4 = .ok (.getfield 59, 3) := by decide +kernel
theorem dX4_pass_7 : decode cX4_pass 7 = .ok (.iload_n 1, 1) := by decide +kernel
theorem dX4_pass_8 : decode cX4_pass 8 = .ok (.if_icmp .eq 9, 3) := by decide +kernel
theorem dX4_pass_11 : decode cX4_pass 11 = .ok (.aload_n 0, 1) := by decide +kernel
theorem dX4_pass_12 : decode cX4_pass 12 = .ok (.iconst 1, 1) := by decide +kernel
theorem dX4_pass_13 : decode cX4_pass 13 = .ok (.invokevirtual 62, 3) := by decide +kernel
theorem dX4_pass_16 : decode cX4_pass 16 = .ok (.ireturn, 1) := by decide +kernel
theorem dX4_pass_17 : decode cX4_pass 17 = .ok (.aload_n 0, 1) := by decide +kernel
theorem dX4_pass_18 : decode cX4_pass 18 = .ok (.getfield 12, 3) := by decide +kernel
theorem dX4_pass_21 : decode cX4_pass 21 = .ok (.invokevirtual 66, 3) := by decide +kernel
theorem dX4_pass_24 : decode cX4_pass 24 = .ok (.iconst 1, 1) := by decide +kernel
theorem dX4_pass_25 : decode cX4_pass 25 = .ok (.ireturn, 1) := by decide +kernel
theorem dX4_wordIsHere_0 : decode cX4_wordIsHere 0 = .ok (.aload_n 0, 1) := by decide +kernel
theorem dX4_wordIsHere_1 : decode cX4_wordIsHere 1 = .ok (.getfield 12, 3) := by decide +kernel
theorem dX4_wordIsHere_4 : decode cX4_wordIsHere 4 = .ok (.getfield 59, 3) := by decide +kernel
theorem dX4_wordIsHere_7 : decode cX4_wordIsHere 7 = .ok (.bipush 14, 2) := by decide +kernel
theorem dX4_wordIsHere_9 : decode cX4_wordIsHere 9 = .ok (.if_icmp .ne 9, 3) := by decide +kernel
theorem dX4_wordIsHere_12 : decode cX4_wordIsHere 12 = .ok (.aload_n 0, 1) := by decide +kernel
theorem dX4_wordIsHere_13 : decode cX4_wordIsHere 13 = .ok (.iconst 2, 1) := by decide +kernel
theorem dX4_wordIsHere_14 : decode cX4_wordIsHere 14 = .ok (.invokevirtual 62, 3) := by decide +kernel
theorem dX4_wordIsHere_17 : decode cX4_wordIsHere 17 = .ok (.ireturn, 1) := by decide +kernel
theorem dX4_wordIsHere_18 : decode cX4_wordIsHere 18 = .ok (.aload_n 0, 1) := by decide +kernel
theorem dX4_wordIsHere_19 : decode cX4_wordIsHere 19 = .ok (.getfield 12, 3) := by decide +kernel
theorem dX4_wordIsHere_22 : decode cX4_wordIsHere 22 = .ok (.getfield 59, 3) := by decide +kernel
theorem dX4_wordIsHere_25 : decode cX4_wordIsHere 25 = .ok (.ifCond .eq 11, 3) := by decide +kernel
theorem dX4_wordIsHere_28 : decode cX4_wordIsHere 28 = .ok (.aload_n 0, 1) := by decide +kernel
theorem dX4_wordIsHere_29 : decode cX4_wordIsHere 29 = .ok (.iconst 1, 1) := by decide +kernel
theorem dX4_wordIsHere_30 : decode cX4_wordIsHere 30 = .ok (.invokevirtual 62, 3) := by decide +kernel
theorem dX4_wordIsHere_33 : decode cX4_wordIsHere 33 = .ok (.ifCond .eq 7, 3) := by decide +kernel
theorem dX4_wordIsHere_36 : decode cX4_wordIsHere 36 = .ok (.iconst 1, 1) := by decide +kernel
theorem dX4_wordIsHere_37 : decode cX4_wordIsHere 37 = .ok (.goto 4, 3) := by decide +kernel
theorem dX4_wordIsHere_40 : decode cX4_wordIsHere 40 = .ok (.iconst 0, 1) := by decide +kernel
theorem dX4_wordIsHere_41 : decode cX4_wordIsHere 41 = .ok (.ireturn, 1) := by decide +kernel
theorem dX4_readInputs_0 : decode cX4_readInputs 0 = .ok (.iconst 0, 1) := by decide +kernel
theorem dX4_readInputs_1 : decode cX4_readInputs 1 = .ok (.istore_n 2, 1) := by decide +kernel
theorem dX4_readInputs_2 : decode cX4_readInputs 2 = .ok (.iload_n 2, 1) := by decide +kernel
theorem dX4_readInputs_3 : decode cX4_readInputs 3 = .ok (.iconst 5, 1) := by decide +kernel
theorem dX4_readInputs_4 : decode cX4_readInputs 4 = .ok (.if_icmp .gt 103, 3) := by decide +kernel
theorem dX4_readInputs_7 : decode cX4_readInputs 7 = .ok (.iload_n 2, 1) := by decide +kernel
theorem dX4_readInputs_8 : decode cX4_readInputs 8 = .ok (.ifCond .le 16, 3) := by decide +kernel
theorem dX4_readInputs_11 : decode cX4_readInputs 11 = .ok (.aload_n 0, 1) := by decide +kernel
theorem dX4_readInputs_12 : decode cX4_readInputs 12 = .ok (.getfield 12, 3) := by decide +kernel
theorem dX4_readInputs_15 : decode cX4_readInputs 15 = .ok (.getfield 59, 3) := by decide +kernel
theorem dX4_readInputs_18 : decode cX4_readInputs 18 = .ok (.iconst 2, 1) := by decide +kernel
theorem dX4_readInputs_19 : decode cX4_readInputs 19 = .ok (.if_icmp .ne 5, 3) := by decide +kernel
theorem dX4_readInputs_22 : decode cX4_readInputs 22 = .ok (.iconst 1, 1) := by decide +kernel
theorem dX4_readInputs_23 : decode cX4_readInputs 23 = .ok (.ireturn, 1) := by decide +kernel
theorem dX4_readInputs_24 : decode cX4_readInputs 24 = .ok (.aload_n 0, 1) := by decide +kernel
theorem dX4_readInputs_25 : decode cX4_readInputs 25 = .ok (.getfield 12, 3) := by decide +kernel
theorem dX4_readInputs_28 : decode cX4_readInputs 28 = .ok (.getfield 59, 3) := by decide +kernel
theorem dX4_readInputs_31 : decode cX4_readInputs 31 = .ok (.iconst 1, 1) := by decide +kernel
theorem dX4_readInputs_32 : decode cX4_readInputs 32 = .ok (.if_icmp .eq 9, 3) := by decide +kernel
theorem dX4_readInputs_35 : decode cX4_readInputs 35 = .ok (.aload_n 0, 1) := by decide +kernel
theorem dX4_readInputs_36 : decode cX4_readInputs 36 = .ok (.iconst 1, 1) := by decide +kernel
theorem dX4_readInputs_37 : decode cX4_readInputs 37 = .ok (.invokevirtual 62, 3) := by decide +kernel
theorem dX4_readInputs_40 : decode cX4_readInputs 40 = .ok (.ireturn, 1) := by decide +kernel
theorem dX4_readInputs_41 : decode cX4_readInputs 41 = .ok (.iload_n 2, 1) := by decide +kernel
theorem dX4_readInputs_42 : decode cX4_readInputs 42 = .ok (.iconst 5, 1) := by decide +kernel
theorem dX4_readInputs_43 : decode cX4_readInputs 43 = .ok (.if_icmp .lt 9, 3) := by decide +kernel
theorem dX4_readInputs_46 : decode cX4_readInputs 46 = .ok (.aload_n 0, 1) := by decide +kernel
theorem dX4_readInputs_47 : decode cX4_readInputs 47 = .ok (.iconst 2, 1) := by decide +kernel
theorem dX4_readInputs_48 : decode cX4_readInputs 48 = .ok (.invokevirtual 62, 3) := by decide +kernel
theorem dX4_readInputs_51 : decode cX4_readInputs 51 = .ok (.ireturn, 1) := by decide +kernel
theorem dX4_readInputs_52 : decode cX4_readInputs 52 = .ok (.aload_n 0, 1) := by decide +kernel
theorem dX4_readInputs_53 : decode cX4_readInputs 53 = .ok (.getfield 12, 3) := by decide +kernel
theorem dX4_readInputs_56 : decode cX4_readInputs 56 = .ok (.invokevirtual 66, 3) := by decide +kernel
theorem dX4_readInputs_59 : decode cX4_readInputs 59 = .ok (.aload_n 1, 1) := by decide +kernel
theorem dX4_readInputs_60 : decode cX4_readInputs 60 = .ok (.getfield 69, 3) := by decide +kernel
theorem dX4_readInputs_63 : decode cX4_readInputs 63 = .ok (.iload_n 2, 1) := by decide +kernel
theorem dX4_readInputs_64 : decode cX4_readInputs 64 = .ok (.aaload, 1) := by decide +kernel
theorem dX4_readInputs_65 : decode cX4_readInputs 65 = .ok (.astore_n 3, 1) := by decide +kernel
theorem dX4_readInputs_66 : decode cX4_readInputs 66 = .ok (.aload_n 0, 1) := by decide +kernel
theorem dX4_readInputs_67 : decode cX4_readInputs 67 = .ok (.aload_n 1, 1) := by decide +kernel
theorem dX4_readInputs_68 : decode cX4_readInputs 68 = .ok (.aload_n 3, 1) := by decide +kernel
theorem dX4_readInputs_69 : decode cX4_readInputs 69 = .ok (.aload_n 1, 1) := by decide +kernel
theorem dX4_readInputs_70 : decode cX4_readInputs 70 = .ok (.getfield 73, 3) := by decide +kernel
theorem dX4_readInputs_73 : decode cX4_readInputs 73 = .ok (.invokevirtual 76, 3) := by decide +kernel
theorem dX4_readInputs_76 : decode cX4_readInputs 76 = .ok (.ifCond .ne 5, 3) := by decide +kernel
theorem dX4_readInputs_79 : decode cX4_readInputs 79 = .ok (.iconst 0, 1) := by decide +kernel
theorem dX4_readInputs_80 : decode cX4_readInputs 80 = .ok (.ireturn, 1) := by decide +kernel
theorem dX4_readInputs_81 : decode cX4_readInputs 81 = .ok (.aload_n 1, 1) := by decide +kernel
theorem dX4_readInputs_82 : decode cX4_readInputs 82 = .ok (.iload_n 2, 1) := by decide +kernel
theorem dX4_readInputs_83 : decode cX4_readInputs 83 = .ok (.iconst 1, 1) := by decide +kernel
theorem dX4_readInputs_84 : decode cX4_readInputs 84 = .ok (.iadd, 1) := by decide +kernel
theorem dX4_readInputs_85 : decode cX4_readInputs 85 = .ok (.putfield 80, 3) := by decide +kernel
theorem dX4_readInputs_88 : decode cX4_readInputs 88 = .ok (.aload_n 1, 1) := by decide +kernel
theorem dX4_readInputs_89 : decode cX4_readInputs 89 = .ok (.dup, 1) := by decide +kernel
theorem dX4_readInputs_90 : decode cX4_readInputs 90 = .ok (.getfield 73, 3) := by decide +kernel
theorem dX4_readInputs_93 : decode cX4_readInputs 93 = .ok (.aload_n 3, 1) := by decide +kernel
theorem dX4_readInputs_94 : decode cX4_readInputs 94 = .ok (.getfield 83, 3) := by decide +kernel
theorem dX4_readInputs_97 : decode cX4_readInputs 97 = .ok (.imul, 1) := by decide +kernel
theorem dX4_readInputs_98 : decode cX4_readInputs 98 = .ok (.putfield 73, 3) := by decide +kernel
theorem dX4_readInputs_101 : decode cX4_readInputs 101 = .ok (.iinc 2 1, 3) := by decide +kernel
theorem dX4_readInputs_104 : decode cX4_readInputs 104 = .ok (.goto (-102), 3) := by decide +kernel
theorem dX4_readInputs_107 : decode cX4_readInputs 107 = .ok (.aload_n 0, 1) := by decide +kernel
theorem dX4_readInputs_108 : decode cX4_readInputs 108 = .ok (.iconst 1, 1) := by decide +kernel
theorem dX4_readInputs_109 : decode cX4_readInputs 109 = .ok (.invokevirtual 62, 3) := by decide +kernel
theorem dX4_readInputs_112 : decode cX4_readInputs 112 = .ok (.ireturn, 1) := by decide +kernel
theorem dX4_readOutput_0 : decode cX4_readOutput 0 = .ok (.aload_n 0, 1) := by decide +kernel
theorem dX4_readOutput_1 : decode cX4_readOutput 1 = .ok (.iconst 2, 1) := by decide +kernel
theorem dX4_readOutput_2 : decode cX4_readOutput 2 = .ok (.invokevirtual 88, 3) := by decide +kernel
theorem dX4_readOutput_5 : decode cX4_readOutput 5 = .ok (.ifCond .eq 20, 3) := by decide +kernel
theorem dX4_readOutput_8 : decode cX4_readOutput 8 = .ok (.aload_n 0, 1) := by decide +kernel
theorem dX4_readOutput_9 : decode cX4_readOutput 9 = .ok (.aload_n 1, 1) := by decide +kernel
theorem dX4_readOutput_10 : decode cX4_readOutput 10 = .ok (.aload_n 1, 1) := by decide +kernel
theorem dX4_readOutput_11 : decode cX4_readOutput 11 = .ok (.getfield 91, 3) := by decide +kernel
theorem dX4_readOutput_14 : decode cX4_readOutput 14 = .ok (.iconst 1, 1) := by decide +kernel
theorem dX4_readOutput_15 : decode cX4_readOutput 15 = .ok (.invokevirtual 76, 3) := by decide +kernel
theorem dX4_readOutput_18 : decode cX4_readOutput 18 = .ok (.ifCond .eq 7, 3) := by decide +kernel
theorem dX4_readOutput_21 : decode cX4_readOutput 21 = .ok (.iconst 1, 1) := by decide +kernel
theorem dX4_readOutput_22 : decode cX4_readOutput 22 = .ok (.goto 4, 3) := by decide +kernel
theorem dX4_readOutput_25 : decode cX4_readOutput 25 = .ok (.iconst 0, 1) := by decide +kernel
theorem dX4_readOutput_26 : decode cX4_readOutput 26 = .ok (.ireturn, 1) := by decide +kernel
theorem dX4_readColumn_0 : decode cX4_readColumn 0 = .ok (.aload_n 0, 1) := by decide +kernel
theorem dX4_readColumn_1 : decode cX4_readColumn 1 = .ok (.invokevirtual 95, 3) := by decide +kernel
theorem dX4_readColumn_4 : decode cX4_readColumn 4 = .ok (.ifCond .ne 5, 3) := by decide +kernel
theorem dX4_readColumn_7 : decode cX4_readColumn 7 = .ok (.iconst 0, 1) := by decide +kernel
theorem dX4_readColumn_8 : decode cX4_readColumn 8 = .ok (.ireturn, 1) := by decide +kernel
theorem dX4_readColumn_9 : decode cX4_readColumn 9 = .ok (.aload_n 1, 1) := by decide +kernel
theorem dX4_readColumn_10 : decode cX4_readColumn 10 = .ok (.aload_n 0, 1) := by decide +kernel
theorem dX4_readColumn_11 : decode cX4_readColumn 11 = .ok (.getfield 12, 3) := by decide +kernel
theorem dX4_readColumn_14 : decode cX4_readColumn 14 = .ok (.getfield 99, 3) := by decide +kernel
theorem dX4_readColumn_17 : decode cX4_readColumn 17 = .ok (.invokevirtual 103, 3) := by decide +kernel
theorem dX4_readColumn_20 : decode cX4_readColumn 20 = .ok (.iconst (-1), 1) := by decide +kernel
theorem dX4_readColumn_21 : decode cX4_readColumn 21 = .ok (.if_icmp .eq 9, 3) := by decide +kernel
theorem dX4_readColumn_24 : decode cX4_readColumn 24 = .ok (.aload_n 0, 1) := by decide +kernel
theorem dX4_readColumn_25 : decode cX4_readColumn 25 = .ok (.iconst 4, 1) := by decide +kernel
theorem dX4_readColumn_26 : decode cX4_readColumn 26 = .ok (.invokevirtual 62, 3) := by decide +kernel
theorem dX4_readColumn_29 : decode cX4_readColumn 29 = .ok (.ireturn, 1) := by decide +kernel
theorem dX4_readColumn_30 : decode cX4_readColumn 30 = .ok (.aload_n 2, 1) := by decide +kernel
theorem dX4_readColumn_31 : decode cX4_readColumn 31 = .ok (.aload_n 0, 1) := by decide +kernel
theorem dX4_readColumn_32 : decode cX4_readColumn 32 = .ok (.getfield 12, 3) := by decide +kernel
theorem dX4_readColumn_35 : decode cX4_readColumn 35 = .ok (.getfield 99, 3) := by decide +kernel
theorem dX4_readColumn_38 : decode cX4_readColumn 38 = .ok (.putfield 107, 3) := by decide +kernel
theorem dX4_readColumn_41 : decode cX4_readColumn 41 = .ok (.aload_n 0, 1) := by decide +kernel
theorem dX4_readColumn_42 : decode cX4_readColumn 42 = .ok (.getfield 12, 3) := by decide +kernel
theorem dX4_readColumn_45 : decode cX4_readColumn 45 = .ok (.invokevirtual 66, 3) := by decide +kernel
theorem dX4_readColumn_48 : decode cX4_readColumn 48 = .ok (.aload_n 0, 1) := by decide +kernel
theorem dX4_readColumn_49 : decode cX4_readColumn 49 = .ok (.bipush 12, 2) := by decide +kernel
theorem dX4_readColumn_51 : decode cX4_readColumn 51 = .ok (.invokevirtual 88, 3) := by decide +kernel
theorem dX4_readColumn_54 : decode cX4_readColumn 54 = .ok (.ifCond .eq 16, 3) := by decide +kernel
theorem dX4_readColumn_57 : decode cX4_readColumn 57 = .ok (.aload_n 0, 1) := by decide +kernel
theorem dX4_readColumn_58 : decode cX4_readColumn 58 = .ok (.aload_n 2, 1) := by decide +kernel
theorem dX4_readColumn_59 : decode cX4_readColumn 59 = .ok (.iload_n 3, 1) := by decide +kernel
theorem dX4_readColumn_60 : decode cX4_readColumn 60 = .ok (.invokevirtual 110, 3) := by decide +kernel
theorem dX4_readColumn_63 : decode cX4_readColumn 63 = .ok (.ifCond .eq 7, 3) := by decide +kernel
theorem dX4_readColumn_66 : decode cX4_readColumn 66 = .ok (.iconst 1, 1) := by decide +kernel
theorem dX4_readColumn_67 : decode cX4_readColumn 67 = .ok (.goto 4, 3) := by decide +kernel
theorem dX4_readColumn_70 : decode cX4_readColumn 70 = .ok (.iconst 0, 1) := by decide +kernel
theorem dX4_readColumn_71 : decode cX4_readColumn 71 = .ok (.ireturn, 1) := by decide +kernel
theorem dX4_readValues_0 : decode cX4_readValues 0 = .ok (.iconst 0, 1) := by decide +kernel
theorem dX4_readValues_1 : decode cX4_readValues 1 = .ok (.istore_n 3, 1) := by decide +kernel
theorem dX4_readValues_2 : decode cX4_readValues 2 = .ok (.iload_n 3, 1) := by decide +kernel
theorem dX4_readValues_3 : decode cX4_readValues 3 = .ok (.bipush 6, 2) := by decide +kernel
theorem dX4_readValues_5 : decode cX4_readValues 5 = .ok (.if_icmp .gt 106, 3) := by decide +kernel
theorem dX4_readValues_8 : decode cX4_readValues 8 = .ok (.iload_n 3, 1) := by decide +kernel
theorem dX4_readValues_9 : decode cX4_readValues 9 = .ok (.iconst 2, 1) := by decide +kernel
theorem dX4_readValues_10 : decode cX4_readValues 10 = .ok (.if_icmp .lt 24, 3) := by decide +kernel
theorem dX4_readValues_13 : decode cX4_readValues 13 = .ok (.aload_n 0, 1) := by decide +kernel
theorem dX4_readValues_14 : decode cX4_readValues 14 = .ok (.getfield 12, 3) := by decide +kernel
theorem dX4_readValues_17 : decode cX4_readValues 17 = .ok (.getfield 59, 3) := by decide +kernel
theorem dX4_readValues_20 : decode cX4_readValues 20 = .ok (.bipush 11, 2) := by decide +kernel
theorem dX4_readValues_22 : decode cX4_readValues 22 = .ok (.if_icmp .ne 12, 3) := by decide +kernel
theorem dX4_readValues_25 : decode cX4_readValues 25 = .ok (.aload_n 0, 1) := by decide +kernel
theorem dX4_readValues_26 : decode cX4_readValues 26 = .ok (.getfield 12, 3) := by decide +kernel
theorem dX4_readValues_29 : decode cX4_readValues 29 = .ok (.invokevirtual 66, 3) := by decide +kernel
theorem dX4_readValues_32 : decode cX4_readValues 32 = .ok (.iconst 1, 1) := by decide +kernel
theorem dX4_readValues_33 : decode cX4_readValues 33 = .ok (.ireturn, 1) := by decide +kernel
theorem dX4_readValues_34 : decode cX4_readValues 34 = .ok (.aload_n 0, 1) := by decide +kernel
theorem dX4_readValues_35 : decode cX4_readValues 35 = .ok (.invokevirtual 95, 3) := by decide +kernel
theorem dX4_readValues_38 : decode cX4_readValues 38 = .ok (.ifCond .ne 5, 3) := by decide +kernel
theorem dX4_readValues_41 : decode cX4_readValues 41 = .ok (.iconst 0, 1) := by decide +kernel
theorem dX4_readValues_42 : decode cX4_readValues 42 = .ok (.ireturn, 1) := by decide +kernel
theorem dX4_readValues_43 : decode cX4_readValues 43 = .ok (.iload_n 3, 1) := by decide +kernel
theorem dX4_readValues_44 : decode cX4_readValues 44 = .ok (.bipush 6, 2) := by decide +kernel
theorem dX4_readValues_46 : decode cX4_readValues 46 = .ok (.if_icmp .ge 14, 3) := by decide +kernel
theorem dX4_readValues_49 : decode cX4_readValues 49 = .ok (.iload_n 3, 1) := by decide +kernel
theorem dX4_readValues_50 : decode cX4_readValues 50 = .ok (.iconst 1, 1) := by decide +kernel
theorem dX4_readValues_51 : decode cX4_readValues 51 = .ok (.iadd, 1) := by decide +kernel
theorem dX4_readValues_52 : decode cX4_readValues 52 = .ok (.iload_n 2, 1) := by decide +kernel
theorem dX4_readValues_53 : decode cX4_readValues 53 = .ok (.imul, 1) := by decide +kernel
theorem dX4_readValues_54 : decode cX4_readValues 54 = .ok (.sipush 400, 3) := by decide +kernel
theorem dX4_readValues_57 : decode cX4_readValues 57 = .ok (.if_icmp .le 9, 3) := by decide +kernel
theorem dX4_readValues_60 : decode cX4_readValues 60 = .ok (.aload_n 0, 1) := by decide +kernel
theorem dX4_readValues_61 : decode cX4_readValues 61 = .ok (.iconst 2, 1) := by decide +kernel
theorem dX4_readValues_62 : decode cX4_readValues 62 = .ok (.invokevirtual 62, 3) := by decide +kernel
theorem dX4_readValues_65 : decode cX4_readValues 65 = .ok (.ireturn, 1) := by decide +kernel
theorem dX4_readValues_66 : decode cX4_readValues 66 = .ok (.aload_n 1, 1) := by decide +kernel
theorem dX4_readValues_67 : decode cX4_readValues 67 = .ok (.aload_n 0, 1) := by decide +kernel
theorem dX4_readValues_68 : decode cX4_readValues 68 = .ok (.getfield 12, 3) := by decide +kernel
theorem dX4_readValues_71 : decode cX4_readValues 71 = .ok (.getfield 99, 3) := by decide +kernel
theorem dX4_readValues_74 : decode cX4_readValues 74 = .ok (.invokevirtual 114, 3) := by decide +kernel
theorem dX4_readValues_77 : decode cX4_readValues 77 = .ok (.iconst (-1), 1) := by decide +kernel
theorem dX4_readValues_78 : decode cX4_readValues 78 = .ok (.if_icmp .eq 9, 3) := by decide +kernel
theorem dX4_readValues_81 : decode cX4_readValues 81 = .ok (.aload_n 0, 1) := by decide +kernel
theorem dX4_readValues_82 : decode cX4_readValues 82 = .ok (.iconst 4, 1) := by decide +kernel
theorem dX4_readValues_83 : decode cX4_readValues 83 = .ok (.invokevirtual 62, 3) := by decide +kernel
theorem dX4_readValues_86 : decode cX4_readValues 86 = .ok (.ireturn, 1) := by decide +kernel
theorem dX4_readValues_87 : decode cX4_readValues 87 = .ok (.aload_n 1, 1) := by decide +kernel
theorem dX4_readValues_88 : decode cX4_readValues 88 = .ok (.aload_n 0, 1) := by decide +kernel
theorem dX4_readValues_89 : decode cX4_readValues 89 = .ok (.getfield 12, 3) := by decide +kernel
theorem dX4_readValues_92 : decode cX4_readValues 92 = .ok (.getfield 99, 3) := by decide +kernel
theorem dX4_readValues_95 : decode cX4_readValues 95 = .ok (.invokevirtual 117, 3) := by decide +kernel
theorem dX4_readValues_98 : decode cX4_readValues 98 = .ok (.aload_n 0, 1) := by decide +kernel
theorem dX4_readValues_99 : decode cX4_readValues 99 = .ok (.getfield 12, 3) := by decide +kernel
theorem dX4_readValues_102 : decode cX4_readValues 102 = .ok (.invokevirtual 66, 3) := by decide +kernel
theorem dX4_readValues_105 : decode cX4_readValues 105 = .ok (.iinc 3 1, 3) := by decide +kernel
theorem dX4_readValues_108 : decode cX4_readValues 108 = .ok (.goto (-106), 3) := by decide +kernel
theorem dX4_readValues_111 : decode cX4_readValues 111 = .ok (.aload_n 0, 1) := by decide +kernel
theorem dX4_readValues_112 : decode cX4_readValues 112 = .ok (.iconst 1, 1) := by decide +kernel
theorem dX4_readValues_113 : decode cX4_readValues 113 = .ok (.invokevirtual 62, 3) := by decide +kernel
theorem dX4_readValues_116 : decode cX4_readValues 116 = .ok (.ireturn, 1) := by decide +kernel
theorem dX4_readRows_0 : decode cX4_readRows 0 = .ok (.iconst 0, 1) := by decide +kernel
theorem dX4_readRows_1 : decode cX4_readRows 1 = .ok (.istore_n 2, 1) := by decide +kernel
theorem dX4_readRows_2 : decode cX4_readRows 2 = .ok (.iload_n 2, 1) := by decide +kernel
theorem dX4_readRows_3 : decode cX4_readRows 3 = .ok (.bipush 40, 2) := by decide +kernel
theorem dX4_readRows_5 : decode cX4_readRows 5 = .ok (.if_icmp .gt 69, 3) := by decide +kernel
theorem dX4_readRows_8 : decode cX4_readRows 8 = .ok (.aload_n 0, 1) := by decide +kernel
theorem dX4_readRows_9 : decode cX4_readRows 9 = .ok (.getfield 12, 3) := by decide +kernel
theorem dX4_readRows_12 : decode cX4_readRows 12 = .ok (.getfield 59, 3) := by decide +kernel
theorem dX4_readRows_15 : decode cX4_readRows 15 = .ok (.bipush 15, 2) := by decide +kernel
theorem dX4_readRows_17 : decode cX4_readRows 17 = .ok (.if_icmp .ne 5, 3) := by decide +kernel
theorem dX4_readRows_20 : decode cX4_readRows 20 = .ok (.iconst 1, 1) := by decide +kernel
theorem dX4_readRows_21 : decode cX4_readRows 21 = .ok (.ireturn, 1) := by decide +kernel
theorem dX4_readRows_22 : decode cX4_readRows 22 = .ok (.aload_n 0, 1) := by decide +kernel
theorem dX4_readRows_23 : decode cX4_readRows 23 = .ok (.getfield 12, 3) := by decide +kernel
theorem dX4_readRows_26 : decode cX4_readRows 26 = .ok (.getfield 59, 3) := by decide +kernel
theorem dX4_readRows_29 : decode cX4_readRows 29 = .ok (.iconst 3, 1) := by decide +kernel
theorem dX4_readRows_30 : decode cX4_readRows 30 = .ok (.if_icmp .eq 9, 3) := by decide +kernel
theorem dX4_readRows_33 : decode cX4_readRows 33 = .ok (.aload_n 0, 1) := by decide +kernel
theorem dX4_readRows_34 : decode cX4_readRows 34 = .ok (.iconst 1, 1) := by decide +kernel
theorem dX4_readRows_35 : decode cX4_readRows 35 = .ok (.invokevirtual 62, 3) := by decide +kernel
theorem dX4_readRows_38 : decode cX4_readRows 38 = .ok (.ireturn, 1) := by decide +kernel
theorem dX4_readRows_39 : decode cX4_readRows 39 = .ok (.iload_n 2, 1) := by decide +kernel
theorem dX4_readRows_40 : decode cX4_readRows 40 = .ok (.bipush 40, 2) := by decide +kernel
theorem dX4_readRows_42 : decode cX4_readRows 42 = .ok (.if_icmp .lt 9, 3) := by decide +kernel
theorem dX4_readRows_45 : decode cX4_readRows 45 = .ok (.aload_n 0, 1) := by decide +kernel
theorem dX4_readRows_46 : decode cX4_readRows 46 = .ok (.iconst 2, 1) := by decide +kernel
theorem dX4_readRows_47 : decode cX4_readRows 47 = .ok (.invokevirtual 62, 3) := by decide +kernel
theorem dX4_readRows_50 : decode cX4_readRows 50 = .ok (.ireturn, 1) := by decide +kernel
theorem dX4_readRows_51 : decode cX4_readRows 51 = .ok (.aload_n 0, 1) := by decide +kernel
theorem dX4_readRows_52 : decode cX4_readRows 52 = .ok (.getfield 12, 3) := by decide +kernel
theorem dX4_readRows_55 : decode cX4_readRows 55 = .ok (.invokevirtual 66, 3) := by decide +kernel
theorem dX4_readRows_58 : decode cX4_readRows 58 = .ok (.aload_n 0, 1) := by decide +kernel
theorem dX4_readRows_59 : decode cX4_readRows 59 = .ok (.aload_n 1, 1) := by decide +kernel
theorem dX4_readRows_60 : decode cX4_readRows 60 = .ok (.invokevirtual 121, 3) := by decide +kernel
theorem dX4_readRows_63 : decode cX4_readRows 63 = .ok (.ifCond .ne 5, 3) := by decide +kernel
theorem dX4_readRows_66 : decode cX4_readRows 66 = .ok (.iconst 0, 1) := by decide +kernel
theorem dX4_readRows_67 : decode cX4_readRows 67 = .ok (.ireturn, 1) := by decide +kernel
theorem dX4_readRows_68 : decode cX4_readRows 68 = .ok (.iinc 2 1, 3) := by decide +kernel
theorem dX4_readRows_71 : decode cX4_readRows 71 = .ok (.goto (-69), 3) := by decide +kernel
theorem dX4_readRows_74 : decode cX4_readRows 74 = .ok (.aload_n 0, 1) := by decide +kernel
theorem dX4_readRows_75 : decode cX4_readRows 75 = .ok (.iconst 1, 1) := by decide +kernel
theorem dX4_readRows_76 : decode cX4_readRows 76 = .ok (.invokevirtual 62, 3) := by decide +kernel
theorem dX4_readRows_79 : decode cX4_readRows 79 = .ok (.ireturn, 1) := by decide +kernel
theorem dX4_readRow_0 : decode cX4_readRow 0 = .ok (.aload_n 1, 1) := by decide +kernel
theorem dX4_readRow_1 : decode cX4_readRow 1 = .ok (.getfield 124, 3) := by decide +kernel
theorem dX4_readRow_4 : decode cX4_readRow 4 = .ok (.invokevirtual 125, 3) := by decide +kernel
theorem dX4_readRow_7 : decode cX4_readRow 7 = .ok (.iconst 0, 1) := by decide +kernel
theorem dX4_readRow_8 : decode cX4_readRow 8 = .ok (.istore_n 2, 1) := by decide +kernel
theorem dX4_readRow_9 : decode cX4_readRow 9 = .ok (.iload_n 2, 1) := by decide +kernel
theorem dX4_readRow_10 : decode cX4_readRow 10 = .ok (.aload_n 1, 1) := by decide +kernel
theorem dX4_readRow_11 : decode cX4_readRow 11 = .ok (.getfield 80, 3) := by decide +kernel
theorem dX4_readRow_14 : decode cX4_readRow 14 = .ok (.if_icmp .ge 29, 3) := by decide +kernel
theorem dX4_readRow_17 : decode cX4_readRow 17 = .ok (.aload_n 0, 1) := by decide +kernel
theorem dX4_readRow_18 : decode cX4_readRow 18 = .ok (.aload_n 1, 1) := by decide +kernel
theorem dX4_readRow_19 : decode cX4_readRow 19 = .ok (.getfield 69, 3) := by decide +kernel
theorem dX4_readRow_22 : decode cX4_readRow 22 = .ok (.iload_n 2, 1) := by decide +kernel
theorem dX4_readRow_23 : decode cX4_readRow 23 = .ok (.aaload, 1) := by decide +kernel
theorem dX4_readRow_24 : decode cX4_readRow 24 = .ok (.aload_n 1, 1) := by decide +kernel
theorem dX4_readRow_25 : decode cX4_readRow 25 = .ok (.getfield 124, 3) := by decide +kernel
theorem dX4_readRow_28 : decode cX4_readRow 28 = .ok (.iload_n 2, 1) := by decide +kernel
theorem dX4_readRow_29 : decode cX4_readRow 29 = .ok (.invokevirtual 129, 3) := by decide +kernel
theorem dX4_readRow_32 : decode cX4_readRow 32 = .ok (.ifCond .ne 5, 3) := by decide +kernel
theorem dX4_readRow_35 : decode cX4_readRow 35 = .ok (.iconst 0, 1) := by decide +kernel
theorem dX4_readRow_36 : decode cX4_readRow 36 = .ok (.ireturn, 1) := by decide +kernel
theorem dX4_readRow_37 : decode cX4_readRow 37 = .ok (.iinc 2 1, 3) := by decide +kernel
theorem dX4_readRow_40 : decode cX4_readRow 40 = .ok (.goto (-31), 3) := by decide +kernel
theorem dX4_readRow_43 : decode cX4_readRow 43 = .ok (.aload_n 0, 1) := by decide +kernel
theorem dX4_readRow_44 : decode cX4_readRow 44 = .ok (.bipush 13, 2) := by decide +kernel
theorem dX4_readRow_46 : decode cX4_readRow 46 = .ok (.invokevirtual 88, 3) := by decide +kernel
theorem dX4_readRow_49 : decode cX4_readRow 49 = .ok (.ifCond .eq 19, 3) := by decide +kernel
theorem dX4_readRow_52 : decode cX4_readRow 52 = .ok (.aload_n 0, 1) := by decide +kernel
theorem dX4_readRow_53 : decode cX4_readRow 53 = .ok (.aload_n 1, 1) := by decide +kernel
theorem dX4_readRow_54 : decode cX4_readRow 54 = .ok (.aload_n 1, 1) := by decide +kernel
theorem dX4_readRow_55 : decode cX4_readRow 55 = .ok (.getfield 124, 3) := by decide +kernel
theorem dX4_readRow_58 : decode cX4_readRow 58 = .ok (.invokevirtual 133, 3) := by decide +kernel
theorem dX4_readRow_61 : decode cX4_readRow 61 = .ok (.ifCond .eq 7, 3) := by decide +kernel
theorem dX4_readRow_64 : decode cX4_readRow 64 = .ok (.iconst 1, 1) := by decide +kernel
theorem dX4_readRow_65 : decode cX4_readRow 65 = .ok (.goto 4, 3) := by decide +kernel
theorem dX4_readRow_68 : decode cX4_readRow 68 = .ok (.iconst 0, 1) := by decide +kernel
theorem dX4_readRow_69 : decode cX4_readRow 69 = .ok (.ireturn, 1) := by decide +kernel
theorem dX4_readOutcome_0 : decode cX4_readOutcome 0 = .ok (.aload_n 0, 1) := by decide +kernel
theorem dX4_readOutcome_1 : decode cX4_readOutcome 1 = .ok (.aload_n 1, 1) := by decide +kernel
theorem dX4_readOutcome_2 : decode cX4_readOutcome 2 = .ok (.getfield 91, 3) := by decide +kernel
theorem dX4_readOutcome_5 : decode cX4_readOutcome 5 = .ok (.invokevirtual 136, 3) := by decide +kernel
theorem dX4_readOutcome_8 : decode cX4_readOutcome 8 = .ok (.istore_n 3, 1) := by decide +kernel
theorem dX4_readOutcome_9 : decode cX4_readOutcome 9 = .ok (.iload_n 3, 1) := by decide +kernel
theorem dX4_readOutcome_10 : decode cX4_readOutcome 10 = .ok (.iconst (-1), 1) := by decide +kernel
theorem dX4_readOutcome_11 : decode cX4_readOutcome 11 = .ok (.if_icmp .ne 5, 3) := by decide +kernel
theorem dX4_readOutcome_14 : decode cX4_readOutcome 14 = .ok (.iconst 0, 1) := by decide +kernel
theorem dX4_readOutcome_15 : decode cX4_readOutcome 15 = .ok (.ireturn, 1) := by decide +kernel
theorem dX4_readOutcome_16 : decode cX4_readOutcome 16 = .ok (.aload_n 0, 1) := by decide +kernel
theorem dX4_readOutcome_17 : decode cX4_readOutcome 17 = .ok (.getfield 12, 3) := by decide +kernel
theorem dX4_readOutcome_20 : decode cX4_readOutcome 20 = .ok (.invokevirtual 66, 3) := by decide +kernel
theorem dX4_readOutcome_23 : decode cX4_readOutcome 23 = .ok (.aload_n 2, 1) := by decide +kernel
theorem dX4_readOutcome_24 : decode cX4_readOutcome 24 = .ok (.iload_n 3, 1) := by decide +kernel
theorem dX4_readOutcome_25 : decode cX4_readOutcome 25 = .ok (.invokevirtual 140, 3) := by decide +kernel
theorem dX4_readOutcome_28 : decode cX4_readOutcome 28 = .ok (.aload_n 0, 1) := by decide +kernel
theorem dX4_readOutcome_29 : decode cX4_readOutcome 29 = .ok (.bipush 11, 2) := by decide +kernel
theorem dX4_readOutcome_31 : decode cX4_readOutcome 31 = .ok (.invokevirtual 88, 3) := by decide +kernel
theorem dX4_readOutcome_34 : decode cX4_readOutcome 34 = .ok (.ireturn, 1) := by decide +kernel
theorem dX4_toldHere_0 : decode cX4_toldHere 0 = .ok (.aload_n 0, 1) := by decide +kernel
theorem dX4_toldHere_1 : decode cX4_toldHere 1 = .ok (.invokevirtual 95, 3) := by decide +kernel
theorem dX4_toldHere_4 : decode cX4_toldHere 4 = .ok (.ifCond .ne 5, 3) := by decide +kernel
theorem dX4_toldHere_7 : decode cX4_toldHere 7 = .ok (.iconst (-1), 1) := by decide +kernel
theorem dX4_toldHere_8 : decode cX4_toldHere 8 = .ok (.ireturn, 1) := by decide +kernel
theorem dX4_toldHere_9 : decode cX4_toldHere 9 = .ok (.aload_n 1, 1) := by decide +kernel
theorem dX4_toldHere_10 : decode cX4_toldHere 10 = .ok (.aload_n 0, 1) := by decide +kernel
theorem dX4_toldHere_11 : decode cX4_toldHere 11 = .ok (.getfield 12, 3) := by decide +kernel
theorem dX4_toldHere_14 : decode cX4_toldHere 14 = .ok (.getfield 99, 3) := by decide +kernel
theorem dX4_toldHere_17 : decode cX4_toldHere 17 = .ok (.invokevirtual 114, 3) := by decide +kernel
theorem dX4_toldHere_20 : decode cX4_toldHere 20 = .ok (.istore_n 2, 1) := by decide +kernel
theorem dX4_toldHere_21 : decode cX4_toldHere 21 = .ok (.iload_n 2, 1) := by decide +kernel
theorem dX4_toldHere_22 : decode cX4_toldHere 22 = .ok (.iconst (-1), 1) := by decide +kernel
theorem dX4_toldHere_23 : decode cX4_toldHere 23 = .ok (.if_icmp .ne 8, 3) := by decide +kernel
theorem dX4_toldHere_26 : decode cX4_toldHere 26 = .ok (.aload_n 0, 1) := by decide +kernel
theorem dX4_toldHere_27 : decode cX4_toldHere 27 = .ok (.iconst 3, 1) := by decide +kernel
theorem dX4_toldHere_28 : decode cX4_toldHere 28 = .ok (.putfield 18, 3) := by decide +kernel
theorem dX4_toldHere_31 : decode cX4_toldHere 31 = .ok (.iload_n 2, 1) := by decide +kernel
theorem dX4_toldHere_32 : decode cX4_toldHere 32 = .ok (.ireturn, 1) := by decide +kernel
theorem dX4_readCell_0 : decode cX4_readCell 0 = .ok (.aload_n 0, 1) := by decide +kernel
theorem dX4_readCell_1 : decode cX4_readCell 1 = .ok (.getfield 12, 3) := by decide +kernel
theorem dX4_readCell_4 : decode cX4_readCell 4 = .ok (.getfield 59, 3) := by decide +kernel
theorem dX4_readCell_7 : decode cX4_readCell 7 = .ok (.bipush 8, 2) := by decide +kernel
theorem dX4_readCell_9 : decode cX4_readCell 9 = .ok (.if_icmp .ne 12, 3) := by decide +kernel
theorem dX4_readCell_12 : decode cX4_readCell 12 = .ok (.aload_n 0, 1) := by decide +kernel
theorem dX4_readCell_13 : decode cX4_readCell 13 = .ok (.getfield 12, 3) := by decide +kernel
theorem dX4_readCell_16 : decode cX4_readCell 16 = .ok (.invokevirtual 66, 3) := by decide +kernel
theorem dX4_readCell_19 : decode cX4_readCell 19 = .ok (.iconst 1, 1) := by decide +kernel
theorem dX4_readCell_20 : decode cX4_readCell 20 = .ok (.ireturn, 1) := by decide +kernel
theorem dX4_readCell_21 : decode cX4_readCell 21 = .ok (.aload_n 0, 1) := by decide +kernel
theorem dX4_readCell_22 : decode cX4_readCell 22 = .ok (.getfield 12, 3) := by decide +kernel
theorem dX4_readCell_25 : decode cX4_readCell 25 = .ok (.getfield 59, 3) := by decide +kernel
theorem dX4_readCell_28 : decode cX4_readCell 28 = .ok (.bipush 10, 2) := by decide +kernel
theorem dX4_readCell_30 : decode cX4_readCell 30 = .ok (.if_icmp .ne 7, 3) := by decide +kernel
theorem dX4_readCell_33 : decode cX4_readCell 33 = .ok (.iconst 1, 1) := by decide +kernel
theorem dX4_readCell_34 : decode cX4_readCell 34 = .ok (.goto 4, 3) := by decide +kernel
theorem dX4_readCell_37 : decode cX4_readCell 37 = .ok (.iconst 0, 1) := by decide +kernel
theorem dX4_readCell_38 : decode cX4_readCell 38 = .ok (.istore 4, 2) := by decide +kernel
theorem dX4_readCell_40 : decode cX4_readCell 40 = .ok (.iload 4, 2) := by decide +kernel
theorem dX4_readCell_42 : decode cX4_readCell 42 = .ok (.ifCond .eq 10, 3) := by decide +kernel
theorem dX4_readCell_45 : decode cX4_readCell 45 = .ok (.aload_n 0, 1) := by decide +kernel
theorem dX4_readCell_46 : decode cX4_readCell 46 = .ok (.getfield 12, 3) := by decide +kernel
theorem dX4_readCell_49 : decode cX4_readCell 49 = .ok (.invokevirtual 66, 3) := by decide +kernel
theorem dX4_readCell_52 : decode cX4_readCell 52 = .ok (.iconst 0, 1) := by decide +kernel
theorem dX4_readCell_53 : decode cX4_readCell 53 = .ok (.istore 5, 2) := by decide +kernel
theorem dX4_readCell_55 : decode cX4_readCell 55 = .ok (.iconst 0, 1) := by decide +kernel
theorem dX4_readCell_56 : decode cX4_readCell 56 = .ok (.istore 6, 2) := by decide +kernel
theorem dX4_readCell_58 : decode cX4_readCell 58 = .ok (.iload 6, 2) := by decide +kernel
theorem dX4_readCell_60 : decode cX4_readCell 60 = .ok (.bipush 6, 2) := by decide +kernel
theorem dX4_readCell_62 : decode cX4_readCell 62 = .ok (.if_icmp .gt 101, 3) := by decide +kernel
theorem dX4_readCell_65 : decode cX4_readCell 65 = .ok (.aload_n 0, 1) := by decide +kernel
theorem dX4_readCell_66 : decode cX4_readCell 66 = .ok (.aload_n 1, 1) := by decide +kernel
theorem dX4_readCell_67 : decode cX4_readCell 67 = .ok (.invokevirtual 136, 3) := by decide +kernel
theorem dX4_readCell_70 : decode cX4_readCell 70 = .ok (.istore 7, 2) := by decide +kernel
theorem dX4_readCell_72 : decode cX4_readCell 72 = .ok (.iload 7, 2) := by decide +kernel
theorem dX4_readCell_74 : decode cX4_readCell 74 = .ok (.iconst (-1), 1) := by decide +kernel
theorem dX4_readCell_75 : decode cX4_readCell 75 = .ok (.if_icmp .ne 5, 3) := by decide +kernel
theorem dX4_readCell_78 : decode cX4_readCell 78 = .ok (.iconst 0, 1) := by decide +kernel
theorem dX4_readCell_79 : decode cX4_readCell 79 = .ok (.ireturn, 1) := by decide +kernel
theorem dX4_readCell_80 : decode cX4_readCell 80 = .ok (.iload 5, 2) := by decide +kernel
theorem dX4_readCell_82 : decode cX4_readCell 82 = .ok (.iload 7, 2) := by decide +kernel
theorem dX4_readCell_84 : decode cX4_readCell 84 = .ok (.ishr, 1) := by decide +kernel
theorem dX4_readCell_85 : decode cX4_readCell 85 = .ok (.iconst 1, 1) := by decide +kernel
theorem dX4_readCell_86 : decode cX4_readCell 86 = .ok (.iand, 1) := by decide +kernel
theorem dX4_readCell_87 : decode cX4_readCell 87 = .ok (.ifCond .eq 9, 3) := by decide +kernel
theorem dX4_readCell_90 : decode cX4_readCell 90 = .ok (.aload_n 0, 1) := by decide +kernel
theorem dX4_readCell_91 : decode cX4_readCell 91 = .ok (.iconst 4, 1) := by decide +kernel
theorem dX4_readCell_92 : decode cX4_readCell 92 = .ok (.invokevirtual 62, 3) := by decide +kernel
theorem dX4_readCell_95 : decode cX4_readCell 95 = .ok (.ireturn, 1) := by decide +kernel
theorem dX4_readCell_96 : decode cX4_readCell 96 = .ok (.iload 5, 2) := by decide +kernel
theorem dX4_readCell_98 : decode cX4_readCell 98 = .ok (.iconst 1, 1) := by decide +kernel
theorem dX4_readCell_99 : decode cX4_readCell 99 = .ok (.iload 7, 2) := by decide +kernel
theorem dX4_readCell_101 : decode cX4_readCell 101 = .ok (.ishl, 1) := by decide +kernel
theorem dX4_readCell_102 : decode cX4_readCell 102 = .ok (.ior, 1) := by decide +kernel
theorem dX4_readCell_103 : decode cX4_readCell 103 = .ok (.istore 5, 2) := by decide +kernel
theorem dX4_readCell_105 : decode cX4_readCell 105 = .ok (.aload_n 0, 1) := by decide +kernel
theorem dX4_readCell_106 : decode cX4_readCell 106 = .ok (.getfield 12, 3) := by decide +kernel
theorem dX4_readCell_109 : decode cX4_readCell 109 = .ok (.invokevirtual 66, 3) := by decide +kernel
theorem dX4_readCell_112 : decode cX4_readCell 112 = .ok (.iload 4, 2) := by decide +kernel
theorem dX4_readCell_114 : decode cX4_readCell 114 = .ok (.ifCond .ne 15, 3) := by decide +kernel
theorem dX4_readCell_117 : decode cX4_readCell 117 = .ok (.aload_n 0, 1) := by decide +kernel
theorem dX4_readCell_118 : decode cX4_readCell 118 = .ok (.getfield 12, 3) := by decide +kernel
theorem dX4_readCell_121 : decode cX4_readCell 121 = .ok (.getfield 59, 3) := by decide +kernel
theorem dX4_readCell_124 : decode cX4_readCell 124 = .ok (.bipush 9, 2) := by decide +kernel
theorem dX4_readCell_126 : decode cX4_readCell 126 = .ok (.if_icmp .eq 24, 3) := by decide +kernel
theorem dX4_readCell_129 : decode cX4_readCell 129 = .ok (.aload_n 2, 1) := by decide +kernel
theorem dX4_readCell_130 : decode cX4_readCell 130 = .ok (.iload_n 3, 1) := by decide +kernel
theorem dX4_readCell_131 : decode cX4_readCell 131 = .ok (.iload 4, 2) := by decide +kernel
theorem dX4_readCell_133 : decode cX4_readCell 133 = .ok (.ifCond .eq 10, 3) := by decide +kernel
theorem dX4_readCell_136 : decode cX4_readCell 136 = .ok (.iload 5, 2) := by decide +kernel
theorem dX4_readCell_138 : decode cX4_readCell 138 = .ok (.iconst (-1), 1) := by decide +kernel
theorem dX4_readCell_139 : decode cX4_readCell 139 = .ok (.ixor, 1) := by decide +kernel
theorem dX4_readCell_140 : decode cX4_readCell 140 = .ok (.goto 5, 3) := by decide +kernel
theorem dX4_readCell_143 : decode cX4_readCell 143 = .ok (.iload 5, 2) := by decide +kernel
theorem dX4_readCell_145 : decode cX4_readCell 145 = .ok (.invokevirtual 144, 3) := by decide +kernel
theorem dX4_readCell_148 : decode cX4_readCell 148 = .ok (.iconst 1, 1) := by decide +kernel
theorem dX4_readCell_149 : decode cX4_readCell 149 = .ok (.ireturn, 1) := by decide +kernel
theorem dX4_readCell_150 : decode cX4_readCell 150 = .ok (.aload_n 0, 1) := by decide +kernel
theorem dX4_readCell_151 : decode cX4_readCell 151 = .ok (.getfield 12, 3) := by decide +kernel
theorem dX4_readCell_154 : decode cX4_readCell 154 = .ok (.invokevirtual 66, 3) := by decide +kernel
theorem dX4_readCell_157 : decode cX4_readCell 157 = .ok (.iinc 6 1, 3) := by decide +kernel
theorem dX4_readCell_160 : decode cX4_readCell 160 = .ok (.goto (-102), 3) := by decide +kernel
theorem dX4_readCell_163 : decode cX4_readCell 163 = .ok (.aload_n 0, 1) := by decide +kernel
theorem dX4_readCell_164 : decode cX4_readCell 164 = .ok (.iconst 1, 1) := by decide +kernel
theorem dX4_readCell_165 : decode cX4_readCell 165 = .ok (.invokevirtual 62, 3) := by decide +kernel
theorem dX4_readCell_168 : decode cX4_readCell 168 = .ok (.ireturn, 1) := by decide +kernel
theorem dX4_readWhens_0 : decode cX4_readWhens 0 = .ok (.iconst 0, 1) := by decide +kernel
theorem dX4_readWhens_1 : decode cX4_readWhens 1 = .ok (.istore_n 3, 1) := by decide +kernel
theorem dX4_readWhens_2 : decode cX4_readWhens 2 = .ok (.iload_n 3, 1) := by decide +kernel
theorem dX4_readWhens_3 : decode cX4_readWhens 3 = .ok (.bipush 40, 2) := by decide +kernel
theorem dX4_readWhens_5 : decode cX4_readWhens 5 = .ok (.if_icmp .gt 70, 3) := by decide +kernel
theorem dX4_readWhens_8 : decode cX4_readWhens 8 = .ok (.aload_n 0, 1) := by decide +kernel
theorem dX4_readWhens_9 : decode cX4_readWhens 9 = .ok (.getfield 12, 3) := by decide +kernel
theorem dX4_readWhens_12 : decode cX4_readWhens 12 = .ok (.getfield 59, 3) := by decide +kernel
theorem dX4_readWhens_15 : decode cX4_readWhens 15 = .ok (.bipush 7, 2) := by decide +kernel
theorem dX4_readWhens_17 : decode cX4_readWhens 17 = .ok (.if_icmp .ne 5, 3) := by decide +kernel
theorem dX4_readWhens_20 : decode cX4_readWhens 20 = .ok (.iconst 1, 1) := by decide +kernel
theorem dX4_readWhens_21 : decode cX4_readWhens 21 = .ok (.ireturn, 1) := by decide +kernel
theorem dX4_readWhens_22 : decode cX4_readWhens 22 = .ok (.aload_n 0, 1) := by decide +kernel
theorem dX4_readWhens_23 : decode cX4_readWhens 23 = .ok (.getfield 12, 3) := by decide +kernel
theorem dX4_readWhens_26 : decode cX4_readWhens 26 = .ok (.getfield 59, 3) := by decide +kernel
theorem dX4_readWhens_29 : decode cX4_readWhens 29 = .ok (.iconst 4, 1) := by decide +kernel
theorem dX4_readWhens_30 : decode cX4_readWhens 30 = .ok (.if_icmp .eq 9, 3) := by decide +kernel
theorem dX4_readWhens_33 : decode cX4_readWhens 33 = .ok (.aload_n 0, 1) := by decide +kernel
theorem dX4_readWhens_34 : decode cX4_readWhens 34 = .ok (.iconst 1, 1) := by decide +kernel
theorem dX4_readWhens_35 : decode cX4_readWhens 35 = .ok (.invokevirtual 62, 3) := by decide +kernel
theorem dX4_readWhens_38 : decode cX4_readWhens 38 = .ok (.ireturn, 1) := by decide +kernel
theorem dX4_readWhens_39 : decode cX4_readWhens 39 = .ok (.iload_n 3, 1) := by decide +kernel
theorem dX4_readWhens_40 : decode cX4_readWhens 40 = .ok (.bipush 40, 2) := by decide +kernel
theorem dX4_readWhens_42 : decode cX4_readWhens 42 = .ok (.if_icmp .lt 9, 3) := by decide +kernel
theorem dX4_readWhens_45 : decode cX4_readWhens 45 = .ok (.aload_n 0, 1) := by decide +kernel
theorem dX4_readWhens_46 : decode cX4_readWhens 46 = .ok (.iconst 2, 1) := by decide +kernel
theorem dX4_readWhens_47 : decode cX4_readWhens 47 = .ok (.invokevirtual 62, 3) := by decide +kernel
theorem dX4_readWhens_50 : decode cX4_readWhens 50 = .ok (.ireturn, 1) := by decide +kernel
theorem dX4_readWhens_51 : decode cX4_readWhens 51 = .ok (.aload_n 0, 1) := by decide +kernel
theorem dX4_readWhens_52 : decode cX4_readWhens 52 = .ok (.getfield 12, 3) := by decide +kernel
theorem dX4_readWhens_55 : decode cX4_readWhens 55 = .ok (.invokevirtual 66, 3) := by decide +kernel
theorem dX4_readWhens_58 : decode cX4_readWhens 58 = .ok (.aload_n 0, 1) := by decide +kernel
theorem dX4_readWhens_59 : decode cX4_readWhens 59 = .ok (.aload_n 1, 1) := by decide +kernel
theorem dX4_readWhens_60 : decode cX4_readWhens 60 = .ok (.aload_n 2, 1) := by decide +kernel
theorem dX4_readWhens_61 : decode cX4_readWhens 61 = .ok (.invokevirtual 148, 3) := by decide +kernel
theorem dX4_readWhens_64 : decode cX4_readWhens 64 = .ok (.ifCond .ne 5, 3) := by decide +kernel
theorem dX4_readWhens_67 : decode cX4_readWhens 67 = .ok (.iconst 0, 1) := by decide +kernel
theorem dX4_readWhens_68 : decode cX4_readWhens 68 = .ok (.ireturn, 1) := by decide +kernel
theorem dX4_readWhens_69 : decode cX4_readWhens 69 = .ok (.iinc 3 1, 3) := by decide +kernel
theorem dX4_readWhens_72 : decode cX4_readWhens 72 = .ok (.goto (-70), 3) := by decide +kernel
theorem dX4_readWhens_75 : decode cX4_readWhens 75 = .ok (.aload_n 0, 1) := by decide +kernel
theorem dX4_readWhens_76 : decode cX4_readWhens 76 = .ok (.iconst 1, 1) := by decide +kernel
theorem dX4_readWhens_77 : decode cX4_readWhens 77 = .ok (.invokevirtual 62, 3) := by decide +kernel
theorem dX4_readWhens_80 : decode cX4_readWhens 80 = .ok (.ireturn, 1) := by decide +kernel
theorem dX4_readWhen_0 : decode cX4_readWhen 0 = .ok (.aload_n 2, 1) := by decide +kernel
theorem dX4_readWhen_1 : decode cX4_readWhen 1 = .ok (.invokevirtual 125, 3) := by decide +kernel
theorem dX4_readWhen_4 : decode cX4_readWhen 4 = .ok (.iconst 0, 1) := by decide +kernel
theorem dX4_readWhen_5 : decode cX4_readWhen 5 = .ok (.istore_n 3, 1) := by decide +kernel
theorem dX4_readWhen_6 : decode cX4_readWhen 6 = .ok (.iload_n 3, 1) := by decide +kernel
theorem dX4_readWhen_7 : decode cX4_readWhen 7 = .ok (.sipush 1000, 3) := by decide +kernel
theorem dX4_readWhen_10 : decode cX4_readWhen 10 = .ok (.if_icmp .ge 120, 3) := by decide +kernel
theorem dX4_readWhen_13 : decode cX4_readWhen 13 = .ok (.aload_n 0, 1) := by decide +kernel
theorem dX4_readWhen_14 : decode cX4_readWhen 14 = .ok (.invokevirtual 95, 3) := by decide +kernel
theorem dX4_readWhen_17 : decode cX4_readWhen 17 = .ok (.ifCond .ne 5, 3) := by decide +kernel
theorem dX4_readWhen_20 : decode cX4_readWhen 20 = .ok (.iconst 0, 1) := by decide +kernel
theorem dX4_readWhen_21 : decode cX4_readWhen 21 = .ok (.ireturn, 1) := by decide +kernel
theorem dX4_readWhen_22 : decode cX4_readWhen 22 = .ok (.aload_n 1, 1) := by decide +kernel
theorem dX4_readWhen_23 : decode cX4_readWhen 23 = .ok (.aload_n 0, 1) := by decide +kernel
theorem dX4_readWhen_24 : decode cX4_readWhen 24 = .ok (.getfield 12, 3) := by decide +kernel
theorem dX4_readWhen_27 : decode cX4_readWhen 27 = .ok (.getfield 99, 3) := by decide +kernel
theorem dX4_readWhen_30 : decode cX4_readWhen 30 = .ok (.invokevirtual 103, 3) := by decide +kernel
theorem dX4_readWhen_33 : decode cX4_readWhen 33 = .ok (.istore 4, 2) := by decide +kernel
theorem dX4_readWhen_35 : decode cX4_readWhen 35 = .ok (.iload 4, 2) := by decide +kernel
theorem dX4_readWhen_37 : decode cX4_readWhen 37 = .ok (.iconst (-1), 1) := by decide +kernel
theorem dX4_readWhen_38 : decode cX4_readWhen 38 = .ok (.if_icmp .ne 9, 3) := by decide +kernel
theorem dX4_readWhen_41 : decode cX4_readWhen 41 = .ok (.aload_n 0, 1) := by decide +kernel
theorem dX4_readWhen_42 : decode cX4_readWhen 42 = .ok (.iconst 3, 1) := by decide +kernel
theorem dX4_readWhen_43 : decode cX4_readWhen 43 = .ok (.invokevirtual 62, 3) := by decide +kernel
theorem dX4_readWhen_46 : decode cX4_readWhen 46 = .ok (.ireturn, 1) := by decide +kernel
theorem dX4_readWhen_47 : decode cX4_readWhen 47 = .ok (.aload_n 0, 1) := by decide +kernel
theorem dX4_readWhen_48 : decode cX4_readWhen 48 = .ok (.getfield 12, 3) := by decide +kernel
theorem dX4_readWhen_51 : decode cX4_readWhen 51 = .ok (.invokevirtual 66, 3) := by decide +kernel
theorem dX4_readWhen_54 : decode cX4_readWhen 54 = .ok (.aload_n 0, 1) := by decide +kernel
theorem dX4_readWhen_55 : decode cX4_readWhen 55 = .ok (.bipush 12, 2) := by decide +kernel
theorem dX4_readWhen_57 : decode cX4_readWhen 57 = .ok (.invokevirtual 88, 3) := by decide +kernel
theorem dX4_readWhen_60 : decode cX4_readWhen 60 = .ok (.ifCond .eq 20, 3) := by decide +kernel
theorem dX4_readWhen_63 : decode cX4_readWhen 63 = .ok (.aload_n 0, 1) := by decide +kernel
theorem dX4_readWhen_64 : decode cX4_readWhen 64 = .ok (.aload_n 1, 1) := by decide +kernel
theorem dX4_readWhen_65 : decode cX4_readWhen 65 = .ok (.getfield 69, 3) := by decide +kernel
theorem dX4_readWhen_68 : decode cX4_readWhen 68 = .ok (.iload 4, 2) := by decide +kernel
theorem dX4_readWhen_70 : decode cX4_readWhen 70 = .ok (.aaload, 1) := by decide +kernel
theorem dX4_readWhen_71 : decode cX4_readWhen 71 = .ok (.aload_n 2, 1) := by decide +kernel
theorem dX4_readWhen_72 : decode cX4_readWhen 72 = .ok (.iload 4, 2) := by decide +kernel
theorem dX4_readWhen_74 : decode cX4_readWhen 74 = .ok (.invokevirtual 129, 3) := by decide +kernel
theorem dX4_readWhen_77 : decode cX4_readWhen 77 = .ok (.ifCond .ne 5, 3) := by decide +kernel
theorem dX4_readWhen_80 : decode cX4_readWhen 80 = .ok (.iconst 0, 1) := by decide +kernel
theorem dX4_readWhen_81 : decode cX4_readWhen 81 = .ok (.ireturn, 1) := by decide +kernel
theorem dX4_readWhen_82 : decode cX4_readWhen 82 = .ok (.aload_n 0, 1) := by decide +kernel
theorem dX4_readWhen_83 : decode cX4_readWhen 83 = .ok (.getfield 12, 3) := by decide +kernel
theorem dX4_readWhen_86 : decode cX4_readWhen 86 = .ok (.getfield 59, 3) := by decide +kernel
theorem dX4_readWhen_89 : decode cX4_readWhen 89 = .ok (.iconst 5, 1) := by decide +kernel
theorem dX4_readWhen_90 : decode cX4_readWhen 90 = .ok (.if_icmp .eq 27, 3) := by decide +kernel
theorem dX4_readWhen_93 : decode cX4_readWhen 93 = .ok (.aload_n 0, 1) := by decide +kernel
theorem dX4_readWhen_94 : decode cX4_readWhen 94 = .ok (.bipush 6, 2) := by decide +kernel
theorem dX4_readWhen_96 : decode cX4_readWhen 96 = .ok (.invokevirtual 88, 3) := by decide +kernel
theorem dX4_readWhen_99 : decode cX4_readWhen 99 = .ok (.ifCond .eq 16, 3) := by decide +kernel
theorem dX4_readWhen_102 : decode cX4_readWhen 102 = .ok (.aload_n 0, 1) := by decide +kernel
theorem dX4_readWhen_103 : decode cX4_readWhen 103 = .ok (.aload_n 1, 1) := by decide +kernel
theorem dX4_readWhen_104 : decode cX4_readWhen 104 = .ok (.aload_n 2, 1) := by decide +kernel
theorem dX4_readWhen_105 : decode cX4_readWhen 105 = .ok (.invokevirtual 133, 3) := by decide +kernel
theorem dX4_readWhen_108 : decode cX4_readWhen 108 = .ok (.ifCond .eq 7, 3) := by decide +kernel
theorem dX4_readWhen_111 : decode cX4_readWhen 111 = .ok (.iconst 1, 1) := by decide +kernel
theorem dX4_readWhen_112 : decode cX4_readWhen 112 = .ok (.goto 4, 3) := by decide +kernel
theorem dX4_readWhen_115 : decode cX4_readWhen 115 = .ok (.iconst 0, 1) := by decide +kernel
theorem dX4_readWhen_116 : decode cX4_readWhen 116 = .ok (.ireturn, 1) := by decide +kernel
theorem dX4_readWhen_117 : decode cX4_readWhen 117 = .ok (.aload_n 0, 1) := by decide +kernel
theorem dX4_readWhen_118 : decode cX4_readWhen 118 = .ok (.getfield 12, 3) := by decide +kernel
theorem dX4_readWhen_121 : decode cX4_readWhen 121 = .ok (.invokevirtual 66, 3) := by decide +kernel
theorem dX4_readWhen_124 : decode cX4_readWhen 124 = .ok (.iinc 3 1, 3) := by decide +kernel
theorem dX4_readWhen_127 : decode cX4_readWhen 127 = .ok (.goto (-121), 3) := by decide +kernel
theorem dX4_readWhen_130 : decode cX4_readWhen 130 = .ok (.aload_n 0, 1) := by decide +kernel
theorem dX4_readWhen_131 : decode cX4_readWhen 131 = .ok (.iconst 1, 1) := by decide +kernel
theorem dX4_readWhen_132 : decode cX4_readWhen 132 = .ok (.invokevirtual 62, 3) := by decide +kernel
theorem dX4_readWhen_135 : decode cX4_readWhen 135 = .ok (.ireturn, 1) := by decide +kernel
theorem dX4_readElse_0 : decode cX4_readElse 0 = .ok (.aload_n 0, 1) := by decide +kernel
theorem dX4_readElse_1 : decode cX4_readElse 1 = .ok (.bipush 7, 2) := by decide +kernel
theorem dX4_readElse_3 : decode cX4_readElse 3 = .ok (.invokevirtual 88, 3) := by decide +kernel
theorem dX4_readElse_6 : decode cX4_readElse 6 = .ok (.ifCond .ne 5, 3) := by decide +kernel
theorem dX4_readElse_9 : decode cX4_readElse 9 = .ok (.iconst 0, 1) := by decide +kernel
theorem dX4_readElse_10 : decode cX4_readElse 10 = .ok (.ireturn, 1) := by decide +kernel
theorem dX4_readElse_11 : decode cX4_readElse 11 = .ok (.aload_n 2, 1) := by decide +kernel
theorem dX4_readElse_12 : decode cX4_readElse 12 = .ok (.aload_n 0, 1) := by decide +kernel
theorem dX4_readElse_13 : decode cX4_readElse 13 = .ok (.aload_n 1, 1) := by decide +kernel
theorem dX4_readElse_14 : decode cX4_readElse 14 = .ok (.getfield 91, 3) := by decide +kernel
theorem dX4_readElse_17 : decode cX4_readElse 17 = .ok (.invokevirtual 136, 3) := by decide +kernel
theorem dX4_readElse_20 : decode cX4_readElse 20 = .ok (.putfield 151, 3) := by decide +kernel
theorem dX4_readElse_23 : decode cX4_readElse 23 = .ok (.aload_n 2, 1) := by decide +kernel
theorem dX4_readElse_24 : decode cX4_readElse 24 = .ok (.getfield 151, 3) := by decide +kernel
theorem dX4_readElse_27 : decode cX4_readElse 27 = .ok (.iconst (-1), 1) := by decide +kernel
theorem dX4_readElse_28 : decode cX4_readElse 28 = .ok (.if_icmp .ne 5, 3) := by decide +kernel
theorem dX4_readElse_31 : decode cX4_readElse 31 = .ok (.iconst 0, 1) := by decide +kernel
theorem dX4_readElse_32 : decode cX4_readElse 32 = .ok (.ireturn, 1) := by decide +kernel
theorem dX4_readElse_33 : decode cX4_readElse 33 = .ok (.aload_n 0, 1) := by decide +kernel
theorem dX4_readElse_34 : decode cX4_readElse 34 = .ok (.getfield 12, 3) := by decide +kernel
theorem dX4_readElse_37 : decode cX4_readElse 37 = .ok (.invokevirtual 66, 3) := by decide +kernel
theorem dX4_readElse_40 : decode cX4_readElse 40 = .ok (.aload_n 0, 1) := by decide +kernel
theorem dX4_readElse_41 : decode cX4_readElse 41 = .ok (.bipush 11, 2) := by decide +kernel
theorem dX4_readElse_43 : decode cX4_readElse 43 = .ok (.invokevirtual 88, 3) := by decide +kernel
theorem dX4_readElse_46 : decode cX4_readElse 46 = .ok (.ifCond .eq 27, 3) := by decide +kernel
theorem dX4_readElse_49 : decode cX4_readElse 49 = .ok (.aload_n 0, 1) := by decide +kernel
theorem dX4_readElse_50 : decode cX4_readElse 50 = .ok (.getfield 12, 3) := by decide +kernel
theorem dX4_readElse_53 : decode cX4_readElse 53 = .ok (.getfield 59, 3) := by decide +kernel
theorem dX4_readElse_56 : decode cX4_readElse 56 = .ok (.bipush 15, 2) := by decide +kernel
theorem dX4_readElse_58 : decode cX4_readElse 58 = .ok (.if_icmp .eq 11, 3) := by decide +kernel
theorem dX4_readElse_61 : decode cX4_readElse 61 = .ok (.aload_n 0, 1) := by decide +kernel
theorem dX4_readElse_62 : decode cX4_readElse 62 = .ok (.iconst 1, 1) := by decide +kernel
theorem dX4_readElse_63 : decode cX4_readElse 63 = .ok (.invokevirtual 62, 3) := by decide +kernel
theorem dX4_readElse_66 : decode cX4_readElse 66 = .ok (.ifCond .eq 7, 3) := by decide +kernel
theorem dX4_readElse_69 : decode cX4_readElse 69 = .ok (.iconst 1, 1) := by decide +kernel
theorem dX4_readElse_70 : decode cX4_readElse 70 = .ok (.goto 4, 3) := by decide +kernel
theorem dX4_readElse_73 : decode cX4_readElse 73 = .ok (.iconst 0, 1) := by decide +kernel
theorem dX4_readElse_74 : decode cX4_readElse 74 = .ok (.ireturn, 1) := by decide +kernel
theorem dX7_init_0 : decode cX7_init 0 = .ok (.aload_n 0, 1) := by decide +kernel
theorem dX7_init_1 : decode cX7_init 1 = .ok (.invokespecial 3, 3) := by decide +kernel
theorem dX7_init_4 : decode cX7_init 4 = .ok (.aload_n 0, 1) := by decide +kernel
theorem dX7_init_5 : decode cX7_init 5 = .ok (.aload_n 1, 1) := by decide +kernel
theorem dX7_init_6 : decode cX7_init 6 = .ok (.putfield 9, 3) := by decide +kernel
theorem dX7_init_9 : decode cX7_init 9 = .ok (.aload_n 0, 1) := by decide +kernel
theorem dX7_init_10 : decode cX7_init 10 = .ok (.aload_n 1, 1) := by decide +kernel
theorem dX7_init_11 : decode cX7_init 11 = .ok (.getfield 15, 3) := by decide +kernel
theorem dX7_init_14 : decode cX7_init 14 = .ok (.putfield 21, 3) := by decide +kernel
theorem dX7_init_17 : decode cX7_init 17 = .ok (.aload_n 0, 1) := by decide +kernel
theorem dX7_init_18 : decode cX7_init 18 = .ok (.aload_n 1, 1) := by decide +kernel
theorem dX7_init_19 : decode cX7_init 19 = .ok (.getfield 22, 3) := by decide +kernel
theorem dX7_init_22 : decode cX7_init 22 = .ok (.aload_n 0, 1) := by decide +kernel
theorem dX7_init_23 : decode cX7_init 23 = .ok (.getfield 21, 3) := by decide +kernel
theorem dX7_init_26 : decode cX7_init 26 = .ok (.multianewarray 25 2, 4) := by decide +kernel
theorem dX7_init_30 : decode cX7_init 30 = .ok (.putfield 27, 3) := by decide +kernel
theorem dX7_init_33 : decode cX7_init 33 = .ok (.aload_n 0, 1) := by decide +kernel
theorem dX7_init_34 : decode cX7_init 34 = .ok (.aload_n 0, 1) := by decide +kernel
theorem dX7_init_35 : decode cX7_init 35 = .ok (.getfield 21, 3) := by decide +kernel
theorem dX7_init_38 : decode cX7_init 38 = .ok (.newarray .int, 2) := by decide +kernel
theorem dX7_init_40 : decode cX7_init 40 = .ok (.putfield 30, 3) := by decide +kernel
theorem dX7_init_43 : decode cX7_init 43 = .ok (.aload_n 0, 1) := by decide +kernel
theorem dX7_init_44 : decode cX7_init 44 = .ok (.aload_n 0, 1) := by decide +kernel
theorem dX7_init_45 : decode cX7_init 45 = .ok (.getfield 21, 3) := by decide +kernel
theorem dX7_init_48 : decode cX7_init 48 = .ok (.newarray .int, 2) := by decide +kernel
theorem dX7_init_50 : decode cX7_init 50 = .ok (.putfield 34, 3) := by decide +kernel
theorem dX7_init_53 : decode cX7_init 53 = .ok (.aload_n 0, 1) := by decide +kernel
theorem dX7_init_54 : decode cX7_init 54 = .ok (.aload_n 0, 1) := by decide +kernel
theorem dX7_init_55 : decode cX7_init 55 = .ok (.getfield 21, 3) := by decide +kernel
theorem dX7_init_58 : decode cX7_init 58 = .ok (.newarray .int, 2) := by decide +kernel
theorem dX7_init_60 : decode cX7_init 60 = .ok (.putfield 37, 3) := by decide +kernel
theorem dX7_init_63 : decode cX7_init 63 = .ok (.aload_n 0, 1) := by decide +kernel
theorem dX7_init_64 : decode cX7_init 64 = .ok (.aload_n 0, 1) := by decide +kernel
theorem dX7_init_65 : decode cX7_init 65 = .ok (.getfield 21, 3) := by decide +kernel
theorem dX7_init_68 : decode cX7_init 68 = .ok (.newarray .int, 2) := by decide +kernel
theorem dX7_init_70 : decode cX7_init 70 = .ok (.putfield 40, 3) := by decide +kernel
theorem dX7_init_73 : decode cX7_init 73 = .ok (.aload_n 1, 1) := by decide +kernel
theorem dX7_init_74 : decode cX7_init 74 = .ok (.getfield 43, 3) := by decide +kernel
theorem dX7_init_77 : decode cX7_init 77 = .ok (.getfield 47, 3) := by decide +kernel
theorem dX7_init_80 : decode cX7_init 80 = .ok (.aload_n 1, 1) := by decide +kernel
theorem dX7_init_81 : decode cX7_init 81 = .ok (.getfield 43, 3) := by decide +kernel
theorem dX7_init_84 : decode cX7_init 84 = .ok (.getfield 47, 3) := by decide +kernel
theorem dX7_init_87 : decode cX7_init 87 = .ok (.iconst 1, 1) := by decide +kernel
theorem dX7_init_88 : decode cX7_init 88 = .ok (.isub, 1) := by decide +kernel
theorem dX7_init_89 : decode cX7_init 89 = .ok (.imul, 1) := by decide +kernel
theorem dX7_init_90 : decode cX7_init 90 = .ok (.iconst 2, 1) := by decide +kernel
theorem dX7_init_91 : decode cX7_init 91 = .ok (.idiv, 1) := by decide +kernel
theorem dX7_init_92 : decode cX7_init 92 = .ok (.istore_n 2, 1) := by decide +kernel
theorem dX7_init_93 : decode cX7_init 93 = .ok (.aload_n 0, 1) := by decide +kernel
theorem dX7_init_94 : decode cX7_init 94 = .ok (.iload_n 2, 1) := by decide +kernel
theorem dX7_init_95 : decode cX7_init 95 = .ok (.newarray .int, 2) := by decide +kernel
theorem dX7_init_97 : decode cX7_init 97 = .ok (.putfield 52, 3) := by decide +kernel
theorem dX7_init_100 : decode cX7_init 100 = .ok (.aload_n 0, 1) := by decide +kernel
theorem dX7_init_101 : decode cX7_init 101 = .ok (.iload_n 2, 1) := by decide +kernel
theorem dX7_init_102 : decode cX7_init 102 = .ok (.newarray .int, 2) := by decide +kernel
theorem dX7_init_104 : decode cX7_init 104 = .ok (.putfield 55, 3) := by decide +kernel
theorem dX7_init_107 : decode cX7_init 107 = .ok (.aload_n 0, 1) := by decide +kernel
theorem dX7_init_108 : decode cX7_init 108 = .ok (.aload_n 1, 1) := by decide +kernel
theorem dX7_init_109 : decode cX7_init 109 = .ok (.getfield 43, 3) := by decide +kernel
theorem dX7_init_112 : decode cX7_init 112 = .ok (.getfield 47, 3) := by decide +kernel
theorem dX7_init_115 : decode cX7_init 115 = .ok (.newarray .boolean, 2) := by decide +kernel
theorem dX7_init_117 : decode cX7_init 117 = .ok (.putfield 58, 3) := by decide +kernel
theorem dX7_init_120 : decode cX7_init 120 = .ok (.aload_n 0, 1) := by decide +kernel
theorem dX7_init_121 : decode cX7_init 121 = .ok (.new 62, 3) := by decide +kernel
theorem dX7_init_124 : decode cX7_init 124 = .ok (.dup, 1) := by decide +kernel
theorem dX7_init_125 : decode cX7_init 125 = .ok (.aload_n 1, 1) := by decide +kernel
theorem dX7_init_126 : decode cX7_init 126 = .ok (.invokespecial 64, 3) := by decide +kernel
theorem dX7_init_129 : decode cX7_init 129 = .ok (.putfield 67, 3) := by decide +kernel
theorem dX7_init_132 : decode cX7_init 132 = .ok (.aload_n 0, 1) := by decide +kernel
theorem dX7_init_133 : decode cX7_init 133 = .ok (.aload_n 0, 1) := by decide +kernel
theorem dX7_init_134 : decode cX7_init 134 = .ok (.getfield 21, 3) := by decide +kernel
theorem dX7_init_137 : decode cX7_init 137 = .ok (.newarray .int, 2) := by decide +kernel
theorem dX7_init_139 : decode cX7_init 139 = .ok (.putfield 71, 3) := by decide +kernel
theorem dX7_init_142 : decode cX7_init 142 = .ok (.return_, 1) := by decide +kernel
theorem dX7_findAll_0 : decode cX7_findAll 0 = .ok (.aload_n 0, 1) := by decide +kernel
theorem dX7_findAll_1 : decode cX7_findAll 1 = .ok (.invokevirtual 74, 3) := by decide +kernel
theorem dX7_findAll_4 : decode cX7_findAll 4 = .ok (.aload_n 0, 1) := by decide +kernel
theorem dX7_findAll_5 : decode cX7_findAll 5 = .ok (.invokevirtual 77, 3) := by decide +kernel
theorem dX7_findAll_8 : decode cX7_findAll 8 = .ok (.aload_n 0, 1) := by decide +kernel
theorem dX7_findAll_9 : decode cX7_findAll 9 = .ok (.invokevirtual 80, 3) := by decide +kernel
theorem dX7_findAll_12 : decode cX7_findAll 12 = .ok (.aload_n 0, 1) := by decide +kernel
theorem dX7_findAll_13 : decode cX7_findAll 13 = .ok (.invokevirtual 83, 3) := by decide +kernel
theorem dX7_findAll_16 : decode cX7_findAll 16 = .ok (.aload_n 0, 1) := by decide +kernel
theorem dX7_findAll_17 : decode cX7_findAll 17 = .ok (.getfield 67, 3) := by decide +kernel
theorem dX7_findAll_20 : decode cX7_findAll 20 = .ok (.invokevirtual 86, 3) := by decide +kernel
theorem dX7_findAll_23 : decode cX7_findAll 23 = .ok (.aload_n 0, 1) := by decide +kernel
theorem dX7_findAll_24 : decode cX7_findAll 24 = .ok (.getfield 67, 3) := by decide +kernel
theorem dX7_findAll_27 : decode cX7_findAll 27 = .ok (.aload_n 0, 1) := by decide +kernel
theorem dX7_findAll_28 : decode cX7_findAll 28 = .ok (.getfield 30, 3) := by decide +kernel
theorem dX7_findAll_31 : decode cX7_findAll 31 = .ok (.invokevirtual 89, 3) := by decide +kernel
theorem dX7_findAll_34 : decode cX7_findAll 34 = .ok (.aload_n 0, 1) := by decide +kernel
theorem dX7_findAll_35 : decode cX7_findAll 35 = .ok (.invokevirtual 93, 3) := by decide +kernel
theorem dX7_findAll_38 : decode cX7_findAll 38 = .ok (.return_, 1) := by decide +kernel
theorem dX7_fillCases_0 : decode cX7_fillCases 0 = .ok (.aload_n 0, 1) := by decide +kernel
theorem dX7_fillCases_1 : decode cX7_fillCases 1 = .ok (.getfield 9, 3) := by decide +kernel
theorem dX7_fillCases_4 : decode cX7_fillCases 4 = .ok (.invokevirtual 96, 3) := by decide +kernel
theorem dX7_fillCases_7 : decode cX7_fillCases 7 = .ok (.astore_n 1, 1) := by decide +kernel
theorem dX7_fillCases_8 : decode cX7_fillCases 8 = .ok (.aload_n 1, 1) := by decide +kernel
theorem dX7_fillCases_9 : decode cX7_fillCases 9 = .ok (.arraylength, 1) := by decide +kernel
theorem dX7_fillCases_10 : decode cX7_fillCases 10 = .ok (.newarray .int, 2) := by decide +kernel
theorem dX7_fillCases_12 : decode cX7_fillCases 12 = .ok (.astore_n 2, 1) := by decide +kernel
theorem dX7_fillCases_13 : decode cX7_fillCases 13 = .ok (.iconst 0, 1) := by decide +kernel
theorem dX7_fillCases_14 : decode cX7_fillCases 14 = .ok (.istore_n 3, 1) := by decide +kernel
theorem dX7_fillCases_15 : decode cX7_fillCases 15 = .ok (.iload_n 3, 1) := by decide +kernel
theorem dX7_fillCases_16 : decode cX7_fillCases 16 = .ok (.aload_n 0, 1) := by decide +kernel
theorem dX7_fillCases_17 : decode cX7_fillCases 17 = .ok (.getfield 21, 3) := by decide +kernel
theorem dX7_fillCases_20 : decode cX7_fillCases 20 = .ok (.if_icmp .ge 43, 3) := by decide +kernel
theorem dX7_fillCases_23 : decode cX7_fillCases 23 = .ok (.iconst 0, 1) := by decide +kernel
theorem dX7_fillCases_24 : decode cX7_fillCases 24 = .ok (.istore 4, 2) := by decide +kernel
theorem dX7_fillCases_26 : decode cX7_fillCases 26 = .ok (.iload 4, 2) := by decide +kernel
theorem dX7_fillCases_28 : decode cX7_fillCases 28 = .ok (.aload_n 2, 1) := by decide +kernel
theorem dX7_fillCases_29 : decode cX7_fillCases 29 = .ok (.arraylength, 1) := by decide +kernel
theorem dX7_fillCases_30 : decode cX7_fillCases 30 = .ok (.if_icmp .ge 22, 3) := by decide +kernel
theorem dX7_fillCases_33 : decode cX7_fillCases 33 = .ok (.aload_n 0, 1) := by decide +kernel
theorem dX7_fillCases_34 : decode cX7_fillCases 34 = .ok (.getfield 27, 3) := by decide +kernel
theorem dX7_fillCases_37 : decode cX7_fillCases 37 = .ok (.iload 4, 2) := by decide +kernel
theorem dX7_fillCases_39 : decode cX7_fillCases 39 = .ok (.aaload, 1) := by decide +kernel
theorem dX7_fillCases_40 : decode cX7_fillCases 40 = .ok (.iload_n 3, 1) := by decide +kernel
theorem dX7_fillCases_41 : decode cX7_fillCases 41 = .ok (.aload_n 2, 1) := by decide +kernel
theorem dX7_fillCases_42 : decode cX7_fillCases 42 = .ok (.iload 4, 2) := by decide +kernel
theorem dX7_fillCases_44 : decode cX7_fillCases 44 = .ok (.iaload, 1) := by decide +kernel
theorem dX7_fillCases_45 : decode cX7_fillCases 45 = .ok (.iastore, 1) := by decide +kernel
theorem dX7_fillCases_46 : decode cX7_fillCases 46 = .ok (.iinc 4 1, 3) := by decide +kernel
theorem dX7_fillCases_49 : decode cX7_fillCases 49 = .ok (.goto (-23), 3) := by decide +kernel
theorem dX7_fillCases_52 : decode cX7_fillCases 52 = .ok (.aload_n 2, 1) := by decide +kernel
theorem dX7_fillCases_53 : decode cX7_fillCases 53 = .ok (.aload_n 1, 1) := by decide +kernel
theorem dX7_fillCases_54 : decode cX7_fillCases 54 = .ok (.invokestatic 100, 3) := by decide +kernel
theorem dX7_fillCases_57 : decode cX7_fillCases 57 = .ok (.iinc 3 1, 3) := by decide +kernel
theorem dX7_fillCases_60 : decode cX7_fillCases 60 = .ok (.goto (-45), 3) := by decide +kernel
theorem dX7_fillCases_63 : decode cX7_fillCases 63 = .ok (.return_, 1) := by decide +kernel
theorem dX7_findAnswers_0 : decode cX7_findAnswers 0 = .ok (.iconst 0, 1) := by decide +kernel
theorem dX7_findAnswers_1 : decode cX7_findAnswers 1 = .ok (.istore_n 1, 1) := by decide +kernel
theorem dX7_findAnswers_2 : decode cX7_findAnswers 2 = .ok (.iload_n 1, 1) := by decide +kernel
theorem dX7_findAnswers_3 : decode cX7_findAnswers 3 = .ok (.aload_n 0, 1) := by decide +kernel
theorem dX7_findAnswers_4 : decode cX7_findAnswers 4 = .ok (.getfield 21, 3) := by decide +kernel
theorem dX7_findAnswers_7 : decode cX7_findAnswers 7 = .ok (.if_icmp .ge 98, 3) := by decide +kernel
theorem dX7_findAnswers_10 : decode cX7_findAnswers 10 = .ok (.aload_n 0, 1) := by decide +kernel
theorem dX7_findAnswers_11 : decode cX7_findAnswers 11 = .ok (.getfield 9, 3) := by decide +kernel
theorem dX7_findAnswers_14 : decode cX7_findAnswers 14 = .ok (.getfield 43, 3) := by decide +kernel
theorem dX7_findAnswers_17 : decode cX7_findAnswers 17 = .ok (.iconst 0, 1) := by decide +kernel
theorem dX7_findAnswers_18 : decode cX7_findAnswers 18 = .ok (.aload_n 0, 1) := by decide +kernel
theorem dX7_findAnswers_19 : decode cX7_findAnswers 19 = .ok (.getfield 27, 3) := by decide +kernel
theorem dX7_findAnswers_22 : decode cX7_findAnswers 22 = .ok (.iload_n 1, 1) := by decide +kernel
theorem dX7_findAnswers_23 : decode cX7_findAnswers 23 = .ok (.invokevirtual 104, 3) := by decide +kernel
theorem dX7_findAnswers_26 : decode cX7_findAnswers 26 = .ok (.istore_n 2, 1) := by decide +kernel
theorem dX7_findAnswers_27 : decode cX7_findAnswers 27 = .ok (.aload_n 0, 1) := by decide +kernel
theorem dX7_findAnswers_28 : decode cX7_findAnswers 28 = .ok (.getfield 34, 3) := by decide +kernel
theorem dX7_findAnswers_31 : decode cX7_findAnswers 31 = .ok (.iload_n 1, 1) := by decide +kernel
theorem dX7_findAnswers_32 : decode cX7_findAnswers 32 = .ok (.iload_n 2, 1) := by decide +kernel
theorem dX7_findAnswers_33 : decode cX7_findAnswers 33 = .ok (.iastore, 1) := by decide +kernel
theorem dX7_findAnswers_34 : decode cX7_findAnswers 34 = .ok (.aload_n 0, 1) := by decide +kernel
theorem dX7_findAnswers_35 : decode cX7_findAnswers 35 = .ok (.getfield 37, 3) := by decide +kernel
theorem dX7_findAnswers_38 : decode cX7_findAnswers 38 = .ok (.iload_n 1, 1) := by decide +kernel
theorem dX7_findAnswers_39 : decode cX7_findAnswers 39 = .ok (.aload_n 0, 1) := by decide +kernel
theorem dX7_findAnswers_40 : decode cX7_findAnswers 40 = .ok (.iload_n 2, 1) := by decide +kernel
theorem dX7_findAnswers_41 : decode cX7_findAnswers 41 = .ok (.iload_n 1, 1) := by decide +kernel
theorem dX7_findAnswers_42 : decode cX7_findAnswers 42 = .ok (.invokevirtual 108, 3) := by decide +kernel
theorem dX7_findAnswers_45 : decode cX7_findAnswers 45 = .ok (.iastore, 1) := by decide +kernel
theorem dX7_findAnswers_46 : decode cX7_findAnswers 46 = .ok (.iload_n 2, 1) := by decide +kernel
theorem dX7_findAnswers_47 : decode cX7_findAnswers 47 = .ok (.iconst (-1), 1) := by decide +kernel
theorem dX7_findAnswers_48 : decode cX7_findAnswers 48 = .ok (.if_icmp .ne 33, 3) := by decide +kernel
theorem dX7_findAnswers_51 : decode cX7_findAnswers 51 = .ok (.aload_n 0, 1) := by decide +kernel
theorem dX7_findAnswers_52 : decode cX7_findAnswers 52 = .ok (.getfield 30, 3) := by decide +kernel
theorem dX7_findAnswers_55 : decode cX7_findAnswers 55 = .ok (.iload_n 1, 1) := by decide +kernel
theorem dX7_findAnswers_56 : decode cX7_findAnswers 56 = .ok (.iconst (-1), 1) := by decide +kernel
theorem dX7_findAnswers_57 : decode cX7_findAnswers 57 = .ok (.iastore, 1) := by decide +kernel
theorem dX7_findAnswers_58 : decode cX7_findAnswers 58 = .ok (.aload_n 0, 1) := by decide +kernel
theorem dX7_findAnswers_59 : decode cX7_findAnswers 59 = .ok (.getfield 40, 3) := by decide +kernel
theorem dX7_findAnswers_62 : decode cX7_findAnswers 62 = .ok (.aload_n 0, 1) := by decide +kernel
theorem dX7_findAnswers_63 : decode cX7_findAnswers 63 = .ok (.getfield 112, 3) := by decide +kernel
theorem dX7_findAnswers_66 : decode cX7_findAnswers 66 = .ok (.iload_n 1, 1) := by decide +kernel
theorem dX7_findAnswers_67 : decode cX7_findAnswers 67 = .ok (.iastore, 1) := by decide +kernel
theorem dX7_findAnswers_68 : decode cX7_findAnswers 68 = .ok (.aload_n 0, 1) := by decide +kernel
theorem dX7_findAnswers_69 : decode cX7_findAnswers 69 = .ok (.dup, 1) := by decide +kernel
theorem dX7_findAnswers_70 : decode cX7_findAnswers 70 = .ok (.getfield 112, 3) := by decide +kernel
theorem dX7_findAnswers_73 : decode cX7_findAnswers 73 = .ok (.iconst 1, 1) := by decide +kernel
theorem dX7_findAnswers_74 : decode cX7_findAnswers 74 = .ok (.iadd, 1) := by decide +kernel
theorem dX7_findAnswers_75 : decode cX7_findAnswers 75 = .ok (.putfield 112, 3) := by decide +kernel
theorem dX7_findAnswers_78 : decode cX7_findAnswers 78 = .ok (.goto 21, 3) := by decide +kernel
theorem dX7_findAnswers_81 : decode cX7_findAnswers 81 = .ok (.aload_n 0, 1) := by decide +kernel
theorem dX7_findAnswers_82 : decode cX7_findAnswers 82 = .ok (.getfield 30, 3) := by decide +kernel
theorem dX7_findAnswers_85 : decode cX7_findAnswers 85 = .ok (.iload_n 1, 1) := by decide +kernel
theorem dX7_findAnswers_86 : decode cX7_findAnswers 86 = .ok (.aload_n 0, 1) := by decide +kernel
theorem dX7_findAnswers_87 : decode cX7_findAnswers 87 = .ok (.getfield 9, 3) := by decide +kernel
theorem dX7_findAnswers_90 : decode cX7_findAnswers 90 = .ok (.getfield 43, 3) := by decide +kernel
theorem dX7_findAnswers_93 : decode cX7_findAnswers 93 = .ok (.getfield 115, 3) := by decide +kernel
theorem dX7_findAnswers_96 : decode cX7_findAnswers 96 = .ok (.iload_n 2, 1) := by decide +kernel
theorem dX7_findAnswers_97 : decode cX7_findAnswers 97 = .ok (.iaload, 1) := by decide +kernel
theorem dX7_findAnswers_98 : decode cX7_findAnswers 98 = .ok (.iastore, 1) := by decide +kernel
theorem dX7_findAnswers_99 : decode cX7_findAnswers 99 = .ok (.iinc 1 1, 3) := by decide +kernel
theorem dX7_findAnswers_102 : decode cX7_findAnswers 102 = .ok (.goto (-100), 3) := by decide +kernel
theorem dX7_findAnswers_105 : decode cX7_findAnswers 105 = .ok (.return_, 1) := by decide +kernel
theorem dX7_howManyFit_0 : decode cX7_howManyFit 0 = .ok (.iload_n 1, 1) := by decide +kernel
theorem dX7_howManyFit_1 : decode cX7_howManyFit 1 = .ok (.iconst (-1), 1) := by decide +kernel
theorem dX7_howManyFit_2 : decode cX7_howManyFit 2 = .ok (.if_icmp .ne 5, 3) := by decide +kernel
theorem dX7_howManyFit_5 : decode cX7_howManyFit 5 = .ok (.iconst 0, 1) := by decide +kernel
theorem dX7_howManyFit_6 : decode cX7_howManyFit 6 = .ok (.ireturn, 1) := by decide +kernel
theorem dX7_howManyFit_7 : decode cX7_howManyFit 7 = .ok (.iconst 1, 1) := by decide +kernel
theorem dX7_howManyFit_8 : decode cX7_howManyFit 8 = .ok (.istore_n 3, 1) := by decide +kernel
theorem dX7_howManyFit_9 : decode cX7_howManyFit 9 = .ok (.iload_n 1, 1) := by decide +kernel
theorem dX7_howManyFit_10 : decode cX7_howManyFit 10 = .ok (.iconst 1, 1) := by decide +kernel
theorem dX7_howManyFit_11 : decode cX7_howManyFit 11 = .ok (.iadd, 1) := by decide +kernel
theorem dX7_howManyFit_12 : decode cX7_howManyFit 12 = .ok (.istore 4, 2) := by decide +kernel
theorem dX7_howManyFit_14 : decode cX7_howManyFit 14 = .ok (.iload 4, 2) := by decide +kernel
theorem dX7_howManyFit_16 : decode cX7_howManyFit 16 = .ok (.aload_n 0, 1) := by decide +kernel
theorem dX7_howManyFit_17 : decode cX7_howManyFit 17 = .ok (.getfield 9, 3) := by decide +kernel
theorem dX7_howManyFit_20 : decode cX7_howManyFit 20 = .ok (.getfield 43, 3) := by decide +kernel
theorem dX7_howManyFit_23 : decode cX7_howManyFit 23 = .ok (.getfield 47, 3) := by decide +kernel
theorem dX7_howManyFit_26 : decode cX7_howManyFit 26 = .ok (.if_icmp .ge 32, 3) := by decide +kernel
theorem dX7_howManyFit_29 : decode cX7_howManyFit 29 = .ok (.aload_n 0, 1) := by decide +kernel
theorem dX7_howManyFit_30 : decode cX7_howManyFit 30 = .ok (.getfield 9, 3) := by decide +kernel
theorem dX7_howManyFit_33 : decode cX7_howManyFit 33 = .ok (.getfield 43, 3) := by decide +kernel
theorem dX7_howManyFit_36 : decode cX7_howManyFit 36 = .ok (.iload 4, 2) := by decide +kernel
theorem dX7_howManyFit_38 : decode cX7_howManyFit 38 = .ok (.aload_n 0, 1) := by decide +kernel
theorem dX7_howManyFit_39 : decode cX7_howManyFit 39 = .ok (.getfield 27, 3) := by decide +kernel
theorem dX7_howManyFit_42 : decode cX7_howManyFit 42 = .ok (.iload_n 2, 1) := by decide +kernel
theorem dX7_howManyFit_43 : decode cX7_howManyFit 43 = .ok (.invokevirtual 118, 3) := by decide +kernel
theorem dX7_howManyFit_46 : decode cX7_howManyFit 46 = .ok (.ifCond .eq 6, 3) := by decide +kernel
theorem dX7_howManyFit_49 : decode cX7_howManyFit 49 = .ok (.iinc 3 1, 3) := by decide +kernel
theorem dX7_howManyFit_52 : decode cX7_howManyFit 52 = .ok (.iinc 4 1, 3) := by decide +kernel
theorem dX7_howManyFit_55 : decode cX7_howManyFit 55 = .ok (.goto (-41), 3) := by decide +kernel
theorem dX7_howManyFit_58 : decode cX7_howManyFit 58 = .ok (.iload_n 3, 1) := by decide +kernel
theorem dX7_howManyFit_59 : decode cX7_howManyFit 59 = .ok (.ireturn, 1) := by decide +kernel
theorem dX7_findQuarrels_0 : decode cX7_findQuarrels 0 = .ok (.aload_n 0, 1) := by decide +kernel
theorem dX7_findQuarrels_1 : decode cX7_findQuarrels 1 = .ok (.getfield 9, 3) := by decide +kernel
theorem dX7_findQuarrels_4 : decode cX7_findQuarrels 4 = .ok (.getfield 43, 3) := by decide +kernel
theorem dX7_findQuarrels_7 : decode cX7_findQuarrels 7 = .ok (.getfield 115, 3) := by decide +kernel
theorem dX7_findQuarrels_10 : decode cX7_findQuarrels 10 = .ok (.astore_n 1, 1) := by decide +kernel
theorem dX7_findQuarrels_11 : decode cX7_findQuarrels 11 = .ok (.iconst 0, 1) := by decide +kernel
theorem dX7_findQuarrels_12 : decode cX7_findQuarrels 12 = .ok (.istore_n 2, 1) := by decide +kernel
theorem dX7_findQuarrels_13 : decode cX7_findQuarrels 13 = .ok (.iload_n 2, 1) := by decide +kernel
theorem dX7_findQuarrels_14 : decode cX7_findQuarrels 14 = .ok (.aload_n 0, 1) := by decide +kernel
theorem dX7_findQuarrels_15 : decode cX7_findQuarrels 15 = .ok (.getfield 9, 3) := by decide +kernel
theorem dX7_findQuarrels_18 : decode cX7_findQuarrels 18 = .ok (.getfield 43, 3) := by decide +kernel
theorem dX7_findQuarrels_21 : decode cX7_findQuarrels 21 = .ok (.getfield 47, 3) := by decide +kernel
theorem dX7_findQuarrels_24 : decode cX7_findQuarrels 24 = .ok (.if_icmp .ge 82, 3) := by decide +kernel
theorem dX7_findQuarrels_27 : decode cX7_findQuarrels 27 = .ok (.iload_n 2, 1) := by decide +kernel
theorem dX7_findQuarrels_28 : decode cX7_findQuarrels 28 = .ok (.iconst 1, 1) := by decide +kernel
theorem dX7_findQuarrels_29 : decode cX7_findQuarrels 29 = .ok (.iadd, 1) := by decide +kernel
theorem dX7_findQuarrels_30 : decode cX7_findQuarrels 30 = .ok (.istore_n 3, 1) := by decide +kernel
theorem dX7_findQuarrels_31 : decode cX7_findQuarrels 31 = .ok (.iload_n 3, 1) := by decide +kernel
theorem dX7_findQuarrels_32 : decode cX7_findQuarrels 32 = .ok (.aload_n 0, 1) := by decide +kernel
theorem dX7_findQuarrels_33 : decode cX7_findQuarrels 33 = .ok (.getfield 9, 3) := by decide +kernel
theorem dX7_findQuarrels_36 : decode cX7_findQuarrels 36 = .ok (.getfield 43, 3) := by decide +kernel
theorem dX7_findQuarrels_39 : decode cX7_findQuarrels 39 = .ok (.getfield 47, 3) := by decide +kernel
theorem dX7_findQuarrels_42 : decode cX7_findQuarrels 42 = .ok (.if_icmp .ge 58, 3) := by decide +kernel
theorem dX7_findQuarrels_45 : decode cX7_findQuarrels 45 = .ok (.aload_n 1, 1) := by decide +kernel
theorem dX7_findQuarrels_46 : decode cX7_findQuarrels 46 = .ok (.iload_n 2, 1) := by decide +kernel
theorem dX7_findQuarrels_47 : decode cX7_findQuarrels 47 = .ok (.iaload, 1) := by decide +kernel
theorem dX7_findQuarrels_48 : decode cX7_findQuarrels 48 = .ok (.aload_n 1, 1) := by decide +kernel
theorem dX7_findQuarrels_49 : decode cX7_findQuarrels 49 = .ok (.iload_n 3, 1) := by decide +kernel
theorem dX7_findQuarrels_50 : decode cX7_findQuarrels 50 = .ok (.iaload, 1) := by decide +kernel
theorem dX7_findQuarrels_51 : decode cX7_findQuarrels 51 = .ok (.if_icmp .eq 43, 3) := by decide +kernel
theorem dX7_findQuarrels_54 : decode cX7_findQuarrels 54 = .ok (.aload_n 0, 1) := by decide +kernel
theorem dX7_findQuarrels_55 : decode cX7_findQuarrels 55 = .ok (.iload_n 2, 1) := by decide +kernel
theorem dX7_findQuarrels_56 : decode cX7_findQuarrels 56 = .ok (.iload_n 3, 1) := by decide +kernel
theorem dX7_findQuarrels_57 : decode cX7_findQuarrels 57 = .ok (.invokevirtual 122, 3) := by decide +kernel
theorem dX7_findQuarrels_60 : decode cX7_findQuarrels 60 = .ok (.iconst (-1), 1) := by decide +kernel
theorem dX7_findQuarrels_61 : decode cX7_findQuarrels 61 = .ok (.if_icmp .eq 33, 3) := by decide +kernel
theorem dX7_findQuarrels_64 : decode cX7_findQuarrels 64 = .ok (.aload_n 0, 1) := by decide +kernel
theorem dX7_findQuarrels_65 : decode cX7_findQuarrels 65 = .ok (.getfield 52, 3) := by decide +kernel
theorem dX7_findQuarrels_68 : decode cX7_findQuarrels 68 = .ok (.aload_n 0, 1) := by decide +kernel
theorem dX7_findQuarrels_69 : decode cX7_findQuarrels 69 = .ok (.getfield 125, 3) := by decide +kernel
theorem dX7_findQuarrels_72 : decode cX7_findQuarrels 72 = .ok (.iload_n 2, 1) := by decide +kernel
theorem dX7_findQuarrels_73 : decode cX7_findQuarrels 73 = .ok (.iastore, 1) := by decide +kernel
theorem dX7_findQuarrels_74 : decode cX7_findQuarrels 74 = .ok (.aload_n 0, 1) := by decide +kernel
theorem dX7_findQuarrels_75 : decode cX7_findQuarrels 75 = .ok (.getfield 55, 3) := by decide +kernel
theorem dX7_findQuarrels_78 : decode cX7_findQuarrels 78 = .ok (.aload_n 0, 1) := by decide +kernel
theorem dX7_findQuarrels_79 : decode cX7_findQuarrels 79 = .ok (.getfield 125, 3) := by decide +kernel
theorem dX7_findQuarrels_82 : decode cX7_findQuarrels 82 = .ok (.iload_n 3, 1) := by decide +kernel
theorem dX7_findQuarrels_83 : decode cX7_findQuarrels 83 = .ok (.iastore, 1) := by decide +kernel
theorem dX7_findQuarrels_84 : decode cX7_findQuarrels 84 = .ok (.aload_n 0, 1) := by decide +kernel
theorem dX7_findQuarrels_85 : decode cX7_findQuarrels 85 = .ok (.dup, 1) := by decide +kernel
theorem dX7_findQuarrels_86 : decode cX7_findQuarrels 86 = .ok (.getfield 125, 3) := by decide +kernel
theorem dX7_findQuarrels_89 : decode cX7_findQuarrels 89 = .ok (.iconst 1, 1) := by decide +kernel
theorem dX7_findQuarrels_90 : decode cX7_findQuarrels 90 = .ok (.iadd, 1) := by decide +kernel
theorem dX7_findQuarrels_91 : decode cX7_findQuarrels 91 = .ok (.putfield 125, 3) := by decide +kernel
theorem dX7_findQuarrels_94 : decode cX7_findQuarrels 94 = .ok (.iinc 3 1, 3) := by decide +kernel
theorem dX7_findQuarrels_97 : decode cX7_findQuarrels 97 = .ok (.goto (-66), 3) := by decide +kernel
theorem dX7_findQuarrels_100 : decode cX7_findQuarrels 100 = .ok (.iinc 2 1, 3) := by decide +kernel
theorem dX7_findQuarrels_103 : decode cX7_findQuarrels 103 = .ok (.goto (-90), 3) := by decide +kernel
theorem dX7_findQuarrels_106 : decode cX7_findQuarrels 106 = .ok (.return_, 1) := by decide +kernel
theorem dX7_firstCaseOfBoth_0 : decode cX7_firstCaseOfBoth 0 = .ok (.iconst 0, 1) := by decide +kernel
theorem dX7_firstCaseOfBoth_1 : decode cX7_firstCaseOfBoth 1 = .ok (.istore_n 3, 1) := by decide +kernel
theorem dX7_firstCaseOfBoth_2 : decode cX7_firstCaseOfBoth 2 = .ok (.iconst 0, 1) := by decide +kernel
theorem dX7_firstCaseOfBoth_3 : decode cX7_firstCaseOfBoth 3 = .ok (.istore 4, 2) := by decide +kernel
theorem dX7_firstCaseOfBoth_5 : decode cX7_firstCaseOfBoth 5 = .ok (.iload 4, 2) := by decide +kernel
theorem dX7_firstCaseOfBoth_7 : decode cX7_firstCaseOfBoth 7 = .ok (.aload_n 0, 1) := by decide +kernel
theorem dX7_firstCaseOfBoth_8 : decode cX7_firstCaseOfBoth 8 = .ok (.getfield 9, 3) := by decide +kernel
theorem dX7_firstCaseOfBoth_11 : decode cX7_firstCaseOfBoth 11 = .ok (.getfield 22, 3) := by decide +kernel
theorem dX7_firstCaseOfBoth_14 : decode cX7_firstCaseOfBoth 14 = .ok (.if_icmp .ge 77, 3) := by decide +kernel
theorem dX7_firstCaseOfBoth_17 : decode cX7_firstCaseOfBoth 17 = .ok (.aload_n 0, 1) := by decide +kernel
theorem dX7_firstCaseOfBoth_18 : decode cX7_firstCaseOfBoth 18 = .ok (.getfield 9, 3) := by decide +kernel
theorem dX7_firstCaseOfBoth_21 : decode cX7_firstCaseOfBoth 21 = .ok (.getfield 128, 3) := by decide +kernel
theorem dX7_firstCaseOfBoth_24 : decode cX7_firstCaseOfBoth 24 = .ok (.iload 4, 2) := by decide +kernel
theorem dX7_firstCaseOfBoth_26 : decode cX7_firstCaseOfBoth 26 = .ok (.aaload, 1) := by decide +kernel
theorem dX7_firstCaseOfBoth_27 : decode cX7_firstCaseOfBoth 27 = .ok (.getfield 132, 3) := by decide +kernel
theorem dX7_firstCaseOfBoth_30 : decode cX7_firstCaseOfBoth 30 = .ok (.istore 5, 2) := by decide +kernel
theorem dX7_firstCaseOfBoth_32 : decode cX7_firstCaseOfBoth 32 = .ok (.aload_n 0, 1) := by decide +kernel
theorem dX7_firstCaseOfBoth_33 : decode cX7_firstCaseOfBoth 33 = .ok (.getfield 9, 3) := by decide +kernel
theorem dX7_firstCaseOfBoth_36 : decode cX7_firstCaseOfBoth 36 = .ok (.getfield 43, 3) := by decide +kernel
theorem dX7_firstCaseOfBoth_39 : decode cX7_firstCaseOfBoth 39 = .ok (.iload_n 1, 1) := by decide +kernel
theorem dX7_firstCaseOfBoth_40 : decode cX7_firstCaseOfBoth 40 = .ok (.iload 4, 2) := by decide +kernel
theorem dX7_firstCaseOfBoth_42 : decode cX7_firstCaseOfBoth 42 = .ok (.invokevirtual 135, 3) := by decide +kernel
theorem dX7_firstCaseOfBoth_45 : decode cX7_firstCaseOfBoth 45 = .ok (.aload_n 0, 1) := by decide +kernel
theorem dX7_firstCaseOfBoth_46 : decode cX7_firstCaseOfBoth 46 = .ok (.getfield 9, 3) := by decide +kernel
theorem dX7_firstCaseOfBoth_49 : decode cX7_firstCaseOfBoth 49 = .ok (.getfield 43, 3) := by decide +kernel
theorem dX7_firstCaseOfBoth_52 : decode cX7_firstCaseOfBoth 52 = .ok (.iload_n 2, 1) := by decide +kernel
theorem dX7_firstCaseOfBoth_53 : decode cX7_firstCaseOfBoth 53 = .ok (.iload 4, 2) := by decide +kernel
theorem dX7_firstCaseOfBoth_55 : decode cX7_firstCaseOfBoth 55 = .ok (.invokevirtual 135, 3) := by decide +kernel
theorem dX7_firstCaseOfBoth_58 : decode cX7_firstCaseOfBoth 58 = .ok (.iand, 1) := by decide +kernel
theorem dX7_firstCaseOfBoth_59 : decode cX7_firstCaseOfBoth 59 = .ok (.istore 6, 2) := by decide +kernel
theorem dX7_firstCaseOfBoth_61 : decode cX7_firstCaseOfBoth 61 = .ok (.iload 6, 2) := by decide +kernel
theorem dX7_firstCaseOfBoth_63 : decode cX7_firstCaseOfBoth 63 = .ok (.invokestatic 138, 3) := by decide +kernel
theorem dX7_firstCaseOfBoth_66 : decode cX7_firstCaseOfBoth 66 = .ok (.istore 7, 2) := by decide +kernel
theorem dX7_firstCaseOfBoth_68 : decode cX7_firstCaseOfBoth 68 = .ok (.iload 7, 2) := by decide +kernel
theorem dX7_firstCaseOfBoth_70 : decode cX7_firstCaseOfBoth 70 = .ok (.iload 5, 2) := by decide +kernel
theorem dX7_firstCaseOfBoth_72 : decode cX7_firstCaseOfBoth 72 = .ok (.if_icmp .lt 5, 3) := by decide +kernel
theorem dX7_firstCaseOfBoth_75 : decode cX7_firstCaseOfBoth 75 = .ok (.iconst (-1), 1) := by decide +kernel
theorem dX7_firstCaseOfBoth_76 : decode cX7_firstCaseOfBoth 76 = .ok (.ireturn, 1) := by decide +kernel
theorem dX7_firstCaseOfBoth_77 : decode cX7_firstCaseOfBoth 77 = .ok (.iload_n 3, 1) := by decide +kernel
theorem dX7_firstCaseOfBoth_78 : decode cX7_firstCaseOfBoth 78 = .ok (.iload 5, 2) := by decide +kernel
theorem dX7_firstCaseOfBoth_80 : decode cX7_firstCaseOfBoth 80 = .ok (.imul, 1) := by decide +kernel
theorem dX7_firstCaseOfBoth_81 : decode cX7_firstCaseOfBoth 81 = .ok (.iload 7, 2) := by decide +kernel
theorem dX7_firstCaseOfBoth_83 : decode cX7_firstCaseOfBoth 83 = .ok (.iadd, 1) := by decide +kernel
theorem dX7_firstCaseOfBoth_84 : decode cX7_firstCaseOfBoth 84 = .ok (.istore_n 3, 1) := by decide +kernel
theorem dX7_firstCaseOfBoth_85 : decode cX7_firstCaseOfBoth 85 = .ok (.iinc 4 1, 3) := by decide +kernel
theorem dX7_firstCaseOfBoth_88 : decode cX7_firstCaseOfBoth 88 = .ok (.goto (-83), 3) := by decide +kernel
theorem dX7_firstCaseOfBoth_91 : decode cX7_firstCaseOfBoth 91 = .ok (.iload_n 3, 1) := by decide +kernel
theorem dX7_firstCaseOfBoth_92 : decode cX7_firstCaseOfBoth 92 = .ok (.ireturn, 1) := by decide +kernel
theorem dX7_findIdleRows_0 : decode cX7_findIdleRows 0 = .ok (.iconst 0, 1) := by decide +kernel
theorem dX7_findIdleRows_1 : decode cX7_findIdleRows 1 = .ok (.istore_n 1, 1) := by decide +kernel
theorem dX7_findIdleRows_2 : decode cX7_findIdleRows 2 = .ok (.iload_n 1, 1) := by decide +kernel
theorem dX7_findIdleRows_3 : decode cX7_findIdleRows 3 = .ok (.aload_n 0, 1) := by decide +kernel
theorem dX7_findIdleRows_4 : decode cX7_findIdleRows 4 = .ok (.getfield 58, 3) := by decide +kernel
theorem dX7_findIdleRows_7 : decode cX7_findIdleRows 7 = .ok (.arraylength, 1) := by decide +kernel
theorem dX7_findIdleRows_8 : decode cX7_findIdleRows 8 = .ok (.if_icmp .ge 16, 3) := by decide +kernel
theorem dX7_findIdleRows_11 : decode cX7_findIdleRows 11 = .ok (.aload_n 0, 1) := by decide +kernel
theorem dX7_findIdleRows_12 : decode cX7_findIdleRows 12 = .ok (.getfield 58, 3) := by decide +kernel
theorem dX7_findIdleRows_15 : decode cX7_findIdleRows 15 = .ok (.iload_n 1, 1) := by decide +kernel
theorem dX7_findIdleRows_16 : decode cX7_findIdleRows 16 = .ok (.iconst 1, 1) := by decide +kernel
theorem dX7_findIdleRows_17 : decode cX7_findIdleRows 17 = .ok (.bastore, 1) := by decide +kernel
theorem dX7_findIdleRows_18 : decode cX7_findIdleRows 18 = .ok (.iinc 1 1, 3) := by decide +kernel
theorem dX7_findIdleRows_21 : decode cX7_findIdleRows 21 = .ok (.goto (-19), 3) := by decide +kernel
theorem dX7_findIdleRows_24 : decode cX7_findIdleRows 24 = .ok (.iconst 0, 1) := by decide +kernel
theorem dX7_findIdleRows_25 : decode cX7_findIdleRows 25 = .ok (.istore_n 1, 1) := by decide +kernel
theorem dX7_findIdleRows_26 : decode cX7_findIdleRows 26 = .ok (.iload_n 1, 1) := by decide +kernel
theorem dX7_findIdleRows_27 : decode cX7_findIdleRows 27 = .ok (.aload_n 0, 1) := by decide +kernel
theorem dX7_findIdleRows_28 : decode cX7_findIdleRows 28 = .ok (.getfield 21, 3) := by decide +kernel
theorem dX7_findIdleRows_31 : decode cX7_findIdleRows 31 = .ok (.if_icmp .ge 86, 3) := by decide +kernel
theorem dX7_findIdleRows_34 : decode cX7_findIdleRows 34 = .ok (.aload_n 0, 1) := by decide +kernel
theorem dX7_findIdleRows_35 : decode cX7_findIdleRows 35 = .ok (.getfield 34, 3) := by decide +kernel
theorem dX7_findIdleRows_38 : decode cX7_findIdleRows 38 = .ok (.iload_n 1, 1) := by decide +kernel
theorem dX7_findIdleRows_39 : decode cX7_findIdleRows 39 = .ok (.iaload, 1) := by decide +kernel
theorem dX7_findIdleRows_40 : decode cX7_findIdleRows 40 = .ok (.istore_n 2, 1) := by decide +kernel
theorem dX7_findIdleRows_41 : decode cX7_findIdleRows 41 = .ok (.iload_n 2, 1) := by decide +kernel
theorem dX7_findIdleRows_42 : decode cX7_findIdleRows 42 = .ok (.iconst (-1), 1) := by decide +kernel
theorem dX7_findIdleRows_43 : decode cX7_findIdleRows 43 = .ok (.if_icmp .eq 68, 3) := by decide +kernel
theorem dX7_findIdleRows_46 : decode cX7_findIdleRows 46 = .ok (.aload_n 0, 1) := by decide +kernel
theorem dX7_findIdleRows_47 : decode cX7_findIdleRows 47 = .ok (.getfield 58, 3) := by decide +kernel
theorem dX7_findIdleRows_50 : decode cX7_findIdleRows 50 = .ok (.iload_n 2, 1) := by decide +kernel
theorem dX7_findIdleRows_51 : decode cX7_findIdleRows 51 = .ok (.baload, 1) := by decide +kernel
theorem dX7_findIdleRows_52 : decode cX7_findIdleRows 52 = .ok (.ifCond .eq 59, 3) := by decide +kernel
theorem dX7_findIdleRows_55 : decode cX7_findIdleRows 55 = .ok (.aload_n 0, 1) := by decide +kernel
theorem dX7_findIdleRows_56 : decode cX7_findIdleRows 56 = .ok (.getfield 9, 3) := by decide +kernel
theorem dX7_findIdleRows_59 : decode cX7_findIdleRows 59 = .ok (.getfield 43, 3) := by decide +kernel
theorem dX7_findIdleRows_62 : decode cX7_findIdleRows 62 = .ok (.iload_n 2, 1) := by decide +kernel
theorem dX7_findIdleRows_63 : decode cX7_findIdleRows 63 = .ok (.iconst 1, 1) := by decide +kernel
theorem dX7_findIdleRows_64 : decode cX7_findIdleRows 64 = .ok (.iadd, 1) := by decide +kernel
theorem dX7_findIdleRows_65 : decode cX7_findIdleRows 65 = .ok (.aload_n 0, 1) := by decide +kernel
theorem dX7_findIdleRows_66 : decode cX7_findIdleRows 66 = .ok (.getfield 27, 3) := by decide +kernel
theorem dX7_findIdleRows_69 : decode cX7_findIdleRows 69 = .ok (.iload_n 1, 1) := by decide +kernel
theorem dX7_findIdleRows_70 : decode cX7_findIdleRows 70 = .ok (.invokevirtual 104, 3) := by decide +kernel
theorem dX7_findIdleRows_73 : decode cX7_findIdleRows 73 = .ok (.istore_n 3, 1) := by decide +kernel
theorem dX7_findIdleRows_74 : decode cX7_findIdleRows 74 = .ok (.aload_n 0, 1) := by decide +kernel
theorem dX7_findIdleRows_75 : decode cX7_findIdleRows 75 = .ok (.getfield 58, 3) := by decide +kernel
theorem dX7_findIdleRows_78 : decode cX7_findIdleRows 78 = .ok (.iload_n 2, 1) := by decide +kernel
theorem dX7_findIdleRows_79 : decode cX7_findIdleRows 79 = .ok (.iload_n 3, 1) := by decide +kernel
theorem dX7_findIdleRows_80 : decode cX7_findIdleRows 80 = .ok (.iconst (-1), 1) := by decide +kernel
theorem dX7_findIdleRows_81 : decode cX7_findIdleRows 81 = .ok (.if_icmp .eq 28, 3) := by decide +kernel
theorem dX7_findIdleRows_84 : decode cX7_findIdleRows 84 = .ok (.aload_n 0, 1) := by decide +kernel
theorem dX7_findIdleRows_85 : decode cX7_findIdleRows 85 = .ok (.getfield 9, 3) := by decide +kernel
theorem dX7_findIdleRows_88 : decode cX7_findIdleRows 88 = .ok (.getfield 43, 3) := by decide +kernel
theorem dX7_findIdleRows_91 : decode cX7_findIdleRows 91 = .ok (.getfield 115, 3) := by decide +kernel
theorem dX7_findIdleRows_94 : decode cX7_findIdleRows 94 = .ok (.iload_n 3, 1) := by decide +kernel
theorem dX7_findIdleRows_95 : decode cX7_findIdleRows 95 = .ok (.iaload, 1) := by decide +kernel
theorem dX7_findIdleRows_96 : decode cX7_findIdleRows 96 = .ok (.aload_n 0, 1) := by decide +kernel
theorem dX7_findIdleRows_97 : decode cX7_findIdleRows 97 = .ok (.getfield 30, 3) := by decide +kernel
theorem dX7_findIdleRows_100 : decode cX7_findIdleRows 100 = .ok (.iload_n 1, 1) := by decide +kernel
theorem dX7_findIdleRows_101 : decode cX7_findIdleRows 101 = .ok (.iaload, 1) := by decide +kernel
theorem dX7_findIdleRows_102 : decode cX7_findIdleRows 102 = .ok (.if_icmp .ne 7, 3) := by decide +kernel
theorem dX7_findIdleRows_105 : decode cX7_findIdleRows 105 = .ok (.iconst 1, 1) := by decide +kernel
theorem dX7_findIdleRows_106 : decode cX7_findIdleRows 106 = .ok (.goto 4, 3) := by decide +kernel
theorem dX7_findIdleRows_109 : decode cX7_findIdleRows 109 = .ok (.iconst 0, 1) := by decide +kernel
theorem dX7_findIdleRows_110 : decode cX7_findIdleRows 110 = .ok (.bastore, 1) := by decide +kernel
theorem dX7_findIdleRows_111 : decode cX7_findIdleRows 111 = .ok (.iinc 1 1, 3) := by decide +kernel
theorem dX7_findIdleRows_114 : decode cX7_findIdleRows 114 = .ok (.goto (-88), 3) := by decide +kernel
theorem dX7_findIdleRows_117 : decode cX7_findIdleRows 117 = .ok (.iconst 0, 1) := by decide +kernel
theorem dX7_findIdleRows_118 : decode cX7_findIdleRows 118 = .ok (.istore_n 1, 1) := by decide +kernel
theorem dX7_findIdleRows_119 : decode cX7_findIdleRows 119 = .ok (.iload_n 1, 1) := by decide +kernel
theorem dX7_findIdleRows_120 : decode cX7_findIdleRows 120 = .ok (.aload_n 0, 1) := by decide +kernel
theorem dX7_findIdleRows_121 : decode cX7_findIdleRows 121 = .ok (.getfield 58, 3) := by decide +kernel
theorem dX7_findIdleRows_124 : decode cX7_findIdleRows 124 = .ok (.arraylength, 1) := by decide +kernel
theorem dX7_findIdleRows_125 : decode cX7_findIdleRows 125 = .ok (.if_icmp .ge 28, 3) := by decide +kernel
theorem dX7_findIdleRows_128 : decode cX7_findIdleRows 128 = .ok (.aload_n 0, 1) := by decide +kernel
theorem dX7_findIdleRows_129 : decode cX7_findIdleRows 129 = .ok (.getfield 58, 3) := by decide +kernel
theorem dX7_findIdleRows_132 : decode cX7_findIdleRows 132 = .ok (.iload_n 1, 1) := by decide +kernel
theorem dX7_findIdleRows_133 : decode cX7_findIdleRows 133 = .ok (.baload, 1) := by decide +kernel
theorem dX7_findIdleRows_134 : decode cX7_findIdleRows 134 = .ok (.ifCond .eq 13, 3) := by decide +kernel
theorem dX7_findIdleRows_137 : decode cX7_findIdleRows 137 = .ok (.aload_n 0, 1) := by decide +kernel
theorem dX7_findIdleRows_138 : decode cX7_findIdleRows 138 = .ok (.dup, 1) := by decide +kernel
theorem dX7_findIdleRows_139 : decode cX7_findIdleRows 139 = .ok (.getfield 144, 3) := by decide +kernel
theorem dX7_findIdleRows_142 : decode cX7_findIdleRows 142 = .ok (.iconst 1, 1) := by decide +kernel
theorem dX7_findIdleRows_143 : decode cX7_findIdleRows 143 = .ok (.iadd, 1) := by decide +kernel
theorem dX7_findIdleRows_144 : decode cX7_findIdleRows 144 = .ok (.putfield 144, 3) := by decide +kernel
theorem dX7_findIdleRows_147 : decode cX7_findIdleRows 147 = .ok (.iinc 1 1, 3) := by decide +kernel
theorem dX7_findIdleRows_150 : decode cX7_findIdleRows 150 = .ok (.goto (-31), 3) := by decide +kernel
theorem dX7_findIdleRows_153 : decode cX7_findIdleRows 153 = .ok (.return_, 1) := by decide +kernel
theorem dX7_takeTerms_0 : decode cX7_takeTerms 0 = .ok (.iconst 0, 1) := by decide +kernel
theorem dX7_takeTerms_1 : decode cX7_takeTerms 1 = .ok (.istore_n 1, 1) := by decide +kernel
theorem dX7_takeTerms_2 : decode cX7_takeTerms 2 = .ok (.iload_n 1, 1) := by decide +kernel
theorem dX7_takeTerms_3 : decode cX7_takeTerms 3 = .ok (.aload_n 0, 1) := by decide +kernel
theorem dX7_takeTerms_4 : decode cX7_takeTerms 4 = .ok (.getfield 9, 3) := by decide +kernel
theorem dX7_takeTerms_7 : decode cX7_takeTerms 7 = .ok (.getfield 147, 3) := by decide +kernel
theorem dX7_takeTerms_10 : decode cX7_takeTerms 10 = .ok (.getfield 132, 3) := by decide +kernel
theorem dX7_takeTerms_13 : decode cX7_takeTerms 13 = .ok (.if_icmp .ge 14, 3) := by decide +kernel
theorem dX7_takeTerms_16 : decode cX7_takeTerms 16 = .ok (.aload_n 0, 1) := by decide +kernel
theorem dX7_takeTerms_17 : decode cX7_takeTerms 17 = .ok (.iload_n 1, 1) := by decide +kernel
theorem dX7_takeTerms_18 : decode cX7_takeTerms 18 = .ok (.invokevirtual 151, 3) := by decide +kernel
theorem dX7_takeTerms_21 : decode cX7_takeTerms 21 = .ok (.iinc 1 1, 3) := by decide +kernel
theorem dX7_takeTerms_24 : decode cX7_takeTerms 24 = .ok (.goto (-22), 3) := by decide +kernel
theorem dX7_takeTerms_27 : decode cX7_takeTerms 27 = .ok (.aload_n 0, 1) := by decide +kernel
theorem dX7_takeTerms_28 : decode cX7_takeTerms 28 = .ok (.aload_n 0, 1) := by decide +kernel
theorem dX7_takeTerms_29 : decode cX7_takeTerms 29 = .ok (.getfield 155, 3) := by decide +kernel
theorem dX7_takeTerms_32 : decode cX7_takeTerms 32 = .ok (.putfield 158, 3) := by decide +kernel
theorem dX7_takeTerms_35 : decode cX7_takeTerms 35 = .ok (.aload_n 0, 1) := by decide +kernel
theorem dX7_takeTerms_36 : decode cX7_takeTerms 36 = .ok (.iconst (-1), 1) := by decide +kernel
theorem dX7_takeTerms_37 : decode cX7_takeTerms 37 = .ok (.invokevirtual 151, 3) := by decide +kernel
theorem dX7_takeTerms_40 : decode cX7_takeTerms 40 = .ok (.return_, 1) := by decide +kernel
theorem dX7_takeTermsOf_0 : decode cX7_takeTermsOf 0 = .ok (.aload_n 0, 1) := by decide +kernel
theorem dX7_takeTermsOf_1 : decode cX7_takeTermsOf 1 = .ok (.getfield 67, 3) := by decide +kernel
theorem dX7_takeTermsOf_4 : decode cX7_takeTermsOf 4 = .ok (.aload_n 0, 1) := by decide +kernel
theorem dX7_takeTermsOf_5 : decode cX7_takeTermsOf 5 = .ok (.getfield 30, 3) := by decide +kernel
theorem dX7_takeTermsOf_8 : decode cX7_takeTermsOf 8 = .ok (.iload_n 1, 1) := by decide +kernel
theorem dX7_takeTermsOf_9 : decode cX7_takeTermsOf 9 = .ok (.invokevirtual 161, 3) := by decide +kernel
theorem dX7_takeTermsOf_12 : decode cX7_takeTermsOf 12 = .ok (.aload_n 0, 1) := by decide +kernel
theorem dX7_takeTermsOf_13 : decode cX7_takeTermsOf 13 = .ok (.getfield 67, 3) := by decide +kernel
theorem dX7_takeTermsOf_16 : decode cX7_takeTermsOf 16 = .ok (.getfield 165, 3) := by decide +kernel
theorem dX7_takeTermsOf_19 : decode cX7_takeTermsOf 19 = .ok (.ifCond .le 65, 3) := by decide +kernel
theorem dX7_takeTermsOf_22 : decode cX7_takeTermsOf 22 = .ok (.aload_n 0, 1) := by decide +kernel
theorem dX7_takeTermsOf_23 : decode cX7_takeTermsOf 23 = .ok (.getfield 155, 3) := by decide +kernel
theorem dX7_takeTermsOf_26 : decode cX7_takeTermsOf 26 = .ok (.aload_n 0, 1) := by decide +kernel
theorem dX7_takeTermsOf_27 : decode cX7_takeTermsOf 27 = .ok (.getfield 71, 3) := by decide +kernel
theorem dX7_takeTermsOf_30 : decode cX7_takeTermsOf 30 = .ok (.arraylength, 1) := by decide +kernel
theorem dX7_takeTermsOf_31 : decode cX7_takeTermsOf 31 = .ok (.if_icmp .ge 53, 3) := by decide +kernel
theorem dX7_takeTermsOf_34 : decode cX7_takeTermsOf 34 = .ok (.aload_n 0, 1) := by decide +kernel
theorem dX7_takeTermsOf_35 : decode cX7_takeTermsOf 35 = .ok (.getfield 67, 3) := by decide +kernel
theorem dX7_takeTermsOf_38 : decode cX7_takeTermsOf 38 = .ok (.iload_n 1, 1) := by decide +kernel
theorem dX7_takeTermsOf_39 : decode cX7_takeTermsOf 39 = .ok (.invokevirtual 168, 3) := by decide +kernel
theorem dX7_takeTermsOf_42 : decode cX7_takeTermsOf 42 = .ok (.istore_n 2, 1) := by decide +kernel
theorem dX7_takeTermsOf_43 : decode cX7_takeTermsOf 43 = .ok (.iload_n 2, 1) := by decide +kernel
theorem dX7_takeTermsOf_44 : decode cX7_takeTermsOf 44 = .ok (.iconst (-1), 1) := by decide +kernel
theorem dX7_takeTermsOf_45 : decode cX7_takeTermsOf 45 = .ok (.if_icmp .ne 4, 3) := by decide +kernel
theorem dX7_takeTermsOf_48 : decode cX7_takeTermsOf 48 = .ok (.return_, 1) := by decide +kernel
theorem dX7_takeTermsOf_49 : decode cX7_takeTermsOf 49 = .ok (.aload_n 0, 1) := by decide +kernel
theorem dX7_takeTermsOf_50 : decode cX7_takeTermsOf 50 = .ok (.getfield 71, 3) := by decide +kernel
theorem dX7_takeTermsOf_53 : decode cX7_takeTermsOf 53 = .ok (.aload_n 0, 1) := by decide +kernel
theorem dX7_takeTermsOf_54 : decode cX7_takeTermsOf 54 = .ok (.getfield 155, 3) := by decide +kernel
theorem dX7_takeTermsOf_57 : decode cX7_takeTermsOf 57 = .ok (.iload_n 2, 1) := by decide +kernel
theorem dX7_takeTermsOf_58 : decode cX7_takeTermsOf 58 = .ok (.iastore, 1) := by decide +kernel
theorem dX7_takeTermsOf_59 : decode cX7_takeTermsOf 59 = .ok (.aload_n 0, 1) := by decide +kernel
theorem dX7_takeTermsOf_60 : decode cX7_takeTermsOf 60 = .ok (.dup, 1) := by decide +kernel
theorem dX7_takeTermsOf_61 : decode cX7_takeTermsOf 61 = .ok (.getfield 155, 3) := by decide +kernel
theorem dX7_takeTermsOf_64 : decode cX7_takeTermsOf 64 = .ok (.iconst 1, 1) := by decide +kernel
theorem dX7_takeTermsOf_65 : decode cX7_takeTermsOf 65 = .ok (.iadd, 1) := by decide +kernel
theorem dX7_takeTermsOf_66 : decode cX7_takeTermsOf 66 = .ok (.putfield 155, 3) := by decide +kernel
theorem dX7_takeTermsOf_69 : decode cX7_takeTermsOf 69 = .ok (.aload_n 0, 1) := by decide +kernel
theorem dX7_takeTermsOf_70 : decode cX7_takeTermsOf 70 = .ok (.getfield 67, 3) := by decide +kernel
theorem dX7_takeTermsOf_73 : decode cX7_takeTermsOf 73 = .ok (.iload_n 2, 1) := by decide +kernel
theorem dX7_takeTermsOf_74 : decode cX7_takeTermsOf 74 = .ok (.aload_n 0, 1) := by decide +kernel
theorem dX7_takeTermsOf_75 : decode cX7_takeTermsOf 75 = .ok (.getfield 27, 3) := by decide +kernel
theorem dX7_takeTermsOf_78 : decode cX7_takeTermsOf 78 = .ok (.invokevirtual 171, 3) := by decide +kernel
theorem dX7_takeTermsOf_81 : decode cX7_takeTermsOf 81 = .ok (.goto (-69), 3) := by decide +kernel
theorem dX7_takeTermsOf_84 : decode cX7_takeTermsOf 84 = .ok (.return_, 1) := by decide +kernel
