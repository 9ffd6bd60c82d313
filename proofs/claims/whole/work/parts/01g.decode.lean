theorem dL_table_0 : decode cL_table 0 = .ok (.aload_n 2, 1) := by decide +kernel
theorem dL_table_1 : decode cL_table 1 = .ok (.iconst 0, 1) := by decide +kernel
theorem dL_table_2 : decode cL_table 2 = .ok (.aload_n 0, 1) := by decide +kernel
theorem dL_table_3 : decode cL_table 3 = .ok (.iload_n 1, 1) := by decide +kernel
theorem dL_table_4 : decode cL_table 4 = .ok (.invokevirtual 7, 3) := by decide +kernel
theorem dL_table_7 : decode cL_table 7 = .ok (.i2l, 1) := by decide +kernel
theorem dL_table_8 : decode cL_table 8 = .ok (.lastore, 1) := by decide +kernel
theorem dL_table_9 : decode cL_table 9 = .ok (.goto 6, 3) := by decide +kernel
theorem dL_table_12 : decode cL_table 12 = .ok (.astore_n 3, 1) := by decide +kernel
theorem dL_table_13 : decode cL_table 13 = .ok (.iconst 1, 1) := by decide +kernel
theorem dL_table_14 : decode cL_table 14 = .ok (.ireturn, 1) := by decide +kernel
theorem dL_table_15 : decode cL_table 15 = .ok (.iconst 0, 1) := by decide +kernel
theorem dL_table_16 : decode cL_table 16 = .ok (.ireturn, 1) := by decide +kernel
theorem dL_program_0 : decode cL_program 0 = .ok (.aload_n 3, 1) := by decide +kernel
theorem dL_program_1 : decode cL_program 1 = .ok (.iconst 0, 1) := by decide +kernel
theorem dL_program_2 : decode cL_program 2 = .ok (.aload_n 0, 1) := by decide +kernel
theorem dL_program_3 : decode cL_program 3 = .ok (.iload_n 1, 1) := by decide +kernel
theorem dL_program_4 : decode cL_program 4 = .ok (.iload_n 2, 1) := by decide +kernel
theorem dL_program_5 : decode cL_program 5 = .ok (.invokevirtual 15, 3) := by decide +kernel
theorem dL_program_8 : decode cL_program 8 = .ok (.i2l, 1) := by decide +kernel
theorem dL_program_9 : decode cL_program 9 = .ok (.lastore, 1) := by decide +kernel
theorem dL_program_10 : decode cL_program 10 = .ok (.goto 11, 3) := by decide +kernel
theorem dL_program_13 : decode cL_program 13 = .ok (.astore 4, 2) := by decide +kernel
theorem dL_program_15 : decode cL_program 15 = .ok (.iconst 1, 1) := by decide +kernel
theorem dL_program_16 : decode cL_program 16 = .ok (.ireturn, 1) := by decide +kernel
theorem dL_program_17 : decode cL_program 17 = .ok (.astore 4, 2) := by decide +kernel
theorem dL_program_19 : decode cL_program 19 = .ok (.iconst 2, 1) := by decide +kernel
theorem dL_program_20 : decode cL_program 20 = .ok (.ireturn, 1) := by decide +kernel
theorem dL_program_21 : decode cL_program 21 = .ok (.iconst 0, 1) := by decide +kernel
theorem dL_program_22 : decode cL_program 22 = .ok (.ireturn, 1) := by decide +kernel
theorem dL_about_0 : decode cL_about 0 = .ok (.aload_n 3, 1) := by decide +kernel
theorem dL_about_1 : decode cL_about 1 = .ok (.iconst 0, 1) := by decide +kernel
theorem dL_about_2 : decode cL_about 2 = .ok (.aload_n 0, 1) := by decide +kernel
theorem dL_about_3 : decode cL_about 3 = .ok (.iload_n 1, 1) := by decide +kernel
theorem dL_about_4 : decode cL_about 4 = .ok (.iload_n 2, 1) := by decide +kernel
theorem dL_about_5 : decode cL_about 5 = .ok (.invokevirtual 21, 3) := by decide +kernel
theorem dL_about_8 : decode cL_about 8 = .ok (.i2l, 1) := by decide +kernel
theorem dL_about_9 : decode cL_about 9 = .ok (.lastore, 1) := by decide +kernel
theorem dL_about_10 : decode cL_about 10 = .ok (.goto 7, 3) := by decide +kernel
theorem dL_about_13 : decode cL_about 13 = .ok (.astore 4, 2) := by decide +kernel
theorem dL_about_15 : decode cL_about 15 = .ok (.iconst 1, 1) := by decide +kernel
theorem dL_about_16 : decode cL_about 16 = .ok (.ireturn, 1) := by decide +kernel
theorem dL_about_17 : decode cL_about 17 = .ok (.iconst 0, 1) := by decide +kernel
theorem dL_about_18 : decode cL_about 18 = .ok (.ireturn, 1) := by decide +kernel
theorem dL_answer_0 : decode cL_answer 0 = .ok (.aload 4, 2) := by decide +kernel
theorem dL_answer_2 : decode cL_answer 2 = .ok (.iconst 0, 1) := by decide +kernel
theorem dL_answer_3 : decode cL_answer 3 = .ok (.aload_n 0, 1) := by decide +kernel
theorem dL_answer_4 : decode cL_answer 4 = .ok (.iload_n 1, 1) := by decide +kernel
theorem dL_answer_5 : decode cL_answer 5 = .ok (.iload_n 2, 1) := by decide +kernel
theorem dL_answer_6 : decode cL_answer 6 = .ok (.iload_n 3, 1) := by decide +kernel
theorem dL_answer_7 : decode cL_answer 7 = .ok (.invokevirtual 24, 3) := by decide +kernel
theorem dL_answer_10 : decode cL_answer 10 = .ok (.i2l, 1) := by decide +kernel
theorem dL_answer_11 : decode cL_answer 11 = .ok (.lastore, 1) := by decide +kernel
theorem dL_answer_12 : decode cL_answer 12 = .ok (.goto 7, 3) := by decide +kernel
theorem dL_answer_15 : decode cL_answer 15 = .ok (.astore 5, 2) := by decide +kernel
theorem dL_answer_17 : decode cL_answer 17 = .ok (.iconst 1, 1) := by decide +kernel
theorem dL_answer_18 : decode cL_answer 18 = .ok (.ireturn, 1) := by decide +kernel
theorem dL_answer_19 : decode cL_answer 19 = .ok (.iconst 0, 1) := by decide +kernel
theorem dL_answer_20 : decode cL_answer 20 = .ok (.ireturn, 1) := by decide +kernel
theorem dL_value_0 : decode cL_value 0 = .ok (.aload 4, 2) := by decide +kernel
theorem dL_value_2 : decode cL_value 2 = .ok (.iconst 0, 1) := by decide +kernel
theorem dL_value_3 : decode cL_value 3 = .ok (.aload_n 0, 1) := by decide +kernel
theorem dL_value_4 : decode cL_value 4 = .ok (.iload_n 1, 1) := by decide +kernel
theorem dL_value_5 : decode cL_value 5 = .ok (.iload_n 2, 1) := by decide +kernel
theorem dL_value_6 : decode cL_value 6 = .ok (.iload_n 3, 1) := by decide +kernel
theorem dL_value_7 : decode cL_value 7 = .ok (.invokevirtual 28, 3) := by decide +kernel
theorem dL_value_10 : decode cL_value 10 = .ok (.i2l, 1) := by decide +kernel
theorem dL_value_11 : decode cL_value 11 = .ok (.lastore, 1) := by decide +kernel
theorem dL_value_12 : decode cL_value 12 = .ok (.goto 7, 3) := by decide +kernel
theorem dL_value_15 : decode cL_value 15 = .ok (.astore 5, 2) := by decide +kernel
theorem dL_value_17 : decode cL_value 17 = .ok (.iconst 1, 1) := by decide +kernel
theorem dL_value_18 : decode cL_value 18 = .ok (.ireturn, 1) := by decide +kernel
theorem dL_value_19 : decode cL_value 19 = .ok (.iconst 0, 1) := by decide +kernel
theorem dL_value_20 : decode cL_value 20 = .ok (.ireturn, 1) := by decide +kernel
theorem dL_hole_0 : decode cL_hole 0 = .ok (.aload_n 3, 1) := by decide +kernel
theorem dL_hole_1 : decode cL_hole 1 = .ok (.iconst 0, 1) := by decide +kernel
theorem dL_hole_2 : decode cL_hole 2 = .ok (.aload_n 0, 1) := by decide +kernel
theorem dL_hole_3 : decode cL_hole 3 = .ok (.iload_n 1, 1) := by decide +kernel
theorem dL_hole_4 : decode cL_hole 4 = .ok (.iload_n 2, 1) := by decide +kernel
theorem dL_hole_5 : decode cL_hole 5 = .ok (.invokevirtual 31, 3) := by decide +kernel
theorem dL_hole_8 : decode cL_hole 8 = .ok (.i2l, 1) := by decide +kernel
theorem dL_hole_9 : decode cL_hole 9 = .ok (.lastore, 1) := by decide +kernel
theorem dL_hole_10 : decode cL_hole 10 = .ok (.goto 7, 3) := by decide +kernel
theorem dL_hole_13 : decode cL_hole 13 = .ok (.astore 4, 2) := by decide +kernel
theorem dL_hole_15 : decode cL_hole 15 = .ok (.iconst 1, 1) := by decide +kernel
theorem dL_hole_16 : decode cL_hole 16 = .ok (.ireturn, 1) := by decide +kernel
theorem dL_hole_17 : decode cL_hole 17 = .ok (.iconst 0, 1) := by decide +kernel
theorem dL_hole_18 : decode cL_hole 18 = .ok (.ireturn, 1) := by decide +kernel
theorem dL_quarrel_0 : decode cL_quarrel 0 = .ok (.aload 4, 2) := by decide +kernel
theorem dL_quarrel_2 : decode cL_quarrel 2 = .ok (.iconst 0, 1) := by decide +kernel
theorem dL_quarrel_3 : decode cL_quarrel 3 = .ok (.aload_n 0, 1) := by decide +kernel
theorem dL_quarrel_4 : decode cL_quarrel 4 = .ok (.iload_n 1, 1) := by decide +kernel
theorem dL_quarrel_5 : decode cL_quarrel 5 = .ok (.iload_n 2, 1) := by decide +kernel
theorem dL_quarrel_6 : decode cL_quarrel 6 = .ok (.iload_n 3, 1) := by decide +kernel
theorem dL_quarrel_7 : decode cL_quarrel 7 = .ok (.invokevirtual 34, 3) := by decide +kernel
theorem dL_quarrel_10 : decode cL_quarrel 10 = .ok (.i2l, 1) := by decide +kernel
theorem dL_quarrel_11 : decode cL_quarrel 11 = .ok (.lastore, 1) := by decide +kernel
theorem dL_quarrel_12 : decode cL_quarrel 12 = .ok (.goto 7, 3) := by decide +kernel
theorem dL_quarrel_15 : decode cL_quarrel 15 = .ok (.astore 5, 2) := by decide +kernel
theorem dL_quarrel_17 : decode cL_quarrel 17 = .ok (.iconst 1, 1) := by decide +kernel
theorem dL_quarrel_18 : decode cL_quarrel 18 = .ok (.ireturn, 1) := by decide +kernel
theorem dL_quarrel_19 : decode cL_quarrel 19 = .ok (.iconst 0, 1) := by decide +kernel
theorem dL_quarrel_20 : decode cL_quarrel 20 = .ok (.ireturn, 1) := by decide +kernel
theorem dL_idle_0 : decode cL_idle 0 = .ok (.aload_n 3, 1) := by decide +kernel
theorem dL_idle_1 : decode cL_idle 1 = .ok (.iconst 0, 1) := by decide +kernel
theorem dL_idle_2 : decode cL_idle 2 = .ok (.aload_n 0, 1) := by decide +kernel
theorem dL_idle_3 : decode cL_idle 3 = .ok (.iload_n 1, 1) := by decide +kernel
theorem dL_idle_4 : decode cL_idle 4 = .ok (.iload_n 2, 1) := by decide +kernel
theorem dL_idle_5 : decode cL_idle 5 = .ok (.invokevirtual 37, 3) := by decide +kernel
theorem dL_idle_8 : decode cL_idle 8 = .ok (.ifCond .eq 7, 3) := by decide +kernel
theorem dL_idle_11 : decode cL_idle 11 = .ok (.lconst 1, 1) := by decide +kernel
theorem dL_idle_12 : decode cL_idle 12 = .ok (.goto 4, 3) := by decide +kernel
theorem dL_idle_15 : decode cL_idle 15 = .ok (.lconst 0, 1) := by decide +kernel
theorem dL_idle_16 : decode cL_idle 16 = .ok (.lastore, 1) := by decide +kernel
theorem dL_idle_17 : decode cL_idle 17 = .ok (.goto 7, 3) := by decide +kernel
theorem dL_idle_20 : decode cL_idle 20 = .ok (.astore 4, 2) := by decide +kernel
theorem dL_idle_22 : decode cL_idle 22 = .ok (.iconst 1, 1) := by decide +kernel
theorem dL_idle_23 : decode cL_idle 23 = .ok (.ireturn, 1) := by decide +kernel
theorem dL_idle_24 : decode cL_idle 24 = .ok (.iconst 0, 1) := by decide +kernel
theorem dL_idle_25 : decode cL_idle 25 = .ok (.ireturn, 1) := by decide +kernel
theorem dL_term_0 : decode cL_term 0 = .ok (.aload 4, 2) := by decide +kernel
theorem dL_term_2 : decode cL_term 2 = .ok (.iconst 0, 1) := by decide +kernel
theorem dL_term_3 : decode cL_term 3 = .ok (.aload_n 0, 1) := by decide +kernel
theorem dL_term_4 : decode cL_term 4 = .ok (.iload_n 1, 1) := by decide +kernel
theorem dL_term_5 : decode cL_term 5 = .ok (.iload_n 2, 1) := by decide +kernel
theorem dL_term_6 : decode cL_term 6 = .ok (.iload_n 3, 1) := by decide +kernel
theorem dL_term_7 : decode cL_term 7 = .ok (.invokevirtual 41, 3) := by decide +kernel
theorem dL_term_10 : decode cL_term 10 = .ok (.i2l, 1) := by decide +kernel
theorem dL_term_11 : decode cL_term 11 = .ok (.lastore, 1) := by decide +kernel
theorem dL_term_12 : decode cL_term 12 = .ok (.goto 7, 3) := by decide +kernel
theorem dL_term_15 : decode cL_term 15 = .ok (.astore 5, 2) := by decide +kernel
theorem dL_term_17 : decode cL_term 17 = .ok (.iconst 1, 1) := by decide +kernel
theorem dL_term_18 : decode cL_term 18 = .ok (.ireturn, 1) := by decide +kernel
theorem dL_term_19 : decode cL_term 19 = .ok (.iconst 0, 1) := by decide +kernel
theorem dL_term_20 : decode cL_term 20 = .ok (.ireturn, 1) := by decide +kernel
theorem dL_offered_0 : decode cL_offered 0 = .ok (.aload 4, 2) := by decide +kernel
theorem dL_offered_2 : decode cL_offered 2 = .ok (.iconst 0, 1) := by decide +kernel
theorem dL_offered_3 : decode cL_offered 3 = .ok (.aload_n 0, 1) := by decide +kernel
theorem dL_offered_4 : decode cL_offered 4 = .ok (.iload_n 1, 1) := by decide +kernel
theorem dL_offered_5 : decode cL_offered 5 = .ok (.iload_n 2, 1) := by decide +kernel
theorem dL_offered_6 : decode cL_offered 6 = .ok (.iload_n 3, 1) := by decide +kernel
theorem dL_offered_7 : decode cL_offered 7 = .ok (.invokevirtual 44, 3) := by decide +kernel
theorem dL_offered_10 : decode cL_offered 10 = .ok (.i2l, 1) := by decide +kernel
theorem dL_offered_11 : decode cL_offered 11 = .ok (.lastore, 1) := by decide +kernel
theorem dL_offered_12 : decode cL_offered 12 = .ok (.goto 7, 3) := by decide +kernel
theorem dL_offered_15 : decode cL_offered 15 = .ok (.astore 5, 2) := by decide +kernel
theorem dL_offered_17 : decode cL_offered 17 = .ok (.iconst 1, 1) := by decide +kernel
theorem dL_offered_18 : decode cL_offered 18 = .ok (.ireturn, 1) := by decide +kernel
theorem dL_offered_19 : decode cL_offered 19 = .ok (.iconst 0, 1) := by decide +kernel
theorem dL_offered_20 : decode cL_offered 20 = .ok (.ireturn, 1) := by decide +kernel
theorem dL_tell_0 : decode cL_tell 0 = .ok (.aload_n 2, 1) := by decide +kernel
theorem dL_tell_1 : decode cL_tell 1 = .ok (.iconst 0, 1) := by decide +kernel
theorem dL_tell_2 : decode cL_tell 2 = .ok (.aload_n 0, 1) := by decide +kernel
theorem dL_tell_3 : decode cL_tell 3 = .ok (.iload_n 1, 1) := by decide +kernel
theorem dL_tell_4 : decode cL_tell 4 = .ok (.invokevirtual 47, 3) := by decide +kernel
theorem dL_tell_7 : decode cL_tell 7 = .ok (.i2l, 1) := by decide +kernel
theorem dL_tell_8 : decode cL_tell 8 = .ok (.lastore, 1) := by decide +kernel
theorem dL_tell_9 : decode cL_tell 9 = .ok (.goto 6, 3) := by decide +kernel
theorem dL_tell_12 : decode cL_tell 12 = .ok (.astore_n 3, 1) := by decide +kernel
theorem dL_tell_13 : decode cL_tell 13 = .ok (.iconst 1, 1) := by decide +kernel
theorem dL_tell_14 : decode cL_tell 14 = .ok (.ireturn, 1) := by decide +kernel
theorem dL_tell_15 : decode cL_tell 15 = .ok (.iconst 0, 1) := by decide +kernel
theorem dL_tell_16 : decode cL_tell 16 = .ok (.ireturn, 1) := by decide +kernel
theorem dL_told_0 : decode cL_told 0 = .ok (.aload_n 2, 1) := by decide +kernel
theorem dL_told_1 : decode cL_told 1 = .ok (.iconst 0, 1) := by decide +kernel
theorem dL_told_2 : decode cL_told 2 = .ok (.aload_n 0, 1) := by decide +kernel
theorem dL_told_3 : decode cL_told 3 = .ok (.iload_n 1, 1) := by decide +kernel
theorem dL_told_4 : decode cL_told 4 = .ok (.invokevirtual 50, 3) := by decide +kernel
theorem dL_told_7 : decode cL_told 7 = .ok (.i2l, 1) := by decide +kernel
theorem dL_told_8 : decode cL_told 8 = .ok (.lastore, 1) := by decide +kernel
theorem dL_told_9 : decode cL_told 9 = .ok (.goto 6, 3) := by decide +kernel
theorem dL_told_12 : decode cL_told 12 = .ok (.astore_n 3, 1) := by decide +kernel
theorem dL_told_13 : decode cL_told 13 = .ok (.iconst 1, 1) := by decide +kernel
theorem dL_told_14 : decode cL_told 14 = .ok (.ireturn, 1) := by decide +kernel
theorem dL_told_15 : decode cL_told 15 = .ok (.iconst 0, 1) := by decide +kernel
theorem dL_told_16 : decode cL_told 16 = .ok (.ireturn, 1) := by decide +kernel
theorem dL_run_0 : decode cL_run 0 = .ok (.aload_n 3, 1) := by decide +kernel
theorem dL_run_1 : decode cL_run 1 = .ok (.iconst 0, 1) := by decide +kernel
theorem dL_run_2 : decode cL_run 2 = .ok (.aload_n 0, 1) := by decide +kernel
theorem dL_run_3 : decode cL_run 3 = .ok (.iload_n 1, 1) := by decide +kernel
theorem dL_run_4 : decode cL_run 4 = .ok (.iload_n 2, 1) := by decide +kernel
theorem dL_run_5 : decode cL_run 5 = .ok (.invokevirtual 53, 3) := by decide +kernel
theorem dL_run_8 : decode cL_run 8 = .ok (.i2l, 1) := by decide +kernel
theorem dL_run_9 : decode cL_run 9 = .ok (.lastore, 1) := by decide +kernel
theorem dL_run_10 : decode cL_run 10 = .ok (.goto 7, 3) := by decide +kernel
theorem dL_run_13 : decode cL_run 13 = .ok (.astore 4, 2) := by decide +kernel
theorem dL_run_15 : decode cL_run 15 = .ok (.iconst 1, 1) := by decide +kernel
theorem dL_run_16 : decode cL_run 16 = .ok (.ireturn, 1) := by decide +kernel
theorem dL_run_17 : decode cL_run 17 = .ok (.iconst 0, 1) := by decide +kernel
theorem dL_run_18 : decode cL_run 18 = .ok (.ireturn, 1) := by decide +kernel
theorem dL_fails_0 : decode cL_fails 0 = .ok (.aload_n 3, 1) := by decide +kernel
theorem dL_fails_1 : decode cL_fails 1 = .ok (.iconst 0, 1) := by decide +kernel
theorem dL_fails_2 : decode cL_fails 2 = .ok (.aload_n 0, 1) := by decide +kernel
theorem dL_fails_3 : decode cL_fails 3 = .ok (.iload_n 1, 1) := by decide +kernel
theorem dL_fails_4 : decode cL_fails 4 = .ok (.iload_n 2, 1) := by decide +kernel
theorem dL_fails_5 : decode cL_fails 5 = .ok (.invokevirtual 56, 3) := by decide +kernel
theorem dL_fails_8 : decode cL_fails 8 = .ok (.i2l, 1) := by decide +kernel
theorem dL_fails_9 : decode cL_fails 9 = .ok (.lastore, 1) := by decide +kernel
theorem dL_fails_10 : decode cL_fails 10 = .ok (.goto 7, 3) := by decide +kernel
theorem dL_fails_13 : decode cL_fails 13 = .ok (.astore 4, 2) := by decide +kernel
theorem dL_fails_15 : decode cL_fails 15 = .ok (.iconst 1, 1) := by decide +kernel
theorem dL_fails_16 : decode cL_fails 16 = .ok (.ireturn, 1) := by decide +kernel
theorem dL_fails_17 : decode cL_fails 17 = .ok (.iconst 0, 1) := by decide +kernel
theorem dL_fails_18 : decode cL_fails 18 = .ok (.ireturn, 1) := by decide +kernel
theorem dL_failing_0 : decode cL_failing 0 = .ok (.aload_n 3, 1) := by decide +kernel
theorem dL_failing_1 : decode cL_failing 1 = .ok (.iconst 0, 1) := by decide +kernel
theorem dL_failing_2 : decode cL_failing 2 = .ok (.aload_n 0, 1) := by decide +kernel
theorem dL_failing_3 : decode cL_failing 3 = .ok (.iload_n 1, 1) := by decide +kernel
theorem dL_failing_4 : decode cL_failing 4 = .ok (.iload_n 2, 1) := by decide +kernel
theorem dL_failing_5 : decode cL_failing 5 = .ok (.invokevirtual 59, 3) := by decide +kernel
theorem dL_failing_8 : decode cL_failing 8 = .ok (.i2l, 1) := by decide +kernel
theorem dL_failing_9 : decode cL_failing 9 = .ok (.lastore, 1) := by decide +kernel
theorem dL_failing_10 : decode cL_failing 10 = .ok (.goto 7, 3) := by decide +kernel
theorem dL_failing_13 : decode cL_failing 13 = .ok (.astore 4, 2) := by decide +kernel
theorem dL_failing_15 : decode cL_failing 15 = .ok (.iconst 1, 1) := by decide +kernel
theorem dL_failing_16 : decode cL_failing 16 = .ok (.ireturn, 1) := by decide +kernel
theorem dL_failing_17 : decode cL_failing 17 = .ok (.iconst 0, 1) := by decide +kernel
theorem dL_failing_18 : decode cL_failing 18 = .ok (.ireturn, 1) := by decide +kernel
theorem dL_changed_0 : decode cL_changed 0 = .ok (.aload 4, 2) := by decide +kernel
theorem dL_changed_2 : decode cL_changed 2 = .ok (.iconst 0, 1) := by decide +kernel
theorem dL_changed_3 : decode cL_changed 3 = .ok (.aload_n 0, 1) := by decide +kernel
theorem dL_changed_4 : decode cL_changed 4 = .ok (.iload_n 1, 1) := by decide +kernel
theorem dL_changed_5 : decode cL_changed 5 = .ok (.iload_n 2, 1) := by decide +kernel
theorem dL_changed_6 : decode cL_changed 6 = .ok (.iload_n 3, 1) := by decide +kernel
theorem dL_changed_7 : decode cL_changed 7 = .ok (.invokevirtual 62, 3) := by decide +kernel
theorem dL_changed_10 : decode cL_changed 10 = .ok (.i2l, 1) := by decide +kernel
theorem dL_changed_11 : decode cL_changed 11 = .ok (.lastore, 1) := by decide +kernel
theorem dL_changed_12 : decode cL_changed 12 = .ok (.goto 11, 3) := by decide +kernel
theorem dL_changed_15 : decode cL_changed 15 = .ok (.astore 5, 2) := by decide +kernel
theorem dL_changed_17 : decode cL_changed 17 = .ok (.iconst 1, 1) := by decide +kernel
theorem dL_changed_18 : decode cL_changed 18 = .ok (.ireturn, 1) := by decide +kernel
theorem dL_changed_19 : decode cL_changed 19 = .ok (.astore 5, 2) := by decide +kernel
theorem dL_changed_21 : decode cL_changed 21 = .ok (.iconst 2, 1) := by decide +kernel
theorem dL_changed_22 : decode cL_changed 22 = .ok (.ireturn, 1) := by decide +kernel
theorem dL_changed_23 : decode cL_changed 23 = .ok (.iconst 0, 1) := by decide +kernel
theorem dL_changed_24 : decode cL_changed 24 = .ok (.ireturn, 1) := by decide +kernel
theorem dL_count_0 : decode cL_count 0 = .ok (.aload_n 2, 1) := by decide +kernel
theorem dL_count_1 : decode cL_count 1 = .ok (.iconst 0, 1) := by decide +kernel
theorem dL_count_2 : decode cL_count 2 = .ok (.aload_n 0, 1) := by decide +kernel
theorem dL_count_3 : decode cL_count 3 = .ok (.iload_n 1, 1) := by decide +kernel
theorem dL_count_4 : decode cL_count 4 = .ok (.invokevirtual 65, 3) := by decide +kernel
theorem dL_count_7 : decode cL_count 7 = .ok (.i2l, 1) := by decide +kernel
theorem dL_count_8 : decode cL_count 8 = .ok (.lastore, 1) := by decide +kernel
theorem dL_count_9 : decode cL_count 9 = .ok (.goto 6, 3) := by decide +kernel
theorem dL_count_12 : decode cL_count 12 = .ok (.astore_n 3, 1) := by decide +kernel
theorem dL_count_13 : decode cL_count 13 = .ok (.iconst 1, 1) := by decide +kernel
theorem dL_count_14 : decode cL_count 14 = .ok (.ireturn, 1) := by decide +kernel
theorem dL_count_15 : decode cL_count 15 = .ok (.iconst 0, 1) := by decide +kernel
theorem dL_count_16 : decode cL_count 16 = .ok (.ireturn, 1) := by decide +kernel
theorem dL_law_0 : decode cL_law 0 = .ok (.new 8, 3) := by decide +kernel
theorem dL_law_3 : decode cL_law 3 = .ok (.dup, 1) := by decide +kernel
theorem dL_law_4 : decode cL_law 4 = .ok (.invokespecial 68, 3) := by decide +kernel
theorem dL_law_7 : decode cL_law 7 = .ok (.astore_n 1, 1) := by decide +kernel
theorem dL_law_8 : decode cL_law 8 = .ok (.new 69, 3) := by decide +kernel
theorem dL_law_11 : decode cL_law 11 = .ok (.dup, 1) := by decide +kernel
theorem dL_law_12 : decode cL_law 12 = .ok (.invokespecial 71, 3) := by decide +kernel
theorem dL_law_15 : decode cL_law 15 = .ok (.astore_n 2, 1) := by decide +kernel
theorem dL_law_16 : decode cL_law 16 = .ok (.iconst 1, 1) := by decide +kernel
theorem dL_law_17 : decode cL_law 17 = .ok (.newarray .long, 2) := by decide +kernel
theorem dL_law_19 : decode cL_law 19 = .ok (.astore_n 3, 1) := by decide +kernel
theorem dL_law_20 : decode cL_law 20 = .ok (.iconst 0, 1) := by decide +kernel
theorem dL_law_21 : decode cL_law 21 = .ok (.istore 4, 2) := by decide +kernel
theorem dL_law_23 : decode cL_law 23 = .ok (.iload 4, 2) := by decide +kernel
theorem dL_law_25 : decode cL_law 25 = .ok (.aload_n 0, 1) := by decide +kernel
theorem dL_law_26 : decode cL_law 26 = .ok (.arraylength, 1) := by decide +kernel
theorem dL_law_27 : decode cL_law 27 = .ok (.bipush 6, 2) := by decide +kernel
theorem dL_law_29 : decode cL_law 29 = .ok (.isub, 1) := by decide +kernel
theorem dL_law_30 : decode cL_law 30 = .ok (.if_icmp .gt 1381, 3) := by decide +kernel
theorem dL_law_33 : decode cL_law 33 = .ok (.aload_n 0, 1) := by decide +kernel
theorem dL_law_34 : decode cL_law 34 = .ok (.iload 4, 2) := by decide +kernel
theorem dL_law_36 : decode cL_law 36 = .ok (.iaload, 1) := by decide +kernel
theorem dL_law_37 : decode cL_law 37 = .ok (.bipush 31, 2) := by decide +kernel
theorem dL_law_39 : decode cL_law 39 = .ok (.iand, 1) := by decide +kernel
theorem dL_law_40 : decode cL_law 40 = .ok (.tableswitch 1365 0 18 #[92, 165, 221, 289, 302, 370, 450, 530, 598, 678, 753, 833, 913, 969, 1025, 1093, 1161, 1229, 1309], 92) := by decide +kernel
theorem dL_law_132 : decode cL_law 132 = .ok (.aload_n 1, 1) := by decide +kernel
theorem dL_law_133 : decode cL_law 133 = .ok (.aload_n 0, 1) := by decide +kernel
theorem dL_law_134 : decode cL_law 134 = .ok (.iload 4, 2) := by decide +kernel
theorem dL_law_136 : decode cL_law 136 = .ok (.iconst 1, 1) := by decide +kernel
theorem dL_law_137 : decode cL_law 137 = .ok (.iadd, 1) := by decide +kernel
theorem dL_law_138 : decode cL_law 138 = .ok (.iaload, 1) := by decide +kernel
theorem dL_law_139 : decode cL_law 139 = .ok (.aload_n 0, 1) := by decide +kernel
theorem dL_law_140 : decode cL_law 140 = .ok (.iload 4, 2) := by decide +kernel
theorem dL_law_142 : decode cL_law 142 = .ok (.iconst 2, 1) := by decide +kernel
theorem dL_law_143 : decode cL_law 143 = .ok (.iadd, 1) := by decide +kernel
theorem dL_law_144 : decode cL_law 144 = .ok (.iaload, 1) := by decide +kernel
theorem dL_law_145 : decode cL_law 145 = .ok (.aload_n 0, 1) := by decide +kernel
theorem dL_law_146 : decode cL_law 146 = .ok (.iload 4, 2) := by decide +kernel
theorem dL_law_148 : decode cL_law 148 = .ok (.iconst 3, 1) := by decide +kernel
theorem dL_law_149 : decode cL_law 149 = .ok (.iadd, 1) := by decide +kernel
theorem dL_law_150 : decode cL_law 150 = .ok (.iaload, 1) := by decide +kernel
theorem dL_law_151 : decode cL_law 151 = .ok (.aload_n 0, 1) := by decide +kernel
theorem dL_law_152 : decode cL_law 152 = .ok (.iload 4, 2) := by decide +kernel
theorem dL_law_154 : decode cL_law 154 = .ok (.iconst 4, 1) := by decide +kernel
theorem dL_law_155 : decode cL_law 155 = .ok (.iadd, 1) := by decide +kernel
theorem dL_law_156 : decode cL_law 156 = .ok (.iaload, 1) := by decide +kernel
theorem dL_law_157 : decode cL_law 157 = .ok (.aload_n 0, 1) := by decide +kernel
theorem dL_law_158 : decode cL_law 158 = .ok (.iload 4, 2) := by decide +kernel
theorem dL_law_160 : decode cL_law 160 = .ok (.iconst 5, 1) := by decide +kernel
theorem dL_law_161 : decode cL_law 161 = .ok (.iadd, 1) := by decide +kernel
theorem dL_law_162 : decode cL_law 162 = .ok (.iaload, 1) := by decide +kernel
theorem dL_law_163 : decode cL_law 163 = .ok (.invokevirtual 72, 3) := by decide +kernel
theorem dL_law_166 : decode cL_law 166 = .ok (.aload_n 2, 1) := by decide +kernel
theorem dL_law_167 : decode cL_law 167 = .ok (.aload_n 0, 1) := by decide +kernel
theorem dL_law_168 : decode cL_law 168 = .ok (.iload 4, 2) := by decide +kernel
theorem dL_law_170 : decode cL_law 170 = .ok (.iconst 1, 1) := by decide +kernel
theorem dL_law_171 : decode cL_law 171 = .ok (.iadd, 1) := by decide +kernel
theorem dL_law_172 : decode cL_law 172 = .ok (.iaload, 1) := by decide +kernel
theorem dL_law_173 : decode cL_law 173 = .ok (.aload_n 0, 1) := by decide +kernel
theorem dL_law_174 : decode cL_law 174 = .ok (.iload 4, 2) := by decide +kernel
theorem dL_law_176 : decode cL_law 176 = .ok (.iconst 2, 1) := by decide +kernel
theorem dL_law_177 : decode cL_law 177 = .ok (.iadd, 1) := by decide +kernel
theorem dL_law_178 : decode cL_law 178 = .ok (.iaload, 1) := by decide +kernel
theorem dL_law_179 : decode cL_law 179 = .ok (.aload_n 0, 1) := by decide +kernel
theorem dL_law_180 : decode cL_law 180 = .ok (.iload 4, 2) := by decide +kernel
theorem dL_law_182 : decode cL_law 182 = .ok (.iconst 3, 1) := by decide +kernel
theorem dL_law_183 : decode cL_law 183 = .ok (.iadd, 1) := by decide +kernel
theorem dL_law_184 : decode cL_law 184 = .ok (.iaload, 1) := by decide +kernel
theorem dL_law_185 : decode cL_law 185 = .ok (.aload_n 0, 1) := by decide +kernel
theorem dL_law_186 : decode cL_law 186 = .ok (.iload 4, 2) := by decide +kernel
theorem dL_law_188 : decode cL_law 188 = .ok (.iconst 4, 1) := by decide +kernel
theorem dL_law_189 : decode cL_law 189 = .ok (.iadd, 1) := by decide +kernel
theorem dL_law_190 : decode cL_law 190 = .ok (.iaload, 1) := by decide +kernel
theorem dL_law_191 : decode cL_law 191 = .ok (.aload_n 0, 1) := by decide +kernel
theorem dL_law_192 : decode cL_law 192 = .ok (.iload 4, 2) := by decide +kernel
theorem dL_law_194 : decode cL_law 194 = .ok (.iconst 5, 1) := by decide +kernel
theorem dL_law_195 : decode cL_law 195 = .ok (.iadd, 1) := by decide +kernel
theorem dL_law_196 : decode cL_law 196 = .ok (.iaload, 1) := by decide +kernel
theorem dL_law_197 : decode cL_law 197 = .ok (.invokevirtual 76, 3) := by decide +kernel
theorem dL_law_200 : decode cL_law 200 = .ok (.if_icmp .eq 1205, 3) := by decide +kernel
theorem dL_law_203 : decode cL_law 203 = .ok (.iconst 0, 1) := by decide +kernel
theorem dL_law_204 : decode cL_law 204 = .ok (.ireturn, 1) := by decide +kernel
theorem dL_law_205 : decode cL_law 205 = .ok (.aload_n 1, 1) := by decide +kernel
theorem dL_law_206 : decode cL_law 206 = .ok (.aload_n 0, 1) := by decide +kernel
theorem dL_law_207 : decode cL_law 207 = .ok (.iload 4, 2) := by decide +kernel
theorem dL_law_209 : decode cL_law 209 = .ok (.iconst 1, 1) := by decide +kernel
theorem dL_law_210 : decode cL_law 210 = .ok (.iadd, 1) := by decide +kernel
theorem dL_law_211 : decode cL_law 211 = .ok (.iaload, 1) := by decide +kernel
theorem dL_law_212 : decode cL_law 212 = .ok (.aload_n 3, 1) := by decide +kernel
theorem dL_law_213 : decode cL_law 213 = .ok (.invokestatic 77, 3) := by decide +kernel
theorem dL_law_216 : decode cL_law 216 = .ok (.istore 5, 2) := by decide +kernel
theorem dL_law_218 : decode cL_law 218 = .ok (.aload_n 2, 1) := by decide +kernel
theorem dL_law_219 : decode cL_law 219 = .ok (.aload_n 0, 1) := by decide +kernel
theorem dL_law_220 : decode cL_law 220 = .ok (.iload 4, 2) := by decide +kernel
theorem dL_law_222 : decode cL_law 222 = .ok (.iconst 1, 1) := by decide +kernel
theorem dL_law_223 : decode cL_law 223 = .ok (.iadd, 1) := by decide +kernel
theorem dL_law_224 : decode cL_law 224 = .ok (.iaload, 1) := by decide +kernel
theorem dL_law_225 : decode cL_law 225 = .ok (.invokevirtual 82, 3) := by decide +kernel
theorem dL_law_228 : decode cL_law 228 = .ok (.istore 6, 2) := by decide +kernel
theorem dL_law_230 : decode cL_law 230 = .ok (.aload_n 2, 1) := by decide +kernel
theorem dL_law_231 : decode cL_law 231 = .ok (.invokevirtual 83, 3) := by decide +kernel
theorem dL_law_234 : decode cL_law 234 = .ok (.iload 5, 2) := by decide +kernel
theorem dL_law_236 : decode cL_law 236 = .ok (.if_icmp .eq 5, 3) := by decide +kernel
theorem dL_law_239 : decode cL_law 239 = .ok (.iconst 0, 1) := by decide +kernel
theorem dL_law_240 : decode cL_law 240 = .ok (.ireturn, 1) := by decide +kernel
theorem dL_law_241 : decode cL_law 241 = .ok (.iload 5, 2) := by decide +kernel
theorem dL_law_243 : decode cL_law 243 = .ok (.ifCond .ne 15, 3) := by decide +kernel
theorem dL_law_246 : decode cL_law 246 = .ok (.aload_n 3, 1) := by decide +kernel
theorem dL_law_247 : decode cL_law 247 = .ok (.iconst 0, 1) := by decide +kernel
theorem dL_law_248 : decode cL_law 248 = .ok (.laload, 1) := by decide +kernel
theorem dL_law_249 : decode cL_law 249 = .ok (.iload 6, 2) := by decide +kernel
theorem dL_law_251 : decode cL_law 251 = .ok (.i2l, 1) := by decide +kernel
theorem dL_law_252 : decode cL_law 252 = .ok (.lcmp, 1) := by decide +kernel
theorem dL_law_253 : decode cL_law 253 = .ok (.ifCond .eq 5, 3) := by decide +kernel
theorem dL_law_256 : decode cL_law 256 = .ok (.iconst 0, 1) := by decide +kernel
theorem dL_law_257 : decode cL_law 257 = .ok (.ireturn, 1) := by decide +kernel
theorem dL_law_258 : decode cL_law 258 = .ok (.goto 1147, 3) := by decide +kernel
theorem dL_law_261 : decode cL_law 261 = .ok (.aload_n 1, 1) := by decide +kernel
theorem dL_law_262 : decode cL_law 262 = .ok (.aload_n 0, 1) := by decide +kernel
theorem dL_law_263 : decode cL_law 263 = .ok (.iload 4, 2) := by decide +kernel
theorem dL_law_265 : decode cL_law 265 = .ok (.iconst 1, 1) := by decide +kernel
theorem dL_law_266 : decode cL_law 266 = .ok (.iadd, 1) := by decide +kernel
theorem dL_law_267 : decode cL_law 267 = .ok (.iaload, 1) := by decide +kernel
theorem dL_law_268 : decode cL_law 268 = .ok (.aload_n 0, 1) := by decide +kernel
theorem dL_law_269 : decode cL_law 269 = .ok (.iload 4, 2) := by decide +kernel
theorem dL_law_271 : decode cL_law 271 = .ok (.iconst 2, 1) := by decide +kernel
theorem dL_law_272 : decode cL_law 272 = .ok (.iadd, 1) := by decide +kernel
theorem dL_law_273 : decode cL_law 273 = .ok (.iaload, 1) := by decide +kernel
theorem dL_law_274 : decode cL_law 274 = .ok (.aload_n 3, 1) := by decide +kernel
theorem dL_law_275 : decode cL_law 275 = .ok (.invokestatic 87, 3) := by decide +kernel
theorem dL_law_278 : decode cL_law 278 = .ok (.istore 5, 2) := by decide +kernel
theorem dL_law_280 : decode cL_law 280 = .ok (.aload_n 2, 1) := by decide +kernel
theorem dL_law_281 : decode cL_law 281 = .ok (.aload_n 0, 1) := by decide +kernel
theorem dL_law_282 : decode cL_law 282 = .ok (.iload 4, 2) := by decide +kernel
theorem dL_law_284 : decode cL_law 284 = .ok (.iconst 1, 1) := by decide +kernel
theorem dL_law_285 : decode cL_law 285 = .ok (.iadd, 1) := by decide +kernel
theorem dL_law_286 : decode cL_law 286 = .ok (.iaload, 1) := by decide +kernel
theorem dL_law_287 : decode cL_law 287 = .ok (.aload_n 0, 1) := by decide +kernel
theorem dL_law_288 : decode cL_law 288 = .ok (.iload 4, 2) := by decide +kernel
theorem dL_law_290 : decode cL_law 290 = .ok (.iconst 2, 1) := by decide +kernel
theorem dL_law_291 : decode cL_law 291 = .ok (.iadd, 1) := by decide +kernel
theorem dL_law_292 : decode cL_law 292 = .ok (.iaload, 1) := by decide +kernel
theorem dL_law_293 : decode cL_law 293 = .ok (.invokevirtual 90, 3) := by decide +kernel
theorem dL_law_296 : decode cL_law 296 = .ok (.istore 6, 2) := by decide +kernel
theorem dL_law_298 : decode cL_law 298 = .ok (.aload_n 2, 1) := by decide +kernel
theorem dL_law_299 : decode cL_law 299 = .ok (.invokevirtual 83, 3) := by decide +kernel
theorem dL_law_302 : decode cL_law 302 = .ok (.iload 5, 2) := by decide +kernel
theorem dL_law_304 : decode cL_law 304 = .ok (.if_icmp .eq 5, 3) := by decide +kernel
theorem dL_law_307 : decode cL_law 307 = .ok (.iconst 0, 1) := by decide +kernel
theorem dL_law_308 : decode cL_law 308 = .ok (.ireturn, 1) := by decide +kernel
theorem dL_law_309 : decode cL_law 309 = .ok (.iload 5, 2) := by decide +kernel
theorem dL_law_311 : decode cL_law 311 = .ok (.ifCond .ne 15, 3) := by decide +kernel
theorem dL_law_314 : decode cL_law 314 = .ok (.aload_n 3, 1) := by decide +kernel
theorem dL_law_315 : decode cL_law 315 = .ok (.iconst 0, 1) := by decide +kernel
theorem dL_law_316 : decode cL_law 316 = .ok (.laload, 1) := by decide +kernel
theorem dL_law_317 : decode cL_law 317 = .ok (.iload 6, 2) := by decide +kernel
theorem dL_law_319 : decode cL_law 319 = .ok (.i2l, 1) := by decide +kernel
theorem dL_law_320 : decode cL_law 320 = .ok (.lcmp, 1) := by decide +kernel
theorem dL_law_321 : decode cL_law 321 = .ok (.ifCond .eq 5, 3) := by decide +kernel
theorem dL_law_324 : decode cL_law 324 = .ok (.iconst 0, 1) := by decide +kernel
theorem dL_law_325 : decode cL_law 325 = .ok (.ireturn, 1) := by decide +kernel
theorem dL_law_326 : decode cL_law 326 = .ok (.goto 1079, 3) := by decide +kernel
theorem dL_law_329 : decode cL_law 329 = .ok (.aload_n 1, 1) := by decide +kernel
theorem dL_law_330 : decode cL_law 330 = .ok (.invokevirtual 91, 3) := by decide +kernel
theorem dL_law_333 : decode cL_law 333 = .ok (.aload_n 2, 1) := by decide +kernel
theorem dL_law_334 : decode cL_law 334 = .ok (.invokevirtual 94, 3) := by decide +kernel
theorem dL_law_337 : decode cL_law 337 = .ok (.if_icmp .eq 1068, 3) := by decide +kernel
theorem dL_law_340 : decode cL_law 340 = .ok (.iconst 0, 1) := by decide +kernel
theorem dL_law_341 : decode cL_law 341 = .ok (.ireturn, 1) := by decide +kernel
theorem dL_law_342 : decode cL_law 342 = .ok (.aload_n 1, 1) := by decide +kernel
theorem dL_law_343 : decode cL_law 343 = .ok (.aload_n 0, 1) := by decide +kernel
theorem dL_law_344 : decode cL_law 344 = .ok (.iload 4, 2) := by decide +kernel
theorem dL_law_346 : decode cL_law 346 = .ok (.iconst 1, 1) := by decide +kernel
theorem dL_law_347 : decode cL_law 347 = .ok (.iadd, 1) := by decide +kernel
theorem dL_law_348 : decode cL_law 348 = .ok (.iaload, 1) := by decide +kernel
theorem dL_law_349 : decode cL_law 349 = .ok (.aload_n 0, 1) := by decide +kernel
theorem dL_law_350 : decode cL_law 350 = .ok (.iload 4, 2) := by decide +kernel
theorem dL_law_352 : decode cL_law 352 = .ok (.iconst 2, 1) := by decide +kernel
theorem dL_law_353 : decode cL_law 353 = .ok (.iadd, 1) := by decide +kernel
theorem dL_law_354 : decode cL_law 354 = .ok (.iaload, 1) := by decide +kernel
theorem dL_law_355 : decode cL_law 355 = .ok (.aload_n 3, 1) := by decide +kernel
theorem dL_law_356 : decode cL_law 356 = .ok (.invokestatic 95, 3) := by decide +kernel
theorem dL_law_359 : decode cL_law 359 = .ok (.istore 5, 2) := by decide +kernel
theorem dL_law_361 : decode cL_law 361 = .ok (.aload_n 2, 1) := by decide +kernel
theorem dL_law_362 : decode cL_law 362 = .ok (.aload_n 0, 1) := by decide +kernel
theorem dL_law_363 : decode cL_law 363 = .ok (.iload 4, 2) := by decide +kernel
theorem dL_law_365 : decode cL_law 365 = .ok (.iconst 1, 1) := by decide +kernel
theorem dL_law_366 : decode cL_law 366 = .ok (.iadd, 1) := by decide +kernel
theorem dL_law_367 : decode cL_law 367 = .ok (.iaload, 1) := by decide +kernel
theorem dL_law_368 : decode cL_law 368 = .ok (.aload_n 0, 1) := by decide +kernel
theorem dL_law_369 : decode cL_law 369 = .ok (.iload 4, 2) := by decide +kernel
theorem dL_law_371 : decode cL_law 371 = .ok (.iconst 2, 1) := by decide +kernel
theorem dL_law_372 : decode cL_law 372 = .ok (.iadd, 1) := by decide +kernel
theorem dL_law_373 : decode cL_law 373 = .ok (.iaload, 1) := by decide +kernel
theorem dL_law_374 : decode cL_law 374 = .ok (.invokevirtual 97, 3) := by decide +kernel
theorem dL_law_377 : decode cL_law 377 = .ok (.istore 6, 2) := by decide +kernel
theorem dL_law_379 : decode cL_law 379 = .ok (.aload_n 2, 1) := by decide +kernel
theorem dL_law_380 : decode cL_law 380 = .ok (.invokevirtual 83, 3) := by decide +kernel
theorem dL_law_383 : decode cL_law 383 = .ok (.iload 5, 2) := by decide +kernel
theorem dL_law_385 : decode cL_law 385 = .ok (.if_icmp .eq 5, 3) := by decide +kernel
theorem dL_law_388 : decode cL_law 388 = .ok (.iconst 0, 1) := by decide +kernel
theorem dL_law_389 : decode cL_law 389 = .ok (.ireturn, 1) := by decide +kernel
theorem dL_law_390 : decode cL_law 390 = .ok (.iload 5, 2) := by decide +kernel
theorem dL_law_392 : decode cL_law 392 = .ok (.ifCond .ne 15, 3) := by decide +kernel
theorem dL_law_395 : decode cL_law 395 = .ok (.aload_n 3, 1) := by decide +kernel
theorem dL_law_396 : decode cL_law 396 = .ok (.iconst 0, 1) := by decide +kernel
theorem dL_law_397 : decode cL_law 397 = .ok (.laload, 1) := by decide +kernel
theorem dL_law_398 : decode cL_law 398 = .ok (.iload 6, 2) := by decide +kernel
theorem dL_law_400 : decode cL_law 400 = .ok (.i2l, 1) := by decide +kernel
theorem dL_law_401 : decode cL_law 401 = .ok (.lcmp, 1) := by decide +kernel
theorem dL_law_402 : decode cL_law 402 = .ok (.ifCond .eq 5, 3) := by decide +kernel
theorem dL_law_405 : decode cL_law 405 = .ok (.iconst 0, 1) := by decide +kernel
theorem dL_law_406 : decode cL_law 406 = .ok (.ireturn, 1) := by decide +kernel
theorem dL_law_407 : decode cL_law 407 = .ok (.goto 998, 3) := by decide +kernel
theorem dL_law_410 : decode cL_law 410 = .ok (.aload_n 1, 1) := by decide +kernel
theorem dL_law_411 : decode cL_law 411 = .ok (.aload_n 0, 1) := by decide +kernel
theorem dL_law_412 : decode cL_law 412 = .ok (.iload 4, 2) := by decide +kernel
theorem dL_law_414 : decode cL_law 414 = .ok (.iconst 1, 1) := by decide +kernel
theorem dL_law_415 : decode cL_law 415 = .ok (.iadd, 1) := by decide +kernel
theorem dL_law_416 : decode cL_law 416 = .ok (.iaload, 1) := by decide +kernel
theorem dL_law_417 : decode cL_law 417 = .ok (.aload_n 0, 1) := by decide +kernel
theorem dL_law_418 : decode cL_law 418 = .ok (.iload 4, 2) := by decide +kernel
theorem dL_law_420 : decode cL_law 420 = .ok (.iconst 2, 1) := by decide +kernel
theorem dL_law_421 : decode cL_law 421 = .ok (.iadd, 1) := by decide +kernel
theorem dL_law_422 : decode cL_law 422 = .ok (.iaload, 1) := by decide +kernel
theorem dL_law_423 : decode cL_law 423 = .ok (.aload_n 0, 1) := by decide +kernel
theorem dL_law_424 : decode cL_law 424 = .ok (.iload 4, 2) := by decide +kernel
theorem dL_law_426 : decode cL_law 426 = .ok (.iconst 3, 1) := by decide +kernel
theorem dL_law_427 : decode cL_law 427 = .ok (.iadd, 1) := by decide +kernel
theorem dL_law_428 : decode cL_law 428 = .ok (.iaload, 1) := by decide +kernel
theorem dL_law_429 : decode cL_law 429 = .ok (.aload_n 3, 1) := by decide +kernel
theorem dL_law_430 : decode cL_law 430 = .ok (.invokestatic 98, 3) := by decide +kernel
theorem dL_law_433 : decode cL_law 433 = .ok (.istore 5, 2) := by decide +kernel
theorem dL_law_435 : decode cL_law 435 = .ok (.aload_n 2, 1) := by decide +kernel
theorem dL_law_436 : decode cL_law 436 = .ok (.aload_n 0, 1) := by decide +kernel
theorem dL_law_437 : decode cL_law 437 = .ok (.iload 4, 2) := by decide +kernel
theorem dL_law_439 : decode cL_law 439 = .ok (.iconst 1, 1) := by decide +kernel
theorem dL_law_440 : decode cL_law 440 = .ok (.iadd, 1) := by decide +kernel
theorem dL_law_441 : decode cL_law 441 = .ok (.iaload, 1) := by decide +kernel
theorem dL_law_442 : decode cL_law 442 = .ok (.aload_n 0, 1) := by decide +kernel
theorem dL_law_443 : decode cL_law 443 = .ok (.iload 4, 2) := by decide +kernel
theorem dL_law_445 : decode cL_law 445 = .ok (.iconst 2, 1) := by decide +kernel
theorem dL_law_446 : decode cL_law 446 = .ok (.iadd, 1) := by decide +kernel
theorem dL_law_447 : decode cL_law 447 = .ok (.iaload, 1) := by decide +kernel
theorem dL_law_448 : decode cL_law 448 = .ok (.aload_n 0, 1) := by decide +kernel
theorem dL_law_449 : decode cL_law 449 = .ok (.iload 4, 2) := by decide +kernel
theorem dL_law_451 : decode cL_law 451 = .ok (.iconst 3, 1) := by decide +kernel
theorem dL_law_452 : decode cL_law 452 = .ok (.iadd, 1) := by decide +kernel
theorem dL_law_453 : decode cL_law 453 = .ok (.iaload, 1) := by decide +kernel
theorem dL_law_454 : decode cL_law 454 = .ok (.invokevirtual 101, 3) := by decide +kernel
theorem dL_law_457 : decode cL_law 457 = .ok (.istore 6, 2) := by decide +kernel
theorem dL_law_459 : decode cL_law 459 = .ok (.aload_n 2, 1) := by decide +kernel
theorem dL_law_460 : decode cL_law 460 = .ok (.invokevirtual 83, 3) := by decide +kernel
theorem dL_law_463 : decode cL_law 463 = .ok (.iload 5, 2) := by decide +kernel
theorem dL_law_465 : decode cL_law 465 = .ok (.if_icmp .eq 5, 3) := by decide +kernel
theorem dL_law_468 : decode cL_law 468 = .ok (.iconst 0, 1) := by decide +kernel
theorem dL_law_469 : decode cL_law 469 = .ok (.ireturn, 1) := by decide +kernel
theorem dL_law_470 : decode cL_law 470 = .ok (.iload 5, 2) := by decide +kernel
theorem dL_law_472 : decode cL_law 472 = .ok (.ifCond .ne 15, 3) := by decide +kernel
theorem dL_law_475 : decode cL_law 475 = .ok (.aload_n 3, 1) := by decide +kernel
theorem dL_law_476 : decode cL_law 476 = .ok (.iconst 0, 1) := by decide +kernel
theorem dL_law_477 : decode cL_law 477 = .ok (.laload, 1) := by decide +kernel
theorem dL_law_478 : decode cL_law 478 = .ok (.iload 6, 2) := by decide +kernel
theorem dL_law_480 : decode cL_law 480 = .ok (.i2l, 1) := by decide +kernel
theorem dL_law_481 : decode cL_law 481 = .ok (.lcmp, 1) := by decide +kernel
theorem dL_law_482 : decode cL_law 482 = .ok (.ifCond .eq 5, 3) := by decide +kernel
theorem dL_law_485 : decode cL_law 485 = .ok (.iconst 0, 1) := by decide +kernel
theorem dL_law_486 : decode cL_law 486 = .ok (.ireturn, 1) := by decide +kernel
theorem dL_law_487 : decode cL_law 487 = .ok (.goto 918, 3) := by decide +kernel
theorem dL_law_490 : decode cL_law 490 = .ok (.aload_n 1, 1) := by decide +kernel
theorem dL_law_491 : decode cL_law 491 = .ok (.aload_n 0, 1) := by decide +kernel
theorem dL_law_492 : decode cL_law 492 = .ok (.iload 4, 2) := by decide +kernel
theorem dL_law_494 : decode cL_law 494 = .ok (.iconst 1, 1) := by decide +kernel
theorem dL_law_495 : decode cL_law 495 = .ok (.iadd, 1) := by decide +kernel
theorem dL_law_496 : decode cL_law 496 = .ok (.iaload, 1) := by decide +kernel
theorem dL_law_497 : decode cL_law 497 = .ok (.aload_n 0, 1) := by decide +kernel
theorem dL_law_498 : decode cL_law 498 = .ok (.iload 4, 2) := by decide +kernel
theorem dL_law_500 : decode cL_law 500 = .ok (.iconst 2, 1) := by decide +kernel
theorem dL_law_501 : decode cL_law 501 = .ok (.iadd, 1) := by decide +kernel
theorem dL_law_502 : decode cL_law 502 = .ok (.iaload, 1) := by decide +kernel
theorem dL_law_503 : decode cL_law 503 = .ok (.aload_n 0, 1) := by decide +kernel
theorem dL_law_504 : decode cL_law 504 = .ok (.iload 4, 2) := by decide +kernel
theorem dL_law_506 : decode cL_law 506 = .ok (.iconst 3, 1) := by decide +kernel
theorem dL_law_507 : decode cL_law 507 = .ok (.iadd, 1) := by decide +kernel
theorem dL_law_508 : decode cL_law 508 = .ok (.iaload, 1) := by decide +kernel
theorem dL_law_509 : decode cL_law 509 = .ok (.aload_n 3, 1) := by decide +kernel
theorem dL_law_510 : decode cL_law 510 = .ok (.invokestatic 102, 3) := by decide +kernel
theorem dL_law_513 : decode cL_law 513 = .ok (.istore 5, 2) := by decide +kernel
theorem dL_law_515 : decode cL_law 515 = .ok (.aload_n 2, 1) := by decide +kernel
theorem dL_law_516 : decode cL_law 516 = .ok (.aload_n 0, 1) := by decide +kernel
theorem dL_law_517 : decode cL_law 517 = .ok (.iload 4, 2) := by decide +kernel
theorem dL_law_519 : decode cL_law 519 = .ok (.iconst 1, 1) := by decide +kernel
theorem dL_law_520 : decode cL_law 520 = .ok (.iadd, 1) := by decide +kernel
theorem dL_law_521 : decode cL_law 521 = .ok (.iaload, 1) := by decide +kernel
theorem dL_law_522 : decode cL_law 522 = .ok (.aload_n 0, 1) := by decide +kernel
theorem dL_law_523 : decode cL_law 523 = .ok (.iload 4, 2) := by decide +kernel
theorem dL_law_525 : decode cL_law 525 = .ok (.iconst 2, 1) := by decide +kernel
theorem dL_law_526 : decode cL_law 526 = .ok (.iadd, 1) := by decide +kernel
theorem dL_law_527 : decode cL_law 527 = .ok (.iaload, 1) := by decide +kernel
theorem dL_law_528 : decode cL_law 528 = .ok (.aload_n 0, 1) := by decide +kernel
theorem dL_law_529 : decode cL_law 529 = .ok (.iload 4, 2) := by decide +kernel
theorem dL_law_531 : decode cL_law 531 = .ok (.iconst 3, 1) := by decide +kernel
theorem dL_law_532 : decode cL_law 532 = .ok (.iadd, 1) := by decide +kernel
theorem dL_law_533 : decode cL_law 533 = .ok (.iaload, 1) := by decide +kernel
theorem dL_law_534 : decode cL_law 534 = .ok (.invokevirtual 104, 3) := by decide +kernel
theorem dL_law_537 : decode cL_law 537 = .ok (.istore 6, 2) := by decide +kernel
theorem dL_law_539 : decode cL_law 539 = .ok (.aload_n 2, 1) := by decide +kernel
theorem dL_law_540 : decode cL_law 540 = .ok (.invokevirtual 83, 3) := by decide +kernel
theorem dL_law_543 : decode cL_law 543 = .ok (.iload 5, 2) := by decide +kernel
theorem dL_law_545 : decode cL_law 545 = .ok (.if_icmp .eq 5, 3) := by decide +kernel
theorem dL_law_548 : decode cL_law 548 = .ok (.iconst 0, 1) := by decide +kernel
theorem dL_law_549 : decode cL_law 549 = .ok (.ireturn, 1) := by decide +kernel
theorem dL_law_550 : decode cL_law 550 = .ok (.iload 5, 2) := by decide +kernel
theorem dL_law_552 : decode cL_law 552 = .ok (.ifCond .ne 15, 3) := by decide +kernel
theorem dL_law_555 : decode cL_law 555 = .ok (.aload_n 3, 1) := by decide +kernel
theorem dL_law_556 : decode cL_law 556 = .ok (.iconst 0, 1) := by decide +kernel
theorem dL_law_557 : decode cL_law 557 = .ok (.laload, 1) := by decide +kernel
theorem dL_law_558 : decode cL_law 558 = .ok (.iload 6, 2) := by decide +kernel
theorem dL_law_560 : decode cL_law 560 = .ok (.i2l, 1) := by decide +kernel
theorem dL_law_561 : decode cL_law 561 = .ok (.lcmp, 1) := by decide +kernel
theorem dL_law_562 : decode cL_law 562 = .ok (.ifCond .eq 5, 3) := by decide +kernel
theorem dL_law_565 : decode cL_law 565 = .ok (.iconst 0, 1) := by decide +kernel
theorem dL_law_566 : decode cL_law 566 = .ok (.ireturn, 1) := by decide +kernel
theorem dL_law_567 : decode cL_law 567 = .ok (.goto 838, 3) := by decide +kernel
theorem dL_law_570 : decode cL_law 570 = .ok (.aload_n 1, 1) := by decide +kernel
theorem dL_law_571 : decode cL_law 571 = .ok (.aload_n 0, 1) := by decide +kernel
theorem dL_law_572 : decode cL_law 572 = .ok (.iload 4, 2) := by decide +kernel
theorem dL_law_574 : decode cL_law 574 = .ok (.iconst 1, 1) := by decide +kernel
theorem dL_law_575 : decode cL_law 575 = .ok (.iadd, 1) := by decide +kernel
theorem dL_law_576 : decode cL_law 576 = .ok (.iaload, 1) := by decide +kernel
theorem dL_law_577 : decode cL_law 577 = .ok (.aload_n 0, 1) := by decide +kernel
theorem dL_law_578 : decode cL_law 578 = .ok (.iload 4, 2) := by decide +kernel
theorem dL_law_580 : decode cL_law 580 = .ok (.iconst 2, 1) := by decide +kernel
theorem dL_law_581 : decode cL_law 581 = .ok (.iadd, 1) := by decide +kernel
theorem dL_law_582 : decode cL_law 582 = .ok (.iaload, 1) := by decide +kernel
theorem dL_law_583 : decode cL_law 583 = .ok (.aload_n 3, 1) := by decide +kernel
theorem dL_law_584 : decode cL_law 584 = .ok (.invokestatic 105, 3) := by decide +kernel
theorem dL_law_587 : decode cL_law 587 = .ok (.istore 5, 2) := by decide +kernel
theorem dL_law_589 : decode cL_law 589 = .ok (.aload_n 2, 1) := by decide +kernel
theorem dL_law_590 : decode cL_law 590 = .ok (.aload_n 0, 1) := by decide +kernel
theorem dL_law_591 : decode cL_law 591 = .ok (.iload 4, 2) := by decide +kernel
theorem dL_law_593 : decode cL_law 593 = .ok (.iconst 1, 1) := by decide +kernel
theorem dL_law_594 : decode cL_law 594 = .ok (.iadd, 1) := by decide +kernel
theorem dL_law_595 : decode cL_law 595 = .ok (.iaload, 1) := by decide +kernel
theorem dL_law_596 : decode cL_law 596 = .ok (.aload_n 0, 1) := by decide +kernel
theorem dL_law_597 : decode cL_law 597 = .ok (.iload 4, 2) := by decide +kernel
theorem dL_law_599 : decode cL_law 599 = .ok (.iconst 2, 1) := by decide +kernel
theorem dL_law_600 : decode cL_law 600 = .ok (.iadd, 1) := by decide +kernel
theorem dL_law_601 : decode cL_law 601 = .ok (.iaload, 1) := by decide +kernel
theorem dL_law_602 : decode cL_law 602 = .ok (.invokevirtual 107, 3) := by decide +kernel
theorem dL_law_605 : decode cL_law 605 = .ok (.istore 6, 2) := by decide +kernel
theorem dL_law_607 : decode cL_law 607 = .ok (.aload_n 2, 1) := by decide +kernel
theorem dL_law_608 : decode cL_law 608 = .ok (.invokevirtual 83, 3) := by decide +kernel
theorem dL_law_611 : decode cL_law 611 = .ok (.iload 5, 2) := by decide +kernel
theorem dL_law_613 : decode cL_law 613 = .ok (.if_icmp .eq 5, 3) := by decide +kernel
theorem dL_law_616 : decode cL_law 616 = .ok (.iconst 0, 1) := by decide +kernel
theorem dL_law_617 : decode cL_law 617 = .ok (.ireturn, 1) := by decide +kernel
theorem dL_law_618 : decode cL_law 618 = .ok (.iload 5, 2) := by decide +kernel
theorem dL_law_620 : decode cL_law 620 = .ok (.ifCond .ne 15, 3) := by decide +kernel
theorem dL_law_623 : decode cL_law 623 = .ok (.aload_n 3, 1) := by decide +kernel
theorem dL_law_624 : decode cL_law 624 = .ok (.iconst 0, 1) := by decide +kernel
theorem dL_law_625 : decode cL_law 625 = .ok (.laload, 1) := by decide +kernel
theorem dL_law_626 : decode cL_law 626 = .ok (.iload 6, 2) := by decide +kernel
theorem dL_law_628 : decode cL_law 628 = .ok (.i2l, 1) := by decide +kernel
theorem dL_law_629 : decode cL_law 629 = .ok (.lcmp, 1) := by decide +kernel
theorem dL_law_630 : decode cL_law 630 = .ok (.ifCond .eq 5, 3) := by decide +kernel
theorem dL_law_633 : decode cL_law 633 = .ok (.iconst 0, 1) := by decide +kernel
theorem dL_law_634 : decode cL_law 634 = .ok (.ireturn, 1) := by decide +kernel
theorem dL_law_635 : decode cL_law 635 = .ok (.goto 770, 3) := by decide +kernel
theorem dL_law_638 : decode cL_law 638 = .ok (.aload_n 1, 1) := by decide +kernel
theorem dL_law_639 : decode cL_law 639 = .ok (.aload_n 0, 1) := by decide +kernel
theorem dL_law_640 : decode cL_law 640 = .ok (.iload 4, 2) := by decide +kernel
theorem dL_law_642 : decode cL_law 642 = .ok (.iconst 1, 1) := by decide +kernel
theorem dL_law_643 : decode cL_law 643 = .ok (.iadd, 1) := by decide +kernel
theorem dL_law_644 : decode cL_law 644 = .ok (.iaload, 1) := by decide +kernel
theorem dL_law_645 : decode cL_law 645 = .ok (.aload_n 0, 1) := by decide +kernel
theorem dL_law_646 : decode cL_law 646 = .ok (.iload 4, 2) := by decide +kernel
theorem dL_law_648 : decode cL_law 648 = .ok (.iconst 2, 1) := by decide +kernel
theorem dL_law_649 : decode cL_law 649 = .ok (.iadd, 1) := by decide +kernel
theorem dL_law_650 : decode cL_law 650 = .ok (.iaload, 1) := by decide +kernel
theorem dL_law_651 : decode cL_law 651 = .ok (.aload_n 0, 1) := by decide +kernel
theorem dL_law_652 : decode cL_law 652 = .ok (.iload 4, 2) := by decide +kernel
theorem dL_law_654 : decode cL_law 654 = .ok (.iconst 3, 1) := by decide +kernel
theorem dL_law_655 : decode cL_law 655 = .ok (.iadd, 1) := by decide +kernel
theorem dL_law_656 : decode cL_law 656 = .ok (.iaload, 1) := by decide +kernel
theorem dL_law_657 : decode cL_law 657 = .ok (.aload_n 3, 1) := by decide +kernel
theorem dL_law_658 : decode cL_law 658 = .ok (.invokestatic 108, 3) := by decide +kernel
theorem dL_law_661 : decode cL_law 661 = .ok (.istore 5, 2) := by decide +kernel
theorem dL_law_663 : decode cL_law 663 = .ok (.aload_n 2, 1) := by decide +kernel
theorem dL_law_664 : decode cL_law 664 = .ok (.aload_n 0, 1) := by decide +kernel
theorem dL_law_665 : decode cL_law 665 = .ok (.iload 4, 2) := by decide +kernel
theorem dL_law_667 : decode cL_law 667 = .ok (.iconst 1, 1) := by decide +kernel
theorem dL_law_668 : decode cL_law 668 = .ok (.iadd, 1) := by decide +kernel
theorem dL_law_669 : decode cL_law 669 = .ok (.iaload, 1) := by decide +kernel
theorem dL_law_670 : decode cL_law 670 = .ok (.aload_n 0, 1) := by decide +kernel
theorem dL_law_671 : decode cL_law 671 = .ok (.iload 4, 2) := by decide +kernel
theorem dL_law_673 : decode cL_law 673 = .ok (.iconst 2, 1) := by decide +kernel
theorem dL_law_674 : decode cL_law 674 = .ok (.iadd, 1) := by decide +kernel
theorem dL_law_675 : decode cL_law 675 = .ok (.iaload, 1) := by decide +kernel
theorem dL_law_676 : decode cL_law 676 = .ok (.aload_n 0, 1) := by decide +kernel
theorem dL_law_677 : decode cL_law 677 = .ok (.iload 4, 2) := by decide +kernel
theorem dL_law_679 : decode cL_law 679 = .ok (.iconst 3, 1) := by decide +kernel
theorem dL_law_680 : decode cL_law 680 = .ok (.iadd, 1) := by decide +kernel
theorem dL_law_681 : decode cL_law 681 = .ok (.iaload, 1) := by decide +kernel
theorem dL_law_682 : decode cL_law 682 = .ok (.invokevirtual 110, 3) := by decide +kernel
theorem dL_law_685 : decode cL_law 685 = .ok (.istore 6, 2) := by decide +kernel
theorem dL_law_687 : decode cL_law 687 = .ok (.aload_n 2, 1) := by decide +kernel
theorem dL_law_688 : decode cL_law 688 = .ok (.invokevirtual 83, 3) := by decide +kernel
theorem dL_law_691 : decode cL_law 691 = .ok (.iload 5, 2) := by decide +kernel
theorem dL_law_693 : decode cL_law 693 = .ok (.if_icmp .eq 5, 3) := by decide +kernel
theorem dL_law_696 : decode cL_law 696 = .ok (.iconst 0, 1) := by decide +kernel
theorem dL_law_697 : decode cL_law 697 = .ok (.ireturn, 1) := by decide +kernel
theorem dL_law_698 : decode cL_law 698 = .ok (.iload 5, 2) := by decide +kernel
theorem dL_law_700 : decode cL_law 700 = .ok (.ifCond .ne 15, 3) := by decide +kernel
theorem dL_law_703 : decode cL_law 703 = .ok (.aload_n 3, 1) := by decide +kernel
theorem dL_law_704 : decode cL_law 704 = .ok (.iconst 0, 1) := by decide +kernel
theorem dL_law_705 : decode cL_law 705 = .ok (.laload, 1) := by decide +kernel
theorem dL_law_706 : decode cL_law 706 = .ok (.iload 6, 2) := by decide +kernel
theorem dL_law_708 : decode cL_law 708 = .ok (.i2l, 1) := by decide +kernel
theorem dL_law_709 : decode cL_law 709 = .ok (.lcmp, 1) := by decide +kernel
theorem dL_law_710 : decode cL_law 710 = .ok (.ifCond .eq 5, 3) := by decide +kernel
theorem dL_law_713 : decode cL_law 713 = .ok (.iconst 0, 1) := by decide +kernel
theorem dL_law_714 : decode cL_law 714 = .ok (.ireturn, 1) := by decide +kernel
theorem dL_law_715 : decode cL_law 715 = .ok (.goto 690, 3) := by decide +kernel
theorem dL_law_718 : decode cL_law 718 = .ok (.aload_n 1, 1) := by decide +kernel
theorem dL_law_719 : decode cL_law 719 = .ok (.aload_n 0, 1) := by decide +kernel
theorem dL_law_720 : decode cL_law 720 = .ok (.iload 4, 2) := by decide +kernel
theorem dL_law_722 : decode cL_law 722 = .ok (.iconst 1, 1) := by decide +kernel
theorem dL_law_723 : decode cL_law 723 = .ok (.iadd, 1) := by decide +kernel
theorem dL_law_724 : decode cL_law 724 = .ok (.iaload, 1) := by decide +kernel
theorem dL_law_725 : decode cL_law 725 = .ok (.aload_n 0, 1) := by decide +kernel
theorem dL_law_726 : decode cL_law 726 = .ok (.iload 4, 2) := by decide +kernel
theorem dL_law_728 : decode cL_law 728 = .ok (.iconst 2, 1) := by decide +kernel
theorem dL_law_729 : decode cL_law 729 = .ok (.iadd, 1) := by decide +kernel
theorem dL_law_730 : decode cL_law 730 = .ok (.iaload, 1) := by decide +kernel
theorem dL_law_731 : decode cL_law 731 = .ok (.aload_n 3, 1) := by decide +kernel
theorem dL_law_732 : decode cL_law 732 = .ok (.invokestatic 111, 3) := by decide +kernel
theorem dL_law_735 : decode cL_law 735 = .ok (.istore 5, 2) := by decide +kernel
theorem dL_law_737 : decode cL_law 737 = .ok (.aload_n 2, 1) := by decide +kernel
theorem dL_law_738 : decode cL_law 738 = .ok (.aload_n 0, 1) := by decide +kernel
theorem dL_law_739 : decode cL_law 739 = .ok (.iload 4, 2) := by decide +kernel
theorem dL_law_741 : decode cL_law 741 = .ok (.iconst 1, 1) := by decide +kernel
theorem dL_law_742 : decode cL_law 742 = .ok (.iadd, 1) := by decide +kernel
theorem dL_law_743 : decode cL_law 743 = .ok (.iaload, 1) := by decide +kernel
theorem dL_law_744 : decode cL_law 744 = .ok (.aload_n 0, 1) := by decide +kernel
theorem dL_law_745 : decode cL_law 745 = .ok (.iload 4, 2) := by decide +kernel
theorem dL_law_747 : decode cL_law 747 = .ok (.iconst 2, 1) := by decide +kernel
theorem dL_law_748 : decode cL_law 748 = .ok (.iadd, 1) := by decide +kernel
theorem dL_law_749 : decode cL_law 749 = .ok (.iaload, 1) := by decide +kernel
theorem dL_law_750 : decode cL_law 750 = .ok (.invokevirtual 113, 3) := by decide +kernel
theorem dL_law_753 : decode cL_law 753 = .ok (.istore 6, 2) := by decide +kernel
theorem dL_law_755 : decode cL_law 755 = .ok (.aload_n 2, 1) := by decide +kernel
theorem dL_law_756 : decode cL_law 756 = .ok (.invokevirtual 83, 3) := by decide +kernel
theorem dL_law_759 : decode cL_law 759 = .ok (.iload 5, 2) := by decide +kernel
theorem dL_law_761 : decode cL_law 761 = .ok (.if_icmp .eq 5, 3) := by decide +kernel
theorem dL_law_764 : decode cL_law 764 = .ok (.iconst 0, 1) := by decide +kernel
theorem dL_law_765 : decode cL_law 765 = .ok (.ireturn, 1) := by decide +kernel
theorem dL_law_766 : decode cL_law 766 = .ok (.iload 5, 2) := by decide +kernel
theorem dL_law_768 : decode cL_law 768 = .ok (.ifCond .ne 22, 3) := by decide +kernel
theorem dL_law_771 : decode cL_law 771 = .ok (.aload_n 3, 1) := by decide +kernel
theorem dL_law_772 : decode cL_law 772 = .ok (.iconst 0, 1) := by decide +kernel
theorem dL_law_773 : decode cL_law 773 = .ok (.laload, 1) := by decide +kernel
theorem dL_law_774 : decode cL_law 774 = .ok (.iload 6, 2) := by decide +kernel
theorem dL_law_776 : decode cL_law 776 = .ok (.ifCond .eq 7, 3) := by decide +kernel
theorem dL_law_779 : decode cL_law 779 = .ok (.lconst 1, 1) := by decide +kernel
theorem dL_law_780 : decode cL_law 780 = .ok (.goto 4, 3) := by decide +kernel
theorem dL_law_783 : decode cL_law 783 = .ok (.lconst 0, 1) := by decide +kernel
theorem dL_law_784 : decode cL_law 784 = .ok (.lcmp, 1) := by decide +kernel
theorem dL_law_785 : decode cL_law 785 = .ok (.ifCond .eq 5, 3) := by decide +kernel
theorem dL_law_788 : decode cL_law 788 = .ok (.iconst 0, 1) := by decide +kernel
theorem dL_law_789 : decode cL_law 789 = .ok (.ireturn, 1) := by decide +kernel
theorem dL_law_790 : decode cL_law 790 = .ok (.goto 615, 3) := by decide +kernel
theorem dL_law_793 : decode cL_law 793 = .ok (.aload_n 1, 1) := by decide +kernel
theorem dL_law_794 : decode cL_law 794 = .ok (.aload_n 0, 1) := by decide +kernel
theorem dL_law_795 : decode cL_law 795 = .ok (.iload 4, 2) := by decide +kernel
theorem dL_law_797 : decode cL_law 797 = .ok (.iconst 1, 1) := by decide +kernel
theorem dL_law_798 : decode cL_law 798 = .ok (.iadd, 1) := by decide +kernel
theorem dL_law_799 : decode cL_law 799 = .ok (.iaload, 1) := by decide +kernel
theorem dL_law_800 : decode cL_law 800 = .ok (.aload_n 0, 1) := by decide +kernel
theorem dL_law_801 : decode cL_law 801 = .ok (.iload 4, 2) := by decide +kernel
theorem dL_law_803 : decode cL_law 803 = .ok (.iconst 2, 1) := by decide +kernel
theorem dL_law_804 : decode cL_law 804 = .ok (.iadd, 1) := by decide +kernel
theorem dL_law_805 : decode cL_law 805 = .ok (.iaload, 1) := by decide +kernel
theorem dL_law_806 : decode cL_law 806 = .ok (.aload_n 0, 1) := by decide +kernel
theorem dL_law_807 : decode cL_law 807 = .ok (.iload 4, 2) := by decide +kernel
theorem dL_law_809 : decode cL_law 809 = .ok (.iconst 3, 1) := by decide +kernel
theorem dL_law_810 : decode cL_law 810 = .ok (.iadd, 1) := by decide +kernel
theorem dL_law_811 : decode cL_law 811 = .ok (.iaload, 1) := by decide +kernel
theorem dL_law_812 : decode cL_law 812 = .ok (.aload_n 3, 1) := by decide +kernel
theorem dL_law_813 : decode cL_law 813 = .ok (.invokestatic 114, 3) := by decide +kernel
theorem dL_law_816 : decode cL_law 816 = .ok (.istore 5, 2) := by decide +kernel
theorem dL_law_818 : decode cL_law 818 = .ok (.aload_n 2, 1) := by decide +kernel
theorem dL_law_819 : decode cL_law 819 = .ok (.aload_n 0, 1) := by decide +kernel
theorem dL_law_820 : decode cL_law 820 = .ok (.iload 4, 2) := by decide +kernel
theorem dL_law_822 : decode cL_law 822 = .ok (.iconst 1, 1) := by decide +kernel
theorem dL_law_823 : decode cL_law 823 = .ok (.iadd, 1) := by decide +kernel
theorem dL_law_824 : decode cL_law 824 = .ok (.iaload, 1) := by decide +kernel
theorem dL_law_825 : decode cL_law 825 = .ok (.aload_n 0, 1) := by decide +kernel
theorem dL_law_826 : decode cL_law 826 = .ok (.iload 4, 2) := by decide +kernel
theorem dL_law_828 : decode cL_law 828 = .ok (.iconst 2, 1) := by decide +kernel
theorem dL_law_829 : decode cL_law 829 = .ok (.iadd, 1) := by decide +kernel
theorem dL_law_830 : decode cL_law 830 = .ok (.iaload, 1) := by decide +kernel
theorem dL_law_831 : decode cL_law 831 = .ok (.aload_n 0, 1) := by decide +kernel
theorem dL_law_832 : decode cL_law 832 = .ok (.iload 4, 2) := by decide +kernel
theorem dL_law_834 : decode cL_law 834 = .ok (.iconst 3, 1) := by decide +kernel
theorem dL_law_835 : decode cL_law 835 = .ok (.iadd, 1) := by decide +kernel
theorem dL_law_836 : decode cL_law 836 = .ok (.iaload, 1) := by decide +kernel
theorem dL_law_837 : decode cL_law 837 = .ok (.invokevirtual 116, 3) := by decide +kernel
theorem dL_law_840 : decode cL_law 840 = .ok (.istore 6, 2) := by decide +kernel
theorem dL_law_842 : decode cL_law 842 = .ok (.aload_n 2, 1) := by decide +kernel
theorem dL_law_843 : decode cL_law 843 = .ok (.invokevirtual 83, 3) := by decide +kernel
theorem dL_law_846 : decode cL_law 846 = .ok (.iload 5, 2) := by decide +kernel
theorem dL_law_848 : decode cL_law 848 = .ok (.if_icmp .eq 5, 3) := by decide +kernel
theorem dL_law_851 : decode cL_law 851 = .ok (.iconst 0, 1) := by decide +kernel
theorem dL_law_852 : decode cL_law 852 = .ok (.ireturn, 1) := by decide +kernel
theorem dL_law_853 : decode cL_law 853 = .ok (.iload 5, 2) := by decide +kernel
theorem dL_law_855 : decode cL_law 855 = .ok (.ifCond .ne 15, 3) := by decide +kernel
theorem dL_law_858 : decode cL_law 858 = .ok (.aload_n 3, 1) := by decide +kernel
theorem dL_law_859 : decode cL_law 859 = .ok (.iconst 0, 1) := by decide +kernel
theorem dL_law_860 : decode cL_law 860 = .ok (.laload, 1) := by decide +kernel
theorem dL_law_861 : decode cL_law 861 = .ok (.iload 6, 2) := by decide +kernel
theorem dL_law_863 : decode cL_law 863 = .ok (.i2l, 1) := by decide +kernel
theorem dL_law_864 : decode cL_law 864 = .ok (.lcmp, 1) := by decide +kernel
theorem dL_law_865 : decode cL_law 865 = .ok (.ifCond .eq 5, 3) := by decide +kernel
theorem dL_law_868 : decode cL_law 868 = .ok (.iconst 0, 1) := by decide +kernel
theorem dL_law_869 : decode cL_law 869 = .ok (.ireturn, 1) := by decide +kernel
theorem dL_law_870 : decode cL_law 870 = .ok (.goto 535, 3) := by decide +kernel
theorem dL_law_873 : decode cL_law 873 = .ok (.aload_n 1, 1) := by decide +kernel
theorem dL_law_874 : decode cL_law 874 = .ok (.aload_n 0, 1) := by decide +kernel
theorem dL_law_875 : decode cL_law 875 = .ok (.iload 4, 2) := by decide +kernel
theorem dL_law_877 : decode cL_law 877 = .ok (.iconst 1, 1) := by decide +kernel
theorem dL_law_878 : decode cL_law 878 = .ok (.iadd, 1) := by decide +kernel
theorem dL_law_879 : decode cL_law 879 = .ok (.iaload, 1) := by decide +kernel
theorem dL_law_880 : decode cL_law 880 = .ok (.aload_n 0, 1) := by decide +kernel
theorem dL_law_881 : decode cL_law 881 = .ok (.iload 4, 2) := by decide +kernel
theorem dL_law_883 : decode cL_law 883 = .ok (.iconst 2, 1) := by decide +kernel
theorem dL_law_884 : decode cL_law 884 = .ok (.iadd, 1) := by decide +kernel
theorem dL_law_885 : decode cL_law 885 = .ok (.iaload, 1) := by decide +kernel
theorem dL_law_886 : decode cL_law 886 = .ok (.aload_n 0, 1) := by decide +kernel
theorem dL_law_887 : decode cL_law 887 = .ok (.iload 4, 2) := by decide +kernel
theorem dL_law_889 : decode cL_law 889 = .ok (.iconst 3, 1) := by decide +kernel
theorem dL_law_890 : decode cL_law 890 = .ok (.iadd, 1) := by decide +kernel
theorem dL_law_891 : decode cL_law 891 = .ok (.iaload, 1) := by decide +kernel
theorem dL_law_892 : decode cL_law 892 = .ok (.aload_n 3, 1) := by decide +kernel
theorem dL_law_893 : decode cL_law 893 = .ok (.invokestatic 117, 3) := by decide +kernel
theorem dL_law_896 : decode cL_law 896 = .ok (.istore 5, 2) := by decide +kernel
theorem dL_law_898 : decode cL_law 898 = .ok (.aload_n 2, 1) := by decide +kernel
theorem dL_law_899 : decode cL_law 899 = .ok (.aload_n 0, 1) := by decide +kernel
theorem dL_law_900 : decode cL_law 900 = .ok (.iload 4, 2) := by decide +kernel
theorem dL_law_902 : decode cL_law 902 = .ok (.iconst 1, 1) := by decide +kernel
theorem dL_law_903 : decode cL_law 903 = .ok (.iadd, 1) := by decide +kernel
theorem dL_law_904 : decode cL_law 904 = .ok (.iaload, 1) := by decide +kernel
theorem dL_law_905 : decode cL_law 905 = .ok (.aload_n 0, 1) := by decide +kernel
theorem dL_law_906 : decode cL_law 906 = .ok (.iload 4, 2) := by decide +kernel
theorem dL_law_908 : decode cL_law 908 = .ok (.iconst 2, 1) := by decide +kernel
theorem dL_law_909 : decode cL_law 909 = .ok (.iadd, 1) := by decide +kernel
theorem dL_law_910 : decode cL_law 910 = .ok (.iaload, 1) := by decide +kernel
theorem dL_law_911 : decode cL_law 911 = .ok (.aload_n 0, 1) := by decide +kernel
theorem dL_law_912 : decode cL_law 912 = .ok (.iload 4, 2) := by decide +kernel
theorem dL_law_914 : decode cL_law 914 = .ok (.iconst 3, 1) := by decide +kernel
theorem dL_law_915 : decode cL_law 915 = .ok (.iadd, 1) := by decide +kernel
theorem dL_law_916 : decode cL_law 916 = .ok (.iaload, 1) := by decide +kernel
theorem dL_law_917 : decode cL_law 917 = .ok (.invokevirtual 119, 3) := by decide +kernel
theorem dL_law_920 : decode cL_law 920 = .ok (.istore 6, 2) := by decide +kernel
theorem dL_law_922 : decode cL_law 922 = .ok (.aload_n 2, 1) := by decide +kernel
theorem dL_law_923 : decode cL_law 923 = .ok (.invokevirtual 83, 3) := by decide +kernel
theorem dL_law_926 : decode cL_law 926 = .ok (.iload 5, 2) := by decide +kernel
theorem dL_law_928 : decode cL_law 928 = .ok (.if_icmp .eq 5, 3) := by decide +kernel
theorem dL_law_931 : decode cL_law 931 = .ok (.iconst 0, 1) := by decide +kernel
theorem dL_law_932 : decode cL_law 932 = .ok (.ireturn, 1) := by decide +kernel
theorem dL_law_933 : decode cL_law 933 = .ok (.iload 5, 2) := by decide +kernel
theorem dL_law_935 : decode cL_law 935 = .ok (.ifCond .ne 15, 3) := by decide +kernel
theorem dL_law_938 : decode cL_law 938 = .ok (.aload_n 3, 1) := by decide +kernel
theorem dL_law_939 : decode cL_law 939 = .ok (.iconst 0, 1) := by decide +kernel
theorem dL_law_940 : decode cL_law 940 = .ok (.laload, 1) := by decide +kernel
theorem dL_law_941 : decode cL_law 941 = .ok (.iload 6, 2) := by decide +kernel
theorem dL_law_943 : decode cL_law 943 = .ok (.i2l, 1) := by decide +kernel
theorem dL_law_944 : decode cL_law 944 = .ok (.lcmp, 1) := by decide +kernel
theorem dL_law_945 : decode cL_law 945 = .ok (.ifCond .eq 5, 3) := by decide +kernel
theorem dL_law_948 : decode cL_law 948 = .ok (.iconst 0, 1) := by decide +kernel
theorem dL_law_949 : decode cL_law 949 = .ok (.ireturn, 1) := by decide +kernel
theorem dL_law_950 : decode cL_law 950 = .ok (.goto 455, 3) := by decide +kernel
theorem dL_law_953 : decode cL_law 953 = .ok (.aload_n 1, 1) := by decide +kernel
theorem dL_law_954 : decode cL_law 954 = .ok (.aload_n 0, 1) := by decide +kernel
theorem dL_law_955 : decode cL_law 955 = .ok (.iload 4, 2) := by decide +kernel
theorem dL_law_957 : decode cL_law 957 = .ok (.iconst 1, 1) := by decide +kernel
theorem dL_law_958 : decode cL_law 958 = .ok (.iadd, 1) := by decide +kernel
theorem dL_law_959 : decode cL_law 959 = .ok (.iaload, 1) := by decide +kernel
theorem dL_law_960 : decode cL_law 960 = .ok (.aload_n 3, 1) := by decide +kernel
theorem dL_law_961 : decode cL_law 961 = .ok (.invokestatic 120, 3) := by decide +kernel
theorem dL_law_964 : decode cL_law 964 = .ok (.istore 5, 2) := by decide +kernel
theorem dL_law_966 : decode cL_law 966 = .ok (.aload_n 2, 1) := by decide +kernel
theorem dL_law_967 : decode cL_law 967 = .ok (.aload_n 0, 1) := by decide +kernel
theorem dL_law_968 : decode cL_law 968 = .ok (.iload 4, 2) := by decide +kernel
theorem dL_law_970 : decode cL_law 970 = .ok (.iconst 1, 1) := by decide +kernel
theorem dL_law_971 : decode cL_law 971 = .ok (.iadd, 1) := by decide +kernel
theorem dL_law_972 : decode cL_law 972 = .ok (.iaload, 1) := by decide +kernel
theorem dL_law_973 : decode cL_law 973 = .ok (.invokevirtual 122, 3) := by decide +kernel
theorem dL_law_976 : decode cL_law 976 = .ok (.istore 6, 2) := by decide +kernel
theorem dL_law_978 : decode cL_law 978 = .ok (.aload_n 2, 1) := by decide +kernel
theorem dL_law_979 : decode cL_law 979 = .ok (.invokevirtual 83, 3) := by decide +kernel
theorem dL_law_982 : decode cL_law 982 = .ok (.iload 5, 2) := by decide +kernel
theorem dL_law_984 : decode cL_law 984 = .ok (.if_icmp .eq 5, 3) := by decide +kernel
theorem dL_law_987 : decode cL_law 987 = .ok (.iconst 0, 1) := by decide +kernel
theorem dL_law_988 : decode cL_law 988 = .ok (.ireturn, 1) := by decide +kernel
theorem dL_law_989 : decode cL_law 989 = .ok (.iload 5, 2) := by decide +kernel
theorem dL_law_991 : decode cL_law 991 = .ok (.ifCond .ne 15, 3) := by decide +kernel
theorem dL_law_994 : decode cL_law 994 = .ok (.aload_n 3, 1) := by decide +kernel
theorem dL_law_995 : decode cL_law 995 = .ok (.iconst 0, 1) := by decide +kernel
theorem dL_law_996 : decode cL_law 996 = .ok (.laload, 1) := by decide +kernel
theorem dL_law_997 : decode cL_law 997 = .ok (.iload 6, 2) := by decide +kernel
theorem dL_law_999 : decode cL_law 999 = .ok (.i2l, 1) := by decide +kernel
theorem dL_law_1000 : decode cL_law 1000 = .ok (.lcmp, 1) := by decide +kernel
theorem dL_law_1001 : decode cL_law 1001 = .ok (.ifCond .eq 5, 3) := by decide +kernel
theorem dL_law_1004 : decode cL_law 1004 = .ok (.iconst 0, 1) := by decide +kernel
theorem dL_law_1005 : decode cL_law 1005 = .ok (.ireturn, 1) := by decide +kernel
theorem dL_law_1006 : decode cL_law 1006 = .ok (.goto 399, 3) := by decide +kernel
theorem dL_law_1009 : decode cL_law 1009 = .ok (.aload_n 1, 1) := by decide +kernel
theorem dL_law_1010 : decode cL_law 1010 = .ok (.aload_n 0, 1) := by decide +kernel
theorem dL_law_1011 : decode cL_law 1011 = .ok (.iload 4, 2) := by decide +kernel
theorem dL_law_1013 : decode cL_law 1013 = .ok (.iconst 1, 1) := by decide +kernel
theorem dL_law_1014 : decode cL_law 1014 = .ok (.iadd, 1) := by decide +kernel
theorem dL_law_1015 : decode cL_law 1015 = .ok (.iaload, 1) := by decide +kernel
theorem dL_law_1016 : decode cL_law 1016 = .ok (.aload_n 3, 1) := by decide +kernel
theorem dL_law_1017 : decode cL_law 1017 = .ok (.invokestatic 123, 3) := by decide +kernel
theorem dL_law_1020 : decode cL_law 1020 = .ok (.istore 5, 2) := by decide +kernel
theorem dL_law_1022 : decode cL_law 1022 = .ok (.aload_n 2, 1) := by decide +kernel
theorem dL_law_1023 : decode cL_law 1023 = .ok (.aload_n 0, 1) := by decide +kernel
theorem dL_law_1024 : decode cL_law 1024 = .ok (.iload 4, 2) := by decide +kernel
theorem dL_law_1026 : decode cL_law 1026 = .ok (.iconst 1, 1) := by decide +kernel
theorem dL_law_1027 : decode cL_law 1027 = .ok (.iadd, 1) := by decide +kernel
theorem dL_law_1028 : decode cL_law 1028 = .ok (.iaload, 1) := by decide +kernel
theorem dL_law_1029 : decode cL_law 1029 = .ok (.invokevirtual 125, 3) := by decide +kernel
theorem dL_law_1032 : decode cL_law 1032 = .ok (.istore 6, 2) := by decide +kernel
theorem dL_law_1034 : decode cL_law 1034 = .ok (.aload_n 2, 1) := by decide +kernel
theorem dL_law_1035 : decode cL_law 1035 = .ok (.invokevirtual 83, 3) := by decide +kernel
theorem dL_law_1038 : decode cL_law 1038 = .ok (.iload 5, 2) := by decide +kernel
theorem dL_law_1040 : decode cL_law 1040 = .ok (.if_icmp .eq 5, 3) := by decide +kernel
theorem dL_law_1043 : decode cL_law 1043 = .ok (.iconst 0, 1) := by decide +kernel
theorem dL_law_1044 : decode cL_law 1044 = .ok (.ireturn, 1) := by decide +kernel
theorem dL_law_1045 : decode cL_law 1045 = .ok (.iload 5, 2) := by decide +kernel
theorem dL_law_1047 : decode cL_law 1047 = .ok (.ifCond .ne 15, 3) := by decide +kernel
theorem dL_law_1050 : decode cL_law 1050 = .ok (.aload_n 3, 1) := by decide +kernel
theorem dL_law_1051 : decode cL_law 1051 = .ok (.iconst 0, 1) := by decide +kernel
theorem dL_law_1052 : decode cL_law 1052 = .ok (.laload, 1) := by decide +kernel
theorem dL_law_1053 : decode cL_law 1053 = .ok (.iload 6, 2) := by decide +kernel
theorem dL_law_1055 : decode cL_law 1055 = .ok (.i2l, 1) := by decide +kernel
theorem dL_law_1056 : decode cL_law 1056 = .ok (.lcmp, 1) := by decide +kernel
theorem dL_law_1057 : decode cL_law 1057 = .ok (.ifCond .eq 5, 3) := by decide +kernel
theorem dL_law_1060 : decode cL_law 1060 = .ok (.iconst 0, 1) := by decide +kernel
theorem dL_law_1061 : decode cL_law 1061 = .ok (.ireturn, 1) := by decide +kernel
theorem dL_law_1062 : decode cL_law 1062 = .ok (.goto 343, 3) := by decide +kernel
theorem dL_law_1065 : decode cL_law 1065 = .ok (.aload_n 1, 1) := by decide +kernel
theorem dL_law_1066 : decode cL_law 1066 = .ok (.aload_n 0, 1) := by decide +kernel
theorem dL_law_1067 : decode cL_law 1067 = .ok (.iload 4, 2) := by decide +kernel
theorem dL_law_1069 : decode cL_law 1069 = .ok (.iconst 1, 1) := by decide +kernel
theorem dL_law_1070 : decode cL_law 1070 = .ok (.iadd, 1) := by decide +kernel
theorem dL_law_1071 : decode cL_law 1071 = .ok (.iaload, 1) := by decide +kernel
theorem dL_law_1072 : decode cL_law 1072 = .ok (.aload_n 0, 1) := by decide +kernel
theorem dL_law_1073 : decode cL_law 1073 = .ok (.iload 4, 2) := by decide +kernel
theorem dL_law_1075 : decode cL_law 1075 = .ok (.iconst 2, 1) := by decide +kernel
theorem dL_law_1076 : decode cL_law 1076 = .ok (.iadd, 1) := by decide +kernel
theorem dL_law_1077 : decode cL_law 1077 = .ok (.iaload, 1) := by decide +kernel
theorem dL_law_1078 : decode cL_law 1078 = .ok (.aload_n 3, 1) := by decide +kernel
theorem dL_law_1079 : decode cL_law 1079 = .ok (.invokestatic 126, 3) := by decide +kernel
theorem dL_law_1082 : decode cL_law 1082 = .ok (.istore 5, 2) := by decide +kernel
theorem dL_law_1084 : decode cL_law 1084 = .ok (.aload_n 2, 1) := by decide +kernel
theorem dL_law_1085 : decode cL_law 1085 = .ok (.aload_n 0, 1) := by decide +kernel
theorem dL_law_1086 : decode cL_law 1086 = .ok (.iload 4, 2) := by decide +kernel
theorem dL_law_1088 : decode cL_law 1088 = .ok (.iconst 1, 1) := by decide +kernel
theorem dL_law_1089 : decode cL_law 1089 = .ok (.iadd, 1) := by decide +kernel
theorem dL_law_1090 : decode cL_law 1090 = .ok (.iaload, 1) := by decide +kernel
theorem dL_law_1091 : decode cL_law 1091 = .ok (.aload_n 0, 1) := by decide +kernel
theorem dL_law_1092 : decode cL_law 1092 = .ok (.iload 4, 2) := by decide +kernel
theorem dL_law_1094 : decode cL_law 1094 = .ok (.iconst 2, 1) := by decide +kernel
theorem dL_law_1095 : decode cL_law 1095 = .ok (.iadd, 1) := by decide +kernel
theorem dL_law_1096 : decode cL_law 1096 = .ok (.iaload, 1) := by decide +kernel
theorem dL_law_1097 : decode cL_law 1097 = .ok (.invokevirtual 128, 3) := by decide +kernel
theorem dL_law_1100 : decode cL_law 1100 = .ok (.istore 6, 2) := by decide +kernel
theorem dL_law_1102 : decode cL_law 1102 = .ok (.aload_n 2, 1) := by decide +kernel
theorem dL_law_1103 : decode cL_law 1103 = .ok (.invokevirtual 83, 3) := by decide +kernel
theorem dL_law_1106 : decode cL_law 1106 = .ok (.iload 5, 2) := by decide +kernel
theorem dL_law_1108 : decode cL_law 1108 = .ok (.if_icmp .eq 5, 3) := by decide +kernel
theorem dL_law_1111 : decode cL_law 1111 = .ok (.iconst 0, 1) := by decide +kernel
theorem dL_law_1112 : decode cL_law 1112 = .ok (.ireturn, 1) := by decide +kernel
theorem dL_law_1113 : decode cL_law 1113 = .ok (.iload 5, 2) := by decide +kernel
theorem dL_law_1115 : decode cL_law 1115 = .ok (.ifCond .ne 15, 3) := by decide +kernel
theorem dL_law_1118 : decode cL_law 1118 = .ok (.aload_n 3, 1) := by decide +kernel
theorem dL_law_1119 : decode cL_law 1119 = .ok (.iconst 0, 1) := by decide +kernel
theorem dL_law_1120 : decode cL_law 1120 = .ok (.laload, 1) := by decide +kernel
theorem dL_law_1121 : decode cL_law 1121 = .ok (.iload 6, 2) := by decide +kernel
theorem dL_law_1123 : decode cL_law 1123 = .ok (.i2l, 1) := by decide +kernel
theorem dL_law_1124 : decode cL_law 1124 = .ok (.lcmp, 1) := by decide +kernel
theorem dL_law_1125 : decode cL_law 1125 = .ok (.ifCond .eq 5, 3) := by decide +kernel
theorem dL_law_1128 : decode cL_law 1128 = .ok (.iconst 0, 1) := by decide +kernel
theorem dL_law_1129 : decode cL_law 1129 = .ok (.ireturn, 1) := by decide +kernel
theorem dL_law_1130 : decode cL_law 1130 = .ok (.goto 275, 3) := by decide +kernel
theorem dL_law_1133 : decode cL_law 1133 = .ok (.aload_n 1, 1) := by decide +kernel
theorem dL_law_1134 : decode cL_law 1134 = .ok (.aload_n 0, 1) := by decide +kernel
theorem dL_law_1135 : decode cL_law 1135 = .ok (.iload 4, 2) := by decide +kernel
theorem dL_law_1137 : decode cL_law 1137 = .ok (.iconst 1, 1) := by decide +kernel
theorem dL_law_1138 : decode cL_law 1138 = .ok (.iadd, 1) := by decide +kernel
theorem dL_law_1139 : decode cL_law 1139 = .ok (.iaload, 1) := by decide +kernel
theorem dL_law_1140 : decode cL_law 1140 = .ok (.aload_n 0, 1) := by decide +kernel
theorem dL_law_1141 : decode cL_law 1141 = .ok (.iload 4, 2) := by decide +kernel
theorem dL_law_1143 : decode cL_law 1143 = .ok (.iconst 2, 1) := by decide +kernel
theorem dL_law_1144 : decode cL_law 1144 = .ok (.iadd, 1) := by decide +kernel
theorem dL_law_1145 : decode cL_law 1145 = .ok (.iaload, 1) := by decide +kernel
theorem dL_law_1146 : decode cL_law 1146 = .ok (.aload_n 3, 1) := by decide +kernel
theorem dL_law_1147 : decode cL_law 1147 = .ok (.invokestatic 129, 3) := by decide +kernel
theorem dL_law_1150 : decode cL_law 1150 = .ok (.istore 5, 2) := by decide +kernel
theorem dL_law_1152 : decode cL_law 1152 = .ok (.aload_n 2, 1) := by decide +kernel
theorem dL_law_1153 : decode cL_law 1153 = .ok (.aload_n 0, 1) := by decide +kernel
theorem dL_law_1154 : decode cL_law 1154 = .ok (.iload 4, 2) := by decide +kernel
theorem dL_law_1156 : decode cL_law 1156 = .ok (.iconst 1, 1) := by decide +kernel
theorem dL_law_1157 : decode cL_law 1157 = .ok (.iadd, 1) := by decide +kernel
theorem dL_law_1158 : decode cL_law 1158 = .ok (.iaload, 1) := by decide +kernel
theorem dL_law_1159 : decode cL_law 1159 = .ok (.aload_n 0, 1) := by decide +kernel
theorem dL_law_1160 : decode cL_law 1160 = .ok (.iload 4, 2) := by decide +kernel
theorem dL_law_1162 : decode cL_law 1162 = .ok (.iconst 2, 1) := by decide +kernel
theorem dL_law_1163 : decode cL_law 1163 = .ok (.iadd, 1) := by decide +kernel
theorem dL_law_1164 : decode cL_law 1164 = .ok (.iaload, 1) := by decide +kernel
theorem dL_law_1165 : decode cL_law 1165 = .ok (.invokevirtual 131, 3) := by decide +kernel
theorem dL_law_1168 : decode cL_law 1168 = .ok (.istore 6, 2) := by decide +kernel
theorem dL_law_1170 : decode cL_law 1170 = .ok (.aload_n 2, 1) := by decide +kernel
theorem dL_law_1171 : decode cL_law 1171 = .ok (.invokevirtual 83, 3) := by decide +kernel
theorem dL_law_1174 : decode cL_law 1174 = .ok (.iload 5, 2) := by decide +kernel
theorem dL_law_1176 : decode cL_law 1176 = .ok (.if_icmp .eq 5, 3) := by decide +kernel
theorem dL_law_1179 : decode cL_law 1179 = .ok (.iconst 0, 1) := by decide +kernel
theorem dL_law_1180 : decode cL_law 1180 = .ok (.ireturn, 1) := by decide +kernel
theorem dL_law_1181 : decode cL_law 1181 = .ok (.iload 5, 2) := by decide +kernel
theorem dL_law_1183 : decode cL_law 1183 = .ok (.ifCond .ne 15, 3) := by decide +kernel
theorem dL_law_1186 : decode cL_law 1186 = .ok (.aload_n 3, 1) := by decide +kernel
theorem dL_law_1187 : decode cL_law 1187 = .ok (.iconst 0, 1) := by decide +kernel
theorem dL_law_1188 : decode cL_law 1188 = .ok (.laload, 1) := by decide +kernel
theorem dL_law_1189 : decode cL_law 1189 = .ok (.iload 6, 2) := by decide +kernel
theorem dL_law_1191 : decode cL_law 1191 = .ok (.i2l, 1) := by decide +kernel
theorem dL_law_1192 : decode cL_law 1192 = .ok (.lcmp, 1) := by decide +kernel
theorem dL_law_1193 : decode cL_law 1193 = .ok (.ifCond .eq 5, 3) := by decide +kernel
theorem dL_law_1196 : decode cL_law 1196 = .ok (.iconst 0, 1) := by decide +kernel
theorem dL_law_1197 : decode cL_law 1197 = .ok (.ireturn, 1) := by decide +kernel
theorem dL_law_1198 : decode cL_law 1198 = .ok (.goto 207, 3) := by decide +kernel
theorem dL_law_1201 : decode cL_law 1201 = .ok (.aload_n 1, 1) := by decide +kernel
theorem dL_law_1202 : decode cL_law 1202 = .ok (.aload_n 0, 1) := by decide +kernel
theorem dL_law_1203 : decode cL_law 1203 = .ok (.iload 4, 2) := by decide +kernel
theorem dL_law_1205 : decode cL_law 1205 = .ok (.iconst 1, 1) := by decide +kernel
theorem dL_law_1206 : decode cL_law 1206 = .ok (.iadd, 1) := by decide +kernel
theorem dL_law_1207 : decode cL_law 1207 = .ok (.iaload, 1) := by decide +kernel
theorem dL_law_1208 : decode cL_law 1208 = .ok (.aload_n 0, 1) := by decide +kernel
theorem dL_law_1209 : decode cL_law 1209 = .ok (.iload 4, 2) := by decide +kernel
theorem dL_law_1211 : decode cL_law 1211 = .ok (.iconst 2, 1) := by decide +kernel
theorem dL_law_1212 : decode cL_law 1212 = .ok (.iadd, 1) := by decide +kernel
theorem dL_law_1213 : decode cL_law 1213 = .ok (.iaload, 1) := by decide +kernel
theorem dL_law_1214 : decode cL_law 1214 = .ok (.aload_n 3, 1) := by decide +kernel
theorem dL_law_1215 : decode cL_law 1215 = .ok (.invokestatic 132, 3) := by decide +kernel
theorem dL_law_1218 : decode cL_law 1218 = .ok (.istore 5, 2) := by decide +kernel
theorem dL_law_1220 : decode cL_law 1220 = .ok (.aload_n 2, 1) := by decide +kernel
theorem dL_law_1221 : decode cL_law 1221 = .ok (.aload_n 0, 1) := by decide +kernel
theorem dL_law_1222 : decode cL_law 1222 = .ok (.iload 4, 2) := by decide +kernel
theorem dL_law_1224 : decode cL_law 1224 = .ok (.iconst 1, 1) := by decide +kernel
theorem dL_law_1225 : decode cL_law 1225 = .ok (.iadd, 1) := by decide +kernel
theorem dL_law_1226 : decode cL_law 1226 = .ok (.iaload, 1) := by decide +kernel
theorem dL_law_1227 : decode cL_law 1227 = .ok (.aload_n 0, 1) := by decide +kernel
theorem dL_law_1228 : decode cL_law 1228 = .ok (.iload 4, 2) := by decide +kernel
theorem dL_law_1230 : decode cL_law 1230 = .ok (.iconst 2, 1) := by decide +kernel
theorem dL_law_1231 : decode cL_law 1231 = .ok (.iadd, 1) := by decide +kernel
theorem dL_law_1232 : decode cL_law 1232 = .ok (.iaload, 1) := by decide +kernel
theorem dL_law_1233 : decode cL_law 1233 = .ok (.invokevirtual 134, 3) := by decide +kernel
theorem dL_law_1236 : decode cL_law 1236 = .ok (.istore 6, 2) := by decide +kernel
theorem dL_law_1238 : decode cL_law 1238 = .ok (.aload_n 2, 1) := by decide +kernel
theorem dL_law_1239 : decode cL_law 1239 = .ok (.invokevirtual 83, 3) := by decide +kernel
theorem dL_law_1242 : decode cL_law 1242 = .ok (.iload 5, 2) := by decide +kernel
theorem dL_law_1244 : decode cL_law 1244 = .ok (.if_icmp .eq 5, 3) := by decide +kernel
theorem dL_law_1247 : decode cL_law 1247 = .ok (.iconst 0, 1) := by decide +kernel
theorem dL_law_1248 : decode cL_law 1248 = .ok (.ireturn, 1) := by decide +kernel
theorem dL_law_1249 : decode cL_law 1249 = .ok (.iload 5, 2) := by decide +kernel
theorem dL_law_1251 : decode cL_law 1251 = .ok (.ifCond .ne 15, 3) := by decide +kernel
theorem dL_law_1254 : decode cL_law 1254 = .ok (.aload_n 3, 1) := by decide +kernel
theorem dL_law_1255 : decode cL_law 1255 = .ok (.iconst 0, 1) := by decide +kernel
theorem dL_law_1256 : decode cL_law 1256 = .ok (.laload, 1) := by decide +kernel
theorem dL_law_1257 : decode cL_law 1257 = .ok (.iload 6, 2) := by decide +kernel
theorem dL_law_1259 : decode cL_law 1259 = .ok (.i2l, 1) := by decide +kernel
theorem dL_law_1260 : decode cL_law 1260 = .ok (.lcmp, 1) := by decide +kernel
theorem dL_law_1261 : decode cL_law 1261 = .ok (.ifCond .eq 5, 3) := by decide +kernel
theorem dL_law_1264 : decode cL_law 1264 = .ok (.iconst 0, 1) := by decide +kernel
theorem dL_law_1265 : decode cL_law 1265 = .ok (.ireturn, 1) := by decide +kernel
theorem dL_law_1266 : decode cL_law 1266 = .ok (.goto 139, 3) := by decide +kernel
theorem dL_law_1269 : decode cL_law 1269 = .ok (.aload_n 1, 1) := by decide +kernel
theorem dL_law_1270 : decode cL_law 1270 = .ok (.aload_n 0, 1) := by decide +kernel
theorem dL_law_1271 : decode cL_law 1271 = .ok (.iload 4, 2) := by decide +kernel
theorem dL_law_1273 : decode cL_law 1273 = .ok (.iconst 1, 1) := by decide +kernel
theorem dL_law_1274 : decode cL_law 1274 = .ok (.iadd, 1) := by decide +kernel
theorem dL_law_1275 : decode cL_law 1275 = .ok (.iaload, 1) := by decide +kernel
theorem dL_law_1276 : decode cL_law 1276 = .ok (.aload_n 0, 1) := by decide +kernel
theorem dL_law_1277 : decode cL_law 1277 = .ok (.iload 4, 2) := by decide +kernel
theorem dL_law_1279 : decode cL_law 1279 = .ok (.iconst 2, 1) := by decide +kernel
theorem dL_law_1280 : decode cL_law 1280 = .ok (.iadd, 1) := by decide +kernel
theorem dL_law_1281 : decode cL_law 1281 = .ok (.iaload, 1) := by decide +kernel
theorem dL_law_1282 : decode cL_law 1282 = .ok (.aload_n 0, 1) := by decide +kernel
theorem dL_law_1283 : decode cL_law 1283 = .ok (.iload 4, 2) := by decide +kernel
theorem dL_law_1285 : decode cL_law 1285 = .ok (.iconst 3, 1) := by decide +kernel
theorem dL_law_1286 : decode cL_law 1286 = .ok (.iadd, 1) := by decide +kernel
theorem dL_law_1287 : decode cL_law 1287 = .ok (.iaload, 1) := by decide +kernel
theorem dL_law_1288 : decode cL_law 1288 = .ok (.aload_n 3, 1) := by decide +kernel
theorem dL_law_1289 : decode cL_law 1289 = .ok (.invokestatic 135, 3) := by decide +kernel
theorem dL_law_1292 : decode cL_law 1292 = .ok (.istore 5, 2) := by decide +kernel
theorem dL_law_1294 : decode cL_law 1294 = .ok (.aload_n 2, 1) := by decide +kernel
theorem dL_law_1295 : decode cL_law 1295 = .ok (.aload_n 0, 1) := by decide +kernel
theorem dL_law_1296 : decode cL_law 1296 = .ok (.iload 4, 2) := by decide +kernel
theorem dL_law_1298 : decode cL_law 1298 = .ok (.iconst 1, 1) := by decide +kernel
theorem dL_law_1299 : decode cL_law 1299 = .ok (.iadd, 1) := by decide +kernel
theorem dL_law_1300 : decode cL_law 1300 = .ok (.iaload, 1) := by decide +kernel
theorem dL_law_1301 : decode cL_law 1301 = .ok (.aload_n 0, 1) := by decide +kernel
theorem dL_law_1302 : decode cL_law 1302 = .ok (.iload 4, 2) := by decide +kernel
theorem dL_law_1304 : decode cL_law 1304 = .ok (.iconst 2, 1) := by decide +kernel
theorem dL_law_1305 : decode cL_law 1305 = .ok (.iadd, 1) := by decide +kernel
theorem dL_law_1306 : decode cL_law 1306 = .ok (.iaload, 1) := by decide +kernel
theorem dL_law_1307 : decode cL_law 1307 = .ok (.aload_n 0, 1) := by decide +kernel
theorem dL_law_1308 : decode cL_law 1308 = .ok (.iload 4, 2) := by decide +kernel
theorem dL_law_1310 : decode cL_law 1310 = .ok (.iconst 3, 1) := by decide +kernel
theorem dL_law_1311 : decode cL_law 1311 = .ok (.iadd, 1) := by decide +kernel
theorem dL_law_1312 : decode cL_law 1312 = .ok (.iaload, 1) := by decide +kernel
theorem dL_law_1313 : decode cL_law 1313 = .ok (.invokevirtual 137, 3) := by decide +kernel
theorem dL_law_1316 : decode cL_law 1316 = .ok (.istore 6, 2) := by decide +kernel
theorem dL_law_1318 : decode cL_law 1318 = .ok (.aload_n 2, 1) := by decide +kernel
theorem dL_law_1319 : decode cL_law 1319 = .ok (.invokevirtual 83, 3) := by decide +kernel
theorem dL_law_1322 : decode cL_law 1322 = .ok (.iload 5, 2) := by decide +kernel
theorem dL_law_1324 : decode cL_law 1324 = .ok (.if_icmp .eq 5, 3) := by decide +kernel
theorem dL_law_1327 : decode cL_law 1327 = .ok (.iconst 0, 1) := by decide +kernel
theorem dL_law_1328 : decode cL_law 1328 = .ok (.ireturn, 1) := by decide +kernel
theorem dL_law_1329 : decode cL_law 1329 = .ok (.iload 5, 2) := by decide +kernel
theorem dL_law_1331 : decode cL_law 1331 = .ok (.ifCond .ne 15, 3) := by decide +kernel
theorem dL_law_1334 : decode cL_law 1334 = .ok (.aload_n 3, 1) := by decide +kernel
theorem dL_law_1335 : decode cL_law 1335 = .ok (.iconst 0, 1) := by decide +kernel
theorem dL_law_1336 : decode cL_law 1336 = .ok (.laload, 1) := by decide +kernel
theorem dL_law_1337 : decode cL_law 1337 = .ok (.iload 6, 2) := by decide +kernel
theorem dL_law_1339 : decode cL_law 1339 = .ok (.i2l, 1) := by decide +kernel
theorem dL_law_1340 : decode cL_law 1340 = .ok (.lcmp, 1) := by decide +kernel
theorem dL_law_1341 : decode cL_law 1341 = .ok (.ifCond .eq 5, 3) := by decide +kernel
theorem dL_law_1344 : decode cL_law 1344 = .ok (.iconst 0, 1) := by decide +kernel
theorem dL_law_1345 : decode cL_law 1345 = .ok (.ireturn, 1) := by decide +kernel
theorem dL_law_1346 : decode cL_law 1346 = .ok (.goto 59, 3) := by decide +kernel
theorem dL_law_1349 : decode cL_law 1349 = .ok (.aload_n 1, 1) := by decide +kernel
theorem dL_law_1350 : decode cL_law 1350 = .ok (.aload_n 0, 1) := by decide +kernel
theorem dL_law_1351 : decode cL_law 1351 = .ok (.iload 4, 2) := by decide +kernel
theorem dL_law_1353 : decode cL_law 1353 = .ok (.iconst 1, 1) := by decide +kernel
theorem dL_law_1354 : decode cL_law 1354 = .ok (.iadd, 1) := by decide +kernel
theorem dL_law_1355 : decode cL_law 1355 = .ok (.iaload, 1) := by decide +kernel
theorem dL_law_1356 : decode cL_law 1356 = .ok (.aload_n 3, 1) := by decide +kernel
theorem dL_law_1357 : decode cL_law 1357 = .ok (.invokestatic 138, 3) := by decide +kernel
theorem dL_law_1360 : decode cL_law 1360 = .ok (.istore 5, 2) := by decide +kernel
theorem dL_law_1362 : decode cL_law 1362 = .ok (.aload_n 2, 1) := by decide +kernel
theorem dL_law_1363 : decode cL_law 1363 = .ok (.aload_n 0, 1) := by decide +kernel
theorem dL_law_1364 : decode cL_law 1364 = .ok (.iload 4, 2) := by decide +kernel
theorem dL_law_1366 : decode cL_law 1366 = .ok (.iconst 1, 1) := by decide +kernel
theorem dL_law_1367 : decode cL_law 1367 = .ok (.iadd, 1) := by decide +kernel
theorem dL_law_1368 : decode cL_law 1368 = .ok (.iaload, 1) := by decide +kernel
theorem dL_law_1369 : decode cL_law 1369 = .ok (.invokevirtual 140, 3) := by decide +kernel
theorem dL_law_1372 : decode cL_law 1372 = .ok (.istore 6, 2) := by decide +kernel
theorem dL_law_1374 : decode cL_law 1374 = .ok (.aload_n 2, 1) := by decide +kernel
theorem dL_law_1375 : decode cL_law 1375 = .ok (.invokevirtual 83, 3) := by decide +kernel
theorem dL_law_1378 : decode cL_law 1378 = .ok (.iload 5, 2) := by decide +kernel
theorem dL_law_1380 : decode cL_law 1380 = .ok (.if_icmp .eq 5, 3) := by decide +kernel
theorem dL_law_1383 : decode cL_law 1383 = .ok (.iconst 0, 1) := by decide +kernel
theorem dL_law_1384 : decode cL_law 1384 = .ok (.ireturn, 1) := by decide +kernel
theorem dL_law_1385 : decode cL_law 1385 = .ok (.iload 5, 2) := by decide +kernel
theorem dL_law_1387 : decode cL_law 1387 = .ok (.ifCond .ne 15, 3) := by decide +kernel
theorem dL_law_1390 : decode cL_law 1390 = .ok (.aload_n 3, 1) := by decide +kernel
theorem dL_law_1391 : decode cL_law 1391 = .ok (.iconst 0, 1) := by decide +kernel
theorem dL_law_1392 : decode cL_law 1392 = .ok (.laload, 1) := by decide +kernel
theorem dL_law_1393 : decode cL_law 1393 = .ok (.iload 6, 2) := by decide +kernel
theorem dL_law_1395 : decode cL_law 1395 = .ok (.i2l, 1) := by decide +kernel
theorem dL_law_1396 : decode cL_law 1396 = .ok (.lcmp, 1) := by decide +kernel
theorem dL_law_1397 : decode cL_law 1397 = .ok (.ifCond .eq 5, 3) := by decide +kernel
theorem dL_law_1400 : decode cL_law 1400 = .ok (.iconst 0, 1) := by decide +kernel
theorem dL_law_1401 : decode cL_law 1401 = .ok (.ireturn, 1) := by decide +kernel
theorem dL_law_1402 : decode cL_law 1402 = .ok (.goto 3, 3) := by decide +kernel
theorem dL_law_1405 : decode cL_law 1405 = .ok (.iinc 4 6, 3) := by decide +kernel
theorem dL_law_1408 : decode cL_law 1408 = .ok (.goto (-1385), 3) := by decide +kernel
theorem dL_law_1411 : decode cL_law 1411 = .ok (.iconst 1, 1) := by decide +kernel
theorem dL_law_1412 : decode cL_law 1412 = .ok (.ireturn, 1) := by decide +kernel
