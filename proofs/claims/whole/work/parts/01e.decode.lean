theorem dX8_init_0 : decode cX8_init 0 = .ok (.aload_n 0, 1) := by decide +kernel
theorem dX8_init_1 : decode cX8_init 1 = .ok (.invokespecial 3, 3) := by decide +kernel
theorem dX8_init_4 : decode cX8_init 4 = .ok (.aload_n 0, 1) := by decide +kernel
theorem dX8_init_5 : decode cX8_init 5 = .ok (.aload_n 1, 1) := by decide +kernel
theorem dX8_init_6 : decode cX8_init 6 = .ok (.invokevirtual 9, 3) := by decide +kernel
theorem dX8_init_9 : decode cX8_init 9 = .ok (.putfield 15, 3) := by decide +kernel
theorem dX8_init_12 : decode cX8_init 12 = .ok (.aload_n 0, 1) := by decide +kernel
theorem dX8_init_13 : decode cX8_init 13 = .ok (.aload_n 0, 1) := by decide +kernel
theorem dX8_init_14 : decode cX8_init 14 = .ok (.getfield 15, 3) := by decide +kernel
theorem dX8_init_17 : decode cX8_init 17 = .ok (.arraylength, 1) := by decide +kernel
theorem dX8_init_18 : decode cX8_init 18 = .ok (.newarray .int, 2) := by decide +kernel
theorem dX8_init_20 : decode cX8_init 20 = .ok (.putfield 20, 3) := by decide +kernel
theorem dX8_init_23 : decode cX8_init 23 = .ok (.iconst 1, 1) := by decide +kernel
theorem dX8_init_24 : decode cX8_init 24 = .ok (.istore_n 2, 1) := by decide +kernel
theorem dX8_init_25 : decode cX8_init 25 = .ok (.aload_n 0, 1) := by decide +kernel
theorem dX8_init_26 : decode cX8_init 26 = .ok (.getfield 15, 3) := by decide +kernel
theorem dX8_init_29 : decode cX8_init 29 = .ok (.arraylength, 1) := by decide +kernel
theorem dX8_init_30 : decode cX8_init 30 = .ok (.iconst 1, 1) := by decide +kernel
theorem dX8_init_31 : decode cX8_init 31 = .ok (.isub, 1) := by decide +kernel
theorem dX8_init_32 : decode cX8_init 32 = .ok (.istore_n 3, 1) := by decide +kernel
theorem dX8_init_33 : decode cX8_init 33 = .ok (.iload_n 3, 1) := by decide +kernel
theorem dX8_init_34 : decode cX8_init 34 = .ok (.ifCond .lt 27, 3) := by decide +kernel
theorem dX8_init_37 : decode cX8_init 37 = .ok (.aload_n 0, 1) := by decide +kernel
theorem dX8_init_38 : decode cX8_init 38 = .ok (.getfield 20, 3) := by decide +kernel
theorem dX8_init_41 : decode cX8_init 41 = .ok (.iload_n 3, 1) := by decide +kernel
theorem dX8_init_42 : decode cX8_init 42 = .ok (.iload_n 2, 1) := by decide +kernel
theorem dX8_init_43 : decode cX8_init 43 = .ok (.iastore, 1) := by decide +kernel
theorem dX8_init_44 : decode cX8_init 44 = .ok (.iload_n 2, 1) := by decide +kernel
theorem dX8_init_45 : decode cX8_init 45 = .ok (.aload_n 0, 1) := by decide +kernel
theorem dX8_init_46 : decode cX8_init 46 = .ok (.getfield 15, 3) := by decide +kernel
theorem dX8_init_49 : decode cX8_init 49 = .ok (.iload_n 3, 1) := by decide +kernel
theorem dX8_init_50 : decode cX8_init 50 = .ok (.iaload, 1) := by decide +kernel
theorem dX8_init_51 : decode cX8_init 51 = .ok (.iconst 1, 1) := by decide +kernel
theorem dX8_init_52 : decode cX8_init 52 = .ok (.iadd, 1) := by decide +kernel
theorem dX8_init_53 : decode cX8_init 53 = .ok (.imul, 1) := by decide +kernel
theorem dX8_init_54 : decode cX8_init 54 = .ok (.istore_n 2, 1) := by decide +kernel
theorem dX8_init_55 : decode cX8_init 55 = .ok (.iinc 3 (-1), 3) := by decide +kernel
theorem dX8_init_58 : decode cX8_init 58 = .ok (.goto (-25), 3) := by decide +kernel
theorem dX8_init_61 : decode cX8_init 61 = .ok (.aload_n 0, 1) := by decide +kernel
theorem dX8_init_62 : decode cX8_init 62 = .ok (.iload_n 2, 1) := by decide +kernel
theorem dX8_init_63 : decode cX8_init 63 = .ok (.putfield 23, 3) := by decide +kernel
theorem dX8_init_66 : decode cX8_init 66 = .ok (.aload_n 0, 1) := by decide +kernel
theorem dX8_init_67 : decode cX8_init 67 = .ok (.aload_n 0, 1) := by decide +kernel
theorem dX8_init_68 : decode cX8_init 68 = .ok (.getfield 15, 3) := by decide +kernel
theorem dX8_init_71 : decode cX8_init 71 = .ok (.arraylength, 1) := by decide +kernel
theorem dX8_init_72 : decode cX8_init 72 = .ok (.aload_n 0, 1) := by decide +kernel
theorem dX8_init_73 : decode cX8_init 73 = .ok (.getfield 23, 3) := by decide +kernel
theorem dX8_init_76 : decode cX8_init 76 = .ok (.multianewarray 27 2, 4) := by decide +kernel
theorem dX8_init_80 : decode cX8_init 80 = .ok (.putfield 29, 3) := by decide +kernel
theorem dX8_init_83 : decode cX8_init 83 = .ok (.aload_n 0, 1) := by decide +kernel
theorem dX8_init_84 : decode cX8_init 84 = .ok (.aload_n 0, 1) := by decide +kernel
theorem dX8_init_85 : decode cX8_init 85 = .ok (.getfield 23, 3) := by decide +kernel
theorem dX8_init_88 : decode cX8_init 88 = .ok (.newarray .int, 2) := by decide +kernel
theorem dX8_init_90 : decode cX8_init 90 = .ok (.putfield 32, 3) := by decide +kernel
theorem dX8_init_93 : decode cX8_init 93 = .ok (.aload_n 0, 1) := by decide +kernel
theorem dX8_init_94 : decode cX8_init 94 = .ok (.aload_n 0, 1) := by decide +kernel
theorem dX8_init_95 : decode cX8_init 95 = .ok (.getfield 23, 3) := by decide +kernel
theorem dX8_init_98 : decode cX8_init 98 = .ok (.newarray .int, 2) := by decide +kernel
theorem dX8_init_100 : decode cX8_init 100 = .ok (.putfield 35, 3) := by decide +kernel
theorem dX8_init_103 : decode cX8_init 103 = .ok (.aload_n 0, 1) := by decide +kernel
theorem dX8_init_104 : decode cX8_init 104 = .ok (.aload_n 0, 1) := by decide +kernel
theorem dX8_init_105 : decode cX8_init 105 = .ok (.getfield 23, 3) := by decide +kernel
theorem dX8_init_108 : decode cX8_init 108 = .ok (.newarray .int, 2) := by decide +kernel
theorem dX8_init_110 : decode cX8_init 110 = .ok (.putfield 38, 3) := by decide +kernel
theorem dX8_init_113 : decode cX8_init 113 = .ok (.aload_n 0, 1) := by decide +kernel
theorem dX8_init_114 : decode cX8_init 114 = .ok (.aload_n 0, 1) := by decide +kernel
theorem dX8_init_115 : decode cX8_init 115 = .ok (.getfield 23, 3) := by decide +kernel
theorem dX8_init_118 : decode cX8_init 118 = .ok (.newarray .int, 2) := by decide +kernel
theorem dX8_init_120 : decode cX8_init 120 = .ok (.putfield 41, 3) := by decide +kernel
theorem dX8_init_123 : decode cX8_init 123 = .ok (.aload_n 0, 1) := by decide +kernel
theorem dX8_init_124 : decode cX8_init 124 = .ok (.aload_n 1, 1) := by decide +kernel
theorem dX8_init_125 : decode cX8_init 125 = .ok (.getfield 44, 3) := by decide +kernel
theorem dX8_init_128 : decode cX8_init 128 = .ok (.newarray .boolean, 2) := by decide +kernel
theorem dX8_init_130 : decode cX8_init 130 = .ok (.putfield 47, 3) := by decide +kernel
theorem dX8_init_133 : decode cX8_init 133 = .ok (.aload_n 0, 1) := by decide +kernel
theorem dX8_init_134 : decode cX8_init 134 = .ok (.iconst 0, 1) := by decide +kernel
theorem dX8_init_135 : decode cX8_init 135 = .ok (.putfield 51, 3) := by decide +kernel
theorem dX8_init_138 : decode cX8_init 138 = .ok (.return_, 1) := by decide +kernel
theorem dX8_fillTerms_0 : decode cX8_fillTerms 0 = .ok (.aload_n 0, 1) := by decide +kernel
theorem dX8_fillTerms_1 : decode cX8_fillTerms 1 = .ok (.getfield 15, 3) := by decide +kernel
theorem dX8_fillTerms_4 : decode cX8_fillTerms 4 = .ok (.arraylength, 1) := by decide +kernel
theorem dX8_fillTerms_5 : decode cX8_fillTerms 5 = .ok (.newarray .int, 2) := by decide +kernel
theorem dX8_fillTerms_7 : decode cX8_fillTerms 7 = .ok (.astore_n 1, 1) := by decide +kernel
theorem dX8_fillTerms_8 : decode cX8_fillTerms 8 = .ok (.iconst 0, 1) := by decide +kernel
theorem dX8_fillTerms_9 : decode cX8_fillTerms 9 = .ok (.istore_n 2, 1) := by decide +kernel
theorem dX8_fillTerms_10 : decode cX8_fillTerms 10 = .ok (.iload_n 2, 1) := by decide +kernel
theorem dX8_fillTerms_11 : decode cX8_fillTerms 11 = .ok (.aload_n 0, 1) := by decide +kernel
theorem dX8_fillTerms_12 : decode cX8_fillTerms 12 = .ok (.getfield 15, 3) := by decide +kernel
theorem dX8_fillTerms_15 : decode cX8_fillTerms 15 = .ok (.arraylength, 1) := by decide +kernel
theorem dX8_fillTerms_16 : decode cX8_fillTerms 16 = .ok (.if_icmp .ge 20, 3) := by decide +kernel
theorem dX8_fillTerms_19 : decode cX8_fillTerms 19 = .ok (.aload_n 1, 1) := by decide +kernel
theorem dX8_fillTerms_20 : decode cX8_fillTerms 20 = .ok (.iload_n 2, 1) := by decide +kernel
theorem dX8_fillTerms_21 : decode cX8_fillTerms 21 = .ok (.aload_n 0, 1) := by decide +kernel
theorem dX8_fillTerms_22 : decode cX8_fillTerms 22 = .ok (.getfield 15, 3) := by decide +kernel
theorem dX8_fillTerms_25 : decode cX8_fillTerms 25 = .ok (.iload_n 2, 1) := by decide +kernel
theorem dX8_fillTerms_26 : decode cX8_fillTerms 26 = .ok (.iaload, 1) := by decide +kernel
theorem dX8_fillTerms_27 : decode cX8_fillTerms 27 = .ok (.iconst 1, 1) := by decide +kernel
theorem dX8_fillTerms_28 : decode cX8_fillTerms 28 = .ok (.iadd, 1) := by decide +kernel
theorem dX8_fillTerms_29 : decode cX8_fillTerms 29 = .ok (.iastore, 1) := by decide +kernel
theorem dX8_fillTerms_30 : decode cX8_fillTerms 30 = .ok (.iinc 2 1, 3) := by decide +kernel
theorem dX8_fillTerms_33 : decode cX8_fillTerms 33 = .ok (.goto (-23), 3) := by decide +kernel
theorem dX8_fillTerms_36 : decode cX8_fillTerms 36 = .ok (.aload_n 0, 1) := by decide +kernel
theorem dX8_fillTerms_37 : decode cX8_fillTerms 37 = .ok (.getfield 15, 3) := by decide +kernel
theorem dX8_fillTerms_40 : decode cX8_fillTerms 40 = .ok (.arraylength, 1) := by decide +kernel
theorem dX8_fillTerms_41 : decode cX8_fillTerms 41 = .ok (.newarray .int, 2) := by decide +kernel
theorem dX8_fillTerms_43 : decode cX8_fillTerms 43 = .ok (.astore_n 2, 1) := by decide +kernel
theorem dX8_fillTerms_44 : decode cX8_fillTerms 44 = .ok (.iconst 0, 1) := by decide +kernel
theorem dX8_fillTerms_45 : decode cX8_fillTerms 45 = .ok (.istore_n 3, 1) := by decide +kernel
theorem dX8_fillTerms_46 : decode cX8_fillTerms 46 = .ok (.iconst 0, 1) := by decide +kernel
theorem dX8_fillTerms_47 : decode cX8_fillTerms 47 = .ok (.istore 4, 2) := by decide +kernel
theorem dX8_fillTerms_49 : decode cX8_fillTerms 49 = .ok (.iload 4, 2) := by decide +kernel
theorem dX8_fillTerms_51 : decode cX8_fillTerms 51 = .ok (.aload_n 0, 1) := by decide +kernel
theorem dX8_fillTerms_52 : decode cX8_fillTerms 52 = .ok (.getfield 23, 3) := by decide +kernel
theorem dX8_fillTerms_55 : decode cX8_fillTerms 55 = .ok (.if_icmp .ge 106, 3) := by decide +kernel
theorem dX8_fillTerms_58 : decode cX8_fillTerms 58 = .ok (.iconst 0, 1) := by decide +kernel
theorem dX8_fillTerms_59 : decode cX8_fillTerms 59 = .ok (.istore 5, 2) := by decide +kernel
theorem dX8_fillTerms_61 : decode cX8_fillTerms 61 = .ok (.iload 5, 2) := by decide +kernel
theorem dX8_fillTerms_63 : decode cX8_fillTerms 63 = .ok (.aload_n 0, 1) := by decide +kernel
theorem dX8_fillTerms_64 : decode cX8_fillTerms 64 = .ok (.getfield 15, 3) := by decide +kernel
theorem dX8_fillTerms_67 : decode cX8_fillTerms 67 = .ok (.arraylength, 1) := by decide +kernel
theorem dX8_fillTerms_68 : decode cX8_fillTerms 68 = .ok (.if_icmp .ge 48, 3) := by decide +kernel
theorem dX8_fillTerms_71 : decode cX8_fillTerms 71 = .ok (.aload_n 0, 1) := by decide +kernel
theorem dX8_fillTerms_72 : decode cX8_fillTerms 72 = .ok (.getfield 29, 3) := by decide +kernel
theorem dX8_fillTerms_75 : decode cX8_fillTerms 75 = .ok (.iload 5, 2) := by decide +kernel
theorem dX8_fillTerms_77 : decode cX8_fillTerms 77 = .ok (.aaload, 1) := by decide +kernel
theorem dX8_fillTerms_78 : decode cX8_fillTerms 78 = .ok (.iload 4, 2) := by decide +kernel
theorem dX8_fillTerms_80 : decode cX8_fillTerms 80 = .ok (.aload_n 2, 1) := by decide +kernel
theorem dX8_fillTerms_81 : decode cX8_fillTerms 81 = .ok (.iload 5, 2) := by decide +kernel
theorem dX8_fillTerms_83 : decode cX8_fillTerms 83 = .ok (.iaload, 1) := by decide +kernel
theorem dX8_fillTerms_84 : decode cX8_fillTerms 84 = .ok (.iastore, 1) := by decide +kernel
theorem dX8_fillTerms_85 : decode cX8_fillTerms 85 = .ok (.aload_n 2, 1) := by decide +kernel
theorem dX8_fillTerms_86 : decode cX8_fillTerms 86 = .ok (.iload 5, 2) := by decide +kernel
theorem dX8_fillTerms_88 : decode cX8_fillTerms 88 = .ok (.iaload, 1) := by decide +kernel
theorem dX8_fillTerms_89 : decode cX8_fillTerms 89 = .ok (.aload_n 0, 1) := by decide +kernel
theorem dX8_fillTerms_90 : decode cX8_fillTerms 90 = .ok (.getfield 15, 3) := by decide +kernel
theorem dX8_fillTerms_93 : decode cX8_fillTerms 93 = .ok (.iload 5, 2) := by decide +kernel
theorem dX8_fillTerms_95 : decode cX8_fillTerms 95 = .ok (.iaload, 1) := by decide +kernel
theorem dX8_fillTerms_96 : decode cX8_fillTerms 96 = .ok (.if_icmp .ge 14, 3) := by decide +kernel
theorem dX8_fillTerms_99 : decode cX8_fillTerms 99 = .ok (.aload_n 0, 1) := by decide +kernel
theorem dX8_fillTerms_100 : decode cX8_fillTerms 100 = .ok (.getfield 32, 3) := by decide +kernel
theorem dX8_fillTerms_103 : decode cX8_fillTerms 103 = .ok (.iload 4, 2) := by decide +kernel
theorem dX8_fillTerms_105 : decode cX8_fillTerms 105 = .ok (.dup2, 1) := by decide +kernel
theorem dX8_fillTerms_106 : decode cX8_fillTerms 106 = .ok (.iaload, 1) := by decide +kernel
theorem dX8_fillTerms_107 : decode cX8_fillTerms 107 = .ok (.iconst 1, 1) := by decide +kernel
theorem dX8_fillTerms_108 : decode cX8_fillTerms 108 = .ok (.iadd, 1) := by decide +kernel
theorem dX8_fillTerms_109 : decode cX8_fillTerms 109 = .ok (.iastore, 1) := by decide +kernel
theorem dX8_fillTerms_110 : decode cX8_fillTerms 110 = .ok (.iinc 5 1, 3) := by decide +kernel
theorem dX8_fillTerms_113 : decode cX8_fillTerms 113 = .ok (.goto (-52), 3) := by decide +kernel
theorem dX8_fillTerms_116 : decode cX8_fillTerms 116 = .ok (.aload_n 0, 1) := by decide +kernel
theorem dX8_fillTerms_117 : decode cX8_fillTerms 117 = .ok (.getfield 35, 3) := by decide +kernel
theorem dX8_fillTerms_120 : decode cX8_fillTerms 120 = .ok (.iload 4, 2) := by decide +kernel
theorem dX8_fillTerms_122 : decode cX8_fillTerms 122 = .ok (.iconst (-1), 1) := by decide +kernel
theorem dX8_fillTerms_123 : decode cX8_fillTerms 123 = .ok (.iastore, 1) := by decide +kernel
theorem dX8_fillTerms_124 : decode cX8_fillTerms 124 = .ok (.aload_n 0, 1) := by decide +kernel
theorem dX8_fillTerms_125 : decode cX8_fillTerms 125 = .ok (.getfield 32, 3) := by decide +kernel
theorem dX8_fillTerms_128 : decode cX8_fillTerms 128 = .ok (.iload 4, 2) := by decide +kernel
theorem dX8_fillTerms_130 : decode cX8_fillTerms 130 = .ok (.iaload, 1) := by decide +kernel
theorem dX8_fillTerms_131 : decode cX8_fillTerms 131 = .ok (.aload_n 0, 1) := by decide +kernel
theorem dX8_fillTerms_132 : decode cX8_fillTerms 132 = .ok (.getfield 15, 3) := by decide +kernel
theorem dX8_fillTerms_135 : decode cX8_fillTerms 135 = .ok (.arraylength, 1) := by decide +kernel
theorem dX8_fillTerms_136 : decode cX8_fillTerms 136 = .ok (.if_icmp .ne 14, 3) := by decide +kernel
theorem dX8_fillTerms_139 : decode cX8_fillTerms 139 = .ok (.aload_n 0, 1) := by decide +kernel
theorem dX8_fillTerms_140 : decode cX8_fillTerms 140 = .ok (.getfield 35, 3) := by decide +kernel
theorem dX8_fillTerms_143 : decode cX8_fillTerms 143 = .ok (.iload 4, 2) := by decide +kernel
theorem dX8_fillTerms_145 : decode cX8_fillTerms 145 = .ok (.iload_n 3, 1) := by decide +kernel
theorem dX8_fillTerms_146 : decode cX8_fillTerms 146 = .ok (.iastore, 1) := by decide +kernel
theorem dX8_fillTerms_147 : decode cX8_fillTerms 147 = .ok (.iinc 3 1, 3) := by decide +kernel
theorem dX8_fillTerms_150 : decode cX8_fillTerms 150 = .ok (.aload_n 2, 1) := by decide +kernel
theorem dX8_fillTerms_151 : decode cX8_fillTerms 151 = .ok (.aload_n 1, 1) := by decide +kernel
theorem dX8_fillTerms_152 : decode cX8_fillTerms 152 = .ok (.invokestatic 54, 3) := by decide +kernel
theorem dX8_fillTerms_155 : decode cX8_fillTerms 155 = .ok (.iinc 4 1, 3) := by decide +kernel
theorem dX8_fillTerms_158 : decode cX8_fillTerms 158 = .ok (.goto (-109), 3) := by decide +kernel
theorem dX8_fillTerms_161 : decode cX8_fillTerms 161 = .ok (.return_, 1) := by decide +kernel
theorem dX8_firstAny_0 : decode cX8_firstAny 0 = .ok (.iconst 0, 1) := by decide +kernel
theorem dX8_firstAny_1 : decode cX8_firstAny 1 = .ok (.istore_n 2, 1) := by decide +kernel
theorem dX8_firstAny_2 : decode cX8_firstAny 2 = .ok (.iload_n 2, 1) := by decide +kernel
theorem dX8_firstAny_3 : decode cX8_firstAny 3 = .ok (.aload_n 0, 1) := by decide +kernel
theorem dX8_firstAny_4 : decode cX8_firstAny 4 = .ok (.getfield 15, 3) := by decide +kernel
theorem dX8_firstAny_7 : decode cX8_firstAny 7 = .ok (.arraylength, 1) := by decide +kernel
theorem dX8_firstAny_8 : decode cX8_firstAny 8 = .ok (.if_icmp .ge 28, 3) := by decide +kernel
theorem dX8_firstAny_11 : decode cX8_firstAny 11 = .ok (.aload_n 0, 1) := by decide +kernel
theorem dX8_firstAny_12 : decode cX8_firstAny 12 = .ok (.getfield 29, 3) := by decide +kernel
theorem dX8_firstAny_15 : decode cX8_firstAny 15 = .ok (.iload_n 2, 1) := by decide +kernel
theorem dX8_firstAny_16 : decode cX8_firstAny 16 = .ok (.aaload, 1) := by decide +kernel
theorem dX8_firstAny_17 : decode cX8_firstAny 17 = .ok (.iload_n 1, 1) := by decide +kernel
theorem dX8_firstAny_18 : decode cX8_firstAny 18 = .ok (.iaload, 1) := by decide +kernel
theorem dX8_firstAny_19 : decode cX8_firstAny 19 = .ok (.aload_n 0, 1) := by decide +kernel
theorem dX8_firstAny_20 : decode cX8_firstAny 20 = .ok (.getfield 15, 3) := by decide +kernel
theorem dX8_firstAny_23 : decode cX8_firstAny 23 = .ok (.iload_n 2, 1) := by decide +kernel
theorem dX8_firstAny_24 : decode cX8_firstAny 24 = .ok (.iaload, 1) := by decide +kernel
theorem dX8_firstAny_25 : decode cX8_firstAny 25 = .ok (.if_icmp .ne 5, 3) := by decide +kernel
theorem dX8_firstAny_28 : decode cX8_firstAny 28 = .ok (.iload_n 2, 1) := by decide +kernel
theorem dX8_firstAny_29 : decode cX8_firstAny 29 = .ok (.ireturn, 1) := by decide +kernel
theorem dX8_firstAny_30 : decode cX8_firstAny 30 = .ok (.iinc 2 1, 3) := by decide +kernel
theorem dX8_firstAny_33 : decode cX8_firstAny 33 = .ok (.goto (-31), 3) := by decide +kernel
theorem dX8_firstAny_36 : decode cX8_firstAny 36 = .ok (.iconst (-1), 1) := by decide +kernel
theorem dX8_firstAny_37 : decode cX8_firstAny 37 = .ok (.ireturn, 1) := by decide +kernel
theorem dX8_firstNarrower_0 : decode cX8_firstNarrower 0 = .ok (.iload_n 1, 1) := by decide +kernel
theorem dX8_firstNarrower_1 : decode cX8_firstNarrower 1 = .ok (.aload_n 0, 1) := by decide +kernel
theorem dX8_firstNarrower_2 : decode cX8_firstNarrower 2 = .ok (.getfield 15, 3) := by decide +kernel
theorem dX8_firstNarrower_5 : decode cX8_firstNarrower 5 = .ok (.iload_n 2, 1) := by decide +kernel
theorem dX8_firstNarrower_6 : decode cX8_firstNarrower 6 = .ok (.iaload, 1) := by decide +kernel
theorem dX8_firstNarrower_7 : decode cX8_firstNarrower 7 = .ok (.aload_n 0, 1) := by decide +kernel
theorem dX8_firstNarrower_8 : decode cX8_firstNarrower 8 = .ok (.getfield 20, 3) := by decide +kernel
theorem dX8_firstNarrower_11 : decode cX8_firstNarrower 11 = .ok (.iload_n 2, 1) := by decide +kernel
theorem dX8_firstNarrower_12 : decode cX8_firstNarrower 12 = .ok (.iaload, 1) := by decide +kernel
theorem dX8_firstNarrower_13 : decode cX8_firstNarrower 13 = .ok (.imul, 1) := by decide +kernel
theorem dX8_firstNarrower_14 : decode cX8_firstNarrower 14 = .ok (.isub, 1) := by decide +kernel
theorem dX8_firstNarrower_15 : decode cX8_firstNarrower 15 = .ok (.ireturn, 1) := by decide +kernel
theorem dX8_findOnlyAnswers_0 : decode cX8_findOnlyAnswers 0 = .ok (.iconst 0, 1) := by decide +kernel
theorem dX8_findOnlyAnswers_1 : decode cX8_findOnlyAnswers 1 = .ok (.istore_n 2, 1) := by decide +kernel
theorem dX8_findOnlyAnswers_2 : decode cX8_findOnlyAnswers 2 = .ok (.iload_n 2, 1) := by decide +kernel
theorem dX8_findOnlyAnswers_3 : decode cX8_findOnlyAnswers 3 = .ok (.aload_n 0, 1) := by decide +kernel
theorem dX8_findOnlyAnswers_4 : decode cX8_findOnlyAnswers 4 = .ok (.getfield 23, 3) := by decide +kernel
theorem dX8_findOnlyAnswers_7 : decode cX8_findOnlyAnswers 7 = .ok (.if_icmp .ge 55, 3) := by decide +kernel
theorem dX8_findOnlyAnswers_10 : decode cX8_findOnlyAnswers 10 = .ok (.aload_n 0, 1) := by decide +kernel
theorem dX8_findOnlyAnswers_11 : decode cX8_findOnlyAnswers 11 = .ok (.getfield 35, 3) := by decide +kernel
theorem dX8_findOnlyAnswers_14 : decode cX8_findOnlyAnswers 14 = .ok (.iload_n 2, 1) := by decide +kernel
theorem dX8_findOnlyAnswers_15 : decode cX8_findOnlyAnswers 15 = .ok (.iaload, 1) := by decide +kernel
theorem dX8_findOnlyAnswers_16 : decode cX8_findOnlyAnswers 16 = .ok (.istore_n 3, 1) := by decide +kernel
theorem dX8_findOnlyAnswers_17 : decode cX8_findOnlyAnswers 17 = .ok (.iload_n 3, 1) := by decide +kernel
theorem dX8_findOnlyAnswers_18 : decode cX8_findOnlyAnswers 18 = .ok (.ifCond .lt 13, 3) := by decide +kernel
theorem dX8_findOnlyAnswers_21 : decode cX8_findOnlyAnswers 21 = .ok (.iload_n 3, 1) := by decide +kernel
theorem dX8_findOnlyAnswers_22 : decode cX8_findOnlyAnswers 22 = .ok (.aload_n 1, 1) := by decide +kernel
theorem dX8_findOnlyAnswers_23 : decode cX8_findOnlyAnswers 23 = .ok (.arraylength, 1) := by decide +kernel
theorem dX8_findOnlyAnswers_24 : decode cX8_findOnlyAnswers 24 = .ok (.if_icmp .ge 7, 3) := by decide +kernel
theorem dX8_findOnlyAnswers_27 : decode cX8_findOnlyAnswers 27 = .ok (.iconst 1, 1) := by decide +kernel
theorem dX8_findOnlyAnswers_28 : decode cX8_findOnlyAnswers 28 = .ok (.goto 4, 3) := by decide +kernel
theorem dX8_findOnlyAnswers_31 : decode cX8_findOnlyAnswers 31 = .ok (.iconst 0, 1) := by decide +kernel
theorem dX8_findOnlyAnswers_32 : decode cX8_findOnlyAnswers 32 = .ok (.istore 4, 2) := by decide +kernel
theorem dX8_findOnlyAnswers_34 : decode cX8_findOnlyAnswers 34 = .ok (.aload_n 0, 1) := by decide +kernel
theorem dX8_findOnlyAnswers_35 : decode cX8_findOnlyAnswers 35 = .ok (.getfield 38, 3) := by decide +kernel
theorem dX8_findOnlyAnswers_38 : decode cX8_findOnlyAnswers 38 = .ok (.iload_n 2, 1) := by decide +kernel
theorem dX8_findOnlyAnswers_39 : decode cX8_findOnlyAnswers 39 = .ok (.iload 4, 2) := by decide +kernel
theorem dX8_findOnlyAnswers_41 : decode cX8_findOnlyAnswers 41 = .ok (.ifCond .eq 9, 3) := by decide +kernel
theorem dX8_findOnlyAnswers_44 : decode cX8_findOnlyAnswers 44 = .ok (.aload_n 1, 1) := by decide +kernel
theorem dX8_findOnlyAnswers_45 : decode cX8_findOnlyAnswers 45 = .ok (.iload_n 3, 1) := by decide +kernel
theorem dX8_findOnlyAnswers_46 : decode cX8_findOnlyAnswers 46 = .ok (.iaload, 1) := by decide +kernel
theorem dX8_findOnlyAnswers_47 : decode cX8_findOnlyAnswers 47 = .ok (.goto 8, 3) := by decide +kernel
theorem dX8_findOnlyAnswers_50 : decode cX8_findOnlyAnswers 50 = .ok (.aload_n 0, 1) := by decide +kernel
theorem dX8_findOnlyAnswers_51 : decode cX8_findOnlyAnswers 51 = .ok (.iload_n 2, 1) := by decide +kernel
theorem dX8_findOnlyAnswers_52 : decode cX8_findOnlyAnswers 52 = .ok (.invokevirtual 58, 3) := by decide +kernel
theorem dX8_findOnlyAnswers_55 : decode cX8_findOnlyAnswers 55 = .ok (.iastore, 1) := by decide +kernel
theorem dX8_findOnlyAnswers_56 : decode cX8_findOnlyAnswers 56 = .ok (.iinc 2 1, 3) := by decide +kernel
theorem dX8_findOnlyAnswers_59 : decode cX8_findOnlyAnswers 59 = .ok (.goto (-57), 3) := by decide +kernel
theorem dX8_findOnlyAnswers_62 : decode cX8_findOnlyAnswers 62 = .ok (.return_, 1) := by decide +kernel
theorem dX8_onlyOfNarrower_0 : decode cX8_onlyOfNarrower 0 = .ok (.aload_n 0, 1) := by decide +kernel
theorem dX8_onlyOfNarrower_1 : decode cX8_onlyOfNarrower 1 = .ok (.iload_n 1, 1) := by decide +kernel
theorem dX8_onlyOfNarrower_2 : decode cX8_onlyOfNarrower 2 = .ok (.invokevirtual 62, 3) := by decide +kernel
theorem dX8_onlyOfNarrower_5 : decode cX8_onlyOfNarrower 5 = .ok (.istore_n 2, 1) := by decide +kernel
theorem dX8_onlyOfNarrower_6 : decode cX8_onlyOfNarrower 6 = .ok (.iload_n 2, 1) := by decide +kernel
theorem dX8_onlyOfNarrower_7 : decode cX8_onlyOfNarrower 7 = .ok (.iconst (-1), 1) := by decide +kernel
theorem dX8_onlyOfNarrower_8 : decode cX8_onlyOfNarrower 8 = .ok (.if_icmp .ne 5, 3) := by decide +kernel
theorem dX8_onlyOfNarrower_11 : decode cX8_onlyOfNarrower 11 = .ok (.iconst (-1), 1) := by decide +kernel
theorem dX8_onlyOfNarrower_12 : decode cX8_onlyOfNarrower 12 = .ok (.ireturn, 1) := by decide +kernel
theorem dX8_onlyOfNarrower_13 : decode cX8_onlyOfNarrower 13 = .ok (.iconst (-1), 1) := by decide +kernel
theorem dX8_onlyOfNarrower_14 : decode cX8_onlyOfNarrower 14 = .ok (.istore_n 3, 1) := by decide +kernel
theorem dX8_onlyOfNarrower_15 : decode cX8_onlyOfNarrower 15 = .ok (.aload_n 0, 1) := by decide +kernel
theorem dX8_onlyOfNarrower_16 : decode cX8_onlyOfNarrower 16 = .ok (.iload_n 1, 1) := by decide +kernel
theorem dX8_onlyOfNarrower_17 : decode cX8_onlyOfNarrower 17 = .ok (.iload_n 2, 1) := by decide +kernel
theorem dX8_onlyOfNarrower_18 : decode cX8_onlyOfNarrower 18 = .ok (.invokevirtual 65, 3) := by decide +kernel
theorem dX8_onlyOfNarrower_21 : decode cX8_onlyOfNarrower 21 = .ok (.istore 4, 2) := by decide +kernel
theorem dX8_onlyOfNarrower_23 : decode cX8_onlyOfNarrower 23 = .ok (.iconst 0, 1) := by decide +kernel
theorem dX8_onlyOfNarrower_24 : decode cX8_onlyOfNarrower 24 = .ok (.istore 5, 2) := by decide +kernel
theorem dX8_onlyOfNarrower_26 : decode cX8_onlyOfNarrower 26 = .ok (.iload 5, 2) := by decide +kernel
theorem dX8_onlyOfNarrower_28 : decode cX8_onlyOfNarrower 28 = .ok (.aload_n 0, 1) := by decide +kernel
theorem dX8_onlyOfNarrower_29 : decode cX8_onlyOfNarrower 29 = .ok (.getfield 15, 3) := by decide +kernel
theorem dX8_onlyOfNarrower_32 : decode cX8_onlyOfNarrower 32 = .ok (.iload_n 2, 1) := by decide +kernel
theorem dX8_onlyOfNarrower_33 : decode cX8_onlyOfNarrower 33 = .ok (.iaload, 1) := by decide +kernel
theorem dX8_onlyOfNarrower_34 : decode cX8_onlyOfNarrower 34 = .ok (.if_icmp .ge 72, 3) := by decide +kernel
theorem dX8_onlyOfNarrower_37 : decode cX8_onlyOfNarrower 37 = .ok (.iload 4, 2) := by decide +kernel
theorem dX8_onlyOfNarrower_39 : decode cX8_onlyOfNarrower 39 = .ok (.ifCond .lt 67, 3) := by decide +kernel
theorem dX8_onlyOfNarrower_42 : decode cX8_onlyOfNarrower 42 = .ok (.iload 4, 2) := by decide +kernel
theorem dX8_onlyOfNarrower_44 : decode cX8_onlyOfNarrower 44 = .ok (.iload_n 1, 1) := by decide +kernel
theorem dX8_onlyOfNarrower_45 : decode cX8_onlyOfNarrower 45 = .ok (.if_icmp .ge 61, 3) := by decide +kernel
theorem dX8_onlyOfNarrower_48 : decode cX8_onlyOfNarrower 48 = .ok (.iload_n 3, 1) := by decide +kernel
theorem dX8_onlyOfNarrower_49 : decode cX8_onlyOfNarrower 49 = .ok (.iconst (-1), 1) := by decide +kernel
theorem dX8_onlyOfNarrower_50 : decode cX8_onlyOfNarrower 50 = .ok (.if_icmp .ne 14, 3) := by decide +kernel
theorem dX8_onlyOfNarrower_53 : decode cX8_onlyOfNarrower 53 = .ok (.aload_n 0, 1) := by decide +kernel
theorem dX8_onlyOfNarrower_54 : decode cX8_onlyOfNarrower 54 = .ok (.getfield 38, 3) := by decide +kernel
theorem dX8_onlyOfNarrower_57 : decode cX8_onlyOfNarrower 57 = .ok (.iload 4, 2) := by decide +kernel
theorem dX8_onlyOfNarrower_59 : decode cX8_onlyOfNarrower 59 = .ok (.iaload, 1) := by decide +kernel
theorem dX8_onlyOfNarrower_60 : decode cX8_onlyOfNarrower 60 = .ok (.istore_n 3, 1) := by decide +kernel
theorem dX8_onlyOfNarrower_61 : decode cX8_onlyOfNarrower 61 = .ok (.goto 28, 3) := by decide +kernel
theorem dX8_onlyOfNarrower_64 : decode cX8_onlyOfNarrower 64 = .ok (.aload_n 0, 1) := by decide +kernel
theorem dX8_onlyOfNarrower_65 : decode cX8_onlyOfNarrower 65 = .ok (.getfield 38, 3) := by decide +kernel
theorem dX8_onlyOfNarrower_68 : decode cX8_onlyOfNarrower 68 = .ok (.iload 4, 2) := by decide +kernel
theorem dX8_onlyOfNarrower_70 : decode cX8_onlyOfNarrower 70 = .ok (.iaload, 1) := by decide +kernel
theorem dX8_onlyOfNarrower_71 : decode cX8_onlyOfNarrower 71 = .ok (.iconst (-1), 1) := by decide +kernel
theorem dX8_onlyOfNarrower_72 : decode cX8_onlyOfNarrower 72 = .ok (.if_icmp .eq 17, 3) := by decide +kernel
theorem dX8_onlyOfNarrower_75 : decode cX8_onlyOfNarrower 75 = .ok (.aload_n 0, 1) := by decide +kernel
theorem dX8_onlyOfNarrower_76 : decode cX8_onlyOfNarrower 76 = .ok (.getfield 38, 3) := by decide +kernel
theorem dX8_onlyOfNarrower_79 : decode cX8_onlyOfNarrower 79 = .ok (.iload 4, 2) := by decide +kernel
theorem dX8_onlyOfNarrower_81 : decode cX8_onlyOfNarrower 81 = .ok (.iaload, 1) := by decide +kernel
theorem dX8_onlyOfNarrower_82 : decode cX8_onlyOfNarrower 82 = .ok (.iload_n 3, 1) := by decide +kernel
theorem dX8_onlyOfNarrower_83 : decode cX8_onlyOfNarrower 83 = .ok (.if_icmp .eq 6, 3) := by decide +kernel
theorem dX8_onlyOfNarrower_86 : decode cX8_onlyOfNarrower 86 = .ok (.bipush (-2), 2) := by decide +kernel
theorem dX8_onlyOfNarrower_88 : decode cX8_onlyOfNarrower 88 = .ok (.ireturn, 1) := by decide +kernel
theorem dX8_onlyOfNarrower_89 : decode cX8_onlyOfNarrower 89 = .ok (.iload 4, 2) := by decide +kernel
theorem dX8_onlyOfNarrower_91 : decode cX8_onlyOfNarrower 91 = .ok (.aload_n 0, 1) := by decide +kernel
theorem dX8_onlyOfNarrower_92 : decode cX8_onlyOfNarrower 92 = .ok (.getfield 20, 3) := by decide +kernel
theorem dX8_onlyOfNarrower_95 : decode cX8_onlyOfNarrower 95 = .ok (.iload_n 2, 1) := by decide +kernel
theorem dX8_onlyOfNarrower_96 : decode cX8_onlyOfNarrower 96 = .ok (.iaload, 1) := by decide +kernel
theorem dX8_onlyOfNarrower_97 : decode cX8_onlyOfNarrower 97 = .ok (.iadd, 1) := by decide +kernel
theorem dX8_onlyOfNarrower_98 : decode cX8_onlyOfNarrower 98 = .ok (.istore 4, 2) := by decide +kernel
theorem dX8_onlyOfNarrower_100 : decode cX8_onlyOfNarrower 100 = .ok (.iinc 5 1, 3) := by decide +kernel
theorem dX8_onlyOfNarrower_103 : decode cX8_onlyOfNarrower 103 = .ok (.goto (-77), 3) := by decide +kernel
theorem dX8_onlyOfNarrower_106 : decode cX8_onlyOfNarrower 106 = .ok (.iload_n 3, 1) := by decide +kernel
theorem dX8_onlyOfNarrower_107 : decode cX8_onlyOfNarrower 107 = .ok (.ireturn, 1) := by decide +kernel
theorem dX8_openCases_0 : decode cX8_openCases 0 = .ok (.aload_n 0, 1) := by decide +kernel
theorem dX8_openCases_1 : decode cX8_openCases 1 = .ok (.iconst 0, 1) := by decide +kernel
theorem dX8_openCases_2 : decode cX8_openCases 2 = .ok (.putfield 51, 3) := by decide +kernel
theorem dX8_openCases_5 : decode cX8_openCases 5 = .ok (.iconst 0, 1) := by decide +kernel
theorem dX8_openCases_6 : decode cX8_openCases 6 = .ok (.istore_n 3, 1) := by decide +kernel
theorem dX8_openCases_7 : decode cX8_openCases 7 = .ok (.iload_n 3, 1) := by decide +kernel
theorem dX8_openCases_8 : decode cX8_openCases 8 = .ok (.aload_n 0, 1) := by decide +kernel
theorem dX8_openCases_9 : decode cX8_openCases 9 = .ok (.getfield 47, 3) := by decide +kernel
theorem dX8_openCases_12 : decode cX8_openCases 12 = .ok (.arraylength, 1) := by decide +kernel
theorem dX8_openCases_13 : decode cX8_openCases 13 = .ok (.if_icmp .ge 52, 3) := by decide +kernel
theorem dX8_openCases_16 : decode cX8_openCases 16 = .ok (.iload_n 3, 1) := by decide +kernel
theorem dX8_openCases_17 : decode cX8_openCases 17 = .ok (.aload_n 1, 1) := by decide +kernel
theorem dX8_openCases_18 : decode cX8_openCases 18 = .ok (.arraylength, 1) := by decide +kernel
theorem dX8_openCases_19 : decode cX8_openCases 19 = .ok (.if_icmp .ge 46, 3) := by decide +kernel
theorem dX8_openCases_22 : decode cX8_openCases 22 = .ok (.aload_n 0, 1) := by decide +kernel
theorem dX8_openCases_23 : decode cX8_openCases 23 = .ok (.getfield 47, 3) := by decide +kernel
theorem dX8_openCases_26 : decode cX8_openCases 26 = .ok (.iload_n 3, 1) := by decide +kernel
theorem dX8_openCases_27 : decode cX8_openCases 27 = .ok (.aload_n 1, 1) := by decide +kernel
theorem dX8_openCases_28 : decode cX8_openCases 28 = .ok (.iload_n 3, 1) := by decide +kernel
theorem dX8_openCases_29 : decode cX8_openCases 29 = .ok (.iaload, 1) := by decide +kernel
theorem dX8_openCases_30 : decode cX8_openCases 30 = .ok (.iload_n 2, 1) := by decide +kernel
theorem dX8_openCases_31 : decode cX8_openCases 31 = .ok (.if_icmp .ne 7, 3) := by decide +kernel
theorem dX8_openCases_34 : decode cX8_openCases 34 = .ok (.iconst 1, 1) := by decide +kernel
theorem dX8_openCases_35 : decode cX8_openCases 35 = .ok (.goto 4, 3) := by decide +kernel
theorem dX8_openCases_38 : decode cX8_openCases 38 = .ok (.iconst 0, 1) := by decide +kernel
theorem dX8_openCases_39 : decode cX8_openCases 39 = .ok (.bastore, 1) := by decide +kernel
theorem dX8_openCases_40 : decode cX8_openCases 40 = .ok (.aload_n 0, 1) := by decide +kernel
theorem dX8_openCases_41 : decode cX8_openCases 41 = .ok (.getfield 47, 3) := by decide +kernel
theorem dX8_openCases_44 : decode cX8_openCases 44 = .ok (.iload_n 3, 1) := by decide +kernel
theorem dX8_openCases_45 : decode cX8_openCases 45 = .ok (.baload, 1) := by decide +kernel
theorem dX8_openCases_46 : decode cX8_openCases 46 = .ok (.ifCond .eq 13, 3) := by decide +kernel
theorem dX8_openCases_49 : decode cX8_openCases 49 = .ok (.aload_n 0, 1) := by decide +kernel
theorem dX8_openCases_50 : decode cX8_openCases 50 = .ok (.dup, 1) := by decide +kernel
theorem dX8_openCases_51 : decode cX8_openCases 51 = .ok (.getfield 51, 3) := by decide +kernel
theorem dX8_openCases_54 : decode cX8_openCases 54 = .ok (.iconst 1, 1) := by decide +kernel
theorem dX8_openCases_55 : decode cX8_openCases 55 = .ok (.iadd, 1) := by decide +kernel
theorem dX8_openCases_56 : decode cX8_openCases 56 = .ok (.putfield 51, 3) := by decide +kernel
theorem dX8_openCases_59 : decode cX8_openCases 59 = .ok (.iinc 3 1, 3) := by decide +kernel
theorem dX8_openCases_62 : decode cX8_openCases 62 = .ok (.goto (-55), 3) := by decide +kernel
theorem dX8_openCases_65 : decode cX8_openCases 65 = .ok (.return_, 1) := by decide +kernel
theorem dX8_closeCases_0 : decode cX8_closeCases 0 = .ok (.iconst 0, 1) := by decide +kernel
theorem dX8_closeCases_1 : decode cX8_closeCases 1 = .ok (.istore_n 3, 1) := by decide +kernel
theorem dX8_closeCases_2 : decode cX8_closeCases 2 = .ok (.iload_n 3, 1) := by decide +kernel
theorem dX8_closeCases_3 : decode cX8_closeCases 3 = .ok (.aload_n 0, 1) := by decide +kernel
theorem dX8_closeCases_4 : decode cX8_closeCases 4 = .ok (.getfield 47, 3) := by decide +kernel
theorem dX8_closeCases_7 : decode cX8_closeCases 7 = .ok (.arraylength, 1) := by decide +kernel
theorem dX8_closeCases_8 : decode cX8_closeCases 8 = .ok (.if_icmp .ge 45, 3) := by decide +kernel
theorem dX8_closeCases_11 : decode cX8_closeCases 11 = .ok (.aload_n 0, 1) := by decide +kernel
theorem dX8_closeCases_12 : decode cX8_closeCases 12 = .ok (.getfield 47, 3) := by decide +kernel
theorem dX8_closeCases_15 : decode cX8_closeCases 15 = .ok (.iload_n 3, 1) := by decide +kernel
theorem dX8_closeCases_16 : decode cX8_closeCases 16 = .ok (.baload, 1) := by decide +kernel
theorem dX8_closeCases_17 : decode cX8_closeCases 17 = .ok (.ifCond .eq 30, 3) := by decide +kernel
theorem dX8_closeCases_20 : decode cX8_closeCases 20 = .ok (.aload_n 0, 1) := by decide +kernel
theorem dX8_closeCases_21 : decode cX8_closeCases 21 = .ok (.iload_n 1, 1) := by decide +kernel
theorem dX8_closeCases_22 : decode cX8_closeCases 22 = .ok (.aload_n 2, 1) := by decide +kernel
theorem dX8_closeCases_23 : decode cX8_closeCases 23 = .ok (.iload_n 3, 1) := by decide +kernel
theorem dX8_closeCases_24 : decode cX8_closeCases 24 = .ok (.invokevirtual 69, 3) := by decide +kernel
theorem dX8_closeCases_27 : decode cX8_closeCases 27 = .ok (.ifCond .eq 20, 3) := by decide +kernel
theorem dX8_closeCases_30 : decode cX8_closeCases 30 = .ok (.aload_n 0, 1) := by decide +kernel
theorem dX8_closeCases_31 : decode cX8_closeCases 31 = .ok (.getfield 47, 3) := by decide +kernel
theorem dX8_closeCases_34 : decode cX8_closeCases 34 = .ok (.iload_n 3, 1) := by decide +kernel
theorem dX8_closeCases_35 : decode cX8_closeCases 35 = .ok (.iconst 0, 1) := by decide +kernel
theorem dX8_closeCases_36 : decode cX8_closeCases 36 = .ok (.bastore, 1) := by decide +kernel
theorem dX8_closeCases_37 : decode cX8_closeCases 37 = .ok (.aload_n 0, 1) := by decide +kernel
theorem dX8_closeCases_38 : decode cX8_closeCases 38 = .ok (.dup, 1) := by decide +kernel
theorem dX8_closeCases_39 : decode cX8_closeCases 39 = .ok (.getfield 51, 3) := by decide +kernel
theorem dX8_closeCases_42 : decode cX8_closeCases 42 = .ok (.iconst 1, 1) := by decide +kernel
theorem dX8_closeCases_43 : decode cX8_closeCases 43 = .ok (.isub, 1) := by decide +kernel
theorem dX8_closeCases_44 : decode cX8_closeCases 44 = .ok (.putfield 51, 3) := by decide +kernel
theorem dX8_closeCases_47 : decode cX8_closeCases 47 = .ok (.iinc 3 1, 3) := by decide +kernel
theorem dX8_closeCases_50 : decode cX8_closeCases 50 = .ok (.goto (-48), 3) := by decide +kernel
theorem dX8_closeCases_53 : decode cX8_closeCases 53 = .ok (.return_, 1) := by decide +kernel
theorem dX8_holds_0 : decode cX8_holds 0 = .ok (.iconst 0, 1) := by decide +kernel
theorem dX8_holds_1 : decode cX8_holds 1 = .ok (.istore 4, 2) := by decide +kernel
theorem dX8_holds_3 : decode cX8_holds 3 = .ok (.iload 4, 2) := by decide +kernel
theorem dX8_holds_5 : decode cX8_holds 5 = .ok (.aload_n 0, 1) := by decide +kernel
theorem dX8_holds_6 : decode cX8_holds 6 = .ok (.getfield 15, 3) := by decide +kernel
theorem dX8_holds_9 : decode cX8_holds 9 = .ok (.arraylength, 1) := by decide +kernel
theorem dX8_holds_10 : decode cX8_holds 10 = .ok (.if_icmp .ge 55, 3) := by decide +kernel
theorem dX8_holds_13 : decode cX8_holds 13 = .ok (.iload 4, 2) := by decide +kernel
theorem dX8_holds_15 : decode cX8_holds 15 = .ok (.aload_n 2, 1) := by decide +kernel
theorem dX8_holds_16 : decode cX8_holds 16 = .ok (.arraylength, 1) := by decide +kernel
theorem dX8_holds_17 : decode cX8_holds 17 = .ok (.if_icmp .ge 48, 3) := by decide +kernel
theorem dX8_holds_20 : decode cX8_holds 20 = .ok (.aload_n 0, 1) := by decide +kernel
theorem dX8_holds_21 : decode cX8_holds 21 = .ok (.getfield 29, 3) := by decide +kernel
theorem dX8_holds_24 : decode cX8_holds 24 = .ok (.iload 4, 2) := by decide +kernel
theorem dX8_holds_26 : decode cX8_holds 26 = .ok (.aaload, 1) := by decide +kernel
theorem dX8_holds_27 : decode cX8_holds 27 = .ok (.iload_n 1, 1) := by decide +kernel
theorem dX8_holds_28 : decode cX8_holds 28 = .ok (.iaload, 1) := by decide +kernel
theorem dX8_holds_29 : decode cX8_holds 29 = .ok (.aload_n 0, 1) := by decide +kernel
theorem dX8_holds_30 : decode cX8_holds 30 = .ok (.getfield 15, 3) := by decide +kernel
theorem dX8_holds_33 : decode cX8_holds 33 = .ok (.iload 4, 2) := by decide +kernel
theorem dX8_holds_35 : decode cX8_holds 35 = .ok (.iaload, 1) := by decide +kernel
theorem dX8_holds_36 : decode cX8_holds 36 = .ok (.if_icmp .eq 23, 3) := by decide +kernel
theorem dX8_holds_39 : decode cX8_holds 39 = .ok (.aload_n 0, 1) := by decide +kernel
theorem dX8_holds_40 : decode cX8_holds 40 = .ok (.getfield 29, 3) := by decide +kernel
theorem dX8_holds_43 : decode cX8_holds 43 = .ok (.iload 4, 2) := by decide +kernel
theorem dX8_holds_45 : decode cX8_holds 45 = .ok (.aaload, 1) := by decide +kernel
theorem dX8_holds_46 : decode cX8_holds 46 = .ok (.iload_n 1, 1) := by decide +kernel
theorem dX8_holds_47 : decode cX8_holds 47 = .ok (.iaload, 1) := by decide +kernel
theorem dX8_holds_48 : decode cX8_holds 48 = .ok (.aload_n 2, 1) := by decide +kernel
theorem dX8_holds_49 : decode cX8_holds 49 = .ok (.iload 4, 2) := by decide +kernel
theorem dX8_holds_51 : decode cX8_holds 51 = .ok (.aaload, 1) := by decide +kernel
theorem dX8_holds_52 : decode cX8_holds 52 = .ok (.iload_n 3, 1) := by decide +kernel
theorem dX8_holds_53 : decode cX8_holds 53 = .ok (.iaload, 1) := by decide +kernel
theorem dX8_holds_54 : decode cX8_holds 54 = .ok (.if_icmp .eq 5, 3) := by decide +kernel
theorem dX8_holds_57 : decode cX8_holds 57 = .ok (.iconst 0, 1) := by decide +kernel
theorem dX8_holds_58 : decode cX8_holds 58 = .ok (.ireturn, 1) := by decide +kernel
theorem dX8_holds_59 : decode cX8_holds 59 = .ok (.iinc 4 1, 3) := by decide +kernel
theorem dX8_holds_62 : decode cX8_holds 62 = .ok (.goto (-59), 3) := by decide +kernel
theorem dX8_holds_65 : decode cX8_holds 65 = .ok (.iconst 1, 1) := by decide +kernel
theorem dX8_holds_66 : decode cX8_holds 66 = .ok (.ireturn, 1) := by decide +kernel
theorem dX8_best_0 : decode cX8_best 0 = .ok (.iconst (-1), 1) := by decide +kernel
theorem dX8_best_1 : decode cX8_best 1 = .ok (.istore_n 2, 1) := by decide +kernel
theorem dX8_best_2 : decode cX8_best 2 = .ok (.iconst 0, 1) := by decide +kernel
theorem dX8_best_3 : decode cX8_best 3 = .ok (.istore_n 3, 1) := by decide +kernel
theorem dX8_best_4 : decode cX8_best 4 = .ok (.iconst 0, 1) := by decide +kernel
theorem dX8_best_5 : decode cX8_best 5 = .ok (.istore 4, 2) := by decide +kernel
theorem dX8_best_7 : decode cX8_best 7 = .ok (.iload 4, 2) := by decide +kernel
theorem dX8_best_9 : decode cX8_best 9 = .ok (.aload_n 0, 1) := by decide +kernel
theorem dX8_best_10 : decode cX8_best 10 = .ok (.getfield 23, 3) := by decide +kernel
theorem dX8_best_13 : decode cX8_best 13 = .ok (.if_icmp .ge 103, 3) := by decide +kernel
theorem dX8_best_16 : decode cX8_best 16 = .ok (.aload_n 0, 1) := by decide +kernel
theorem dX8_best_17 : decode cX8_best 17 = .ok (.getfield 41, 3) := by decide +kernel
theorem dX8_best_20 : decode cX8_best 20 = .ok (.iload 4, 2) := by decide +kernel
theorem dX8_best_22 : decode cX8_best 22 = .ok (.aload_n 0, 1) := by decide +kernel
theorem dX8_best_23 : decode cX8_best 23 = .ok (.getfield 38, 3) := by decide +kernel
theorem dX8_best_26 : decode cX8_best 26 = .ok (.iload 4, 2) := by decide +kernel
theorem dX8_best_28 : decode cX8_best 28 = .ok (.iaload, 1) := by decide +kernel
theorem dX8_best_29 : decode cX8_best 29 = .ok (.iload_n 1, 1) := by decide +kernel
theorem dX8_best_30 : decode cX8_best 30 = .ok (.if_icmp .ne 12, 3) := by decide +kernel
theorem dX8_best_33 : decode cX8_best 33 = .ok (.aload_n 0, 1) := by decide +kernel
theorem dX8_best_34 : decode cX8_best 34 = .ok (.iload 4, 2) := by decide +kernel
theorem dX8_best_36 : decode cX8_best 36 = .ok (.invokevirtual 73, 3) := by decide +kernel
theorem dX8_best_39 : decode cX8_best 39 = .ok (.goto 4, 3) := by decide +kernel
theorem dX8_best_42 : decode cX8_best 42 = .ok (.iconst 0, 1) := by decide +kernel
theorem dX8_best_43 : decode cX8_best 43 = .ok (.iastore, 1) := by decide +kernel
theorem dX8_best_44 : decode cX8_best 44 = .ok (.iload_n 2, 1) := by decide +kernel
theorem dX8_best_45 : decode cX8_best 45 = .ok (.iconst (-1), 1) := by decide +kernel
theorem dX8_best_46 : decode cX8_best 46 = .ok (.if_icmp .eq 23, 3) := by decide +kernel
theorem dX8_best_49 : decode cX8_best 49 = .ok (.aload_n 0, 1) := by decide +kernel
theorem dX8_best_50 : decode cX8_best 50 = .ok (.getfield 32, 3) := by decide +kernel
theorem dX8_best_53 : decode cX8_best 53 = .ok (.iload 4, 2) := by decide +kernel
theorem dX8_best_55 : decode cX8_best 55 = .ok (.iaload, 1) := by decide +kernel
theorem dX8_best_56 : decode cX8_best 56 = .ok (.aload_n 0, 1) := by decide +kernel
theorem dX8_best_57 : decode cX8_best 57 = .ok (.getfield 32, 3) := by decide +kernel
theorem dX8_best_60 : decode cX8_best 60 = .ok (.iload_n 2, 1) := by decide +kernel
theorem dX8_best_61 : decode cX8_best 61 = .ok (.iaload, 1) := by decide +kernel
theorem dX8_best_62 : decode cX8_best 62 = .ok (.if_icmp .ge 7, 3) := by decide +kernel
theorem dX8_best_65 : decode cX8_best 65 = .ok (.iconst 1, 1) := by decide +kernel
theorem dX8_best_66 : decode cX8_best 66 = .ok (.goto 4, 3) := by decide +kernel
theorem dX8_best_69 : decode cX8_best 69 = .ok (.iconst 0, 1) := by decide +kernel
theorem dX8_best_70 : decode cX8_best 70 = .ok (.istore 5, 2) := by decide +kernel
theorem dX8_best_72 : decode cX8_best 72 = .ok (.aload_n 0, 1) := by decide +kernel
theorem dX8_best_73 : decode cX8_best 73 = .ok (.getfield 41, 3) := by decide +kernel
theorem dX8_best_76 : decode cX8_best 76 = .ok (.iload 4, 2) := by decide +kernel
theorem dX8_best_78 : decode cX8_best 78 = .ok (.iaload, 1) := by decide +kernel
theorem dX8_best_79 : decode cX8_best 79 = .ok (.iload_n 3, 1) := by decide +kernel
theorem dX8_best_80 : decode cX8_best 80 = .ok (.if_icmp .gt 19, 3) := by decide +kernel
theorem dX8_best_83 : decode cX8_best 83 = .ok (.aload_n 0, 1) := by decide +kernel
theorem dX8_best_84 : decode cX8_best 84 = .ok (.getfield 41, 3) := by decide +kernel
theorem dX8_best_87 : decode cX8_best 87 = .ok (.iload 4, 2) := by decide +kernel
theorem dX8_best_89 : decode cX8_best 89 = .ok (.iaload, 1) := by decide +kernel
theorem dX8_best_90 : decode cX8_best 90 = .ok (.iload_n 3, 1) := by decide +kernel
theorem dX8_best_91 : decode cX8_best 91 = .ok (.if_icmp .ne 19, 3) := by decide +kernel
theorem dX8_best_94 : decode cX8_best 94 = .ok (.iload 5, 2) := by decide +kernel
theorem dX8_best_96 : decode cX8_best 96 = .ok (.ifCond .eq 14, 3) := by decide +kernel
theorem dX8_best_99 : decode cX8_best 99 = .ok (.iload 4, 2) := by decide +kernel
theorem dX8_best_101 : decode cX8_best 101 = .ok (.istore_n 2, 1) := by decide +kernel
theorem dX8_best_102 : decode cX8_best 102 = .ok (.aload_n 0, 1) := by decide +kernel
theorem dX8_best_103 : decode cX8_best 103 = .ok (.getfield 41, 3) := by decide +kernel
theorem dX8_best_106 : decode cX8_best 106 = .ok (.iload 4, 2) := by decide +kernel
theorem dX8_best_108 : decode cX8_best 108 = .ok (.iaload, 1) := by decide +kernel
theorem dX8_best_109 : decode cX8_best 109 = .ok (.istore_n 3, 1) := by decide +kernel
theorem dX8_best_110 : decode cX8_best 110 = .ok (.iinc 4 1, 3) := by decide +kernel
theorem dX8_best_113 : decode cX8_best 113 = .ok (.goto (-106), 3) := by decide +kernel
theorem dX8_best_116 : decode cX8_best 116 = .ok (.iload_n 2, 1) := by decide +kernel
theorem dX8_best_117 : decode cX8_best 117 = .ok (.ireturn, 1) := by decide +kernel
theorem dX8_gainOf_0 : decode cX8_gainOf 0 = .ok (.aload_n 0, 1) := by decide +kernel
theorem dX8_gainOf_1 : decode cX8_gainOf 1 = .ok (.getfield 35, 3) := by decide +kernel
theorem dX8_gainOf_4 : decode cX8_gainOf 4 = .ok (.iload_n 1, 1) := by decide +kernel
theorem dX8_gainOf_5 : decode cX8_gainOf 5 = .ok (.iaload, 1) := by decide +kernel
theorem dX8_gainOf_6 : decode cX8_gainOf 6 = .ok (.istore_n 2, 1) := by decide +kernel
theorem dX8_gainOf_7 : decode cX8_gainOf 7 = .ok (.aload_n 0, 1) := by decide +kernel
theorem dX8_gainOf_8 : decode cX8_gainOf 8 = .ok (.iload_n 1, 1) := by decide +kernel
theorem dX8_gainOf_9 : decode cX8_gainOf 9 = .ok (.invokevirtual 62, 3) := by decide +kernel
theorem dX8_gainOf_12 : decode cX8_gainOf 12 = .ok (.istore_n 3, 1) := by decide +kernel
theorem dX8_gainOf_13 : decode cX8_gainOf 13 = .ok (.iload_n 3, 1) := by decide +kernel
theorem dX8_gainOf_14 : decode cX8_gainOf 14 = .ok (.iconst (-1), 1) := by decide +kernel
theorem dX8_gainOf_15 : decode cX8_gainOf 15 = .ok (.if_icmp .ne 31, 3) := by decide +kernel
theorem dX8_gainOf_18 : decode cX8_gainOf 18 = .ok (.iload_n 2, 1) := by decide +kernel
theorem dX8_gainOf_19 : decode cX8_gainOf 19 = .ok (.ifCond .lt 25, 3) := by decide +kernel
theorem dX8_gainOf_22 : decode cX8_gainOf 22 = .ok (.iload_n 2, 1) := by decide +kernel
theorem dX8_gainOf_23 : decode cX8_gainOf 23 = .ok (.aload_n 0, 1) := by decide +kernel
theorem dX8_gainOf_24 : decode cX8_gainOf 24 = .ok (.getfield 47, 3) := by decide +kernel
theorem dX8_gainOf_27 : decode cX8_gainOf 27 = .ok (.arraylength, 1) := by decide +kernel
theorem dX8_gainOf_28 : decode cX8_gainOf 28 = .ok (.if_icmp .ge 16, 3) := by decide +kernel
theorem dX8_gainOf_31 : decode cX8_gainOf 31 = .ok (.aload_n 0, 1) := by decide +kernel
theorem dX8_gainOf_32 : decode cX8_gainOf 32 = .ok (.getfield 47, 3) := by decide +kernel
theorem dX8_gainOf_35 : decode cX8_gainOf 35 = .ok (.iload_n 2, 1) := by decide +kernel
theorem dX8_gainOf_36 : decode cX8_gainOf 36 = .ok (.baload, 1) := by decide +kernel
theorem dX8_gainOf_37 : decode cX8_gainOf 37 = .ok (.ifCond .eq 7, 3) := by decide +kernel
theorem dX8_gainOf_40 : decode cX8_gainOf 40 = .ok (.iconst 1, 1) := by decide +kernel
theorem dX8_gainOf_41 : decode cX8_gainOf 41 = .ok (.goto 4, 3) := by decide +kernel
theorem dX8_gainOf_44 : decode cX8_gainOf 44 = .ok (.iconst 0, 1) := by decide +kernel
theorem dX8_gainOf_45 : decode cX8_gainOf 45 = .ok (.ireturn, 1) := by decide +kernel
theorem dX8_gainOf_46 : decode cX8_gainOf 46 = .ok (.iconst 0, 1) := by decide +kernel
theorem dX8_gainOf_47 : decode cX8_gainOf 47 = .ok (.istore 4, 2) := by decide +kernel
theorem dX8_gainOf_49 : decode cX8_gainOf 49 = .ok (.aload_n 0, 1) := by decide +kernel
theorem dX8_gainOf_50 : decode cX8_gainOf 50 = .ok (.iload_n 1, 1) := by decide +kernel
theorem dX8_gainOf_51 : decode cX8_gainOf 51 = .ok (.iload_n 3, 1) := by decide +kernel
theorem dX8_gainOf_52 : decode cX8_gainOf 52 = .ok (.invokevirtual 65, 3) := by decide +kernel
theorem dX8_gainOf_55 : decode cX8_gainOf 55 = .ok (.istore 5, 2) := by decide +kernel
theorem dX8_gainOf_57 : decode cX8_gainOf 57 = .ok (.iconst 0, 1) := by decide +kernel
theorem dX8_gainOf_58 : decode cX8_gainOf 58 = .ok (.istore 6, 2) := by decide +kernel
theorem dX8_gainOf_60 : decode cX8_gainOf 60 = .ok (.iload 6, 2) := by decide +kernel
theorem dX8_gainOf_62 : decode cX8_gainOf 62 = .ok (.aload_n 0, 1) := by decide +kernel
theorem dX8_gainOf_63 : decode cX8_gainOf 63 = .ok (.getfield 15, 3) := by decide +kernel
theorem dX8_gainOf_66 : decode cX8_gainOf 66 = .ok (.iload_n 3, 1) := by decide +kernel
theorem dX8_gainOf_67 : decode cX8_gainOf 67 = .ok (.iaload, 1) := by decide +kernel
theorem dX8_gainOf_68 : decode cX8_gainOf 68 = .ok (.if_icmp .ge 43, 3) := by decide +kernel
theorem dX8_gainOf_71 : decode cX8_gainOf 71 = .ok (.iload 5, 2) := by decide +kernel
theorem dX8_gainOf_73 : decode cX8_gainOf 73 = .ok (.ifCond .lt 38, 3) := by decide +kernel
theorem dX8_gainOf_76 : decode cX8_gainOf 76 = .ok (.iload 5, 2) := by decide +kernel
theorem dX8_gainOf_78 : decode cX8_gainOf 78 = .ok (.iload_n 1, 1) := by decide +kernel
theorem dX8_gainOf_79 : decode cX8_gainOf 79 = .ok (.if_icmp .ge 32, 3) := by decide +kernel
theorem dX8_gainOf_82 : decode cX8_gainOf 82 = .ok (.iload 4, 2) := by decide +kernel
theorem dX8_gainOf_84 : decode cX8_gainOf 84 = .ok (.aload_n 0, 1) := by decide +kernel
theorem dX8_gainOf_85 : decode cX8_gainOf 85 = .ok (.getfield 41, 3) := by decide +kernel
theorem dX8_gainOf_88 : decode cX8_gainOf 88 = .ok (.iload 5, 2) := by decide +kernel
theorem dX8_gainOf_90 : decode cX8_gainOf 90 = .ok (.iaload, 1) := by decide +kernel
theorem dX8_gainOf_91 : decode cX8_gainOf 91 = .ok (.iadd, 1) := by decide +kernel
theorem dX8_gainOf_92 : decode cX8_gainOf 92 = .ok (.istore 4, 2) := by decide +kernel
theorem dX8_gainOf_94 : decode cX8_gainOf 94 = .ok (.iload 5, 2) := by decide +kernel
theorem dX8_gainOf_96 : decode cX8_gainOf 96 = .ok (.aload_n 0, 1) := by decide +kernel
theorem dX8_gainOf_97 : decode cX8_gainOf 97 = .ok (.getfield 20, 3) := by decide +kernel
theorem dX8_gainOf_100 : decode cX8_gainOf 100 = .ok (.iload_n 3, 1) := by decide +kernel
theorem dX8_gainOf_101 : decode cX8_gainOf 101 = .ok (.iaload, 1) := by decide +kernel
theorem dX8_gainOf_102 : decode cX8_gainOf 102 = .ok (.iadd, 1) := by decide +kernel
theorem dX8_gainOf_103 : decode cX8_gainOf 103 = .ok (.istore 5, 2) := by decide +kernel
theorem dX8_gainOf_105 : decode cX8_gainOf 105 = .ok (.iinc 6 1, 3) := by decide +kernel
theorem dX8_gainOf_108 : decode cX8_gainOf 108 = .ok (.goto (-48), 3) := by decide +kernel
theorem dX8_gainOf_111 : decode cX8_gainOf 111 = .ok (.iload 4, 2) := by decide +kernel
theorem dX8_gainOf_113 : decode cX8_gainOf 113 = .ok (.ireturn, 1) := by decide +kernel
theorem dX8_valueTold_0 : decode cX8_valueTold 0 = .ok (.aload_n 0, 1) := by decide +kernel
theorem dX8_valueTold_1 : decode cX8_valueTold 1 = .ok (.getfield 29, 3) := by decide +kernel
theorem dX8_valueTold_4 : decode cX8_valueTold 4 = .ok (.iload_n 2, 1) := by decide +kernel
theorem dX8_valueTold_5 : decode cX8_valueTold 5 = .ok (.aaload, 1) := by decide +kernel
theorem dX8_valueTold_6 : decode cX8_valueTold 6 = .ok (.iload_n 1, 1) := by decide +kernel
theorem dX8_valueTold_7 : decode cX8_valueTold 7 = .ok (.iaload, 1) := by decide +kernel
theorem dX8_valueTold_8 : decode cX8_valueTold 8 = .ok (.istore_n 3, 1) := by decide +kernel
theorem dX8_valueTold_9 : decode cX8_valueTold 9 = .ok (.iload_n 3, 1) := by decide +kernel
theorem dX8_valueTold_10 : decode cX8_valueTold 10 = .ok (.aload_n 0, 1) := by decide +kernel
theorem dX8_valueTold_11 : decode cX8_valueTold 11 = .ok (.getfield 15, 3) := by decide +kernel
theorem dX8_valueTold_14 : decode cX8_valueTold 14 = .ok (.iload_n 2, 1) := by decide +kernel
theorem dX8_valueTold_15 : decode cX8_valueTold 15 = .ok (.iaload, 1) := by decide +kernel
theorem dX8_valueTold_16 : decode cX8_valueTold 16 = .ok (.if_icmp .ne 7, 3) := by decide +kernel
theorem dX8_valueTold_19 : decode cX8_valueTold 19 = .ok (.iconst (-1), 1) := by decide +kernel
theorem dX8_valueTold_20 : decode cX8_valueTold 20 = .ok (.goto 4, 3) := by decide +kernel
theorem dX8_valueTold_23 : decode cX8_valueTold 23 = .ok (.iload_n 3, 1) := by decide +kernel
theorem dX8_valueTold_24 : decode cX8_valueTold 24 = .ok (.ireturn, 1) := by decide +kernel
theorem dX8_casesHeld_0 : decode cX8_casesHeld 0 = .ok (.iconst 1, 1) := by decide +kernel
theorem dX8_casesHeld_1 : decode cX8_casesHeld 1 = .ok (.istore_n 2, 1) := by decide +kernel
theorem dX8_casesHeld_2 : decode cX8_casesHeld 2 = .ok (.iconst 0, 1) := by decide +kernel
theorem dX8_casesHeld_3 : decode cX8_casesHeld 3 = .ok (.istore_n 3, 1) := by decide +kernel
theorem dX8_casesHeld_4 : decode cX8_casesHeld 4 = .ok (.iload_n 3, 1) := by decide +kernel
theorem dX8_casesHeld_5 : decode cX8_casesHeld 5 = .ok (.aload_n 0, 1) := by decide +kernel
theorem dX8_casesHeld_6 : decode cX8_casesHeld 6 = .ok (.getfield 15, 3) := by decide +kernel
theorem dX8_casesHeld_9 : decode cX8_casesHeld 9 = .ok (.arraylength, 1) := by decide +kernel
theorem dX8_casesHeld_10 : decode cX8_casesHeld 10 = .ok (.if_icmp .ge 35, 3) := by decide +kernel
theorem dX8_casesHeld_13 : decode cX8_casesHeld 13 = .ok (.aload_n 0, 1) := by decide +kernel
theorem dX8_casesHeld_14 : decode cX8_casesHeld 14 = .ok (.getfield 29, 3) := by decide +kernel
theorem dX8_casesHeld_17 : decode cX8_casesHeld 17 = .ok (.iload_n 3, 1) := by decide +kernel
theorem dX8_casesHeld_18 : decode cX8_casesHeld 18 = .ok (.aaload, 1) := by decide +kernel
theorem dX8_casesHeld_19 : decode cX8_casesHeld 19 = .ok (.iload_n 1, 1) := by decide +kernel
theorem dX8_casesHeld_20 : decode cX8_casesHeld 20 = .ok (.iaload, 1) := by decide +kernel
theorem dX8_casesHeld_21 : decode cX8_casesHeld 21 = .ok (.aload_n 0, 1) := by decide +kernel
theorem dX8_casesHeld_22 : decode cX8_casesHeld 22 = .ok (.getfield 15, 3) := by decide +kernel
theorem dX8_casesHeld_25 : decode cX8_casesHeld 25 = .ok (.iload_n 3, 1) := by decide +kernel
theorem dX8_casesHeld_26 : decode cX8_casesHeld 26 = .ok (.iaload, 1) := by decide +kernel
theorem dX8_casesHeld_27 : decode cX8_casesHeld 27 = .ok (.if_icmp .ne 12, 3) := by decide +kernel
theorem dX8_casesHeld_30 : decode cX8_casesHeld 30 = .ok (.iload_n 2, 1) := by decide +kernel
theorem dX8_casesHeld_31 : decode cX8_casesHeld 31 = .ok (.aload_n 0, 1) := by decide +kernel
theorem dX8_casesHeld_32 : decode cX8_casesHeld 32 = .ok (.getfield 15, 3) := by decide +kernel
theorem dX8_casesHeld_35 : decode cX8_casesHeld 35 = .ok (.iload_n 3, 1) := by decide +kernel
theorem dX8_casesHeld_36 : decode cX8_casesHeld 36 = .ok (.iaload, 1) := by decide +kernel
theorem dX8_casesHeld_37 : decode cX8_casesHeld 37 = .ok (.imul, 1) := by decide +kernel
theorem dX8_casesHeld_38 : decode cX8_casesHeld 38 = .ok (.istore_n 2, 1) := by decide +kernel
theorem dX8_casesHeld_39 : decode cX8_casesHeld 39 = .ok (.iinc 3 1, 3) := by decide +kernel
theorem dX8_casesHeld_42 : decode cX8_casesHeld 42 = .ok (.goto (-38), 3) := by decide +kernel
theorem dX8_casesHeld_45 : decode cX8_casesHeld 45 = .ok (.iload_n 2, 1) := by decide +kernel
theorem dX8_casesHeld_46 : decode cX8_casesHeld 46 = .ok (.ireturn, 1) := by decide +kernel
theorem dX10_init_0 : decode cX10_init 0 = .ok (.aload_n 0, 1) := by decide +kernel
theorem dX10_init_1 : decode cX10_init 1 = .ok (.invokespecial 1, 3) := by decide +kernel
theorem dX10_init_4 : decode cX10_init 4 = .ok (.aload_n 0, 1) := by decide +kernel
theorem dX10_init_5 : decode cX10_init 5 = .ok (.sipush 1000, 3) := by decide +kernel
theorem dX10_init_8 : decode cX10_init 8 = .ok (.newarray .byte, 2) := by decide +kernel
theorem dX10_init_10 : decode cX10_init 10 = .ok (.putfield 9, 3) := by decide +kernel
theorem dX10_init_13 : decode cX10_init 13 = .ok (.aload_n 0, 1) := by decide +kernel
theorem dX10_init_14 : decode cX10_init 14 = .ok (.iconst 0, 1) := by decide +kernel
theorem dX10_init_15 : decode cX10_init 15 = .ok (.putfield 13, 3) := by decide +kernel
theorem dX10_init_18 : decode cX10_init 18 = .ok (.aload_n 0, 1) := by decide +kernel
theorem dX10_init_19 : decode cX10_init 19 = .ok (.new 17, 3) := by decide +kernel
theorem dX10_init_22 : decode cX10_init 22 = .ok (.dup, 1) := by decide +kernel
theorem dX10_init_23 : decode cX10_init 23 = .ok (.invokespecial 19, 3) := by decide +kernel
theorem dX10_init_26 : decode cX10_init 26 = .ok (.putfield 20, 3) := by decide +kernel
theorem dX10_init_29 : decode cX10_init 29 = .ok (.aload_n 0, 1) := by decide +kernel
theorem dX10_init_30 : decode cX10_init 30 = .ok (.bipush 6, 2) := by decide +kernel
theorem dX10_init_32 : decode cX10_init 32 = .ok (.anewarray 24, 3) := by decide +kernel
theorem dX10_init_35 : decode cX10_init 35 = .ok (.putfield 26, 3) := by decide +kernel
theorem dX10_init_38 : decode cX10_init 38 = .ok (.aload_n 0, 1) := by decide +kernel
theorem dX10_init_39 : decode cX10_init 39 = .ok (.iconst 0, 1) := by decide +kernel
theorem dX10_init_40 : decode cX10_init 40 = .ok (.putfield 30, 3) := by decide +kernel
theorem dX10_init_43 : decode cX10_init 43 = .ok (.aload_n 0, 1) := by decide +kernel
theorem dX10_init_44 : decode cX10_init 44 = .ok (.bipush 12, 2) := by decide +kernel
theorem dX10_init_46 : decode cX10_init 46 = .ok (.anewarray 33, 3) := by decide +kernel
theorem dX10_init_49 : decode cX10_init 49 = .ok (.putfield 35, 3) := by decide +kernel
theorem dX10_init_52 : decode cX10_init 52 = .ok (.aload_n 0, 1) := by decide +kernel
theorem dX10_init_53 : decode cX10_init 53 = .ok (.iconst 0, 1) := by decide +kernel
theorem dX10_init_54 : decode cX10_init 54 = .ok (.putfield 39, 3) := by decide +kernel
theorem dX10_init_57 : decode cX10_init 57 = .ok (.aload_n 0, 1) := by decide +kernel
theorem dX10_init_58 : decode cX10_init 58 = .ok (.new 42, 3) := by decide +kernel
theorem dX10_init_61 : decode cX10_init 61 = .ok (.dup, 1) := by decide +kernel
theorem dX10_init_62 : decode cX10_init 62 = .ok (.invokespecial 44, 3) := by decide +kernel
theorem dX10_init_65 : decode cX10_init 65 = .ok (.putfield 45, 3) := by decide +kernel
theorem dX10_init_68 : decode cX10_init 68 = .ok (.aload_n 0, 1) := by decide +kernel
theorem dX10_init_69 : decode cX10_init 69 = .ok (.new 49, 3) := by decide +kernel
theorem dX10_init_72 : decode cX10_init 72 = .ok (.dup, 1) := by decide +kernel
theorem dX10_init_73 : decode cX10_init 73 = .ok (.invokespecial 51, 3) := by decide +kernel
theorem dX10_init_76 : decode cX10_init 76 = .ok (.putfield 52, 3) := by decide +kernel
theorem dX10_init_79 : decode cX10_init 79 = .ok (.aload_n 0, 1) := by decide +kernel
theorem dX10_init_80 : decode cX10_init 80 = .ok (.iconst (-1), 1) := by decide +kernel
theorem dX10_init_81 : decode cX10_init 81 = .ok (.putfield 56, 3) := by decide +kernel
theorem dX10_init_84 : decode cX10_init 84 = .ok (.aload_n 0, 1) := by decide +kernel
theorem dX10_init_85 : decode cX10_init 85 = .ok (.new 59, 3) := by decide +kernel
theorem dX10_init_88 : decode cX10_init 88 = .ok (.dup, 1) := by decide +kernel
theorem dX10_init_89 : decode cX10_init 89 = .ok (.invokespecial 61, 3) := by decide +kernel
theorem dX10_init_92 : decode cX10_init 92 = .ok (.putfield 62, 3) := by decide +kernel
theorem dX10_init_95 : decode cX10_init 95 = .ok (.return_, 1) := by decide +kernel
theorem dX10_feed_0 : decode cX10_feed 0 = .ok (.aload_n 0, 1) := by decide +kernel
theorem dX10_feed_1 : decode cX10_feed 1 = .ok (.getfield 13, 3) := by decide +kernel
theorem dX10_feed_4 : decode cX10_feed 4 = .ok (.bipush 20, 2) := by decide +kernel
theorem dX10_feed_6 : decode cX10_feed 6 = .ok (.iadd, 1) := by decide +kernel
theorem dX10_feed_7 : decode cX10_feed 7 = .ok (.sipush 1000, 3) := by decide +kernel
theorem dX10_feed_10 : decode cX10_feed 10 = .ok (.if_icmp .le 5, 3) := by decide +kernel
theorem dX10_feed_13 : decode cX10_feed 13 = .ok (.iconst (-1), 1) := by decide +kernel
theorem dX10_feed_14 : decode cX10_feed 14 = .ok (.ireturn, 1) := by decide +kernel
theorem dX10_feed_15 : decode cX10_feed 15 = .ok (.aload_n 0, 1) := by decide +kernel
theorem dX10_feed_16 : decode cX10_feed 16 = .ok (.iload_n 1, 1) := by decide +kernel
theorem dX10_feed_17 : decode cX10_feed 17 = .ok (.invokevirtual 66, 3) := by decide +kernel
theorem dX10_feed_20 : decode cX10_feed 20 = .ok (.aload_n 0, 1) := by decide +kernel
theorem dX10_feed_21 : decode cX10_feed 21 = .ok (.iload_n 2, 1) := by decide +kernel
theorem dX10_feed_22 : decode cX10_feed 22 = .ok (.invokevirtual 66, 3) := by decide +kernel
theorem dX10_feed_25 : decode cX10_feed 25 = .ok (.aload_n 0, 1) := by decide +kernel
theorem dX10_feed_26 : decode cX10_feed 26 = .ok (.iload_n 3, 1) := by decide +kernel
theorem dX10_feed_27 : decode cX10_feed 27 = .ok (.invokevirtual 66, 3) := by decide +kernel
theorem dX10_feed_30 : decode cX10_feed 30 = .ok (.aload_n 0, 1) := by decide +kernel
theorem dX10_feed_31 : decode cX10_feed 31 = .ok (.iload 4, 2) := by decide +kernel
theorem dX10_feed_33 : decode cX10_feed 33 = .ok (.invokevirtual 66, 3) := by decide +kernel
theorem dX10_feed_36 : decode cX10_feed 36 = .ok (.aload_n 0, 1) := by decide +kernel
theorem dX10_feed_37 : decode cX10_feed 37 = .ok (.iload 5, 2) := by decide +kernel
theorem dX10_feed_39 : decode cX10_feed 39 = .ok (.invokevirtual 66, 3) := by decide +kernel
theorem dX10_feed_42 : decode cX10_feed 42 = .ok (.aload_n 0, 1) := by decide +kernel
theorem dX10_feed_43 : decode cX10_feed 43 = .ok (.getfield 13, 3) := by decide +kernel
theorem dX10_feed_46 : decode cX10_feed 46 = .ok (.ireturn, 1) := by decide +kernel
theorem dX10_table_0 : decode cX10_table 0 = .ok (.aload_n 0, 1) := by decide +kernel
theorem dX10_table_1 : decode cX10_table 1 = .ok (.iload_n 1, 1) := by decide +kernel
theorem dX10_table_2 : decode cX10_table 2 = .ok (.invokevirtual 70, 3) := by decide +kernel
theorem dX10_table_5 : decode cX10_table 5 = .ok (.aload_n 0, 1) := by decide +kernel
theorem dX10_table_6 : decode cX10_table 6 = .ok (.iconst 0, 1) := by decide +kernel
theorem dX10_table_7 : decode cX10_table 7 = .ok (.putfield 13, 3) := by decide +kernel
theorem dX10_table_10 : decode cX10_table 10 = .ok (.aload_n 0, 1) := by decide +kernel
theorem dX10_table_11 : decode cX10_table 11 = .ok (.iconst (-1), 1) := by decide +kernel
theorem dX10_table_12 : decode cX10_table 12 = .ok (.putfield 56, 3) := by decide +kernel
theorem dX10_table_15 : decode cX10_table 15 = .ok (.aload_n 0, 1) := by decide +kernel
theorem dX10_table_16 : decode cX10_table 16 = .ok (.getfield 30, 3) := by decide +kernel
theorem dX10_table_19 : decode cX10_table 19 = .ok (.bipush 6, 2) := by decide +kernel
theorem dX10_table_21 : decode cX10_table 21 = .ok (.if_icmp .lt 6, 3) := by decide +kernel
theorem dX10_table_24 : decode cX10_table 24 = .ok (.bipush (-9), 2) := by decide +kernel
theorem dX10_table_26 : decode cX10_table 26 = .ok (.ireturn, 1) := by decide +kernel
theorem dX10_table_27 : decode cX10_table 27 = .ok (.aload_n 0, 1) := by decide +kernel
theorem dX10_table_28 : decode cX10_table 28 = .ok (.getfield 20, 3) := by decide +kernel
theorem dX10_table_31 : decode cX10_table 31 = .ok (.aload_n 0, 1) := by decide +kernel
theorem dX10_table_32 : decode cX10_table 32 = .ok (.getfield 9, 3) := by decide +kernel
theorem dX10_table_35 : decode cX10_table 35 = .ok (.iload_n 1, 1) := by decide +kernel
theorem dX10_table_36 : decode cX10_table 36 = .ok (.aload_n 0, 1) := by decide +kernel
theorem dX10_table_37 : decode cX10_table 37 = .ok (.getfield 45, 3) := by decide +kernel
theorem dX10_table_40 : decode cX10_table 40 = .ok (.invokevirtual 73, 3) := by decide +kernel
theorem dX10_table_43 : decode cX10_table 43 = .ok (.istore_n 2, 1) := by decide +kernel
theorem dX10_table_44 : decode cX10_table 44 = .ok (.iload_n 2, 1) := by decide +kernel
theorem dX10_table_45 : decode cX10_table 45 = .ok (.ifCond .eq 18, 3) := by decide +kernel
theorem dX10_table_48 : decode cX10_table 48 = .ok (.aload_n 0, 1) := by decide +kernel
theorem dX10_table_49 : decode cX10_table 49 = .ok (.aload_n 0, 1) := by decide +kernel
theorem dX10_table_50 : decode cX10_table 50 = .ok (.getfield 20, 3) := by decide +kernel
theorem dX10_table_53 : decode cX10_table 53 = .ok (.invokevirtual 77, 3) := by decide +kernel
theorem dX10_table_56 : decode cX10_table 56 = .ok (.putfield 56, 3) := by decide +kernel
theorem dX10_table_59 : decode cX10_table 59 = .ok (.iconst (-1), 1) := by decide +kernel
theorem dX10_table_60 : decode cX10_table 60 = .ok (.iload_n 2, 1) := by decide +kernel
theorem dX10_table_61 : decode cX10_table 61 = .ok (.isub, 1) := by decide +kernel
theorem dX10_table_62 : decode cX10_table 62 = .ok (.ireturn, 1) := by decide +kernel
theorem dX10_table_63 : decode cX10_table 63 = .ok (.new 24, 3) := by decide +kernel
theorem dX10_table_66 : decode cX10_table 66 = .ok (.dup, 1) := by decide +kernel
theorem dX10_table_67 : decode cX10_table 67 = .ok (.aload_n 0, 1) := by decide +kernel
theorem dX10_table_68 : decode cX10_table 68 = .ok (.getfield 45, 3) := by decide +kernel
theorem dX10_table_71 : decode cX10_table 71 = .ok (.invokespecial 81, 3) := by decide +kernel
theorem dX10_table_74 : decode cX10_table 74 = .ok (.astore_n 3, 1) := by decide +kernel
theorem dX10_table_75 : decode cX10_table 75 = .ok (.aload_n 3, 1) := by decide +kernel
theorem dX10_table_76 : decode cX10_table 76 = .ok (.invokevirtual 84, 3) := by decide +kernel
theorem dX10_table_79 : decode cX10_table 79 = .ok (.aload_n 0, 1) := by decide +kernel
theorem dX10_table_80 : decode cX10_table 80 = .ok (.getfield 26, 3) := by decide +kernel
theorem dX10_table_83 : decode cX10_table 83 = .ok (.aload_n 0, 1) := by decide +kernel
theorem dX10_table_84 : decode cX10_table 84 = .ok (.getfield 30, 3) := by decide +kernel
theorem dX10_table_87 : decode cX10_table 87 = .ok (.aload_n 3, 1) := by decide +kernel
theorem dX10_table_88 : decode cX10_table 88 = .ok (.aastore, 1) := by decide +kernel
theorem dX10_table_89 : decode cX10_table 89 = .ok (.aload_n 0, 1) := by decide +kernel
theorem dX10_table_90 : decode cX10_table 90 = .ok (.dup, 1) := by decide +kernel
theorem dX10_table_91 : decode cX10_table 91 = .ok (.getfield 30, 3) := by decide +kernel
theorem dX10_table_94 : decode cX10_table 94 = .ok (.iconst 1, 1) := by decide +kernel
theorem dX10_table_95 : decode cX10_table 95 = .ok (.iadd, 1) := by decide +kernel
theorem dX10_table_96 : decode cX10_table 96 = .ok (.putfield 30, 3) := by decide +kernel
theorem dX10_table_99 : decode cX10_table 99 = .ok (.aload_n 0, 1) := by decide +kernel
theorem dX10_table_100 : decode cX10_table 100 = .ok (.new 42, 3) := by decide +kernel
theorem dX10_table_103 : decode cX10_table 103 = .ok (.dup, 1) := by decide +kernel
theorem dX10_table_104 : decode cX10_table 104 = .ok (.invokespecial 44, 3) := by decide +kernel
theorem dX10_table_107 : decode cX10_table 107 = .ok (.putfield 45, 3) := by decide +kernel
theorem dX10_table_110 : decode cX10_table 110 = .ok (.aload_n 0, 1) := by decide +kernel
theorem dX10_table_111 : decode cX10_table 111 = .ok (.getfield 30, 3) := by decide +kernel
theorem dX10_table_114 : decode cX10_table 114 = .ok (.iconst 1, 1) := by decide +kernel
theorem dX10_table_115 : decode cX10_table 115 = .ok (.isub, 1) := by decide +kernel
theorem dX10_table_116 : decode cX10_table 116 = .ok (.ireturn, 1) := by decide +kernel
theorem dX10_program_0 : decode cX10_program 0 = .ok (.aload_n 0, 1) := by decide +kernel
theorem dX10_program_1 : decode cX10_program 1 = .ok (.iload_n 1, 1) := by decide +kernel
theorem dX10_program_2 : decode cX10_program 2 = .ok (.invokevirtual 87, 3) := by decide +kernel
theorem dX10_program_5 : decode cX10_program 5 = .ok (.astore_n 3, 1) := by decide +kernel
theorem dX10_program_6 : decode cX10_program 6 = .ok (.aload_n 0, 1) := by decide +kernel
theorem dX10_program_7 : decode cX10_program 7 = .ok (.iload_n 2, 1) := by decide +kernel
theorem dX10_program_8 : decode cX10_program 8 = .ok (.invokevirtual 70, 3) := by decide +kernel
theorem dX10_program_11 : decode cX10_program 11 = .ok (.aload_n 0, 1) := by decide +kernel
theorem dX10_program_12 : decode cX10_program 12 = .ok (.iconst 0, 1) := by decide +kernel
theorem dX10_program_13 : decode cX10_program 13 = .ok (.putfield 13, 3) := by decide +kernel
theorem dX10_program_16 : decode cX10_program 16 = .ok (.aload_n 0, 1) := by decide +kernel
theorem dX10_program_17 : decode cX10_program 17 = .ok (.iconst (-1), 1) := by decide +kernel
theorem dX10_program_18 : decode cX10_program 18 = .ok (.putfield 56, 3) := by decide +kernel
theorem dX10_program_21 : decode cX10_program 21 = .ok (.aload_n 0, 1) := by decide +kernel
theorem dX10_program_22 : decode cX10_program 22 = .ok (.getfield 39, 3) := by decide +kernel
theorem dX10_program_25 : decode cX10_program 25 = .ok (.bipush 12, 2) := by decide +kernel
theorem dX10_program_27 : decode cX10_program 27 = .ok (.if_icmp .lt 6, 3) := by decide +kernel
theorem dX10_program_30 : decode cX10_program 30 = .ok (.bipush (-9), 2) := by decide +kernel
theorem dX10_program_32 : decode cX10_program 32 = .ok (.ireturn, 1) := by decide +kernel
theorem dX10_program_33 : decode cX10_program 33 = .ok (.aload_n 0, 1) := by decide +kernel
theorem dX10_program_34 : decode cX10_program 34 = .ok (.getfield 20, 3) := by decide +kernel
theorem dX10_program_37 : decode cX10_program 37 = .ok (.aload_n 0, 1) := by decide +kernel
theorem dX10_program_38 : decode cX10_program 38 = .ok (.getfield 9, 3) := by decide +kernel
theorem dX10_program_41 : decode cX10_program 41 = .ok (.iload_n 2, 1) := by decide +kernel
theorem dX10_program_42 : decode cX10_program 42 = .ok (.aload_n 3, 1) := by decide +kernel
theorem dX10_program_43 : decode cX10_program 43 = .ok (.getfield 91, 3) := by decide +kernel
theorem dX10_program_46 : decode cX10_program 46 = .ok (.aload_n 0, 1) := by decide +kernel
theorem dX10_program_47 : decode cX10_program 47 = .ok (.getfield 52, 3) := by decide +kernel
theorem dX10_program_50 : decode cX10_program 50 = .ok (.invokevirtual 92, 3) := by decide +kernel
theorem dX10_program_53 : decode cX10_program 53 = .ok (.istore 4, 2) := by decide +kernel
theorem dX10_program_55 : decode cX10_program 55 = .ok (.iload 4, 2) := by decide +kernel
theorem dX10_program_57 : decode cX10_program 57 = .ok (.ifCond .eq 19, 3) := by decide +kernel
theorem dX10_program_60 : decode cX10_program 60 = .ok (.aload_n 0, 1) := by decide +kernel
theorem dX10_program_61 : decode cX10_program 61 = .ok (.aload_n 0, 1) := by decide +kernel
theorem dX10_program_62 : decode cX10_program 62 = .ok (.getfield 20, 3) := by decide +kernel
theorem dX10_program_65 : decode cX10_program 65 = .ok (.invokevirtual 77, 3) := by decide +kernel
theorem dX10_program_68 : decode cX10_program 68 = .ok (.putfield 56, 3) := by decide +kernel
theorem dX10_program_71 : decode cX10_program 71 = .ok (.iconst (-1), 1) := by decide +kernel
theorem dX10_program_72 : decode cX10_program 72 = .ok (.iload 4, 2) := by decide +kernel
theorem dX10_program_74 : decode cX10_program 74 = .ok (.isub, 1) := by decide +kernel
theorem dX10_program_75 : decode cX10_program 75 = .ok (.ireturn, 1) := by decide +kernel
theorem dX10_program_76 : decode cX10_program 76 = .ok (.new 33, 3) := by decide +kernel
theorem dX10_program_79 : decode cX10_program 79 = .ok (.dup, 1) := by decide +kernel
theorem dX10_program_80 : decode cX10_program 80 = .ok (.aload_n 3, 1) := by decide +kernel
theorem dX10_program_81 : decode cX10_program 81 = .ok (.invokespecial 96, 3) := by decide +kernel
theorem dX10_program_84 : decode cX10_program 84 = .ok (.astore 5, 2) := by decide +kernel
theorem dX10_program_86 : decode cX10_program 86 = .ok (.aload 5, 2) := by decide +kernel
theorem dX10_program_88 : decode cX10_program 88 = .ok (.aload_n 0, 1) := by decide +kernel
theorem dX10_program_89 : decode cX10_program 89 = .ok (.getfield 52, 3) := by decide +kernel
theorem dX10_program_92 : decode cX10_program 92 = .ok (.invokevirtual 99, 3) := by decide +kernel
theorem dX10_program_95 : decode cX10_program 95 = .ok (.aload_n 0, 1) := by decide +kernel
theorem dX10_program_96 : decode cX10_program 96 = .ok (.getfield 35, 3) := by decide +kernel
theorem dX10_program_99 : decode cX10_program 99 = .ok (.aload_n 0, 1) := by decide +kernel
theorem dX10_program_100 : decode cX10_program 100 = .ok (.getfield 39, 3) := by decide +kernel
theorem dX10_program_103 : decode cX10_program 103 = .ok (.aload 5, 2) := by decide +kernel
theorem dX10_program_105 : decode cX10_program 105 = .ok (.aastore, 1) := by decide +kernel
theorem dX10_program_106 : decode cX10_program 106 = .ok (.aload_n 0, 1) := by decide +kernel
theorem dX10_program_107 : decode cX10_program 107 = .ok (.dup, 1) := by decide +kernel
theorem dX10_program_108 : decode cX10_program 108 = .ok (.getfield 39, 3) := by decide +kernel
theorem dX10_program_111 : decode cX10_program 111 = .ok (.iconst 1, 1) := by decide +kernel
theorem dX10_program_112 : decode cX10_program 112 = .ok (.iadd, 1) := by decide +kernel
theorem dX10_program_113 : decode cX10_program 113 = .ok (.putfield 39, 3) := by decide +kernel
theorem dX10_program_116 : decode cX10_program 116 = .ok (.aload_n 0, 1) := by decide +kernel
theorem dX10_program_117 : decode cX10_program 117 = .ok (.getfield 39, 3) := by decide +kernel
theorem dX10_program_120 : decode cX10_program 120 = .ok (.iconst 1, 1) := by decide +kernel
theorem dX10_program_121 : decode cX10_program 121 = .ok (.isub, 1) := by decide +kernel
theorem dX10_program_122 : decode cX10_program 122 = .ok (.ireturn, 1) := by decide +kernel
theorem dX10_fault_0 : decode cX10_fault 0 = .ok (.aload_n 0, 1) := by decide +kernel
theorem dX10_fault_1 : decode cX10_fault 1 = .ok (.getfield 56, 3) := by decide +kernel
theorem dX10_fault_4 : decode cX10_fault 4 = .ok (.ireturn, 1) := by decide +kernel
theorem dX10_about_0 : decode cX10_about 0 = .ok (.aload_n 0, 1) := by decide +kernel
theorem dX10_about_1 : decode cX10_about 1 = .ok (.iload_n 1, 1) := by decide +kernel
theorem dX10_about_2 : decode cX10_about 2 = .ok (.invokevirtual 87, 3) := by decide +kernel
theorem dX10_about_5 : decode cX10_about 5 = .ok (.astore_n 3, 1) := by decide +kernel
theorem dX10_about_6 : decode cX10_about 6 = .ok (.iload_n 2, 1) := by decide +kernel
theorem dX10_about_7 : decode cX10_about 7 = .ok (.tableswitch 114 0 8 #[49, 57, 62, 73, 84, 89, 94, 99, 104], 49) := by decide +kernel
theorem dX10_about_56 : decode cX10_about 56 = .ok (.aload_n 3, 1) := by decide +kernel
theorem dX10_about_57 : decode cX10_about 57 = .ok (.getfield 91, 3) := by decide +kernel
theorem dX10_about_60 : decode cX10_about 60 = .ok (.getfield 103, 3) := by decide +kernel
theorem dX10_about_63 : decode cX10_about 63 = .ok (.ireturn, 1) := by decide +kernel
theorem dX10_about_64 : decode cX10_about 64 = .ok (.aload_n 3, 1) := by decide +kernel
theorem dX10_about_65 : decode cX10_about 65 = .ok (.getfield 106, 3) := by decide +kernel
theorem dX10_about_68 : decode cX10_about 68 = .ok (.ireturn, 1) := by decide +kernel
theorem dX10_about_69 : decode cX10_about 69 = .ok (.aload_n 3, 1) := by decide +kernel
theorem dX10_about_70 : decode cX10_about 70 = .ok (.getfield 91, 3) := by decide +kernel
theorem dX10_about_73 : decode cX10_about 73 = .ok (.getfield 109, 3) := by decide +kernel
theorem dX10_about_76 : decode cX10_about 76 = .ok (.getfield 113, 3) := by decide +kernel
theorem dX10_about_79 : decode cX10_about 79 = .ok (.ireturn, 1) := by decide +kernel
theorem dX10_about_80 : decode cX10_about 80 = .ok (.aload_n 3, 1) := by decide +kernel
theorem dX10_about_81 : decode cX10_about 81 = .ok (.getfield 91, 3) := by decide +kernel
theorem dX10_about_84 : decode cX10_about 84 = .ok (.getfield 118, 3) := by decide +kernel
theorem dX10_about_87 : decode cX10_about 87 = .ok (.getfield 122, 3) := by decide +kernel
theorem dX10_about_90 : decode cX10_about 90 = .ok (.ireturn, 1) := by decide +kernel
theorem dX10_about_91 : decode cX10_about 91 = .ok (.aload_n 3, 1) := by decide +kernel
theorem dX10_about_92 : decode cX10_about 92 = .ok (.getfield 125, 3) := by decide +kernel
theorem dX10_about_95 : decode cX10_about 95 = .ok (.ireturn, 1) := by decide +kernel
theorem dX10_about_96 : decode cX10_about 96 = .ok (.aload_n 3, 1) := by decide +kernel
theorem dX10_about_97 : decode cX10_about 97 = .ok (.getfield 128, 3) := by decide +kernel
theorem dX10_about_100 : decode cX10_about 100 = .ok (.ireturn, 1) := by decide +kernel
theorem dX10_about_101 : decode cX10_about 101 = .ok (.aload_n 3, 1) := by decide +kernel
theorem dX10_about_102 : decode cX10_about 102 = .ok (.getfield 131, 3) := by decide +kernel
theorem dX10_about_105 : decode cX10_about 105 = .ok (.ireturn, 1) := by decide +kernel
theorem dX10_about_106 : decode cX10_about 106 = .ok (.aload_n 3, 1) := by decide +kernel
theorem dX10_about_107 : decode cX10_about 107 = .ok (.getfield 134, 3) := by decide +kernel
theorem dX10_about_110 : decode cX10_about 110 = .ok (.ireturn, 1) := by decide +kernel
theorem dX10_about_111 : decode cX10_about 111 = .ok (.aload_n 3, 1) := by decide +kernel
theorem dX10_about_112 : decode cX10_about 112 = .ok (.getfield 137, 3) := by decide +kernel
theorem dX10_about_115 : decode cX10_about 115 = .ok (.aload_n 3, 1) := by decide +kernel
theorem dX10_about_116 : decode cX10_about 116 = .ok (.getfield 134, 3) := by decide +kernel
theorem dX10_about_119 : decode cX10_about 119 = .ok (.isub, 1) := by decide +kernel
theorem dX10_about_120 : decode cX10_about 120 = .ok (.ireturn, 1) := by decide +kernel
theorem dX10_about_121 : decode cX10_about 121 = .ok (.new 140, 3) := by decide +kernel
theorem dX10_about_124 : decode cX10_about 124 = .ok (.dup, 1) := by decide +kernel
theorem dX10_about_125 : decode cX10_about 125 = .ok (.ldc 142, 2) := by decide +kernel
theorem dX10_about_127 : decode cX10_about 127 = .ok (.invokespecial 144, 3) := by decide +kernel
theorem dX10_about_130 : decode cX10_about 130 = .ok (.athrow, 1) := by decide +kernel
theorem dX10_answer_0 : decode cX10_answer 0 = .ok (.aload_n 0, 1) := by decide +kernel
theorem dX10_answer_1 : decode cX10_answer 1 = .ok (.iload_n 1, 1) := by decide +kernel
theorem dX10_answer_2 : decode cX10_answer 2 = .ok (.invokevirtual 87, 3) := by decide +kernel
theorem dX10_answer_5 : decode cX10_answer 5 = .ok (.astore 4, 2) := by decide +kernel
theorem dX10_answer_7 : decode cX10_answer 7 = .ok (.iload_n 2, 1) := by decide +kernel
theorem dX10_answer_8 : decode cX10_answer 8 = .ok (.aload 4, 2) := by decide +kernel
theorem dX10_answer_10 : decode cX10_answer 10 = .ok (.getfield 106, 3) := by decide +kernel
theorem dX10_answer_13 : decode cX10_answer 13 = .ok (.invokestatic 147, 3) := by decide +kernel
theorem dX10_answer_16 : decode cX10_answer 16 = .ok (.iload_n 3, 1) := by decide +kernel
theorem dX10_answer_17 : decode cX10_answer 17 = .ok (.tableswitch 51 0 2 #[27, 35, 43], 27) := by decide +kernel
theorem dX10_answer_44 : decode cX10_answer 44 = .ok (.aload 4, 2) := by decide +kernel
theorem dX10_answer_46 : decode cX10_answer 46 = .ok (.getfield 151, 3) := by decide +kernel
theorem dX10_answer_49 : decode cX10_answer 49 = .ok (.iload_n 2, 1) := by decide +kernel
theorem dX10_answer_50 : decode cX10_answer 50 = .ok (.iaload, 1) := by decide +kernel
theorem dX10_answer_51 : decode cX10_answer 51 = .ok (.ireturn, 1) := by decide +kernel
theorem dX10_answer_52 : decode cX10_answer 52 = .ok (.aload 4, 2) := by decide +kernel
theorem dX10_answer_54 : decode cX10_answer 54 = .ok (.getfield 155, 3) := by decide +kernel
theorem dX10_answer_57 : decode cX10_answer 57 = .ok (.iload_n 2, 1) := by decide +kernel
theorem dX10_answer_58 : decode cX10_answer 58 = .ok (.iaload, 1) := by decide +kernel
theorem dX10_answer_59 : decode cX10_answer 59 = .ok (.ireturn, 1) := by decide +kernel
theorem dX10_answer_60 : decode cX10_answer 60 = .ok (.aload 4, 2) := by decide +kernel
theorem dX10_answer_62 : decode cX10_answer 62 = .ok (.getfield 158, 3) := by decide +kernel
theorem dX10_answer_65 : decode cX10_answer 65 = .ok (.iload_n 2, 1) := by decide +kernel
theorem dX10_answer_66 : decode cX10_answer 66 = .ok (.iaload, 1) := by decide +kernel
theorem dX10_answer_67 : decode cX10_answer 67 = .ok (.ireturn, 1) := by decide +kernel
theorem dX10_answer_68 : decode cX10_answer 68 = .ok (.new 140, 3) := by decide +kernel
theorem dX10_answer_71 : decode cX10_answer 71 = .ok (.dup, 1) := by decide +kernel
theorem dX10_answer_72 : decode cX10_answer 72 = .ok (.ldc 142, 2) := by decide +kernel
theorem dX10_answer_74 : decode cX10_answer 74 = .ok (.invokespecial 144, 3) := by decide +kernel
theorem dX10_answer_77 : decode cX10_answer 77 = .ok (.athrow, 1) := by decide +kernel
theorem dX10_value_0 : decode cX10_value 0 = .ok (.aload_n 0, 1) := by decide +kernel
theorem dX10_value_1 : decode cX10_value 1 = .ok (.iload_n 1, 1) := by decide +kernel
theorem dX10_value_2 : decode cX10_value 2 = .ok (.invokevirtual 87, 3) := by decide +kernel
theorem dX10_value_5 : decode cX10_value 5 = .ok (.astore 4, 2) := by decide +kernel
theorem dX10_value_7 : decode cX10_value 7 = .ok (.iload_n 2, 1) := by decide +kernel
theorem dX10_value_8 : decode cX10_value 8 = .ok (.aload 4, 2) := by decide +kernel
theorem dX10_value_10 : decode cX10_value 10 = .ok (.getfield 106, 3) := by decide +kernel
theorem dX10_value_13 : decode cX10_value 13 = .ok (.invokestatic 147, 3) := by decide +kernel
theorem dX10_value_16 : decode cX10_value 16 = .ok (.iload_n 3, 1) := by decide +kernel
theorem dX10_value_17 : decode cX10_value 17 = .ok (.aload 4, 2) := by decide +kernel
theorem dX10_value_19 : decode cX10_value 19 = .ok (.getfield 91, 3) := by decide +kernel
theorem dX10_value_22 : decode cX10_value 22 = .ok (.getfield 103, 3) := by decide +kernel
theorem dX10_value_25 : decode cX10_value 25 = .ok (.invokestatic 147, 3) := by decide +kernel
theorem dX10_value_28 : decode cX10_value 28 = .ok (.aload 4, 2) := by decide +kernel
theorem dX10_value_30 : decode cX10_value 30 = .ok (.getfield 161, 3) := by decide +kernel
theorem dX10_value_33 : decode cX10_value 33 = .ok (.iload_n 3, 1) := by decide +kernel
theorem dX10_value_34 : decode cX10_value 34 = .ok (.aaload, 1) := by decide +kernel
theorem dX10_value_35 : decode cX10_value 35 = .ok (.iload_n 2, 1) := by decide +kernel
theorem dX10_value_36 : decode cX10_value 36 = .ok (.iaload, 1) := by decide +kernel
theorem dX10_value_37 : decode cX10_value 37 = .ok (.ireturn, 1) := by decide +kernel
theorem dX10_hole_0 : decode cX10_hole 0 = .ok (.aload_n 0, 1) := by decide +kernel
theorem dX10_hole_1 : decode cX10_hole 1 = .ok (.iload_n 1, 1) := by decide +kernel
theorem dX10_hole_2 : decode cX10_hole 2 = .ok (.invokevirtual 87, 3) := by decide +kernel
theorem dX10_hole_5 : decode cX10_hole 5 = .ok (.astore_n 3, 1) := by decide +kernel
theorem dX10_hole_6 : decode cX10_hole 6 = .ok (.iload_n 2, 1) := by decide +kernel
theorem dX10_hole_7 : decode cX10_hole 7 = .ok (.aload_n 3, 1) := by decide +kernel
theorem dX10_hole_8 : decode cX10_hole 8 = .ok (.getfield 125, 3) := by decide +kernel
theorem dX10_hole_11 : decode cX10_hole 11 = .ok (.invokestatic 147, 3) := by decide +kernel
theorem dX10_hole_14 : decode cX10_hole 14 = .ok (.aload_n 3, 1) := by decide +kernel
theorem dX10_hole_15 : decode cX10_hole 15 = .ok (.getfield 165, 3) := by decide +kernel
theorem dX10_hole_18 : decode cX10_hole 18 = .ok (.iload_n 2, 1) := by decide +kernel
theorem dX10_hole_19 : decode cX10_hole 19 = .ok (.iaload, 1) := by decide +kernel
theorem dX10_hole_20 : decode cX10_hole 20 = .ok (.ireturn, 1) := by decide +kernel
theorem dX10_quarrel_0 : decode cX10_quarrel 0 = .ok (.aload_n 0, 1) := by decide +kernel
theorem dX10_quarrel_1 : decode cX10_quarrel 1 = .ok (.iload_n 1, 1) := by decide +kernel
theorem dX10_quarrel_2 : decode cX10_quarrel 2 = .ok (.invokevirtual 87, 3) := by decide +kernel
theorem dX10_quarrel_5 : decode cX10_quarrel 5 = .ok (.astore 4, 2) := by decide +kernel
theorem dX10_quarrel_7 : decode cX10_quarrel 7 = .ok (.iload_n 2, 1) := by decide +kernel
theorem dX10_quarrel_8 : decode cX10_quarrel 8 = .ok (.aload 4, 2) := by decide +kernel
theorem dX10_quarrel_10 : decode cX10_quarrel 10 = .ok (.getfield 128, 3) := by decide +kernel
theorem dX10_quarrel_13 : decode cX10_quarrel 13 = .ok (.invokestatic 147, 3) := by decide +kernel
theorem dX10_quarrel_16 : decode cX10_quarrel 16 = .ok (.iload_n 3, 1) := by decide +kernel
theorem dX10_quarrel_17 : decode cX10_quarrel 17 = .ok (.tableswitch 63 0 2 #[27, 35, 43], 27) := by decide +kernel
theorem dX10_quarrel_44 : decode cX10_quarrel 44 = .ok (.aload 4, 2) := by decide +kernel
theorem dX10_quarrel_46 : decode cX10_quarrel 46 = .ok (.getfield 168, 3) := by decide +kernel
theorem dX10_quarrel_49 : decode cX10_quarrel 49 = .ok (.iload_n 2, 1) := by decide +kernel
theorem dX10_quarrel_50 : decode cX10_quarrel 50 = .ok (.iaload, 1) := by decide +kernel
theorem dX10_quarrel_51 : decode cX10_quarrel 51 = .ok (.ireturn, 1) := by decide +kernel
theorem dX10_quarrel_52 : decode cX10_quarrel 52 = .ok (.aload 4, 2) := by decide +kernel
theorem dX10_quarrel_54 : decode cX10_quarrel 54 = .ok (.getfield 171, 3) := by decide +kernel
theorem dX10_quarrel_57 : decode cX10_quarrel 57 = .ok (.iload_n 2, 1) := by decide +kernel
theorem dX10_quarrel_58 : decode cX10_quarrel 58 = .ok (.iaload, 1) := by decide +kernel
theorem dX10_quarrel_59 : decode cX10_quarrel 59 = .ok (.ireturn, 1) := by decide +kernel
theorem dX10_quarrel_60 : decode cX10_quarrel 60 = .ok (.aload 4, 2) := by decide +kernel
theorem dX10_quarrel_62 : decode cX10_quarrel 62 = .ok (.aload 4, 2) := by decide +kernel
theorem dX10_quarrel_64 : decode cX10_quarrel 64 = .ok (.getfield 168, 3) := by decide +kernel
theorem dX10_quarrel_67 : decode cX10_quarrel 67 = .ok (.iload_n 2, 1) := by decide +kernel
theorem dX10_quarrel_68 : decode cX10_quarrel 68 = .ok (.iaload, 1) := by decide +kernel
theorem dX10_quarrel_69 : decode cX10_quarrel 69 = .ok (.aload 4, 2) := by decide +kernel
theorem dX10_quarrel_71 : decode cX10_quarrel 71 = .ok (.getfield 171, 3) := by decide +kernel
theorem dX10_quarrel_74 : decode cX10_quarrel 74 = .ok (.iload_n 2, 1) := by decide +kernel
theorem dX10_quarrel_75 : decode cX10_quarrel 75 = .ok (.iaload, 1) := by decide +kernel
theorem dX10_quarrel_76 : decode cX10_quarrel 76 = .ok (.invokevirtual 174, 3) := by decide +kernel
theorem dX10_quarrel_79 : decode cX10_quarrel 79 = .ok (.ireturn, 1) := by decide +kernel
theorem dX10_quarrel_80 : decode cX10_quarrel 80 = .ok (.new 140, 3) := by decide +kernel
theorem dX10_quarrel_83 : decode cX10_quarrel 83 = .ok (.dup, 1) := by decide +kernel
theorem dX10_quarrel_84 : decode cX10_quarrel 84 = .ok (.ldc 142, 2) := by decide +kernel
theorem dX10_quarrel_86 : decode cX10_quarrel 86 = .ok (.invokespecial 144, 3) := by decide +kernel
theorem dX10_quarrel_89 : decode cX10_quarrel 89 = .ok (.athrow, 1) := by decide +kernel
theorem dX10_idle_0 : decode cX10_idle 0 = .ok (.aload_n 0, 1) := by decide +kernel
theorem dX10_idle_1 : decode cX10_idle 1 = .ok (.iload_n 1, 1) := by decide +kernel
theorem dX10_idle_2 : decode cX10_idle 2 = .ok (.invokevirtual 87, 3) := by decide +kernel
theorem dX10_idle_5 : decode cX10_idle 5 = .ok (.astore_n 3, 1) := by decide +kernel
theorem dX10_idle_6 : decode cX10_idle 6 = .ok (.iload_n 2, 1) := by decide +kernel
theorem dX10_idle_7 : decode cX10_idle 7 = .ok (.aload_n 3, 1) := by decide +kernel
theorem dX10_idle_8 : decode cX10_idle 8 = .ok (.getfield 91, 3) := by decide +kernel
theorem dX10_idle_11 : decode cX10_idle 11 = .ok (.getfield 118, 3) := by decide +kernel
theorem dX10_idle_14 : decode cX10_idle 14 = .ok (.getfield 122, 3) := by decide +kernel
theorem dX10_idle_17 : decode cX10_idle 17 = .ok (.invokestatic 147, 3) := by decide +kernel
theorem dX10_idle_20 : decode cX10_idle 20 = .ok (.aload_n 3, 1) := by decide +kernel
theorem dX10_idle_21 : decode cX10_idle 21 = .ok (.getfield 178, 3) := by decide +kernel
theorem dX10_idle_24 : decode cX10_idle 24 = .ok (.iload_n 2, 1) := by decide +kernel
theorem dX10_idle_25 : decode cX10_idle 25 = .ok (.baload, 1) := by decide +kernel
theorem dX10_idle_26 : decode cX10_idle 26 = .ok (.ireturn, 1) := by decide +kernel
theorem dX10_term_0 : decode cX10_term 0 = .ok (.aload_n 0, 1) := by decide +kernel
theorem dX10_term_1 : decode cX10_term 1 = .ok (.iload_n 1, 1) := by decide +kernel
theorem dX10_term_2 : decode cX10_term 2 = .ok (.invokevirtual 87, 3) := by decide +kernel
theorem dX10_term_5 : decode cX10_term 5 = .ok (.astore 4, 2) := by decide +kernel
theorem dX10_term_7 : decode cX10_term 7 = .ok (.iload_n 2, 1) := by decide +kernel
theorem dX10_term_8 : decode cX10_term 8 = .ok (.aload 4, 2) := by decide +kernel
theorem dX10_term_10 : decode cX10_term 10 = .ok (.getfield 134, 3) := by decide +kernel
theorem dX10_term_13 : decode cX10_term 13 = .ok (.invokestatic 147, 3) := by decide +kernel
theorem dX10_term_16 : decode cX10_term 16 = .ok (.iload_n 3, 1) := by decide +kernel
theorem dX10_term_17 : decode cX10_term 17 = .ok (.iconst (-1), 1) := by decide +kernel
theorem dX10_term_18 : decode cX10_term 18 = .ok (.if_icmp .ne 20, 3) := by decide +kernel
theorem dX10_term_21 : decode cX10_term 21 = .ok (.aload 4, 2) := by decide +kernel
theorem dX10_term_23 : decode cX10_term 23 = .ok (.getfield 182, 3) := by decide +kernel
theorem dX10_term_26 : decode cX10_term 26 = .ok (.getfield 186, 3) := by decide +kernel
theorem dX10_term_29 : decode cX10_term 29 = .ok (.aload 4, 2) := by decide +kernel
theorem dX10_term_31 : decode cX10_term 31 = .ok (.getfield 191, 3) := by decide +kernel
theorem dX10_term_34 : decode cX10_term 34 = .ok (.iload_n 2, 1) := by decide +kernel
theorem dX10_term_35 : decode cX10_term 35 = .ok (.iaload, 1) := by decide +kernel
theorem dX10_term_36 : decode cX10_term 36 = .ok (.iaload, 1) := by decide +kernel
theorem dX10_term_37 : decode cX10_term 37 = .ok (.ireturn, 1) := by decide +kernel
theorem dX10_term_38 : decode cX10_term 38 = .ok (.iload_n 3, 1) := by decide +kernel
theorem dX10_term_39 : decode cX10_term 39 = .ok (.aload 4, 2) := by decide +kernel
theorem dX10_term_41 : decode cX10_term 41 = .ok (.getfield 91, 3) := by decide +kernel
theorem dX10_term_44 : decode cX10_term 44 = .ok (.getfield 103, 3) := by decide +kernel
theorem dX10_term_47 : decode cX10_term 47 = .ok (.invokestatic 147, 3) := by decide +kernel
theorem dX10_term_50 : decode cX10_term 50 = .ok (.aload 4, 2) := by decide +kernel
theorem dX10_term_52 : decode cX10_term 52 = .ok (.getfield 182, 3) := by decide +kernel
theorem dX10_term_55 : decode cX10_term 55 = .ok (.aload 4, 2) := by decide +kernel
theorem dX10_term_57 : decode cX10_term 57 = .ok (.getfield 191, 3) := by decide +kernel
theorem dX10_term_60 : decode cX10_term 60 = .ok (.iload_n 2, 1) := by decide +kernel
theorem dX10_term_61 : decode cX10_term 61 = .ok (.iaload, 1) := by decide +kernel
theorem dX10_term_62 : decode cX10_term 62 = .ok (.iload_n 3, 1) := by decide +kernel
theorem dX10_term_63 : decode cX10_term 63 = .ok (.invokevirtual 194, 3) := by decide +kernel
theorem dX10_term_66 : decode cX10_term 66 = .ok (.ireturn, 1) := by decide +kernel
theorem dX10_offered_0 : decode cX10_offered 0 = .ok (.aload_n 0, 1) := by decide +kernel
theorem dX10_offered_1 : decode cX10_offered 1 = .ok (.iload_n 1, 1) := by decide +kernel
theorem dX10_offered_2 : decode cX10_offered 2 = .ok (.invokevirtual 87, 3) := by decide +kernel
theorem dX10_offered_5 : decode cX10_offered 5 = .ok (.astore 4, 2) := by decide +kernel
theorem dX10_offered_7 : decode cX10_offered 7 = .ok (.iload_n 2, 1) := by decide +kernel
theorem dX10_offered_8 : decode cX10_offered 8 = .ok (.aload 4, 2) := by decide +kernel
theorem dX10_offered_10 : decode cX10_offered 10 = .ok (.getfield 137, 3) := by decide +kernel
theorem dX10_offered_13 : decode cX10_offered 13 = .ok (.aload 4, 2) := by decide +kernel
theorem dX10_offered_15 : decode cX10_offered 15 = .ok (.getfield 134, 3) := by decide +kernel
theorem dX10_offered_18 : decode cX10_offered 18 = .ok (.isub, 1) := by decide +kernel
theorem dX10_offered_19 : decode cX10_offered 19 = .ok (.invokestatic 147, 3) := by decide +kernel
theorem dX10_offered_22 : decode cX10_offered 22 = .ok (.aload 4, 2) := by decide +kernel
theorem dX10_offered_24 : decode cX10_offered 24 = .ok (.getfield 191, 3) := by decide +kernel
theorem dX10_offered_27 : decode cX10_offered 27 = .ok (.aload 4, 2) := by decide +kernel
theorem dX10_offered_29 : decode cX10_offered 29 = .ok (.getfield 134, 3) := by decide +kernel
theorem dX10_offered_32 : decode cX10_offered 32 = .ok (.iload_n 2, 1) := by decide +kernel
theorem dX10_offered_33 : decode cX10_offered 33 = .ok (.iadd, 1) := by decide +kernel
theorem dX10_offered_34 : decode cX10_offered 34 = .ok (.iaload, 1) := by decide +kernel
theorem dX10_offered_35 : decode cX10_offered 35 = .ok (.istore 5, 2) := by decide +kernel
theorem dX10_offered_37 : decode cX10_offered 37 = .ok (.iload_n 3, 1) := by decide +kernel
theorem dX10_offered_38 : decode cX10_offered 38 = .ok (.iconst (-1), 1) := by decide +kernel
theorem dX10_offered_39 : decode cX10_offered 39 = .ok (.if_icmp .ne 14, 3) := by decide +kernel
theorem dX10_offered_42 : decode cX10_offered 42 = .ok (.aload 4, 2) := by decide +kernel
theorem dX10_offered_44 : decode cX10_offered 44 = .ok (.getfield 182, 3) := by decide +kernel
theorem dX10_offered_47 : decode cX10_offered 47 = .ok (.iload 5, 2) := by decide +kernel
theorem dX10_offered_49 : decode cX10_offered 49 = .ok (.invokevirtual 197, 3) := by decide +kernel
theorem dX10_offered_52 : decode cX10_offered 52 = .ok (.ireturn, 1) := by decide +kernel
theorem dX10_offered_53 : decode cX10_offered 53 = .ok (.iload_n 3, 1) := by decide +kernel
theorem dX10_offered_54 : decode cX10_offered 54 = .ok (.aload 4, 2) := by decide +kernel
theorem dX10_offered_56 : decode cX10_offered 56 = .ok (.getfield 91, 3) := by decide +kernel
theorem dX10_offered_59 : decode cX10_offered 59 = .ok (.getfield 103, 3) := by decide +kernel
theorem dX10_offered_62 : decode cX10_offered 62 = .ok (.invokestatic 147, 3) := by decide +kernel
theorem dX10_offered_65 : decode cX10_offered 65 = .ok (.aload 4, 2) := by decide +kernel
theorem dX10_offered_67 : decode cX10_offered 67 = .ok (.getfield 182, 3) := by decide +kernel
theorem dX10_offered_70 : decode cX10_offered 70 = .ok (.iload 5, 2) := by decide +kernel
theorem dX10_offered_72 : decode cX10_offered 72 = .ok (.iload_n 3, 1) := by decide +kernel
theorem dX10_offered_73 : decode cX10_offered 73 = .ok (.invokevirtual 194, 3) := by decide +kernel
theorem dX10_offered_76 : decode cX10_offered 76 = .ok (.ireturn, 1) := by decide +kernel
theorem dX10_tell_0 : decode cX10_tell 0 = .ok (.aload_n 0, 1) := by decide +kernel
theorem dX10_tell_1 : decode cX10_tell 1 = .ok (.iload_n 1, 1) := by decide +kernel
theorem dX10_tell_2 : decode cX10_tell 2 = .ok (.invokevirtual 87, 3) := by decide +kernel
theorem dX10_tell_5 : decode cX10_tell 5 = .ok (.astore_n 2, 1) := by decide +kernel
theorem dX10_tell_6 : decode cX10_tell 6 = .ok (.aload_n 0, 1) := by decide +kernel
theorem dX10_tell_7 : decode cX10_tell 7 = .ok (.getfield 62, 3) := by decide +kernel
theorem dX10_tell_10 : decode cX10_tell 10 = .ok (.invokevirtual 201, 3) := by decide +kernel
theorem dX10_tell_13 : decode cX10_tell 13 = .ok (.iconst 0, 1) := by decide +kernel
theorem dX10_tell_14 : decode cX10_tell 14 = .ok (.istore_n 3, 1) := by decide +kernel
theorem dX10_tell_15 : decode cX10_tell 15 = .ok (.iload_n 3, 1) := by decide +kernel
theorem dX10_tell_16 : decode cX10_tell 16 = .ok (.aload_n 2, 1) := by decide +kernel
theorem dX10_tell_17 : decode cX10_tell 17 = .ok (.getfield 134, 3) := by decide +kernel
theorem dX10_tell_20 : decode cX10_tell 20 = .ok (.if_icmp .ge 23, 3) := by decide +kernel
theorem dX10_tell_23 : decode cX10_tell 23 = .ok (.aload_n 0, 1) := by decide +kernel
theorem dX10_tell_24 : decode cX10_tell 24 = .ok (.getfield 62, 3) := by decide +kernel
theorem dX10_tell_27 : decode cX10_tell 27 = .ok (.aload_n 2, 1) := by decide +kernel
theorem dX10_tell_28 : decode cX10_tell 28 = .ok (.aload_n 2, 1) := by decide +kernel
theorem dX10_tell_29 : decode cX10_tell 29 = .ok (.getfield 191, 3) := by decide +kernel
theorem dX10_tell_32 : decode cX10_tell 32 = .ok (.iload_n 3, 1) := by decide +kernel
theorem dX10_tell_33 : decode cX10_tell 33 = .ok (.iaload, 1) := by decide +kernel
theorem dX10_tell_34 : decode cX10_tell 34 = .ok (.invokevirtual 204, 3) := by decide +kernel
theorem dX10_tell_37 : decode cX10_tell 37 = .ok (.iinc 3 1, 3) := by decide +kernel
theorem dX10_tell_40 : decode cX10_tell 40 = .ok (.goto (-25), 3) := by decide +kernel
theorem dX10_tell_43 : decode cX10_tell 43 = .ok (.aload_n 0, 1) := by decide +kernel
theorem dX10_tell_44 : decode cX10_tell 44 = .ok (.getfield 62, 3) := by decide +kernel
theorem dX10_tell_47 : decode cX10_tell 47 = .ok (.getfield 208, 3) := by decide +kernel
theorem dX10_tell_50 : decode cX10_tell 50 = .ok (.ireturn, 1) := by decide +kernel
theorem dX10_told_0 : decode cX10_told 0 = .ok (.iload_n 1, 1) := by decide +kernel
theorem dX10_told_1 : decode cX10_told 1 = .ok (.aload_n 0, 1) := by decide +kernel
theorem dX10_told_2 : decode cX10_told 2 = .ok (.getfield 62, 3) := by decide +kernel
theorem dX10_told_5 : decode cX10_told 5 = .ok (.invokevirtual 211, 3) := by decide +kernel
theorem dX10_told_8 : decode cX10_told 8 = .ok (.invokestatic 147, 3) := by decide +kernel
theorem dX10_told_11 : decode cX10_told 11 = .ok (.aload_n 0, 1) := by decide +kernel
theorem dX10_told_12 : decode cX10_told 12 = .ok (.getfield 62, 3) := by decide +kernel
theorem dX10_told_15 : decode cX10_told 15 = .ok (.getfield 214, 3) := by decide +kernel
theorem dX10_told_18 : decode cX10_told 18 = .ok (.iload_n 1, 1) := by decide +kernel
theorem dX10_told_19 : decode cX10_told 19 = .ok (.baload, 1) := by decide +kernel
theorem dX10_told_20 : decode cX10_told 20 = .ok (.ireturn, 1) := by decide +kernel
theorem dX10_run_0 : decode cX10_run 0 = .ok (.aload_n 0, 1) := by decide +kernel
theorem dX10_run_1 : decode cX10_run 1 = .ok (.iload_n 1, 1) := by decide +kernel
theorem dX10_run_2 : decode cX10_run 2 = .ok (.invokevirtual 217, 3) := by decide +kernel
theorem dX10_run_5 : decode cX10_run 5 = .ok (.astore_n 3, 1) := by decide +kernel
theorem dX10_run_6 : decode cX10_run 6 = .ok (.iload_n 2, 1) := by decide +kernel
theorem dX10_run_7 : decode cX10_run 7 = .ok (.aload_n 3, 1) := by decide +kernel
theorem dX10_run_8 : decode cX10_run 8 = .ok (.getfield 221, 3) := by decide +kernel
theorem dX10_run_11 : decode cX10_run 11 = .ok (.getfield 106, 3) := by decide +kernel
theorem dX10_run_14 : decode cX10_run 14 = .ok (.invokestatic 147, 3) := by decide +kernel
theorem dX10_run_17 : decode cX10_run 17 = .ok (.aload_n 3, 1) := by decide +kernel
theorem dX10_run_18 : decode cX10_run 18 = .ok (.getfield 225, 3) := by decide +kernel
theorem dX10_run_21 : decode cX10_run 21 = .ok (.iload_n 2, 1) := by decide +kernel
theorem dX10_run_22 : decode cX10_run 22 = .ok (.iaload, 1) := by decide +kernel
theorem dX10_run_23 : decode cX10_run 23 = .ok (.ireturn, 1) := by decide +kernel
theorem dX10_fails_0 : decode cX10_fails 0 = .ok (.aload_n 0, 1) := by decide +kernel
theorem dX10_fails_1 : decode cX10_fails 1 = .ok (.iload_n 1, 1) := by decide +kernel
theorem dX10_fails_2 : decode cX10_fails 2 = .ok (.invokevirtual 217, 3) := by decide +kernel
theorem dX10_fails_5 : decode cX10_fails 5 = .ok (.astore_n 3, 1) := by decide +kernel
theorem dX10_fails_6 : decode cX10_fails 6 = .ok (.aload_n 3, 1) := by decide +kernel
theorem dX10_fails_7 : decode cX10_fails 7 = .ok (.getfield 221, 3) := by decide +kernel
theorem dX10_fails_10 : decode cX10_fails 10 = .ok (.iload_n 2, 1) := by decide +kernel
theorem dX10_fails_11 : decode cX10_fails 11 = .ok (.invokestatic 226, 3) := by decide +kernel
theorem dX10_fails_14 : decode cX10_fails 14 = .ok (.iconst 0, 1) := by decide +kernel
theorem dX10_fails_15 : decode cX10_fails 15 = .ok (.istore 4, 2) := by decide +kernel
theorem dX10_fails_17 : decode cX10_fails 17 = .ok (.iconst 0, 1) := by decide +kernel
theorem dX10_fails_18 : decode cX10_fails 18 = .ok (.istore 5, 2) := by decide +kernel
theorem dX10_fails_20 : decode cX10_fails 20 = .ok (.iload 5, 2) := by decide +kernel
theorem dX10_fails_22 : decode cX10_fails 22 = .ok (.aload_n 3, 1) := by decide +kernel
theorem dX10_fails_23 : decode cX10_fails 23 = .ok (.getfield 221, 3) := by decide +kernel
theorem dX10_fails_26 : decode cX10_fails 26 = .ok (.getfield 106, 3) := by decide +kernel
theorem dX10_fails_29 : decode cX10_fails 29 = .ok (.if_icmp .ge 22, 3) := by decide +kernel
theorem dX10_fails_32 : decode cX10_fails 32 = .ok (.aload_n 3, 1) := by decide +kernel
theorem dX10_fails_33 : decode cX10_fails 33 = .ok (.iload 5, 2) := by decide +kernel
theorem dX10_fails_35 : decode cX10_fails 35 = .ok (.iload_n 2, 1) := by decide +kernel
theorem dX10_fails_36 : decode cX10_fails 36 = .ok (.invokevirtual 229, 3) := by decide +kernel
theorem dX10_fails_39 : decode cX10_fails 39 = .ok (.ifCond .eq 6, 3) := by decide +kernel
theorem dX10_fails_42 : decode cX10_fails 42 = .ok (.iinc 4 1, 3) := by decide +kernel
theorem dX10_fails_45 : decode cX10_fails 45 = .ok (.iinc 5 1, 3) := by decide +kernel
theorem dX10_fails_48 : decode cX10_fails 48 = .ok (.goto (-28), 3) := by decide +kernel
theorem dX10_fails_51 : decode cX10_fails 51 = .ok (.iload 4, 2) := by decide +kernel
theorem dX10_fails_53 : decode cX10_fails 53 = .ok (.ireturn, 1) := by decide +kernel
theorem dX10_failing_0 : decode cX10_failing 0 = .ok (.aload_n 0, 1) := by decide +kernel
theorem dX10_failing_1 : decode cX10_failing 1 = .ok (.iload_n 1, 1) := by decide +kernel
theorem dX10_failing_2 : decode cX10_failing 2 = .ok (.invokevirtual 217, 3) := by decide +kernel
theorem dX10_failing_5 : decode cX10_failing 5 = .ok (.astore_n 3, 1) := by decide +kernel
theorem dX10_failing_6 : decode cX10_failing 6 = .ok (.aload_n 3, 1) := by decide +kernel
theorem dX10_failing_7 : decode cX10_failing 7 = .ok (.getfield 221, 3) := by decide +kernel
theorem dX10_failing_10 : decode cX10_failing 10 = .ok (.iload_n 2, 1) := by decide +kernel
theorem dX10_failing_11 : decode cX10_failing 11 = .ok (.invokestatic 226, 3) := by decide +kernel
theorem dX10_failing_14 : decode cX10_failing 14 = .ok (.iconst 0, 1) := by decide +kernel
theorem dX10_failing_15 : decode cX10_failing 15 = .ok (.istore 4, 2) := by decide +kernel
theorem dX10_failing_17 : decode cX10_failing 17 = .ok (.iload 4, 2) := by decide +kernel
theorem dX10_failing_19 : decode cX10_failing 19 = .ok (.aload_n 3, 1) := by decide +kernel
theorem dX10_failing_20 : decode cX10_failing 20 = .ok (.getfield 221, 3) := by decide +kernel
theorem dX10_failing_23 : decode cX10_failing 23 = .ok (.getfield 106, 3) := by decide +kernel
theorem dX10_failing_26 : decode cX10_failing 26 = .ok (.if_icmp .ge 22, 3) := by decide +kernel
theorem dX10_failing_29 : decode cX10_failing 29 = .ok (.aload_n 3, 1) := by decide +kernel
theorem dX10_failing_30 : decode cX10_failing 30 = .ok (.iload 4, 2) := by decide +kernel
theorem dX10_failing_32 : decode cX10_failing 32 = .ok (.iload_n 2, 1) := by decide +kernel
theorem dX10_failing_33 : decode cX10_failing 33 = .ok (.invokevirtual 229, 3) := by decide +kernel
theorem dX10_failing_36 : decode cX10_failing 36 = .ok (.ifCond .eq 6, 3) := by decide +kernel
theorem dX10_failing_39 : decode cX10_failing 39 = .ok (.iload 4, 2) := by decide +kernel
theorem dX10_failing_41 : decode cX10_failing 41 = .ok (.ireturn, 1) := by decide +kernel
theorem dX10_failing_42 : decode cX10_failing 42 = .ok (.iinc 4 1, 3) := by decide +kernel
theorem dX10_failing_45 : decode cX10_failing 45 = .ok (.goto (-28), 3) := by decide +kernel
theorem dX10_failing_48 : decode cX10_failing 48 = .ok (.iconst (-1), 1) := by decide +kernel
theorem dX10_failing_49 : decode cX10_failing 49 = .ok (.ireturn, 1) := by decide +kernel
theorem dX10_changed_0 : decode cX10_changed 0 = .ok (.aload_n 0, 1) := by decide +kernel
theorem dX10_changed_1 : decode cX10_changed 1 = .ok (.iload_n 1, 1) := by decide +kernel
theorem dX10_changed_2 : decode cX10_changed 2 = .ok (.invokevirtual 217, 3) := by decide +kernel
theorem dX10_changed_5 : decode cX10_changed 5 = .ok (.astore 4, 2) := by decide +kernel
theorem dX10_changed_7 : decode cX10_changed 7 = .ok (.aload_n 0, 1) := by decide +kernel
theorem dX10_changed_8 : decode cX10_changed 8 = .ok (.iload_n 2, 1) := by decide +kernel
theorem dX10_changed_9 : decode cX10_changed 9 = .ok (.invokevirtual 217, 3) := by decide +kernel
theorem dX10_changed_12 : decode cX10_changed 12 = .ok (.astore 5, 2) := by decide +kernel
theorem dX10_changed_14 : decode cX10_changed 14 = .ok (.iload_n 3, 1) := by decide +kernel
theorem dX10_changed_15 : decode cX10_changed 15 = .ok (.ifCond .lt 8, 3) := by decide +kernel
theorem dX10_changed_18 : decode cX10_changed 18 = .ok (.iload_n 3, 1) := by decide +kernel
theorem dX10_changed_19 : decode cX10_changed 19 = .ok (.iconst 2, 1) := by decide +kernel
theorem dX10_changed_20 : decode cX10_changed 20 = .ok (.if_icmp .le 13, 3) := by decide +kernel
theorem dX10_changed_23 : decode cX10_changed 23 = .ok (.new 140, 3) := by decide +kernel
theorem dX10_changed_26 : decode cX10_changed 26 = .ok (.dup, 1) := by decide +kernel
theorem dX10_changed_27 : decode cX10_changed 27 = .ok (.ldc 142, 2) := by decide +kernel
theorem dX10_changed_29 : decode cX10_changed 29 = .ok (.invokespecial 144, 3) := by decide +kernel
theorem dX10_changed_32 : decode cX10_changed 32 = .ok (.athrow, 1) := by decide +kernel
theorem dX10_changed_33 : decode cX10_changed 33 = .ok (.aload 4, 2) := by decide +kernel
theorem dX10_changed_35 : decode cX10_changed 35 = .ok (.getfield 221, 3) := by decide +kernel
theorem dX10_changed_38 : decode cX10_changed 38 = .ok (.aload 5, 2) := by decide +kernel
theorem dX10_changed_40 : decode cX10_changed 40 = .ok (.getfield 221, 3) := by decide +kernel
theorem dX10_changed_43 : decode cX10_changed 43 = .ok (.if_acmp .eq 13, 3) := by decide +kernel
theorem dX10_changed_46 : decode cX10_changed 46 = .ok (.new 233, 3) := by decide +kernel
theorem dX10_changed_49 : decode cX10_changed 49 = .ok (.dup, 1) := by decide +kernel
theorem dX10_changed_50 : decode cX10_changed 50 = .ok (.ldc 235, 2) := by decide +kernel
theorem dX10_changed_52 : decode cX10_changed 52 = .ok (.invokespecial 237, 3) := by decide +kernel
theorem dX10_changed_55 : decode cX10_changed 55 = .ok (.athrow, 1) := by decide +kernel
theorem dX10_changed_56 : decode cX10_changed 56 = .ok (.iload_n 3, 1) := by decide +kernel
theorem dX10_changed_57 : decode cX10_changed 57 = .ok (.iconst 2, 1) := by decide +kernel
theorem dX10_changed_58 : decode cX10_changed 58 = .ok (.if_icmp .ne 11, 3) := by decide +kernel
theorem dX10_changed_61 : decode cX10_changed 61 = .ok (.aload 4, 2) := by decide +kernel
theorem dX10_changed_63 : decode cX10_changed 63 = .ok (.aload 5, 2) := by decide +kernel
theorem dX10_changed_65 : decode cX10_changed 65 = .ok (.invokestatic 238, 3) := by decide +kernel
theorem dX10_changed_68 : decode cX10_changed 68 = .ok (.ireturn, 1) := by decide +kernel
theorem dX10_changed_69 : decode cX10_changed 69 = .ok (.aload 4, 2) := by decide +kernel
theorem dX10_changed_71 : decode cX10_changed 71 = .ok (.aload 5, 2) := by decide +kernel
theorem dX10_changed_73 : decode cX10_changed 73 = .ok (.iload_n 3, 1) := by decide +kernel
theorem dX10_changed_74 : decode cX10_changed 74 = .ok (.iconst 1, 1) := by decide +kernel
theorem dX10_changed_75 : decode cX10_changed 75 = .ok (.if_icmp .ne 7, 3) := by decide +kernel
theorem dX10_changed_78 : decode cX10_changed 78 = .ok (.iconst 1, 1) := by decide +kernel
theorem dX10_changed_79 : decode cX10_changed 79 = .ok (.goto 4, 3) := by decide +kernel
theorem dX10_changed_82 : decode cX10_changed 82 = .ok (.iconst 0, 1) := by decide +kernel
theorem dX10_changed_83 : decode cX10_changed 83 = .ok (.invokestatic 242, 3) := by decide +kernel
theorem dX10_changed_86 : decode cX10_changed 86 = .ok (.ireturn, 1) := by decide +kernel
theorem dX10_count_0 : decode cX10_count 0 = .ok (.iload_n 1, 1) := by decide +kernel
theorem dX10_count_1 : decode cX10_count 1 = .ok (.tableswitch 54 0 3 #[31, 36, 41, 46], 31) := by decide +kernel
theorem dX10_count_32 : decode cX10_count 32 = .ok (.aload_n 0, 1) := by decide +kernel
theorem dX10_count_33 : decode cX10_count 33 = .ok (.getfield 30, 3) := by decide +kernel
theorem dX10_count_36 : decode cX10_count 36 = .ok (.ireturn, 1) := by decide +kernel
theorem dX10_count_37 : decode cX10_count 37 = .ok (.aload_n 0, 1) := by decide +kernel
theorem dX10_count_38 : decode cX10_count 38 = .ok (.getfield 39, 3) := by decide +kernel
theorem dX10_count_41 : decode cX10_count 41 = .ok (.ireturn, 1) := by decide +kernel
theorem dX10_count_42 : decode cX10_count 42 = .ok (.aload_n 0, 1) := by decide +kernel
theorem dX10_count_43 : decode cX10_count 43 = .ok (.getfield 13, 3) := by decide +kernel
theorem dX10_count_46 : decode cX10_count 46 = .ok (.ireturn, 1) := by decide +kernel
theorem dX10_count_47 : decode cX10_count 47 = .ok (.aload_n 0, 1) := by decide +kernel
theorem dX10_count_48 : decode cX10_count 48 = .ok (.getfield 62, 3) := by decide +kernel
theorem dX10_count_51 : decode cX10_count 51 = .ok (.invokevirtual 211, 3) := by decide +kernel
theorem dX10_count_54 : decode cX10_count 54 = .ok (.ireturn, 1) := by decide +kernel
theorem dX10_count_55 : decode cX10_count 55 = .ok (.new 140, 3) := by decide +kernel
theorem dX10_count_58 : decode cX10_count 58 = .ok (.dup, 1) := by decide +kernel
theorem dX10_count_59 : decode cX10_count 59 = .ok (.ldc 142, 2) := by decide +kernel
theorem dX10_count_61 : decode cX10_count 61 = .ok (.invokespecial 144, 3) := by decide +kernel
theorem dX10_count_64 : decode cX10_count 64 = .ok (.athrow, 1) := by decide +kernel
theorem dX10_putNumber_0 : decode cX10_putNumber 0 = .ok (.bipush 24, 2) := by decide +kernel
theorem dX10_putNumber_2 : decode cX10_putNumber 2 = .ok (.istore_n 2, 1) := by decide +kernel
theorem dX10_putNumber_3 : decode cX10_putNumber 3 = .ok (.iload_n 2, 1) := by decide +kernel
theorem dX10_putNumber_4 : decode cX10_putNumber 4 = .ok (.ifCond .lt 44, 3) := by decide +kernel
theorem dX10_putNumber_7 : decode cX10_putNumber 7 = .ok (.aload_n 0, 1) := by decide +kernel
theorem dX10_putNumber_8 : decode cX10_putNumber 8 = .ok (.getfield 13, 3) := by decide +kernel
theorem dX10_putNumber_11 : decode cX10_putNumber 11 = .ok (.aload_n 0, 1) := by decide +kernel
theorem dX10_putNumber_12 : decode cX10_putNumber 12 = .ok (.getfield 9, 3) := by decide +kernel
theorem dX10_putNumber_15 : decode cX10_putNumber 15 = .ok (.arraylength, 1) := by decide +kernel
theorem dX10_putNumber_16 : decode cX10_putNumber 16 = .ok (.if_icmp .ge 32, 3) := by decide +kernel
theorem dX10_putNumber_19 : decode cX10_putNumber 19 = .ok (.aload_n 0, 1) := by decide +kernel
theorem dX10_putNumber_20 : decode cX10_putNumber 20 = .ok (.getfield 9, 3) := by decide +kernel
theorem dX10_putNumber_23 : decode cX10_putNumber 23 = .ok (.aload_n 0, 1) := by decide +kernel
theorem dX10_putNumber_24 : decode cX10_putNumber 24 = .ok (.getfield 13, 3) := by decide +kernel
theorem dX10_putNumber_27 : decode cX10_putNumber 27 = .ok (.iload_n 1, 1) := by decide +kernel
theorem dX10_putNumber_28 : decode cX10_putNumber 28 = .ok (.iload_n 2, 1) := by decide +kernel
theorem dX10_putNumber_29 : decode cX10_putNumber 29 = .ok (.iushr, 1) := by decide +kernel
theorem dX10_putNumber_30 : decode cX10_putNumber 30 = .ok (.i2b, 1) := by decide +kernel
theorem dX10_putNumber_31 : decode cX10_putNumber 31 = .ok (.bastore, 1) := by decide +kernel
theorem dX10_putNumber_32 : decode cX10_putNumber 32 = .ok (.aload_n 0, 1) := by decide +kernel
theorem dX10_putNumber_33 : decode cX10_putNumber 33 = .ok (.dup, 1) := by decide +kernel
theorem dX10_putNumber_34 : decode cX10_putNumber 34 = .ok (.getfield 13, 3) := by decide +kernel
theorem dX10_putNumber_37 : decode cX10_putNumber 37 = .ok (.iconst 1, 1) := by decide +kernel
theorem dX10_putNumber_38 : decode cX10_putNumber 38 = .ok (.iadd, 1) := by decide +kernel
theorem dX10_putNumber_39 : decode cX10_putNumber 39 = .ok (.putfield 13, 3) := by decide +kernel
theorem dX10_putNumber_42 : decode cX10_putNumber 42 = .ok (.iinc 2 (-8), 3) := by decide +kernel
theorem dX10_putNumber_45 : decode cX10_putNumber 45 = .ok (.goto (-42), 3) := by decide +kernel
theorem dX10_putNumber_48 : decode cX10_putNumber 48 = .ok (.return_, 1) := by decide +kernel
theorem dX10_requireBytes_0 : decode cX10_requireBytes 0 = .ok (.iload_n 1, 1) := by decide +kernel
theorem dX10_requireBytes_1 : decode cX10_requireBytes 1 = .ok (.ifCond .lt 11, 3) := by decide +kernel
theorem dX10_requireBytes_4 : decode cX10_requireBytes 4 = .ok (.iload_n 1, 1) := by decide +kernel
theorem dX10_requireBytes_5 : decode cX10_requireBytes 5 = .ok (.aload_n 0, 1) := by decide +kernel
theorem dX10_requireBytes_6 : decode cX10_requireBytes 6 = .ok (.getfield 13, 3) := by decide +kernel
theorem dX10_requireBytes_9 : decode cX10_requireBytes 9 = .ok (.if_icmp .le 13, 3) := by decide +kernel
theorem dX10_requireBytes_12 : decode cX10_requireBytes 12 = .ok (.new 233, 3) := by decide +kernel
theorem dX10_requireBytes_15 : decode cX10_requireBytes 15 = .ok (.dup, 1) := by decide +kernel
theorem dX10_requireBytes_16 : decode cX10_requireBytes 16 = .ok (.ldc 246, 2) := by decide +kernel
theorem dX10_requireBytes_18 : decode cX10_requireBytes 18 = .ok (.invokespecial 237, 3) := by decide +kernel
theorem dX10_requireBytes_21 : decode cX10_requireBytes 21 = .ok (.athrow, 1) := by decide +kernel
theorem dX10_requireBytes_22 : decode cX10_requireBytes 22 = .ok (.return_, 1) := by decide +kernel
theorem dX10_tableAt_0 : decode cX10_tableAt 0 = .ok (.iload_n 1, 1) := by decide +kernel
theorem dX10_tableAt_1 : decode cX10_tableAt 1 = .ok (.ifCond .lt 20, 3) := by decide +kernel
theorem dX10_tableAt_4 : decode cX10_tableAt 4 = .ok (.iload_n 1, 1) := by decide +kernel
theorem dX10_tableAt_5 : decode cX10_tableAt 5 = .ok (.aload_n 0, 1) := by decide +kernel
theorem dX10_tableAt_6 : decode cX10_tableAt 6 = .ok (.getfield 30, 3) := by decide +kernel
theorem dX10_tableAt_9 : decode cX10_tableAt 9 = .ok (.if_icmp .ge 12, 3) := by decide +kernel
theorem dX10_tableAt_12 : decode cX10_tableAt 12 = .ok (.aload_n 0, 1) := by decide +kernel
theorem dX10_tableAt_13 : decode cX10_tableAt 13 = .ok (.getfield 26, 3) := by decide +kernel
theorem dX10_tableAt_16 : decode cX10_tableAt 16 = .ok (.iload_n 1, 1) := by decide +kernel
theorem dX10_tableAt_17 : decode cX10_tableAt 17 = .ok (.aaload, 1) := by decide +kernel
theorem dX10_tableAt_18 : decode cX10_tableAt 18 = .ok (.goto 4, 3) := by decide +kernel
theorem dX10_tableAt_21 : decode cX10_tableAt 21 = .ok (.aconst_null, 1) := by decide +kernel
theorem dX10_tableAt_22 : decode cX10_tableAt 22 = .ok (.astore_n 2, 1) := by decide +kernel
theorem dX10_tableAt_23 : decode cX10_tableAt 23 = .ok (.aload_n 2, 1) := by decide +kernel
theorem dX10_tableAt_24 : decode cX10_tableAt 24 = .ok (.ifnonnull 13, 3) := by decide +kernel
theorem dX10_tableAt_27 : decode cX10_tableAt 27 = .ok (.new 140, 3) := by decide +kernel
theorem dX10_tableAt_30 : decode cX10_tableAt 30 = .ok (.dup, 1) := by decide +kernel
theorem dX10_tableAt_31 : decode cX10_tableAt 31 = .ok (.ldc 248, 2) := by decide +kernel
theorem dX10_tableAt_33 : decode cX10_tableAt 33 = .ok (.invokespecial 144, 3) := by decide +kernel
theorem dX10_tableAt_36 : decode cX10_tableAt 36 = .ok (.athrow, 1) := by decide +kernel
theorem dX10_tableAt_37 : decode cX10_tableAt 37 = .ok (.aload_n 2, 1) := by decide +kernel
theorem dX10_tableAt_38 : decode cX10_tableAt 38 = .ok (.areturn, 1) := by decide +kernel
theorem dX10_programAt_0 : decode cX10_programAt 0 = .ok (.iload_n 1, 1) := by decide +kernel
theorem dX10_programAt_1 : decode cX10_programAt 1 = .ok (.ifCond .lt 20, 3) := by decide +kernel
theorem dX10_programAt_4 : decode cX10_programAt 4 = .ok (.iload_n 1, 1) := by decide +kernel
theorem dX10_programAt_5 : decode cX10_programAt 5 = .ok (.aload_n 0, 1) := by decide +kernel
theorem dX10_programAt_6 : decode cX10_programAt 6 = .ok (.getfield 39, 3) := by decide +kernel
theorem dX10_programAt_9 : decode cX10_programAt 9 = .ok (.if_icmp .ge 12, 3) := by decide +kernel
theorem dX10_programAt_12 : decode cX10_programAt 12 = .ok (.aload_n 0, 1) := by decide +kernel
theorem dX10_programAt_13 : decode cX10_programAt 13 = .ok (.getfield 35, 3) := by decide +kernel
theorem dX10_programAt_16 : decode cX10_programAt 16 = .ok (.iload_n 1, 1) := by decide +kernel
theorem dX10_programAt_17 : decode cX10_programAt 17 = .ok (.aaload, 1) := by decide +kernel
theorem dX10_programAt_18 : decode cX10_programAt 18 = .ok (.goto 4, 3) := by decide +kernel
theorem dX10_programAt_21 : decode cX10_programAt 21 = .ok (.aconst_null, 1) := by decide +kernel
theorem dX10_programAt_22 : decode cX10_programAt 22 = .ok (.astore_n 2, 1) := by decide +kernel
theorem dX10_programAt_23 : decode cX10_programAt 23 = .ok (.aload_n 2, 1) := by decide +kernel
theorem dX10_programAt_24 : decode cX10_programAt 24 = .ok (.ifnonnull 13, 3) := by decide +kernel
theorem dX10_programAt_27 : decode cX10_programAt 27 = .ok (.new 140, 3) := by decide +kernel
theorem dX10_programAt_30 : decode cX10_programAt 30 = .ok (.dup, 1) := by decide +kernel
theorem dX10_programAt_31 : decode cX10_programAt 31 = .ok (.ldc 250, 2) := by decide +kernel
theorem dX10_programAt_33 : decode cX10_programAt 33 = .ok (.invokespecial 144, 3) := by decide +kernel
theorem dX10_programAt_36 : decode cX10_programAt 36 = .ok (.athrow, 1) := by decide +kernel
theorem dX10_programAt_37 : decode cX10_programAt 37 = .ok (.aload_n 2, 1) := by decide +kernel
theorem dX10_programAt_38 : decode cX10_programAt 38 = .ok (.areturn, 1) := by decide +kernel
theorem dX10_requireBelow_0 : decode cX10_requireBelow 0 = .ok (.iload_n 0, 1) := by decide +kernel
theorem dX10_requireBelow_1 : decode cX10_requireBelow 1 = .ok (.ifCond .lt 8, 3) := by decide +kernel
theorem dX10_requireBelow_4 : decode cX10_requireBelow 4 = .ok (.iload_n 0, 1) := by decide +kernel
theorem dX10_requireBelow_5 : decode cX10_requireBelow 5 = .ok (.iload_n 1, 1) := by decide +kernel
theorem dX10_requireBelow_6 : decode cX10_requireBelow 6 = .ok (.if_icmp .lt 13, 3) := by decide +kernel
theorem dX10_requireBelow_9 : decode cX10_requireBelow 9 = .ok (.new 140, 3) := by decide +kernel
theorem dX10_requireBelow_12 : decode cX10_requireBelow 12 = .ok (.dup, 1) := by decide +kernel
theorem dX10_requireBelow_13 : decode cX10_requireBelow 13 = .ok (.ldc 252, 2) := by decide +kernel
theorem dX10_requireBelow_15 : decode cX10_requireBelow 15 = .ok (.invokespecial 144, 3) := by decide +kernel
theorem dX10_requireBelow_18 : decode cX10_requireBelow 18 = .ok (.athrow, 1) := by decide +kernel
theorem dX10_requireBelow_19 : decode cX10_requireBelow 19 = .ok (.return_, 1) := by decide +kernel
theorem dX10_requireRowOrNone_0 : decode cX10_requireRowOrNone 0 = .ok (.iload_n 1, 1) := by decide +kernel
theorem dX10_requireRowOrNone_1 : decode cX10_requireRowOrNone 1 = .ok (.iconst (-1), 1) := by decide +kernel
theorem dX10_requireRowOrNone_2 : decode cX10_requireRowOrNone 2 = .ok (.if_icmp .eq 17, 3) := by decide +kernel
theorem dX10_requireRowOrNone_5 : decode cX10_requireRowOrNone 5 = .ok (.iload_n 1, 1) := by decide +kernel
theorem dX10_requireRowOrNone_6 : decode cX10_requireRowOrNone 6 = .ok (.aload_n 0, 1) := by decide +kernel
theorem dX10_requireRowOrNone_7 : decode cX10_requireRowOrNone 7 = .ok (.getfield 91, 3) := by decide +kernel
theorem dX10_requireRowOrNone_10 : decode cX10_requireRowOrNone 10 = .ok (.getfield 118, 3) := by decide +kernel
theorem dX10_requireRowOrNone_13 : decode cX10_requireRowOrNone 13 = .ok (.getfield 122, 3) := by decide +kernel
theorem dX10_requireRowOrNone_16 : decode cX10_requireRowOrNone 16 = .ok (.invokestatic 147, 3) := by decide +kernel
theorem dX10_requireRowOrNone_19 : decode cX10_requireRowOrNone 19 = .ok (.return_, 1) := by decide +kernel
theorem dX10_firstChanged_0 : decode cX10_firstChanged 0 = .ok (.iconst 0, 1) := by decide +kernel
theorem dX10_firstChanged_1 : decode cX10_firstChanged 1 = .ok (.istore_n 2, 1) := by decide +kernel
theorem dX10_firstChanged_2 : decode cX10_firstChanged 2 = .ok (.iload_n 2, 1) := by decide +kernel
theorem dX10_firstChanged_3 : decode cX10_firstChanged 3 = .ok (.aload_n 0, 1) := by decide +kernel
theorem dX10_firstChanged_4 : decode cX10_firstChanged 4 = .ok (.getfield 221, 3) := by decide +kernel
theorem dX10_firstChanged_7 : decode cX10_firstChanged 7 = .ok (.getfield 106, 3) := by decide +kernel
theorem dX10_firstChanged_10 : decode cX10_firstChanged 10 = .ok (.if_icmp .ge 26, 3) := by decide +kernel
theorem dX10_firstChanged_13 : decode cX10_firstChanged 13 = .ok (.aload_n 0, 1) := by decide +kernel
theorem dX10_firstChanged_14 : decode cX10_firstChanged 14 = .ok (.getfield 225, 3) := by decide +kernel
theorem dX10_firstChanged_17 : decode cX10_firstChanged 17 = .ok (.iload_n 2, 1) := by decide +kernel
theorem dX10_firstChanged_18 : decode cX10_firstChanged 18 = .ok (.iaload, 1) := by decide +kernel
theorem dX10_firstChanged_19 : decode cX10_firstChanged 19 = .ok (.aload_n 1, 1) := by decide +kernel
theorem dX10_firstChanged_20 : decode cX10_firstChanged 20 = .ok (.getfield 225, 3) := by decide +kernel
theorem dX10_firstChanged_23 : decode cX10_firstChanged 23 = .ok (.iload_n 2, 1) := by decide +kernel
theorem dX10_firstChanged_24 : decode cX10_firstChanged 24 = .ok (.iaload, 1) := by decide +kernel
theorem dX10_firstChanged_25 : decode cX10_firstChanged 25 = .ok (.if_icmp .eq 5, 3) := by decide +kernel
theorem dX10_firstChanged_28 : decode cX10_firstChanged 28 = .ok (.iload_n 2, 1) := by decide +kernel
theorem dX10_firstChanged_29 : decode cX10_firstChanged 29 = .ok (.ireturn, 1) := by decide +kernel
theorem dX10_firstChanged_30 : decode cX10_firstChanged 30 = .ok (.iinc 2 1, 3) := by decide +kernel
theorem dX10_firstChanged_33 : decode cX10_firstChanged 33 = .ok (.goto (-31), 3) := by decide +kernel
theorem dX10_firstChanged_36 : decode cX10_firstChanged 36 = .ok (.iconst (-1), 1) := by decide +kernel
theorem dX10_firstChanged_37 : decode cX10_firstChanged 37 = .ok (.ireturn, 1) := by decide +kernel
theorem dX10_howManyChanged_0 : decode cX10_howManyChanged 0 = .ok (.iconst 0, 1) := by decide +kernel
theorem dX10_howManyChanged_1 : decode cX10_howManyChanged 1 = .ok (.istore_n 3, 1) := by decide +kernel
theorem dX10_howManyChanged_2 : decode cX10_howManyChanged 2 = .ok (.iconst 0, 1) := by decide +kernel
theorem dX10_howManyChanged_3 : decode cX10_howManyChanged 3 = .ok (.istore 4, 2) := by decide +kernel
theorem dX10_howManyChanged_5 : decode cX10_howManyChanged 5 = .ok (.iload 4, 2) := by decide +kernel
theorem dX10_howManyChanged_7 : decode cX10_howManyChanged 7 = .ok (.aload_n 0, 1) := by decide +kernel
theorem dX10_howManyChanged_8 : decode cX10_howManyChanged 8 = .ok (.getfield 221, 3) := by decide +kernel
theorem dX10_howManyChanged_11 : decode cX10_howManyChanged 11 = .ok (.getfield 106, 3) := by decide +kernel
theorem dX10_howManyChanged_14 : decode cX10_howManyChanged 14 = .ok (.if_icmp .ge 59, 3) := by decide +kernel
theorem dX10_howManyChanged_17 : decode cX10_howManyChanged 17 = .ok (.iload_n 2, 1) := by decide +kernel
theorem dX10_howManyChanged_18 : decode cX10_howManyChanged 18 = .ok (.ifCond .eq 17, 3) := by decide +kernel
theorem dX10_howManyChanged_21 : decode cX10_howManyChanged 21 = .ok (.aload_n 0, 1) := by decide +kernel
theorem dX10_howManyChanged_22 : decode cX10_howManyChanged 22 = .ok (.getfield 221, 3) := by decide +kernel
theorem dX10_howManyChanged_25 : decode cX10_howManyChanged 25 = .ok (.getfield 151, 3) := by decide +kernel
theorem dX10_howManyChanged_28 : decode cX10_howManyChanged 28 = .ok (.iload 4, 2) := by decide +kernel
theorem dX10_howManyChanged_30 : decode cX10_howManyChanged 30 = .ok (.iaload, 1) := by decide +kernel
theorem dX10_howManyChanged_31 : decode cX10_howManyChanged 31 = .ok (.iconst (-1), 1) := by decide +kernel
theorem dX10_howManyChanged_32 : decode cX10_howManyChanged 32 = .ok (.if_icmp .ne 7, 3) := by decide +kernel
theorem dX10_howManyChanged_35 : decode cX10_howManyChanged 35 = .ok (.iconst 1, 1) := by decide +kernel
theorem dX10_howManyChanged_36 : decode cX10_howManyChanged 36 = .ok (.goto 4, 3) := by decide +kernel
theorem dX10_howManyChanged_39 : decode cX10_howManyChanged 39 = .ok (.iconst 0, 1) := by decide +kernel
theorem dX10_howManyChanged_40 : decode cX10_howManyChanged 40 = .ok (.istore 5, 2) := by decide +kernel
theorem dX10_howManyChanged_42 : decode cX10_howManyChanged 42 = .ok (.iload 5, 2) := by decide +kernel
theorem dX10_howManyChanged_44 : decode cX10_howManyChanged 44 = .ok (.ifCond .eq 23, 3) := by decide +kernel
theorem dX10_howManyChanged_47 : decode cX10_howManyChanged 47 = .ok (.aload_n 0, 1) := by decide +kernel
theorem dX10_howManyChanged_48 : decode cX10_howManyChanged 48 = .ok (.getfield 225, 3) := by decide +kernel
theorem dX10_howManyChanged_51 : decode cX10_howManyChanged 51 = .ok (.iload 4, 2) := by decide +kernel
theorem dX10_howManyChanged_53 : decode cX10_howManyChanged 53 = .ok (.iaload, 1) := by decide +kernel
theorem dX10_howManyChanged_54 : decode cX10_howManyChanged 54 = .ok (.aload_n 1, 1) := by decide +kernel
theorem dX10_howManyChanged_55 : decode cX10_howManyChanged 55 = .ok (.getfield 225, 3) := by decide +kernel
theorem dX10_howManyChanged_58 : decode cX10_howManyChanged 58 = .ok (.iload 4, 2) := by decide +kernel
theorem dX10_howManyChanged_60 : decode cX10_howManyChanged 60 = .ok (.iaload, 1) := by decide +kernel
theorem dX10_howManyChanged_61 : decode cX10_howManyChanged 61 = .ok (.if_icmp .eq 6, 3) := by decide +kernel
theorem dX10_howManyChanged_64 : decode cX10_howManyChanged 64 = .ok (.iinc 3 1, 3) := by decide +kernel
theorem dX10_howManyChanged_67 : decode cX10_howManyChanged 67 = .ok (.iinc 4 1, 3) := by decide +kernel
theorem dX10_howManyChanged_70 : decode cX10_howManyChanged 70 = .ok (.goto (-65), 3) := by decide +kernel
theorem dX10_howManyChanged_73 : decode cX10_howManyChanged 73 = .ok (.iload_n 3, 1) := by decide +kernel
theorem dX10_howManyChanged_74 : decode cX10_howManyChanged 74 = .ok (.ireturn, 1) := by decide +kernel
theorem dX10_stepOn_0 : decode cX10_stepOn 0 = .ok (.aload_n 0, 1) := by decide +kernel
theorem dX10_stepOn_1 : decode cX10_stepOn 1 = .ok (.arraylength, 1) := by decide +kernel
theorem dX10_stepOn_2 : decode cX10_stepOn 2 = .ok (.iconst 1, 1) := by decide +kernel
theorem dX10_stepOn_3 : decode cX10_stepOn 3 = .ok (.isub, 1) := by decide +kernel
theorem dX10_stepOn_4 : decode cX10_stepOn 4 = .ok (.istore_n 2, 1) := by decide +kernel
theorem dX10_stepOn_5 : decode cX10_stepOn 5 = .ok (.iload_n 2, 1) := by decide +kernel
theorem dX10_stepOn_6 : decode cX10_stepOn 6 = .ok (.ifCond .lt 36, 3) := by decide +kernel
theorem dX10_stepOn_9 : decode cX10_stepOn 9 = .ok (.aload_n 0, 1) := by decide +kernel
theorem dX10_stepOn_10 : decode cX10_stepOn 10 = .ok (.iload_n 2, 1) := by decide +kernel
theorem dX10_stepOn_11 : decode cX10_stepOn 11 = .ok (.dup2, 1) := by decide +kernel
theorem dX10_stepOn_12 : decode cX10_stepOn 12 = .ok (.iaload, 1) := by decide +kernel
theorem dX10_stepOn_13 : decode cX10_stepOn 13 = .ok (.iconst 1, 1) := by decide +kernel
theorem dX10_stepOn_14 : decode cX10_stepOn 14 = .ok (.iadd, 1) := by decide +kernel
theorem dX10_stepOn_15 : decode cX10_stepOn 15 = .ok (.iastore, 1) := by decide +kernel
theorem dX10_stepOn_16 : decode cX10_stepOn 16 = .ok (.iload_n 2, 1) := by decide +kernel
theorem dX10_stepOn_17 : decode cX10_stepOn 17 = .ok (.aload_n 1, 1) := by decide +kernel
theorem dX10_stepOn_18 : decode cX10_stepOn 18 = .ok (.arraylength, 1) := by decide +kernel
theorem dX10_stepOn_19 : decode cX10_stepOn 19 = .ok (.if_icmp .ge 13, 3) := by decide +kernel
theorem dX10_stepOn_22 : decode cX10_stepOn 22 = .ok (.aload_n 0, 1) := by decide +kernel
theorem dX10_stepOn_23 : decode cX10_stepOn 23 = .ok (.iload_n 2, 1) := by decide +kernel
theorem dX10_stepOn_24 : decode cX10_stepOn 24 = .ok (.iaload, 1) := by decide +kernel
theorem dX10_stepOn_25 : decode cX10_stepOn 25 = .ok (.aload_n 1, 1) := by decide +kernel
theorem dX10_stepOn_26 : decode cX10_stepOn 26 = .ok (.iload_n 2, 1) := by decide +kernel
theorem dX10_stepOn_27 : decode cX10_stepOn 27 = .ok (.iaload, 1) := by decide +kernel
theorem dX10_stepOn_28 : decode cX10_stepOn 28 = .ok (.if_icmp .ge 4, 3) := by decide +kernel
theorem dX10_stepOn_31 : decode cX10_stepOn 31 = .ok (.return_, 1) := by decide +kernel
theorem dX10_stepOn_32 : decode cX10_stepOn 32 = .ok (.aload_n 0, 1) := by decide +kernel
theorem dX10_stepOn_33 : decode cX10_stepOn 33 = .ok (.iload_n 2, 1) := by decide +kernel
theorem dX10_stepOn_34 : decode cX10_stepOn 34 = .ok (.iconst 0, 1) := by decide +kernel
theorem dX10_stepOn_35 : decode cX10_stepOn 35 = .ok (.iastore, 1) := by decide +kernel
theorem dX10_stepOn_36 : decode cX10_stepOn 36 = .ok (.iinc 2 (-1), 3) := by decide +kernel
theorem dX10_stepOn_39 : decode cX10_stepOn 39 = .ok (.goto (-34), 3) := by decide +kernel
theorem dX10_stepOn_42 : decode cX10_stepOn 42 = .ok (.return_, 1) := by decide +kernel
