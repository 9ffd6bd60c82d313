theorem mc_L_21 : MV RL 21 10 yX10_about cX10_about 4 (some .int) 2 := ⟨RX10, TX10, _, rfl, (b4 80 rfl rfl), (b4 81 rfl rfl), (b4 82 rfl rfl), (b1 1 rfl rfl), (b4 83 rfl rfl), rfl, by decide, by decide, by decide +kernel⟩
theorem mc_L_24 : MV RL 24 10 yX10_answer cX10_answer 5 (some .int) 3 := ⟨RX10, TX10, _, rfl, (b4 88 rfl rfl), (b4 89 rfl rfl), (b4 90 rfl rfl), (b1 1 rfl rfl), (b4 91 rfl rfl), rfl, by decide, by decide, by decide +kernel⟩
theorem mc_L_62 : MV RL 62 10 yX10_changed cX10_changed 6 (some .int) 3 := ⟨RX10, TX10, _, rfl, (b4 235 rfl rfl), (b4 236 rfl rfl), (b4 237 rfl rfl), (b1 1 rfl rfl), (b4 238 rfl rfl), rfl, by decide, by decide, by decide +kernel⟩
theorem mc_L_65 : MV RL 65 10 yX10_count cX10_count 2 (some .int) 1 := ⟨RX10, TX10, _, rfl, (b5 9 rfl rfl), (b5 10 rfl rfl), (b5 11 rfl rfl), (b1 1 rfl rfl), (b5 12 rfl rfl), rfl, by decide, by decide, by decide +kernel⟩
theorem mc_L_59 : MV RL 59 10 yX10_failing cX10_failing 5 (some .int) 2 := ⟨RX10, TX10, _, rfl, (b4 228 rfl rfl), (b4 229 rfl rfl), (b4 230 rfl rfl), (b1 1 rfl rfl), (b4 231 rfl rfl), rfl, by decide, by decide, by decide +kernel⟩
theorem mc_L_56 : MV RL 56 10 yX10_fails cX10_fails 6 (some .int) 2 := ⟨RX10, TX10, _, rfl, (b4 214 rfl rfl), (b4 215 rfl rfl), (b4 216 rfl rfl), (b1 1 rfl rfl), (b4 217 rfl rfl), rfl, by decide, by decide, by decide +kernel⟩
theorem mc_L_31 : MV RL 31 10 yX10_hole cX10_hole 4 (some .int) 2 := ⟨RX10, TX10, _, rfl, (b4 106 rfl rfl), (b4 107 rfl rfl), (b4 108 rfl rfl), (b1 1 rfl rfl), (b4 109 rfl rfl), rfl, by decide, by decide, by decide +kernel⟩
theorem mc_L_37 : MV RL 37 10 yX10_idle cX10_idle 4 (some .boolean) 2 := ⟨RX10, TX10, _, rfl, (b4 121 rfl rfl), (b4 122 rfl rfl), (b4 123 rfl rfl), (b1 1 rfl rfl), (b4 124 rfl rfl), rfl, by decide, by decide, by decide +kernel⟩
theorem mc_L_68 : MI RL 68 yX10_init cX10_init 1 0 := ⟨(b1 26 rfl rfl), (b1 27 rfl rfl), (b1 1 rfl rfl), (b1 28 rfl rfl), rfl, by decide, by decide, by decide +kernel⟩
theorem mc_L_71 : MI RL 71 yX11_init cX11_init 1 0 := ⟨(b5 15 rfl rfl), (b5 16 rfl rfl), (b1 9 rfl rfl), (b5 17 rfl rfl), rfl, by decide, by decide, by decide +kernel⟩
theorem mc_L_72 : MV RL 72 10 yX10_feed cX10_feed 6 (some .int) 5 := ⟨RX10, TX10, _, rfl, (b1 239 rfl rfl), (b2 0 rfl rfl), (b2 1 rfl rfl), (b1 1 rfl rfl), (b2 2 rfl rfl), rfl, by decide, by decide, by decide +kernel⟩
theorem mc_L_76 : MV RL 76 11 yX11_feed cX11_feed 8 (some .int) 5 := ⟨RX11, TX11, _, rfl, (b5 153 rfl rfl), (b5 154 rfl rfl), (b5 155 rfl rfl), (b1 9 rfl rfl), (b5 156 rfl rfl), rfl, by decide, by decide, by decide +kernel⟩
theorem mc_L_77 : MSW RL 77 yL_table cL_table 4 (some .int) [(0, 9, 12, 13)] 3 := ⟨(b2 11 rfl rfl), (b2 12 rfl rfl), (b1 0 rfl rfl), (b2 13 rfl rfl), by decide, by decide, by decide +kernel⟩
theorem mc_L_82 : MV RL 82 11 yX11_table cX11_table 4 (some .int) 1 := ⟨RX11, TX11, _, rfl, (b5 157 rfl rfl), (b5 158 rfl rfl), (b5 159 rfl rfl), (b1 9 rfl rfl), (b5 160 rfl rfl), rfl, by decide, by decide, by decide +kernel⟩
theorem mc_L_83 : MV RL 83 11 yX11_thrown cX11_thrown 1 (some .int) 0 := ⟨RX11, TX11, _, rfl, (b5 149 rfl rfl), (b5 150 rfl rfl), (b5 151 rfl rfl), (b1 9 rfl rfl), (b5 152 rfl rfl), rfl, by decide, by decide, by decide +kernel⟩
theorem mc_L_87 : MSW RL 87 yL_program cL_program 5 (some .int) [(0, 10, 13, 19), (0, 10, 17, 13)] 4 := ⟨(b4 10 rfl rfl), (b4 11 rfl rfl), (b1 0 rfl rfl), (b4 12 rfl rfl), by decide, by decide, by decide +kernel⟩
theorem mc_L_90 : MV RL 90 11 yX11_program cX11_program 3 (some .int) 2 := ⟨RX11, TX11, _, rfl, (b6 20 rfl rfl), (b6 21 rfl rfl), (b6 22 rfl rfl), (b1 9 rfl rfl), (b6 23 rfl rfl), rfl, by decide, by decide, by decide +kernel⟩
theorem mc_L_91 : MV RL 91 10 yX10_fault cX10_fault 1 (some .int) 0 := ⟨RX10, TX10, _, rfl, (b2 7 rfl rfl), (b2 8 rfl rfl), (b2 9 rfl rfl), (b1 1 rfl rfl), (b2 10 rfl rfl), rfl, by decide, by decide, by decide +kernel⟩
theorem mc_L_94 : MV RL 94 11 yX11_fault cX11_fault 1 (some .int) 0 := ⟨RX11, TX11, _, rfl, (b6 36 rfl rfl), (b6 37 rfl rfl), (b6 38 rfl rfl), (b1 9 rfl rfl), (b6 39 rfl rfl), rfl, by decide, by decide, by decide +kernel⟩
theorem mc_L_95 : MSW RL 95 yL_about cL_about 5 (some .int) [(0, 10, 13, 19)] 4 := ⟨(b4 77 rfl rfl), (b4 78 rfl rfl), (b1 0 rfl rfl), (b4 79 rfl rfl), by decide, by decide, by decide +kernel⟩
theorem mc_L_97 : MV RL 97 11 yX11_about cX11_about 6 (some .int) 2 := ⟨RX11, TX11, _, rfl, (b6 40 rfl rfl), (b6 41 rfl rfl), (b6 42 rfl rfl), (b1 9 rfl rfl), (b6 43 rfl rfl), rfl, by decide, by decide, by decide +kernel⟩
theorem mc_L_98 : MSW RL 98 yL_answer cL_answer 6 (some .int) [(0, 12, 15, 19)] 5 := ⟨(b4 85 rfl rfl), (b4 86 rfl rfl), (b1 0 rfl rfl), (b4 87 rfl rfl), by decide, by decide, by decide +kernel⟩
theorem mc_L_101 : MV RL 101 11 yX11_answer cX11_answer 6 (some .int) 3 := ⟨RX11, TX11, _, rfl, (b6 92 rfl rfl), (b6 93 rfl rfl), (b6 94 rfl rfl), (b1 9 rfl rfl), (b6 95 rfl rfl), rfl, by decide, by decide, by decide +kernel⟩
theorem mc_L_102 : MSW RL 102 yL_value cL_value 6 (some .int) [(0, 12, 15, 19)] 5 := ⟨(b4 96 rfl rfl), (b4 97 rfl rfl), (b1 0 rfl rfl), (b4 98 rfl rfl), by decide, by decide, by decide +kernel⟩
theorem mc_L_104 : MV RL 104 11 yX11_value cX11_value 4 (some .int) 3 := ⟨RX11, TX11, _, rfl, (b6 96 rfl rfl), (b6 97 rfl rfl), (b6 98 rfl rfl), (b1 9 rfl rfl), (b6 99 rfl rfl), rfl, by decide, by decide, by decide +kernel⟩
theorem mc_L_105 : MSW RL 105 yL_hole cL_hole 5 (some .int) [(0, 10, 13, 19)] 4 := ⟨(b4 103 rfl rfl), (b4 104 rfl rfl), (b1 0 rfl rfl), (b4 105 rfl rfl), by decide, by decide, by decide +kernel⟩
theorem mc_L_107 : MV RL 107 11 yX11_hole cX11_hole 5 (some .int) 2 := ⟨RX11, TX11, _, rfl, (b6 100 rfl rfl), (b6 101 rfl rfl), (b6 102 rfl rfl), (b1 9 rfl rfl), (b6 103 rfl rfl), rfl, by decide, by decide, by decide +kernel⟩
theorem mc_L_108 : MSW RL 108 yL_quarrel cL_quarrel 6 (some .int) [(0, 12, 15, 19)] 5 := ⟨(b4 110 rfl rfl), (b4 111 rfl rfl), (b1 0 rfl rfl), (b4 112 rfl rfl), by decide, by decide, by decide +kernel⟩
theorem mc_L_110 : MV RL 110 11 yX11_quarrel cX11_quarrel 8 (some .int) 3 := ⟨RX11, TX11, _, rfl, (b6 104 rfl rfl), (b6 105 rfl rfl), (b6 106 rfl rfl), (b1 9 rfl rfl), (b6 107 rfl rfl), rfl, by decide, by decide, by decide +kernel⟩
theorem mc_L_111 : MSW RL 111 yL_idle cL_idle 5 (some .int) [(0, 17, 20, 19)] 4 := ⟨(b4 118 rfl rfl), (b4 119 rfl rfl), (b1 0 rfl rfl), (b4 120 rfl rfl), by decide, by decide, by decide +kernel⟩
theorem mc_L_113 : MV RL 113 11 yX11_idle cX11_idle 3 (some .boolean) 2 := ⟨RX11, TX11, _, rfl, (b6 108 rfl rfl), (b6 109 rfl rfl), (b6 110 rfl rfl), (b1 9 rfl rfl), (b6 111 rfl rfl), rfl, by decide, by decide, by decide +kernel⟩
theorem mc_L_114 : MSW RL 114 yL_term cL_term 6 (some .int) [(0, 12, 15, 19)] 5 := ⟨(b4 125 rfl rfl), (b4 126 rfl rfl), (b1 0 rfl rfl), (b4 127 rfl rfl), by decide, by decide, by decide +kernel⟩
theorem mc_L_116 : MV RL 116 11 yX11_term cX11_term 4 (some .int) 3 := ⟨RX11, TX11, _, rfl, (b6 112 rfl rfl), (b6 113 rfl rfl), (b6 114 rfl rfl), (b1 9 rfl rfl), (b6 115 rfl rfl), rfl, by decide, by decide, by decide +kernel⟩
theorem mc_L_117 : MSW RL 117 yL_offered cL_offered 6 (some .int) [(0, 12, 15, 19)] 5 := ⟨(b4 136 rfl rfl), (b4 137 rfl rfl), (b1 0 rfl rfl), (b4 138 rfl rfl), by decide, by decide, by decide +kernel⟩
theorem mc_L_119 : MV RL 119 11 yX11_offered cX11_offered 7 (some .int) 3 := ⟨RX11, TX11, _, rfl, (b6 116 rfl rfl), (b6 117 rfl rfl), (b6 118 rfl rfl), (b1 9 rfl rfl), (b6 119 rfl rfl), rfl, by decide, by decide, by decide +kernel⟩
theorem mc_L_120 : MSW RL 120 yL_tell cL_tell 4 (some .int) [(0, 9, 12, 19)] 3 := ⟨(b4 147 rfl rfl), (b4 148 rfl rfl), (b1 0 rfl rfl), (b4 149 rfl rfl), by decide, by decide, by decide +kernel⟩
theorem mc_L_122 : MV RL 122 11 yX11_tell cX11_tell 6 (some .int) 1 := ⟨RX11, TX11, _, rfl, (b6 120 rfl rfl), (b6 121 rfl rfl), (b6 122 rfl rfl), (b1 9 rfl rfl), (b6 123 rfl rfl), rfl, by decide, by decide, by decide +kernel⟩
theorem mc_L_123 : MSW RL 123 yL_told cL_told 4 (some .int) [(0, 9, 12, 19)] 3 := ⟨(b4 187 rfl rfl), (b4 188 rfl rfl), (b1 0 rfl rfl), (b4 189 rfl rfl), by decide, by decide, by decide +kernel⟩
theorem mc_L_125 : MV RL 125 11 yX11_told cX11_told 2 (some .int) 1 := ⟨RX11, TX11, _, rfl, (b6 140 rfl rfl), (b6 141 rfl rfl), (b6 142 rfl rfl), (b1 9 rfl rfl), (b6 143 rfl rfl), rfl, by decide, by decide, by decide +kernel⟩
theorem mc_L_126 : MSW RL 126 yL_run cL_run 5 (some .int) [(0, 10, 13, 19)] 4 := ⟨(b4 199 rfl rfl), (b4 200 rfl rfl), (b1 0 rfl rfl), (b4 201 rfl rfl), by decide, by decide, by decide +kernel⟩
theorem mc_L_128 : MV RL 128 11 yX11_run cX11_run 3 (some .int) 2 := ⟨RX11, TX11, _, rfl, (b6 149 rfl rfl), (b6 150 rfl rfl), (b6 151 rfl rfl), (b1 9 rfl rfl), (b6 152 rfl rfl), rfl, by decide, by decide, by decide +kernel⟩
theorem mc_L_129 : MSW RL 129 yL_fails cL_fails 5 (some .int) [(0, 10, 13, 19)] 4 := ⟨(b4 211 rfl rfl), (b4 212 rfl rfl), (b1 0 rfl rfl), (b4 213 rfl rfl), by decide, by decide, by decide +kernel⟩
theorem mc_L_131 : MV RL 131 11 yX11_fails cX11_fails 5 (some .int) 2 := ⟨RX11, TX11, _, rfl, (b6 161 rfl rfl), (b6 162 rfl rfl), (b6 163 rfl rfl), (b1 9 rfl rfl), (b6 164 rfl rfl), rfl, by decide, by decide, by decide +kernel⟩
theorem mc_L_132 : MSW RL 132 yL_failing cL_failing 5 (some .int) [(0, 10, 13, 19)] 4 := ⟨(b4 225 rfl rfl), (b4 226 rfl rfl), (b1 0 rfl rfl), (b4 227 rfl rfl), by decide, by decide, by decide +kernel⟩
theorem mc_L_134 : MV RL 134 11 yX11_failing cX11_failing 4 (some .int) 2 := ⟨RX11, TX11, _, rfl, (b6 169 rfl rfl), (b6 170 rfl rfl), (b6 171 rfl rfl), (b1 9 rfl rfl), (b6 172 rfl rfl), rfl, by decide, by decide, by decide +kernel⟩
theorem mc_L_135 : MSW RL 135 yL_changed cL_changed 6 (some .int) [(0, 12, 15, 19), (0, 12, 19, 13)] 5 := ⟨(b4 232 rfl rfl), (b4 233 rfl rfl), (b1 0 rfl rfl), (b4 234 rfl rfl), by decide, by decide, by decide +kernel⟩
theorem mc_L_137 : MV RL 137 11 yX11_changed cX11_changed 9 (some .int) 3 := ⟨RX11, TX11, _, rfl, (b6 173 rfl rfl), (b6 174 rfl rfl), (b6 175 rfl rfl), (b1 9 rfl rfl), (b6 176 rfl rfl), rfl, by decide, by decide, by decide +kernel⟩
theorem mc_L_138 : MSW RL 138 yL_count cL_count 4 (some .int) [(0, 9, 12, 19)] 3 := ⟨(b5 6 rfl rfl), (b5 7 rfl rfl), (b1 0 rfl rfl), (b5 8 rfl rfl), by decide, by decide, by decide +kernel⟩
theorem mc_L_140 : MV RL 140 11 yX11_count cX11_count 2 (some .int) 1 := ⟨RX11, TX11, _, rfl, (b6 177 rfl rfl), (b6 178 rfl rfl), (b6 179 rfl rfl), (b1 9 rfl rfl), (b6 180 rfl rfl), rfl, by decide, by decide, by decide +kernel⟩
theorem mc_L_44 : MV RL 44 10 yX10_offered cX10_offered 6 (some .int) 3 := ⟨RX10, TX10, _, rfl, (b4 139 rfl rfl), (b4 140 rfl rfl), (b4 141 rfl rfl), (b1 1 rfl rfl), (b4 142 rfl rfl), rfl, by decide, by decide, by decide +kernel⟩
theorem mc_L_15 : MV RL 15 10 yX10_program cX10_program 6 (some .int) 2 := ⟨RX10, TX10, _, rfl, (b4 14 rfl rfl), (b4 15 rfl rfl), (b4 16 rfl rfl), (b1 1 rfl rfl), (b4 17 rfl rfl), rfl, by decide, by decide, by decide +kernel⟩
theorem mc_L_34 : MV RL 34 10 yX10_quarrel cX10_quarrel 5 (some .int) 3 := ⟨RX10, TX10, _, rfl, (b4 113 rfl rfl), (b4 114 rfl rfl), (b4 115 rfl rfl), (b1 1 rfl rfl), (b4 116 rfl rfl), rfl, by decide, by decide, by decide +kernel⟩
theorem mc_L_53 : MV RL 53 10 yX10_run cX10_run 4 (some .int) 2 := ⟨RX10, TX10, _, rfl, (b4 202 rfl rfl), (b4 203 rfl rfl), (b4 204 rfl rfl), (b1 1 rfl rfl), (b4 205 rfl rfl), rfl, by decide, by decide, by decide +kernel⟩
theorem mc_L_7 : MV RL 7 10 yX10_table cX10_table 4 (some .int) 1 := ⟨RX10, TX10, _, rfl, (b2 15 rfl rfl), (b2 16 rfl rfl), (b2 17 rfl rfl), (b1 1 rfl rfl), (b2 18 rfl rfl), rfl, by decide, by decide, by decide +kernel⟩
theorem mc_L_47 : MV RL 47 10 yX10_tell cX10_tell 4 (some .int) 1 := ⟨RX10, TX10, _, rfl, (b4 150 rfl rfl), (b4 151 rfl rfl), (b4 152 rfl rfl), (b1 1 rfl rfl), (b4 153 rfl rfl), rfl, by decide, by decide, by decide +kernel⟩
theorem mc_L_41 : MV RL 41 10 yX10_term cX10_term 5 (some .int) 3 := ⟨RX10, TX10, _, rfl, (b4 128 rfl rfl), (b4 129 rfl rfl), (b4 130 rfl rfl), (b1 1 rfl rfl), (b4 131 rfl rfl), rfl, by decide, by decide, by decide +kernel⟩
theorem mc_L_50 : MV RL 50 10 yX10_told cX10_told 2 (some .int) 1 := ⟨RX10, TX10, _, rfl, (b4 190 rfl rfl), (b4 191 rfl rfl), (b4 192 rfl rfl), (b1 1 rfl rfl), (b4 193 rfl rfl), rfl, by decide, by decide, by decide +kernel⟩
theorem mc_L_28 : MV RL 28 10 yX10_value cX10_value 5 (some .int) 3 := ⟨RX10, TX10, _, rfl, (b4 99 rfl rfl), (b4 100 rfl rfl), (b4 101 rfl rfl), (b1 1 rfl rfl), (b4 102 rfl rfl), rfl, by decide, by decide, by decide +kernel⟩
theorem spIdle_r {a : AS} {x y r : Int32} (h : spIdle a x y = ok r a) : r = 0 ∨ r = 1 := by
  unfold spIdle onK at h
  split at h
  · dsimp only at h
    split at h
    · have h2 : bI _ = r := congrArg (fun q : RS => q.2.1) h
      rw [← h2]
      cases idl _ _
      · exact Or.inl rfl
      · exact Or.inr rfl
    · have h2 : (1 : Nat) = 0 := congrArg (fun q : RS => q.1) h
      cases h2
  · have h2 : (1 : Nat) = 0 := congrArg (fun q : RS => q.1) h
    cases h2
