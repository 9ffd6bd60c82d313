theorem inb_X0 : ∀ w ∈ u_ws RX0 TX0 (nsl 0), w ∈ bw := by
  intro w hw
  obtain ⟨k, hk, rfl⟩ := List.mem_map.mp hw
  have hk : k < 3 := List.mem_range.mp hk
  match k, hk with
  | 0, _ => exact b1 109 rfl rfl
  | 1, _ => exact b1 111 rfl rfl
  | 2, _ => exact b1 113 rfl rfl
  | k + 3, h => omega
theorem cf_X0 : CF 0 := by
  refine ⟨by decide, RX0, TX0, tyX0, rfl, inb_X0, tyX0_ok, nmX0, ?_⟩
  intro k hk
  have hk : k < 3 := hk
  match k, hk with
  | 0, _ => exact ⟨fun h => (by cases h), fun _ => rfl, fun h => (by cases h)⟩
  | 1, _ => exact ⟨fun _ => rfl, fun h => (by cases h), fun h => (by cases h)⟩
  | 2, _ => exact ⟨fun h => (by cases h), fun h => (by cases h), fun _ => Or.inr ⟨_, rfl⟩⟩
  | k + 3, h => omega
theorem fn_X0_0 : FN 0 0 false := ⟨RX0, TX0, rfl, rfl⟩
theorem fn_X0_1 : FN 0 1 false := ⟨RX0, TX0, rfl, rfl⟩
theorem fn_X0_2 : FN 0 2 true := ⟨RX0, TX0, rfl, rfl⟩
theorem fo_X0_2 : FO 0 2 RX0 := ⟨RX0, TX0, rfl, rfl⟩
theorem inb_X1 : ∀ w ∈ u_ws RX1 TX1 (nsl 1), w ∈ bw := by
  intro w hw
  obtain ⟨k, hk, rfl⟩ := List.mem_map.mp hw
  have hk : k < 5 := List.mem_range.mp hk
  match k, hk with
  | 0, _ => exact b1 160 rfl rfl
  | 1, _ => exact b1 162 rfl rfl
  | 2, _ => exact b1 164 rfl rfl
  | 3, _ => exact b1 166 rfl rfl
  | 4, _ => exact b1 168 rfl rfl
  | k + 5, h => omega
theorem cf_X1 : CF 1 := by
  refine ⟨by decide, RX1, TX1, tyX1, rfl, inb_X1, tyX1_ok, nmX1, ?_⟩
  intro k hk
  have hk : k < 5 := hk
  match k, hk with
  | 0, _ => exact ⟨fun _ => rfl, fun h => (by cases h), fun h => (by cases h)⟩
  | 1, _ => exact ⟨fun _ => rfl, fun h => (by cases h), fun h => (by cases h)⟩
  | 2, _ => exact ⟨fun h => (by cases h), fun h => (by cases h), fun _ => Or.inr ⟨_, rfl⟩⟩
  | 3, _ => exact ⟨fun h => (by cases h), fun h => (by cases h), fun _ => Or.inl ⟨_, rfl⟩⟩
  | 4, _ => exact ⟨fun h => (by cases h), fun h => (by cases h), fun _ => Or.inl ⟨_, rfl⟩⟩
  | k + 5, h => omega
theorem fn_X1_0 : FN 1 0 false := ⟨RX1, TX1, rfl, rfl⟩
theorem fn_X1_1 : FN 1 1 false := ⟨RX1, TX1, rfl, rfl⟩
theorem fn_X1_2 : FN 1 2 true := ⟨RX1, TX1, rfl, rfl⟩
theorem fo_X1_2 : FO 1 2 RX1 := ⟨RX1, TX1, rfl, rfl⟩
theorem fn_X1_3 : FN 1 3 true := ⟨RX1, TX1, rfl, rfl⟩
theorem fo_X1_3 : FO 1 3 RX1 := ⟨RX1, TX1, rfl, rfl⟩
theorem fn_X1_4 : FN 1 4 true := ⟨RX1, TX1, rfl, rfl⟩
theorem fo_X1_4 : FO 1 4 RX1 := ⟨RX1, TX1, rfl, rfl⟩
theorem inb_X2 : ∀ w ∈ u_ws RX2 TX2 (nsl 2), w ∈ bw := by
  intro w hw
  obtain ⟨k, hk, rfl⟩ := List.mem_map.mp hw
  have hk : k < 8 := List.mem_range.mp hk
  match k, hk with
  | 0, _ => exact b1 55 rfl rfl
  | 1, _ => exact b1 57 rfl rfl
  | 2, _ => exact b1 59 rfl rfl
  | 3, _ => exact b1 61 rfl rfl
  | 4, _ => exact b1 63 rfl rfl
  | 5, _ => exact b1 65 rfl rfl
  | 6, _ => exact b1 67 rfl rfl
  | 7, _ => exact b1 69 rfl rfl
  | k + 8, h => omega
theorem cf_X2 : CF 2 := by
  refine ⟨by decide, RX2, TX2, tyX2, rfl, inb_X2, tyX2_ok, nmX2, ?_⟩
  intro k hk
  have hk : k < 8 := hk
  match k, hk with
  | 0, _ => exact ⟨fun h => (by cases h), fun h => (by cases h), fun _ => Or.inr ⟨_, rfl⟩⟩
  | 1, _ => exact ⟨fun h => (by cases h), fun h => (by cases h), fun _ => Or.inr ⟨_, rfl⟩⟩
  | 2, _ => exact ⟨fun h => (by cases h), fun h => (by cases h), fun _ => Or.inr ⟨_, rfl⟩⟩
  | 3, _ => exact ⟨fun _ => rfl, fun h => (by cases h), fun h => (by cases h)⟩
  | 4, _ => exact ⟨fun _ => rfl, fun h => (by cases h), fun h => (by cases h)⟩
  | 5, _ => exact ⟨fun _ => rfl, fun h => (by cases h), fun h => (by cases h)⟩
  | 6, _ => exact ⟨fun _ => rfl, fun h => (by cases h), fun h => (by cases h)⟩
  | 7, _ => exact ⟨fun h => (by cases h), fun _ => rfl, fun h => (by cases h)⟩
  | k + 8, h => omega
theorem fn_X2_0 : FN 2 0 true := ⟨RX2, TX2, rfl, rfl⟩
theorem fo_X2_0 : FO 2 0 RX2 := ⟨RX2, TX2, rfl, rfl⟩
theorem fn_X2_1 : FN 2 1 true := ⟨RX2, TX2, rfl, rfl⟩
theorem fo_X2_1 : FO 2 1 RX2 := ⟨RX2, TX2, rfl, rfl⟩
theorem fn_X2_2 : FN 2 2 true := ⟨RX2, TX2, rfl, rfl⟩
theorem fo_X2_2 : FO 2 2 RX2 := ⟨RX2, TX2, rfl, rfl⟩
theorem fn_X2_3 : FN 2 3 false := ⟨RX2, TX2, rfl, rfl⟩
theorem fn_X2_4 : FN 2 4 false := ⟨RX2, TX2, rfl, rfl⟩
theorem fn_X2_5 : FN 2 5 false := ⟨RX2, TX2, rfl, rfl⟩
theorem fn_X2_6 : FN 2 6 false := ⟨RX2, TX2, rfl, rfl⟩
theorem fn_X2_7 : FN 2 7 false := ⟨RX2, TX2, rfl, rfl⟩
theorem inb_X3 : ∀ w ∈ u_ws RX3 TX3 (nsl 3), w ∈ bw := by
  intro w hw
  obtain ⟨k, hk, rfl⟩ := List.mem_map.mp hw
  have hk : k < 2 := List.mem_range.mp hk
  match k, hk with
  | 0, _ => exact b1 200 rfl rfl
  | 1, _ => exact b1 202 rfl rfl
  | k + 2, h => omega
theorem cf_X3 : CF 3 := by
  refine ⟨by decide, RX3, TX3, tyX3, rfl, inb_X3, tyX3_ok, nmX3, ?_⟩
  intro k hk
  have hk : k < 2 := hk
  match k, hk with
  | 0, _ => exact ⟨fun h => (by cases h), fun h => (by cases h), fun _ => Or.inr ⟨_, rfl⟩⟩
  | 1, _ => exact ⟨fun _ => rfl, fun h => (by cases h), fun h => (by cases h)⟩
  | k + 2, h => omega
theorem fn_X3_0 : FN 3 0 true := ⟨RX3, TX3, rfl, rfl⟩
theorem fo_X3_0 : FO 3 0 RX3 := ⟨RX3, TX3, rfl, rfl⟩
theorem fn_X3_1 : FN 3 1 false := ⟨RX3, TX3, rfl, rfl⟩
theorem inb_X4 : ∀ w ∈ u_ws RX4 TX4 (nsl 4), w ∈ bw := by
  intro w hw
  obtain ⟨k, hk, rfl⟩ := List.mem_map.mp hw
  have hk : k < 2 := List.mem_range.mp hk
  match k, hk with
  | 0, _ => exact b1 77 rfl rfl
  | 1, _ => exact b1 79 rfl rfl
  | k + 2, h => omega
theorem cf_X4 : CF 4 := by
  refine ⟨by decide, RX4, TX4, tyX4, rfl, inb_X4, tyX4_ok, nmX4, ?_⟩
  intro k hk
  have hk : k < 2 := hk
  match k, hk with
  | 0, _ => exact ⟨fun h => (by cases h), fun h => (by cases h), fun _ => Or.inl ⟨_, rfl⟩⟩
  | 1, _ => exact ⟨fun _ => rfl, fun h => (by cases h), fun h => (by cases h)⟩
  | k + 2, h => omega
theorem fn_X4_0 : FN 4 0 true := ⟨RX4, TX4, rfl, rfl⟩
theorem fo_X4_0 : FO 4 0 RX4 := ⟨RX4, TX4, rfl, rfl⟩
theorem fn_X4_1 : FN 4 1 false := ⟨RX4, TX4, rfl, rfl⟩
theorem inb_X5 : ∀ w ∈ u_ws RX5 TX5 (nsl 5), w ∈ bw := by
  intro w hw
  obtain ⟨k, hk, rfl⟩ := List.mem_map.mp hw
  have hk : k < 2 := List.mem_range.mp hk
  match k, hk with
  | 0, _ => exact b4 67 rfl rfl
  | 1, _ => exact b4 69 rfl rfl
  | k + 2, h => omega
theorem cf_X5 : CF 5 := by
  refine ⟨by decide, RX5, TX5, tyX5, rfl, inb_X5, tyX5_ok, nmX5, ?_⟩
  intro k hk
  have hk : k < 2 := hk
  match k, hk with
  | 0, _ => exact ⟨fun h => (by cases h), fun h => (by cases h), fun _ => Or.inl ⟨_, rfl⟩⟩
  | 1, _ => exact ⟨fun h => (by cases h), fun h => (by cases h), fun _ => Or.inr ⟨_, rfl⟩⟩
  | k + 2, h => omega
theorem fn_X5_0 : FN 5 0 true := ⟨RX5, TX5, rfl, rfl⟩
theorem fo_X5_0 : FO 5 0 RX5 := ⟨RX5, TX5, rfl, rfl⟩
theorem fn_X5_1 : FN 5 1 true := ⟨RX5, TX5, rfl, rfl⟩
theorem fo_X5_1 : FO 5 1 RX5 := ⟨RX5, TX5, rfl, rfl⟩
theorem inb_X6 : ∀ w ∈ u_ws RX6 TX6 (nsl 6), w ∈ bw := by
  intro w hw
  obtain ⟨k, hk, rfl⟩ := List.mem_map.mp hw
  have hk : k < 3 := List.mem_range.mp hk
  match k, hk with
  | 0, _ => exact b1 131 rfl rfl
  | 1, _ => exact b1 133 rfl rfl
  | 2, _ => exact b1 135 rfl rfl
  | k + 3, h => omega
theorem cf_X6 : CF 6 := by
  refine ⟨by decide, RX6, TX6, tyX6, rfl, inb_X6, tyX6_ok, nmX6, ?_⟩
  intro k hk
  have hk : k < 3 := hk
  match k, hk with
  | 0, _ => exact ⟨fun _ => rfl, fun h => (by cases h), fun h => (by cases h)⟩
  | 1, _ => exact ⟨fun h => (by cases h), fun h => (by cases h), fun _ => Or.inr ⟨_, rfl⟩⟩
  | 2, _ => exact ⟨fun h => (by cases h), fun h => (by cases h), fun _ => Or.inr ⟨_, rfl⟩⟩
  | k + 3, h => omega
theorem fn_X6_0 : FN 6 0 false := ⟨RX6, TX6, rfl, rfl⟩
theorem fn_X6_1 : FN 6 1 true := ⟨RX6, TX6, rfl, rfl⟩
theorem fo_X6_1 : FO 6 1 RX6 := ⟨RX6, TX6, rfl, rfl⟩
theorem fn_X6_2 : FN 6 2 true := ⟨RX6, TX6, rfl, rfl⟩
theorem fo_X6_2 : FO 6 2 RX6 := ⟨RX6, TX6, rfl, rfl⟩
theorem inb_X7 : ∀ w ∈ u_ws RX7 TX7 (nsl 7), w ∈ bw := by
  intro w hw
  obtain ⟨k, hk, rfl⟩ := List.mem_map.mp hw
  have hk : k < 17 := List.mem_range.mp hk
  match k, hk with
  | 0, _ => exact b3 116 rfl rfl
  | 1, _ => exact b3 118 rfl rfl
  | 2, _ => exact b3 120 rfl rfl
  | 3, _ => exact b3 122 rfl rfl
  | 4, _ => exact b3 124 rfl rfl
  | 5, _ => exact b3 126 rfl rfl
  | 6, _ => exact b3 128 rfl rfl
  | 7, _ => exact b3 130 rfl rfl
  | 8, _ => exact b3 132 rfl rfl
  | 9, _ => exact b3 134 rfl rfl
  | 10, _ => exact b3 136 rfl rfl
  | 11, _ => exact b3 138 rfl rfl
  | 12, _ => exact b3 140 rfl rfl
  | 13, _ => exact b3 142 rfl rfl
  | 14, _ => exact b3 144 rfl rfl
  | 15, _ => exact b3 146 rfl rfl
  | 16, _ => exact b3 148 rfl rfl
  | k + 17, h => omega
theorem cf_X7 : CF 7 := by
  refine ⟨by decide, RX7, TX7, tyX7, rfl, inb_X7, tyX7_ok, nmX7, ?_⟩
  intro k hk
  have hk : k < 17 := hk
  match k, hk with
  | 0, _ => exact ⟨fun h => (by cases h), fun h => (by cases h), fun _ => Or.inl ⟨_, rfl⟩⟩
  | 1, _ => exact ⟨fun _ => rfl, fun h => (by cases h), fun h => (by cases h)⟩
  | 2, _ => exact ⟨fun h => (by cases h), fun h => (by cases h), fun _ => Or.inr ⟨_, rfl⟩⟩
  | 3, _ => exact ⟨fun h => (by cases h), fun h => (by cases h), fun _ => Or.inr ⟨_, rfl⟩⟩
  | 4, _ => exact ⟨fun h => (by cases h), fun h => (by cases h), fun _ => Or.inr ⟨_, rfl⟩⟩
  | 5, _ => exact ⟨fun h => (by cases h), fun h => (by cases h), fun _ => Or.inr ⟨_, rfl⟩⟩
  | 6, _ => exact ⟨fun h => (by cases h), fun h => (by cases h), fun _ => Or.inr ⟨_, rfl⟩⟩
  | 7, _ => exact ⟨fun _ => rfl, fun h => (by cases h), fun h => (by cases h)⟩
  | 8, _ => exact ⟨fun h => (by cases h), fun h => (by cases h), fun _ => Or.inr ⟨_, rfl⟩⟩
  | 9, _ => exact ⟨fun h => (by cases h), fun h => (by cases h), fun _ => Or.inr ⟨_, rfl⟩⟩
  | 10, _ => exact ⟨fun _ => rfl, fun h => (by cases h), fun h => (by cases h)⟩
  | 11, _ => exact ⟨fun h => (by cases h), fun h => (by cases h), fun _ => Or.inr ⟨_, rfl⟩⟩
  | 12, _ => exact ⟨fun _ => rfl, fun h => (by cases h), fun h => (by cases h)⟩
  | 13, _ => exact ⟨fun h => (by cases h), fun h => (by cases h), fun _ => Or.inl ⟨_, rfl⟩⟩
  | 14, _ => exact ⟨fun h => (by cases h), fun h => (by cases h), fun _ => Or.inr ⟨_, rfl⟩⟩
  | 15, _ => exact ⟨fun _ => rfl, fun h => (by cases h), fun h => (by cases h)⟩
  | 16, _ => exact ⟨fun _ => rfl, fun h => (by cases h), fun h => (by cases h)⟩
  | k + 17, h => omega
theorem fn_X7_0 : FN 7 0 true := ⟨RX7, TX7, rfl, rfl⟩
theorem fo_X7_0 : FO 7 0 RX7 := ⟨RX7, TX7, rfl, rfl⟩
theorem fn_X7_1 : FN 7 1 true := ⟨RX7, TX7, rfl, rfl⟩
theorem fo_X7_1 : FO 7 1 RX7 := ⟨RX7, TX7, rfl, rfl⟩
theorem fn_X7_2 : FN 7 2 true := ⟨RX7, TX7, rfl, rfl⟩
theorem fo_X7_2 : FO 7 2 RX7 := ⟨RX7, TX7, rfl, rfl⟩
theorem fn_X7_3 : FN 7 3 true := ⟨RX7, TX7, rfl, rfl⟩
theorem fo_X7_3 : FO 7 3 RX7 := ⟨RX7, TX7, rfl, rfl⟩
theorem fn_X7_4 : FN 7 4 true := ⟨RX7, TX7, rfl, rfl⟩
theorem fo_X7_4 : FO 7 4 RX7 := ⟨RX7, TX7, rfl, rfl⟩
theorem fn_X7_5 : FN 7 5 true := ⟨RX7, TX7, rfl, rfl⟩
theorem fo_X7_5 : FO 7 5 RX7 := ⟨RX7, TX7, rfl, rfl⟩
theorem fn_X7_6 : FN 7 6 true := ⟨RX7, TX7, rfl, rfl⟩
theorem fo_X7_6 : FO 7 6 RX7 := ⟨RX7, TX7, rfl, rfl⟩
theorem fn_X7_7 : FN 7 7 false := ⟨RX7, TX7, rfl, rfl⟩
theorem fn_X7_8 : FN 7 8 true := ⟨RX7, TX7, rfl, rfl⟩
theorem fo_X7_8 : FO 7 8 RX7 := ⟨RX7, TX7, rfl, rfl⟩
theorem fn_X7_9 : FN 7 9 true := ⟨RX7, TX7, rfl, rfl⟩
theorem fo_X7_9 : FO 7 9 RX7 := ⟨RX7, TX7, rfl, rfl⟩
theorem fn_X7_10 : FN 7 10 false := ⟨RX7, TX7, rfl, rfl⟩
theorem fn_X7_11 : FN 7 11 true := ⟨RX7, TX7, rfl, rfl⟩
theorem fo_X7_11 : FO 7 11 RX7 := ⟨RX7, TX7, rfl, rfl⟩
theorem fn_X7_12 : FN 7 12 false := ⟨RX7, TX7, rfl, rfl⟩
theorem fn_X7_13 : FN 7 13 true := ⟨RX7, TX7, rfl, rfl⟩
theorem fo_X7_13 : FO 7 13 RX7 := ⟨RX7, TX7, rfl, rfl⟩
theorem fn_X7_14 : FN 7 14 true := ⟨RX7, TX7, rfl, rfl⟩
theorem fo_X7_14 : FO 7 14 RX7 := ⟨RX7, TX7, rfl, rfl⟩
theorem fn_X7_15 : FN 7 15 false := ⟨RX7, TX7, rfl, rfl⟩
theorem fn_X7_16 : FN 7 16 false := ⟨RX7, TX7, rfl, rfl⟩
theorem inb_X8 : ∀ w ∈ u_ws RX8 TX8 (nsl 8), w ∈ bw := by
  intro w hw
  obtain ⟨k, hk, rfl⟩ := List.mem_map.mp hw
  have hk : k < 10 := List.mem_range.mp hk
  match k, hk with
  | 0, _ => exact b3 54 rfl rfl
  | 1, _ => exact b3 56 rfl rfl
  | 2, _ => exact b3 58 rfl rfl
  | 3, _ => exact b3 60 rfl rfl
  | 4, _ => exact b3 62 rfl rfl
  | 5, _ => exact b3 64 rfl rfl
  | 6, _ => exact b3 66 rfl rfl
  | 7, _ => exact b3 68 rfl rfl
  | 8, _ => exact b3 70 rfl rfl
  | 9, _ => exact b3 72 rfl rfl
  | k + 10, h => omega
theorem cf_X8 : CF 8 := by
  refine ⟨by decide, RX8, TX8, tyX8, rfl, inb_X8, tyX8_ok, nmX8, ?_⟩
  intro k hk
  have hk : k < 10 := hk
  match k, hk with
  | 0, _ => exact ⟨fun h => (by cases h), fun h => (by cases h), fun _ => Or.inr ⟨_, rfl⟩⟩
  | 1, _ => exact ⟨fun h => (by cases h), fun h => (by cases h), fun _ => Or.inr ⟨_, rfl⟩⟩
  | 2, _ => exact ⟨fun _ => rfl, fun h => (by cases h), fun h => (by cases h)⟩
  | 3, _ => exact ⟨fun h => (by cases h), fun h => (by cases h), fun _ => Or.inr ⟨_, rfl⟩⟩
  | 4, _ => exact ⟨fun h => (by cases h), fun h => (by cases h), fun _ => Or.inr ⟨_, rfl⟩⟩
  | 5, _ => exact ⟨fun h => (by cases h), fun h => (by cases h), fun _ => Or.inr ⟨_, rfl⟩⟩
  | 6, _ => exact ⟨fun h => (by cases h), fun h => (by cases h), fun _ => Or.inr ⟨_, rfl⟩⟩
  | 7, _ => exact ⟨fun h => (by cases h), fun h => (by cases h), fun _ => Or.inr ⟨_, rfl⟩⟩
  | 8, _ => exact ⟨fun h => (by cases h), fun h => (by cases h), fun _ => Or.inr ⟨_, rfl⟩⟩
  | 9, _ => exact ⟨fun _ => rfl, fun h => (by cases h), fun h => (by cases h)⟩
  | k + 10, h => omega
theorem fn_X8_0 : FN 8 0 true := ⟨RX8, TX8, rfl, rfl⟩
theorem fo_X8_0 : FO 8 0 RX8 := ⟨RX8, TX8, rfl, rfl⟩
theorem fn_X8_1 : FN 8 1 true := ⟨RX8, TX8, rfl, rfl⟩
theorem fo_X8_1 : FO 8 1 RX8 := ⟨RX8, TX8, rfl, rfl⟩
theorem fn_X8_2 : FN 8 2 true := ⟨RX8, TX8, rfl, rfl⟩
theorem fo_X8_2 : FO 8 2 RX8 := ⟨RX8, TX8, rfl, rfl⟩
theorem fn_X8_3 : FN 8 3 true := ⟨RX8, TX8, rfl, rfl⟩
theorem fo_X8_3 : FO 8 3 RX8 := ⟨RX8, TX8, rfl, rfl⟩
theorem fn_X8_4 : FN 8 4 true := ⟨RX8, TX8, rfl, rfl⟩
theorem fo_X8_4 : FO 8 4 RX8 := ⟨RX8, TX8, rfl, rfl⟩
theorem fn_X8_5 : FN 8 5 true := ⟨RX8, TX8, rfl, rfl⟩
theorem fo_X8_5 : FO 8 5 RX8 := ⟨RX8, TX8, rfl, rfl⟩
theorem fn_X8_6 : FN 8 6 true := ⟨RX8, TX8, rfl, rfl⟩
theorem fo_X8_6 : FO 8 6 RX8 := ⟨RX8, TX8, rfl, rfl⟩
theorem fn_X8_7 : FN 8 7 true := ⟨RX8, TX8, rfl, rfl⟩
theorem fo_X8_7 : FO 8 7 RX8 := ⟨RX8, TX8, rfl, rfl⟩
theorem fn_X8_8 : FN 8 8 true := ⟨RX8, TX8, rfl, rfl⟩
theorem fo_X8_8 : FO 8 8 RX8 := ⟨RX8, TX8, rfl, rfl⟩
theorem fn_X8_9 : FN 8 9 false := ⟨RX8, TX8, rfl, rfl⟩
theorem inb_X9 : ∀ w ∈ u_ws RX9 TX9 (nsl 9), w ∈ bw := by
  intro w hw
  obtain ⟨k, hk, rfl⟩ := List.mem_map.mp hw
  have hk : k < 2 := List.mem_range.mp hk
  match k, hk with
  | 0, _ => exact b1 185 rfl rfl
  | 1, _ => exact b1 187 rfl rfl
  | k + 2, h => omega
theorem cf_X9 : CF 9 := by
  refine ⟨by decide, RX9, TX9, tyX9, rfl, inb_X9, tyX9_ok, nmX9, ?_⟩
  intro k hk
  have hk : k < 2 := hk
  match k, hk with
  | 0, _ => exact ⟨fun h => (by cases h), fun h => (by cases h), fun _ => Or.inl ⟨_, rfl⟩⟩
  | 1, _ => exact ⟨fun _ => rfl, fun h => (by cases h), fun h => (by cases h)⟩
  | k + 2, h => omega
theorem fn_X9_0 : FN 9 0 true := ⟨RX9, TX9, rfl, rfl⟩
theorem fo_X9_0 : FO 9 0 RX9 := ⟨RX9, TX9, rfl, rfl⟩
theorem fn_X9_1 : FN 9 1 false := ⟨RX9, TX9, rfl, rfl⟩
theorem inb_X10 : ∀ w ∈ u_ws RX10 TX10 (nsl 10), w ∈ bw := by
  intro w hw
  obtain ⟨k, hk, rfl⟩ := List.mem_map.mp hw
  have hk : k < 11 := List.mem_range.mp hk
  match k, hk with
  | 0, _ => exact b1 216 rfl rfl
  | 1, _ => exact b1 218 rfl rfl
  | 2, _ => exact b1 220 rfl rfl
  | 3, _ => exact b1 222 rfl rfl
  | 4, _ => exact b1 224 rfl rfl
  | 5, _ => exact b1 226 rfl rfl
  | 6, _ => exact b1 228 rfl rfl
  | 7, _ => exact b1 230 rfl rfl
  | 8, _ => exact b1 232 rfl rfl
  | 9, _ => exact b1 234 rfl rfl
  | 10, _ => exact b1 236 rfl rfl
  | k + 11, h => omega
theorem cf_X10 : CF 10 := by
  refine ⟨by decide, RX10, TX10, tyX10, rfl, inb_X10, tyX10_ok, nmX10, ?_⟩
  intro k hk
  have hk : k < 11 := hk
  match k, hk with
  | 0, _ => exact ⟨fun h => (by cases h), fun h => (by cases h), fun _ => Or.inr ⟨_, rfl⟩⟩
  | 1, _ => exact ⟨fun _ => rfl, fun h => (by cases h), fun h => (by cases h)⟩
  | 2, _ => exact ⟨fun h => (by cases h), fun h => (by cases h), fun _ => Or.inl ⟨_, rfl⟩⟩
  | 3, _ => exact ⟨fun h => (by cases h), fun h => (by cases h), fun _ => Or.inr ⟨_, rfl⟩⟩
  | 4, _ => exact ⟨fun _ => rfl, fun h => (by cases h), fun h => (by cases h)⟩
  | 5, _ => exact ⟨fun h => (by cases h), fun h => (by cases h), fun _ => Or.inr ⟨_, rfl⟩⟩
  | 6, _ => exact ⟨fun _ => rfl, fun h => (by cases h), fun h => (by cases h)⟩
  | 7, _ => exact ⟨fun h => (by cases h), fun h => (by cases h), fun _ => Or.inl ⟨_, rfl⟩⟩
  | 8, _ => exact ⟨fun h => (by cases h), fun h => (by cases h), fun _ => Or.inl ⟨_, rfl⟩⟩
  | 9, _ => exact ⟨fun _ => rfl, fun h => (by cases h), fun h => (by cases h)⟩
  | 10, _ => exact ⟨fun h => (by cases h), fun h => (by cases h), fun _ => Or.inl ⟨_, rfl⟩⟩
  | k + 11, h => omega
theorem fn_X10_0 : FN 10 0 true := ⟨RX10, TX10, rfl, rfl⟩
theorem fo_X10_0 : FO 10 0 RX10 := ⟨RX10, TX10, rfl, rfl⟩
theorem fn_X10_1 : FN 10 1 false := ⟨RX10, TX10, rfl, rfl⟩
theorem fn_X10_2 : FN 10 2 true := ⟨RX10, TX10, rfl, rfl⟩
theorem fo_X10_2 : FO 10 2 RX10 := ⟨RX10, TX10, rfl, rfl⟩
theorem fn_X10_3 : FN 10 3 true := ⟨RX10, TX10, rfl, rfl⟩
theorem fo_X10_3 : FO 10 3 RX10 := ⟨RX10, TX10, rfl, rfl⟩
theorem fn_X10_4 : FN 10 4 false := ⟨RX10, TX10, rfl, rfl⟩
theorem fn_X10_5 : FN 10 5 true := ⟨RX10, TX10, rfl, rfl⟩
theorem fo_X10_5 : FO 10 5 RX10 := ⟨RX10, TX10, rfl, rfl⟩
theorem fn_X10_6 : FN 10 6 false := ⟨RX10, TX10, rfl, rfl⟩
theorem fn_X10_7 : FN 10 7 false := ⟨RX10, TX10, rfl, rfl⟩
theorem fn_X10_8 : FN 10 8 true := ⟨RX10, TX10, rfl, rfl⟩
theorem fo_X10_8 : FO 10 8 RX10 := ⟨RX10, TX10, rfl, rfl⟩
theorem fn_X10_9 : FN 10 9 false := ⟨RX10, TX10, rfl, rfl⟩
theorem fn_X10_10 : FN 10 10 true := ⟨RX10, TX10, rfl, rfl⟩
theorem fo_X10_10 : FO 10 10 RX10 := ⟨RX10, TX10, rfl, rfl⟩
theorem inb_X11 : ∀ w ∈ u_ws RX11 TX11 (nsl 11), w ∈ bw := by
  intro w hw
  obtain ⟨k, hk, rfl⟩ := List.mem_map.mp hw
  have hk : k < 43 := List.mem_range.mp hk
  match k, hk with
  | 0, _ => exact b5 62 rfl rfl
  | 1, _ => exact b5 64 rfl rfl
  | 2, _ => exact b5 66 rfl rfl
  | 3, _ => exact b5 68 rfl rfl
  | 4, _ => exact b5 70 rfl rfl
  | 5, _ => exact b5 72 rfl rfl
  | 6, _ => exact b5 74 rfl rfl
  | 7, _ => exact b5 76 rfl rfl
  | 8, _ => exact b5 78 rfl rfl
  | 9, _ => exact b5 80 rfl rfl
  | 10, _ => exact b5 82 rfl rfl
  | 11, _ => exact b5 84 rfl rfl
  | 12, _ => exact b5 86 rfl rfl
  | 13, _ => exact b5 88 rfl rfl
  | 14, _ => exact b5 90 rfl rfl
  | 15, _ => exact b5 92 rfl rfl
  | 16, _ => exact b5 94 rfl rfl
  | 17, _ => exact b5 96 rfl rfl
  | 18, _ => exact b5 98 rfl rfl
  | 19, _ => exact b5 100 rfl rfl
  | 20, _ => exact b5 102 rfl rfl
  | 21, _ => exact b5 104 rfl rfl
  | 22, _ => exact b5 106 rfl rfl
  | 23, _ => exact b5 108 rfl rfl
  | 24, _ => exact b5 110 rfl rfl
  | 25, _ => exact b5 112 rfl rfl
  | 26, _ => exact b5 114 rfl rfl
  | 27, _ => exact b5 116 rfl rfl
  | 28, _ => exact b5 118 rfl rfl
  | 29, _ => exact b5 120 rfl rfl
  | 30, _ => exact b5 122 rfl rfl
  | 31, _ => exact b5 124 rfl rfl
  | 32, _ => exact b5 126 rfl rfl
  | 33, _ => exact b5 128 rfl rfl
  | 34, _ => exact b5 130 rfl rfl
  | 35, _ => exact b5 132 rfl rfl
  | 36, _ => exact b5 134 rfl rfl
  | 37, _ => exact b5 136 rfl rfl
  | 38, _ => exact b5 138 rfl rfl
  | 39, _ => exact b5 140 rfl rfl
  | 40, _ => exact b5 142 rfl rfl
  | 41, _ => exact b5 144 rfl rfl
  | 42, _ => exact b5 146 rfl rfl
  | k + 43, h => omega
theorem cf_X11 : CF 11 := by
  refine ⟨by decide, RX11, TX11, tyX11, rfl, inb_X11, tyX11_ok, nmX11, ?_⟩
  intro k hk
  have hk : k < 43 := hk
  match k, hk with
  | 0, _ => exact ⟨fun _ => rfl, fun h => (by cases h), fun h => (by cases h)⟩
  | 1, _ => exact ⟨fun h => (by cases h), fun h => (by cases h), fun _ => Or.inr ⟨_, rfl⟩⟩
  | 2, _ => exact ⟨fun h => (by cases h), fun h => (by cases h), fun _ => Or.inr ⟨_, rfl⟩⟩
  | 3, _ => exact ⟨fun _ => rfl, fun h => (by cases h), fun h => (by cases h)⟩
  | 4, _ => exact ⟨fun _ => rfl, fun h => (by cases h), fun h => (by cases h)⟩
  | 5, _ => exact ⟨fun _ => rfl, fun h => (by cases h), fun h => (by cases h)⟩
  | 6, _ => exact ⟨fun _ => rfl, fun h => (by cases h), fun h => (by cases h)⟩
  | 7, _ => exact ⟨fun _ => rfl, fun h => (by cases h), fun h => (by cases h)⟩
  | 8, _ => exact ⟨fun h => (by cases h), fun h => (by cases h), fun _ => Or.inr ⟨_, rfl⟩⟩
  | 9, _ => exact ⟨fun h => (by cases h), fun h => (by cases h), fun _ => Or.inr ⟨_, rfl⟩⟩
  | 10, _ => exact ⟨fun h => (by cases h), fun h => (by cases h), fun _ => Or.inr ⟨_, rfl⟩⟩
  | 11, _ => exact ⟨fun h => (by cases h), fun h => (by cases h), fun _ => Or.inr ⟨_, rfl⟩⟩
  | 12, _ => exact ⟨fun h => (by cases h), fun h => (by cases h), fun _ => Or.inr ⟨_, rfl⟩⟩
  | 13, _ => exact ⟨fun h => (by cases h), fun h => (by cases h), fun _ => Or.inr ⟨_, rfl⟩⟩
  | 14, _ => exact ⟨fun h => (by cases h), fun h => (by cases h), fun _ => Or.inr ⟨_, rfl⟩⟩
  | 15, _ => exact ⟨fun h => (by cases h), fun h => (by cases h), fun _ => Or.inr ⟨_, rfl⟩⟩
  | 16, _ => exact ⟨fun h => (by cases h), fun h => (by cases h), fun _ => Or.inr ⟨_, rfl⟩⟩
  | 17, _ => exact ⟨fun h => (by cases h), fun h => (by cases h), fun _ => Or.inr ⟨_, rfl⟩⟩
  | 18, _ => exact ⟨fun h => (by cases h), fun h => (by cases h), fun _ => Or.inr ⟨_, rfl⟩⟩
  | 19, _ => exact ⟨fun h => (by cases h), fun h => (by cases h), fun _ => Or.inr ⟨_, rfl⟩⟩
  | 20, _ => exact ⟨fun h => (by cases h), fun h => (by cases h), fun _ => Or.inr ⟨_, rfl⟩⟩
  | 21, _ => exact ⟨fun h => (by cases h), fun h => (by cases h), fun _ => Or.inr ⟨_, rfl⟩⟩
  | 22, _ => exact ⟨fun _ => rfl, fun h => (by cases h), fun h => (by cases h)⟩
  | 23, _ => exact ⟨fun h => (by cases h), fun h => (by cases h), fun _ => Or.inr ⟨_, rfl⟩⟩
  | 24, _ => exact ⟨fun h => (by cases h), fun h => (by cases h), fun _ => Or.inr ⟨_, rfl⟩⟩
  | 25, _ => exact ⟨fun h => (by cases h), fun h => (by cases h), fun _ => Or.inr ⟨_, rfl⟩⟩
  | 26, _ => exact ⟨fun h => (by cases h), fun h => (by cases h), fun _ => Or.inr ⟨_, rfl⟩⟩
  | 27, _ => exact ⟨fun h => (by cases h), fun h => (by cases h), fun _ => Or.inr ⟨_, rfl⟩⟩
  | 28, _ => exact ⟨fun h => (by cases h), fun h => (by cases h), fun _ => Or.inr ⟨_, rfl⟩⟩
  | 29, _ => exact ⟨fun _ => rfl, fun h => (by cases h), fun h => (by cases h)⟩
  | 30, _ => exact ⟨fun _ => rfl, fun h => (by cases h), fun h => (by cases h)⟩
  | 31, _ => exact ⟨fun _ => rfl, fun h => (by cases h), fun h => (by cases h)⟩
  | 32, _ => exact ⟨fun _ => rfl, fun h => (by cases h), fun h => (by cases h)⟩
  | 33, _ => exact ⟨fun _ => rfl, fun h => (by cases h), fun h => (by cases h)⟩
  | 34, _ => exact ⟨fun _ => rfl, fun h => (by cases h), fun h => (by cases h)⟩
  | 35, _ => exact ⟨fun _ => rfl, fun h => (by cases h), fun h => (by cases h)⟩
  | 36, _ => exact ⟨fun _ => rfl, fun h => (by cases h), fun h => (by cases h)⟩
  | 37, _ => exact ⟨fun h => (by cases h), fun h => (by cases h), fun _ => Or.inr ⟨_, rfl⟩⟩
  | 38, _ => exact ⟨fun h => (by cases h), fun h => (by cases h), fun _ => Or.inr ⟨_, rfl⟩⟩
  | 39, _ => exact ⟨fun h => (by cases h), fun h => (by cases h), fun _ => Or.inr ⟨_, rfl⟩⟩
  | 40, _ => exact ⟨fun h => (by cases h), fun h => (by cases h), fun _ => Or.inr ⟨_, rfl⟩⟩
  | 41, _ => exact ⟨fun h => (by cases h), fun h => (by cases h), fun _ => Or.inr ⟨_, rfl⟩⟩
  | 42, _ => exact ⟨fun _ => rfl, fun h => (by cases h), fun h => (by cases h)⟩
  | k + 43, h => omega
theorem fn_X11_0 : FN 11 0 false := ⟨RX11, TX11, rfl, rfl⟩
theorem fn_X11_1 : FN 11 1 true := ⟨RX11, TX11, rfl, rfl⟩
theorem fo_X11_1 : FO 11 1 RX11 := ⟨RX11, TX11, rfl, rfl⟩
theorem fn_X11_2 : FN 11 2 true := ⟨RX11, TX11, rfl, rfl⟩
theorem fo_X11_2 : FO 11 2 RX11 := ⟨RX11, TX11, rfl, rfl⟩
theorem fn_X11_3 : FN 11 3 false := ⟨RX11, TX11, rfl, rfl⟩
theorem fn_X11_4 : FN 11 4 false := ⟨RX11, TX11, rfl, rfl⟩
theorem fn_X11_5 : FN 11 5 false := ⟨RX11, TX11, rfl, rfl⟩
theorem fn_X11_6 : FN 11 6 false := ⟨RX11, TX11, rfl, rfl⟩
theorem fn_X11_7 : FN 11 7 false := ⟨RX11, TX11, rfl, rfl⟩
theorem fn_X11_8 : FN 11 8 true := ⟨RX11, TX11, rfl, rfl⟩
theorem fo_X11_8 : FO 11 8 RX11 := ⟨RX11, TX11, rfl, rfl⟩
theorem fn_X11_9 : FN 11 9 true := ⟨RX11, TX11, rfl, rfl⟩
theorem fo_X11_9 : FO 11 9 RX11 := ⟨RX11, TX11, rfl, rfl⟩
theorem fn_X11_10 : FN 11 10 true := ⟨RX11, TX11, rfl, rfl⟩
theorem fo_X11_10 : FO 11 10 RX11 := ⟨RX11, TX11, rfl, rfl⟩
theorem fn_X11_11 : FN 11 11 true := ⟨RX11, TX11, rfl, rfl⟩
theorem fo_X11_11 : FO 11 11 RX11 := ⟨RX11, TX11, rfl, rfl⟩
theorem fn_X11_12 : FN 11 12 true := ⟨RX11, TX11, rfl, rfl⟩
theorem fo_X11_12 : FO 11 12 RX11 := ⟨RX11, TX11, rfl, rfl⟩
theorem fn_X11_13 : FN 11 13 true := ⟨RX11, TX11, rfl, rfl⟩
theorem fo_X11_13 : FO 11 13 RX11 := ⟨RX11, TX11, rfl, rfl⟩
theorem fn_X11_14 : FN 11 14 true := ⟨RX11, TX11, rfl, rfl⟩
theorem fo_X11_14 : FO 11 14 RX11 := ⟨RX11, TX11, rfl, rfl⟩
theorem fn_X11_15 : FN 11 15 true := ⟨RX11, TX11, rfl, rfl⟩
theorem fo_X11_15 : FO 11 15 RX11 := ⟨RX11, TX11, rfl, rfl⟩
theorem fn_X11_16 : FN 11 16 true := ⟨RX11, TX11, rfl, rfl⟩
theorem fo_X11_16 : FO 11 16 RX11 := ⟨RX11, TX11, rfl, rfl⟩
theorem fn_X11_17 : FN 11 17 true := ⟨RX11, TX11, rfl, rfl⟩
theorem fo_X11_17 : FO 11 17 RX11 := ⟨RX11, TX11, rfl, rfl⟩
theorem fn_X11_18 : FN 11 18 true := ⟨RX11, TX11, rfl, rfl⟩
theorem fo_X11_18 : FO 11 18 RX11 := ⟨RX11, TX11, rfl, rfl⟩
theorem fn_X11_19 : FN 11 19 true := ⟨RX11, TX11, rfl, rfl⟩
theorem fo_X11_19 : FO 11 19 RX11 := ⟨RX11, TX11, rfl, rfl⟩
theorem fn_X11_20 : FN 11 20 true := ⟨RX11, TX11, rfl, rfl⟩
theorem fo_X11_20 : FO 11 20 RX11 := ⟨RX11, TX11, rfl, rfl⟩
theorem fn_X11_21 : FN 11 21 true := ⟨RX11, TX11, rfl, rfl⟩
theorem fo_X11_21 : FO 11 21 RX11 := ⟨RX11, TX11, rfl, rfl⟩
theorem fn_X11_22 : FN 11 22 false := ⟨RX11, TX11, rfl, rfl⟩
theorem fn_X11_23 : FN 11 23 true := ⟨RX11, TX11, rfl, rfl⟩
theorem fo_X11_23 : FO 11 23 RX11 := ⟨RX11, TX11, rfl, rfl⟩
theorem fn_X11_24 : FN 11 24 true := ⟨RX11, TX11, rfl, rfl⟩
theorem fo_X11_24 : FO 11 24 RX11 := ⟨RX11, TX11, rfl, rfl⟩
theorem fn_X11_25 : FN 11 25 true := ⟨RX11, TX11, rfl, rfl⟩
theorem fo_X11_25 : FO 11 25 RX11 := ⟨RX11, TX11, rfl, rfl⟩
theorem fn_X11_26 : FN 11 26 true := ⟨RX11, TX11, rfl, rfl⟩
theorem fo_X11_26 : FO 11 26 RX11 := ⟨RX11, TX11, rfl, rfl⟩
theorem fn_X11_27 : FN 11 27 true := ⟨RX11, TX11, rfl, rfl⟩
theorem fo_X11_27 : FO 11 27 RX11 := ⟨RX11, TX11, rfl, rfl⟩
theorem fn_X11_28 : FN 11 28 true := ⟨RX11, TX11, rfl, rfl⟩
theorem fo_X11_28 : FO 11 28 RX11 := ⟨RX11, TX11, rfl, rfl⟩
theorem fn_X11_29 : FN 11 29 false := ⟨RX11, TX11, rfl, rfl⟩
theorem fn_X11_30 : FN 11 30 false := ⟨RX11, TX11, rfl, rfl⟩
theorem fn_X11_31 : FN 11 31 false := ⟨RX11, TX11, rfl, rfl⟩
theorem fn_X11_32 : FN 11 32 false := ⟨RX11, TX11, rfl, rfl⟩
theorem fn_X11_33 : FN 11 33 false := ⟨RX11, TX11, rfl, rfl⟩
theorem fn_X11_34 : FN 11 34 false := ⟨RX11, TX11, rfl, rfl⟩
theorem fn_X11_35 : FN 11 35 false := ⟨RX11, TX11, rfl, rfl⟩
theorem fn_X11_36 : FN 11 36 false := ⟨RX11, TX11, rfl, rfl⟩
theorem fn_X11_37 : FN 11 37 true := ⟨RX11, TX11, rfl, rfl⟩
theorem fo_X11_37 : FO 11 37 RX11 := ⟨RX11, TX11, rfl, rfl⟩
theorem fn_X11_38 : FN 11 38 true := ⟨RX11, TX11, rfl, rfl⟩
theorem fo_X11_38 : FO 11 38 RX11 := ⟨RX11, TX11, rfl, rfl⟩
theorem fn_X11_39 : FN 11 39 true := ⟨RX11, TX11, rfl, rfl⟩
theorem fo_X11_39 : FO 11 39 RX11 := ⟨RX11, TX11, rfl, rfl⟩
theorem fn_X11_40 : FN 11 40 true := ⟨RX11, TX11, rfl, rfl⟩
theorem fo_X11_40 : FO 11 40 RX11 := ⟨RX11, TX11, rfl, rfl⟩
theorem fn_X11_41 : FN 11 41 true := ⟨RX11, TX11, rfl, rfl⟩
theorem fo_X11_41 : FO 11 41 RX11 := ⟨RX11, TX11, rfl, rfl⟩
theorem fn_X11_42 : FN 11 42 false := ⟨RX11, TX11, rfl, rfl⟩
theorem fl_X2_9 : FL RX2 9 2 0 := ⟨by decide, RX2, TX2, rfl, b1 44 rfl rfl⟩
theorem fl_X2_15 : FL RX2 15 2 1 := ⟨by decide, RX2, TX2, rfl, b1 45 rfl rfl⟩
theorem fl_X2_18 : FL RX2 18 2 2 := ⟨by decide, RX2, TX2, rfl, b1 46 rfl rfl⟩
theorem fl_X2_22 : FL RX2 22 2 3 := ⟨by decide, RX2, TX2, rfl, b1 47 rfl rfl⟩
theorem fl_X2_26 : FL RX2 26 2 4 := ⟨by decide, RX2, TX2, rfl, b1 48 rfl rfl⟩
theorem fl_X2_29 : FL RX2 29 2 5 := ⟨by decide, RX2, TX2, rfl, b1 49 rfl rfl⟩
theorem fl_X4_59 : FL RX4 59 2 5 := ⟨by decide, RX2, TX2, rfl, b1 50 rfl rfl⟩
theorem fl_X2_32 : FL RX2 32 2 6 := ⟨by decide, RX2, TX2, rfl, b1 51 rfl rfl⟩
theorem fl_X4_22 : FL RX4 22 2 6 := ⟨by decide, RX2, TX2, rfl, b1 52 rfl rfl⟩
theorem fl_X2_35 : FL RX2 35 2 7 := ⟨by decide, RX2, TX2, rfl, b1 53 rfl rfl⟩
theorem fl_X4_99 : FL RX4 99 2 7 := ⟨by decide, RX2, TX2, rfl, b1 54 rfl rfl⟩
theorem fl_X4_12 : FL RX4 12 4 0 := ⟨by decide, RX4, TX4, rfl, b1 75 rfl rfl⟩
theorem fl_X4_18 : FL RX4 18 4 1 := ⟨by decide, RX4, TX4, rfl, b1 76 rfl rfl⟩
theorem fl_X0_9 : FL RX0 9 0 0 := ⟨by decide, RX0, TX0, rfl, b1 99 rfl rfl⟩
theorem fl_X1_40 : FL RX1 40 0 0 := ⟨by decide, RX0, TX0, rfl, b1 100 rfl rfl⟩
theorem fl_X3_77 : FL RX3 77 0 0 := ⟨by decide, RX0, TX0, rfl, b1 101 rfl rfl⟩
theorem fl_X4_107 : FL RX4 107 0 0 := ⟨by decide, RX0, TX0, rfl, b1 102 rfl rfl⟩
theorem fl_X0_15 : FL RX0 15 0 1 := ⟨by decide, RX0, TX0, rfl, b1 103 rfl rfl⟩
theorem fl_X1_36 : FL RX1 36 0 1 := ⟨by decide, RX0, TX0, rfl, b1 104 rfl rfl⟩
theorem fl_X10_113 : FL RX10 113 0 1 := ⟨by decide, RX0, TX0, rfl, b1 105 rfl rfl⟩
theorem fl_X7_132 : FL RX7 132 0 1 := ⟨by decide, RX0, TX0, rfl, b1 106 rfl rfl⟩
theorem fl_X4_83 : FL RX4 83 0 1 := ⟨by decide, RX0, TX0, rfl, b1 107 rfl rfl⟩
theorem fl_X0_19 : FL RX0 19 0 2 := ⟨by decide, RX0, TX0, rfl, b1 108 rfl rfl⟩
theorem fl_X6_9 : FL RX6 9 6 0 := ⟨by decide, RX6, TX6, rfl, b1 122 rfl rfl⟩
theorem fl_X7_47 : FL RX7 47 6 0 := ⟨by decide, RX6, TX6, rfl, b1 123 rfl rfl⟩
theorem fl_X9_20 : FL RX9 20 6 0 := ⟨by decide, RX6, TX6, rfl, b1 124 rfl rfl⟩
theorem fl_X1_39 : FL RX1 39 6 0 := ⟨by decide, RX6, TX6, rfl, b1 125 rfl rfl⟩
theorem fl_X10_122 : FL RX10 122 6 0 := ⟨by decide, RX6, TX6, rfl, b1 126 rfl rfl⟩
theorem fl_X6_15 : FL RX6 15 6 1 := ⟨by decide, RX6, TX6, rfl, b1 127 rfl rfl⟩
theorem fl_X6_19 : FL RX6 19 6 2 := ⟨by decide, RX6, TX6, rfl, b1 128 rfl rfl⟩
theorem fl_X5_44 : FL RX5 44 6 2 := ⟨by decide, RX6, TX6, rfl, b1 129 rfl rfl⟩
theorem fl_X7_115 : FL RX7 115 6 2 := ⟨by decide, RX6, TX6, rfl, b1 130 rfl rfl⟩
theorem fl_X1_9 : FL RX1 9 1 0 := ⟨by decide, RX1, TX1, rfl, b1 138 rfl rfl⟩
theorem fl_X7_22 : FL RX7 22 1 0 := ⟨by decide, RX1, TX1, rfl, b1 139 rfl rfl⟩
theorem fl_X3_63 : FL RX3 63 1 0 := ⟨by decide, RX1, TX1, rfl, b1 140 rfl rfl⟩
theorem fl_X10_103 : FL RX10 103 1 0 := ⟨by decide, RX1, TX1, rfl, b1 141 rfl rfl⟩
theorem fl_X4_80 : FL RX4 80 1 0 := ⟨by decide, RX1, TX1, rfl, b1 142 rfl rfl⟩
theorem fl_X1_15 : FL RX1 15 1 1 := ⟨by decide, RX1, TX1, rfl, b1 143 rfl rfl⟩
theorem fl_X7_15 : FL RX7 15 1 1 := ⟨by decide, RX1, TX1, rfl, b1 144 rfl rfl⟩
theorem fl_X8_44 : FL RX8 44 1 1 := ⟨by decide, RX1, TX1, rfl, b1 145 rfl rfl⟩
theorem fl_X4_73 : FL RX4 73 1 1 := ⟨by decide, RX1, TX1, rfl, b1 146 rfl rfl⟩
theorem fl_X1_20 : FL RX1 20 1 2 := ⟨by decide, RX1, TX1, rfl, b1 147 rfl rfl⟩
theorem fl_X3_73 : FL RX3 73 1 2 := ⟨by decide, RX1, TX1, rfl, b1 148 rfl rfl⟩
theorem fl_X7_128 : FL RX7 128 1 2 := ⟨by decide, RX1, TX1, rfl, b1 149 rfl rfl⟩
theorem fl_X4_69 : FL RX4 69 1 2 := ⟨by decide, RX1, TX1, rfl, b1 150 rfl rfl⟩
theorem fl_X1_25 : FL RX1 25 1 3 := ⟨by decide, RX1, TX1, rfl, b1 151 rfl rfl⟩
theorem fl_X3_31 : FL RX3 31 1 3 := ⟨by decide, RX1, TX1, rfl, b1 152 rfl rfl⟩
theorem fl_X10_109 : FL RX10 109 1 3 := ⟨by decide, RX1, TX1, rfl, b1 153 rfl rfl⟩
theorem fl_X7_147 : FL RX7 147 1 3 := ⟨by decide, RX1, TX1, rfl, b1 154 rfl rfl⟩
theorem fl_X4_91 : FL RX4 91 1 3 := ⟨by decide, RX1, TX1, rfl, b1 155 rfl rfl⟩
theorem fl_X1_32 : FL RX1 32 1 4 := ⟨by decide, RX1, TX1, rfl, b1 156 rfl rfl⟩
theorem fl_X7_43 : FL RX7 43 1 4 := ⟨by decide, RX1, TX1, rfl, b1 157 rfl rfl⟩
theorem fl_X10_118 : FL RX10 118 1 4 := ⟨by decide, RX1, TX1, rfl, b1 158 rfl rfl⟩
theorem fl_X4_124 : FL RX4 124 1 4 := ⟨by decide, RX1, TX1, rfl, b1 159 rfl rfl⟩
theorem fl_X9_10 : FL RX9 10 9 0 := ⟨by decide, RX9, TX9, rfl, b1 179 rfl rfl⟩
theorem fl_X5_25 : FL RX5 25 9 0 := ⟨by decide, RX9, TX9, rfl, b1 180 rfl rfl⟩
theorem fl_X4_47 : FL RX4 47 9 0 := ⟨by decide, RX9, TX9, rfl, b1 181 rfl rfl⟩
theorem fl_X9_16 : FL RX9 16 9 1 := ⟨by decide, RX9, TX9, rfl, b1 182 rfl rfl⟩
theorem fl_X5_41 : FL RX5 41 9 1 := ⟨by decide, RX9, TX9, rfl, b1 183 rfl rfl⟩
theorem fl_X4_151 : FL RX4 151 9 1 := ⟨by decide, RX9, TX9, rfl, b1 184 rfl rfl⟩
theorem fl_X3_9 : FL RX3 9 3 0 := ⟨by decide, RX3, TX3, rfl, b1 196 rfl rfl⟩
theorem fl_X10_214 : FL RX10 214 3 0 := ⟨by decide, RX3, TX3, rfl, b1 197 rfl rfl⟩
theorem fl_X3_15 : FL RX3 15 3 1 := ⟨by decide, RX3, TX3, rfl, b1 198 rfl rfl⟩
theorem fl_X10_208 : FL RX10 208 3 1 := ⟨by decide, RX3, TX3, rfl, b1 199 rfl rfl⟩
theorem fl_X10_9 : FL RX10 9 10 0 := ⟨by decide, RX10, TX10, rfl, b1 205 rfl rfl⟩
theorem fl_X10_13 : FL RX10 13 10 1 := ⟨by decide, RX10, TX10, rfl, b1 206 rfl rfl⟩
theorem fl_X10_20 : FL RX10 20 10 2 := ⟨by decide, RX10, TX10, rfl, b1 207 rfl rfl⟩
theorem fl_X10_26 : FL RX10 26 10 3 := ⟨by decide, RX10, TX10, rfl, b1 208 rfl rfl⟩
theorem fl_X10_30 : FL RX10 30 10 4 := ⟨by decide, RX10, TX10, rfl, b1 209 rfl rfl⟩
theorem fl_X10_35 : FL RX10 35 10 5 := ⟨by decide, RX10, TX10, rfl, b1 210 rfl rfl⟩
theorem fl_X10_39 : FL RX10 39 10 6 := ⟨by decide, RX10, TX10, rfl, b1 211 rfl rfl⟩
theorem fl_X10_45 : FL RX10 45 10 7 := ⟨by decide, RX10, TX10, rfl, b1 212 rfl rfl⟩
theorem fl_X10_52 : FL RX10 52 10 8 := ⟨by decide, RX10, TX10, rfl, b1 213 rfl rfl⟩
theorem fl_X10_56 : FL RX10 56 10 9 := ⟨by decide, RX10, TX10, rfl, b1 214 rfl rfl⟩
theorem fl_X10_62 : FL RX10 62 10 10 := ⟨by decide, RX10, TX10, rfl, b1 215 rfl rfl⟩
theorem fl_X8_15 : FL RX8 15 8 0 := ⟨by decide, RX8, TX8, rfl, b3 41 rfl rfl⟩
theorem fl_X8_20 : FL RX8 20 8 1 := ⟨by decide, RX8, TX8, rfl, b3 42 rfl rfl⟩
theorem fl_X8_23 : FL RX8 23 8 2 := ⟨by decide, RX8, TX8, rfl, b3 43 rfl rfl⟩
theorem fl_X8_29 : FL RX8 29 8 3 := ⟨by decide, RX8, TX8, rfl, b3 44 rfl rfl⟩
theorem fl_X8_32 : FL RX8 32 8 4 := ⟨by decide, RX8, TX8, rfl, b3 45 rfl rfl⟩
theorem fl_X8_35 : FL RX8 35 8 5 := ⟨by decide, RX8, TX8, rfl, b3 46 rfl rfl⟩
theorem fl_X8_38 : FL RX8 38 8 6 := ⟨by decide, RX8, TX8, rfl, b3 47 rfl rfl⟩
theorem fl_X3_41 : FL RX3 41 8 6 := ⟨by decide, RX8, TX8, rfl, b3 48 rfl rfl⟩
theorem fl_X10_186 : FL RX10 186 8 6 := ⟨by decide, RX8, TX8, rfl, b3 49 rfl rfl⟩
theorem fl_X8_41 : FL RX8 41 8 7 := ⟨by decide, RX8, TX8, rfl, b3 50 rfl rfl⟩
theorem fl_X8_47 : FL RX8 47 8 8 := ⟨by decide, RX8, TX8, rfl, b3 51 rfl rfl⟩
theorem fl_X8_51 : FL RX8 51 8 9 := ⟨by decide, RX8, TX8, rfl, b3 52 rfl rfl⟩
theorem fl_X7_165 : FL RX7 165 8 9 := ⟨by decide, RX8, TX8, rfl, b3 53 rfl rfl⟩
theorem fl_X7_9 : FL RX7 9 7 0 := ⟨by decide, RX7, TX7, rfl, b3 76 rfl rfl⟩
theorem fl_X3_25 : FL RX3 25 7 0 := ⟨by decide, RX7, TX7, rfl, b3 77 rfl rfl⟩
theorem fl_X10_91 : FL RX10 91 7 0 := ⟨by decide, RX7, TX7, rfl, b3 78 rfl rfl⟩
theorem fl_X5_15 : FL RX5 15 7 1 := ⟨by decide, RX7, TX7, rfl, b3 79 rfl rfl⟩
theorem fl_X7_21 : FL RX7 21 7 1 := ⟨by decide, RX7, TX7, rfl, b3 80 rfl rfl⟩
theorem fl_X10_106 : FL RX10 106 7 1 := ⟨by decide, RX7, TX7, rfl, b3 81 rfl rfl⟩
theorem fl_X7_27 : FL RX7 27 7 2 := ⟨by decide, RX7, TX7, rfl, b3 82 rfl rfl⟩
theorem fl_X5_31 : FL RX5 31 7 2 := ⟨by decide, RX7, TX7, rfl, b3 83 rfl rfl⟩
theorem fl_X10_161 : FL RX10 161 7 2 := ⟨by decide, RX7, TX7, rfl, b3 84 rfl rfl⟩
theorem fl_X7_30 : FL RX7 30 7 3 := ⟨by decide, RX7, TX7, rfl, b3 85 rfl rfl⟩
theorem fl_X5_50 : FL RX5 50 7 3 := ⟨by decide, RX7, TX7, rfl, b3 86 rfl rfl⟩
theorem fl_X10_151 : FL RX10 151 7 3 := ⟨by decide, RX7, TX7, rfl, b3 87 rfl rfl⟩
theorem fl_X7_34 : FL RX7 34 7 4 := ⟨by decide, RX7, TX7, rfl, b3 88 rfl rfl⟩
theorem fl_X5_47 : FL RX5 47 7 4 := ⟨by decide, RX7, TX7, rfl, b3 89 rfl rfl⟩
theorem fl_X10_155 : FL RX10 155 7 4 := ⟨by decide, RX7, TX7, rfl, b3 90 rfl rfl⟩
theorem fl_X7_37 : FL RX7 37 7 5 := ⟨by decide, RX7, TX7, rfl, b3 91 rfl rfl⟩
theorem fl_X10_158 : FL RX10 158 7 5 := ⟨by decide, RX7, TX7, rfl, b3 92 rfl rfl⟩
theorem fl_X7_40 : FL RX7 40 7 6 := ⟨by decide, RX7, TX7, rfl, b3 93 rfl rfl⟩
theorem fl_X10_165 : FL RX10 165 7 6 := ⟨by decide, RX7, TX7, rfl, b3 94 rfl rfl⟩
theorem fl_X7_112 : FL RX7 112 7 7 := ⟨by decide, RX7, TX7, rfl, b3 95 rfl rfl⟩
theorem fl_X10_125 : FL RX10 125 7 7 := ⟨by decide, RX7, TX7, rfl, b3 96 rfl rfl⟩
theorem fl_X7_52 : FL RX7 52 7 8 := ⟨by decide, RX7, TX7, rfl, b3 97 rfl rfl⟩
theorem fl_X10_168 : FL RX10 168 7 8 := ⟨by decide, RX7, TX7, rfl, b3 98 rfl rfl⟩
theorem fl_X7_55 : FL RX7 55 7 9 := ⟨by decide, RX7, TX7, rfl, b3 99 rfl rfl⟩
theorem fl_X10_171 : FL RX10 171 7 9 := ⟨by decide, RX7, TX7, rfl, b3 100 rfl rfl⟩
theorem fl_X7_125 : FL RX7 125 7 10 := ⟨by decide, RX7, TX7, rfl, b3 101 rfl rfl⟩
theorem fl_X10_128 : FL RX10 128 7 10 := ⟨by decide, RX7, TX7, rfl, b3 102 rfl rfl⟩
theorem fl_X7_58 : FL RX7 58 7 11 := ⟨by decide, RX7, TX7, rfl, b3 103 rfl rfl⟩
theorem fl_X10_178 : FL RX10 178 7 11 := ⟨by decide, RX7, TX7, rfl, b3 104 rfl rfl⟩
theorem fl_X10_131 : FL RX10 131 7 12 := ⟨by decide, RX7, TX7, rfl, b3 105 rfl rfl⟩
theorem fl_X7_144 : FL RX7 144 7 12 := ⟨by decide, RX7, TX7, rfl, b3 106 rfl rfl⟩
theorem fl_X7_67 : FL RX7 67 7 13 := ⟨by decide, RX7, TX7, rfl, b3 107 rfl rfl⟩
theorem fl_X3_37 : FL RX3 37 7 13 := ⟨by decide, RX7, TX7, rfl, b3 108 rfl rfl⟩
theorem fl_X10_182 : FL RX10 182 7 13 := ⟨by decide, RX7, TX7, rfl, b3 109 rfl rfl⟩
theorem fl_X7_71 : FL RX7 71 7 14 := ⟨by decide, RX7, TX7, rfl, b3 110 rfl rfl⟩
theorem fl_X10_191 : FL RX10 191 7 14 := ⟨by decide, RX7, TX7, rfl, b3 111 rfl rfl⟩
theorem fl_X10_134 : FL RX10 134 7 15 := ⟨by decide, RX7, TX7, rfl, b3 112 rfl rfl⟩
theorem fl_X7_158 : FL RX7 158 7 15 := ⟨by decide, RX7, TX7, rfl, b3 113 rfl rfl⟩
theorem fl_X10_137 : FL RX10 137 7 16 := ⟨by decide, RX7, TX7, rfl, b3 114 rfl rfl⟩
theorem fl_X7_155 : FL RX7 155 7 16 := ⟨by decide, RX7, TX7, rfl, b3 115 rfl rfl⟩
theorem fl_X5_9 : FL RX5 9 5 0 := ⟨by decide, RX5, TX5, rfl, b4 63 rfl rfl⟩
theorem fl_X10_221 : FL RX10 221 5 0 := ⟨by decide, RX5, TX5, rfl, b4 64 rfl rfl⟩
theorem fl_X5_21 : FL RX5 21 5 1 := ⟨by decide, RX5, TX5, rfl, b4 65 rfl rfl⟩
theorem fl_X10_225 : FL RX10 225 5 1 := ⟨by decide, RX5, TX5, rfl, b4 66 rfl rfl⟩
theorem fl_X11_96 : FL RX11 96 11 0 := ⟨by decide, RX11, TX11, rfl, b5 19 rfl rfl⟩
theorem fl_X11_9 : FL RX11 9 11 1 := ⟨by decide, RX11, TX11, rfl, b5 20 rfl rfl⟩
theorem fl_X11_13 : FL RX11 13 11 2 := ⟨by decide, RX11, TX11, rfl, b5 21 rfl rfl⟩
theorem fl_X11_102 : FL RX11 102 11 3 := ⟨by decide, RX11, TX11, rfl, b5 22 rfl rfl⟩
theorem fl_X11_287 : FL RX11 287 11 4 := ⟨by decide, RX11, TX11, rfl, b5 23 rfl rfl⟩
theorem fl_X11_16 : FL RX11 16 11 5 := ⟨by decide, RX11, TX11, rfl, b5 24 rfl rfl⟩
theorem fl_X11_99 : FL RX11 99 11 6 := ⟨by decide, RX11, TX11, rfl, b5 25 rfl rfl⟩
theorem fl_X11_234 : FL RX11 234 11 7 := ⟨by decide, RX11, TX11, rfl, b5 26 rfl rfl⟩
theorem fl_X11_20 : FL RX11 20 11 8 := ⟨by decide, RX11, TX11, rfl, b5 27 rfl rfl⟩
theorem fl_X11_23 : FL RX11 23 11 9 := ⟨by decide, RX11, TX11, rfl, b5 28 rfl rfl⟩
theorem fl_X11_26 : FL RX11 26 11 10 := ⟨by decide, RX11, TX11, rfl, b5 29 rfl rfl⟩
theorem fl_X11_29 : FL RX11 29 11 11 := ⟨by decide, RX11, TX11, rfl, b5 30 rfl rfl⟩
theorem fl_X11_32 : FL RX11 32 11 12 := ⟨by decide, RX11, TX11, rfl, b5 31 rfl rfl⟩
theorem fl_X11_35 : FL RX11 35 11 13 := ⟨by decide, RX11, TX11, rfl, b5 32 rfl rfl⟩
theorem fl_X11_38 : FL RX11 38 11 14 := ⟨by decide, RX11, TX11, rfl, b5 33 rfl rfl⟩
theorem fl_X11_41 : FL RX11 41 11 15 := ⟨by decide, RX11, TX11, rfl, b5 34 rfl rfl⟩
theorem fl_X11_44 : FL RX11 44 11 16 := ⟨by decide, RX11, TX11, rfl, b5 35 rfl rfl⟩
theorem fl_X11_47 : FL RX11 47 11 17 := ⟨by decide, RX11, TX11, rfl, b5 36 rfl rfl⟩
theorem fl_X11_50 : FL RX11 50 11 18 := ⟨by decide, RX11, TX11, rfl, b5 37 rfl rfl⟩
theorem fl_X11_53 : FL RX11 53 11 19 := ⟨by decide, RX11, TX11, rfl, b5 38 rfl rfl⟩
theorem fl_X11_56 : FL RX11 56 11 20 := ⟨by decide, RX11, TX11, rfl, b5 39 rfl rfl⟩
theorem fl_X11_59 : FL RX11 59 11 21 := ⟨by decide, RX11, TX11, rfl, b5 40 rfl rfl⟩
theorem fl_X11_224 : FL RX11 224 11 22 := ⟨by decide, RX11, TX11, rfl, b5 41 rfl rfl⟩
theorem fl_X11_62 : FL RX11 62 11 23 := ⟨by decide, RX11, TX11, rfl, b5 42 rfl rfl⟩
theorem fl_X11_66 : FL RX11 66 11 24 := ⟨by decide, RX11, TX11, rfl, b5 43 rfl rfl⟩
theorem fl_X11_69 : FL RX11 69 11 25 := ⟨by decide, RX11, TX11, rfl, b5 44 rfl rfl⟩
theorem fl_X11_72 : FL RX11 72 11 26 := ⟨by decide, RX11, TX11, rfl, b5 45 rfl rfl⟩
theorem fl_X11_75 : FL RX11 75 11 27 := ⟨by decide, RX11, TX11, rfl, b5 46 rfl rfl⟩
theorem fl_X11_78 : FL RX11 78 11 28 := ⟨by decide, RX11, TX11, rfl, b5 47 rfl rfl⟩
theorem fl_X11_108 : FL RX11 108 11 29 := ⟨by decide, RX11, TX11, rfl, b5 48 rfl rfl⟩
theorem fl_X11_105 : FL RX11 105 11 30 := ⟨by decide, RX11, TX11, rfl, b5 49 rfl rfl⟩
theorem fl_X11_121 : FL RX11 121 11 31 := ⟨by decide, RX11, TX11, rfl, b5 50 rfl rfl⟩
theorem fl_X11_118 : FL RX11 118 11 32 := ⟨by decide, RX11, TX11, rfl, b5 51 rfl rfl⟩
theorem fl_X11_115 : FL RX11 115 11 33 := ⟨by decide, RX11, TX11, rfl, b5 52 rfl rfl⟩
theorem fl_X11_128 : FL RX11 128 11 34 := ⟨by decide, RX11, TX11, rfl, b5 53 rfl rfl⟩
theorem fl_X11_131 : FL RX11 131 11 35 := ⟨by decide, RX11, TX11, rfl, b5 54 rfl rfl⟩
theorem fl_X11_134 : FL RX11 134 11 36 := ⟨by decide, RX11, TX11, rfl, b5 55 rfl rfl⟩
theorem fl_X11_81 : FL RX11 81 11 37 := ⟨by decide, RX11, TX11, rfl, b5 56 rfl rfl⟩
theorem fl_X11_84 : FL RX11 84 11 38 := ⟨by decide, RX11, TX11, rfl, b5 57 rfl rfl⟩
theorem fl_X11_87 : FL RX11 87 11 39 := ⟨by decide, RX11, TX11, rfl, b5 58 rfl rfl⟩
theorem fl_X11_90 : FL RX11 90 11 40 := ⟨by decide, RX11, TX11, rfl, b5 59 rfl rfl⟩
theorem fl_X11_93 : FL RX11 93 11 41 := ⟨by decide, RX11, TX11, rfl, b5 60 rfl rfl⟩
theorem fl_X11_266 : FL RX11 266 11 42 := ⟨by decide, RX11, TX11, rfl, b5 61 rfl rfl⟩
