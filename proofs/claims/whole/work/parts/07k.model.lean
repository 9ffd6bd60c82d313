set_option maxRecDepth 100000 in
set_option maxHeartbeats 4000000 in
theorem c_M_init (l : Launch) (z : ZK) (G : GW) (iv : IV) (jv : JV) (w0 : 0 ∈ G.L ∧ G.kd 0 = 11) (hfr : ∀ x, 1 ≤ x → x < 43 → x ∉ G.L) (hkd : ∀ i, i < 111 → G.kd i = kd0 i) (hz : ∀ j, iv 0 j = 0) : cV l z yX11_init cX11_init 1 none 1 20 27 40000 [.ref (G.ad 0)] G iv jv (fun G' iv' jv' => EX G G' 0 43 ∧ isM G' ∧ MSt iv' a00 ∧ Fr iv iv' (fun lb _ => 0 ≤ lb ∧ lb < 43) ∧ FrJ jv jv' (fun lb _ => 0 ≤ lb ∧ lb < 43)) := by
  intro sz
  refine rg_entry rfl (Nat.le_of_ble_eq_true rfl) ?_
  intro pq eq sq mq bq methq cq ls hE hr hlk hml hnm hl hsz hH
  have hl : lv_has ls 1 [(0, .ref (G.ad 0))] := hl
  have z3 : iv 0 3 = nI 0 := hz 3
  have z4 : iv 0 4 = nI 0 := hz 4
  have z6 : iv 0 6 = nI 0 := hz 6
  have z7 : iv 0 7 = nI 0 := hz 7
  have hEX : EX G G 0 43 := EX.rf
  have hFr : Fr iv iv (fun lb _ => 0 ≤ lb ∧ lb < 43) := Fr.rf
  have hFj : FrJ jv jv (fun lb _ => 0 ≤ lb ∧ lb < 43) := FrJ.rf
  refine lv_aload_n hE.1 hE.2.1 dX11_init_0 rfl (lv_at hl 0 rfl) ?_
  refine rg_obj (rest := []) hE ⟨(b5 18 rfl rfl), (b1 30 rfl rfl), (b1 31 rfl rfl)⟩ hml hl.1 rfl dX11_init_1 (Nat.le_of_ble_eq_true rfl) (Nat.le_of_ble_eq_true rfl) ?_
  refine lv_aload_n hE.1 hE.2.1 dX11_init_4 rfl (lv_at hl 0 rfl) ?_
  refine lv_sipush (v := nI 1000) hE.1 hE.2.1 dX11_init_5 (by decide) ?_
  refine rg_newI (ty := .int) rfl hE hH (1) (hfr (1) (by omega) (by omega)) (hkd 1 (by decide)) (Or.inr (Or.inl ⟨rfl, rfl⟩)) (by omega) (by show 0 + 1 ≤ 27; omega) (by show 0 + 1000 ≤ 40000; omega) dX11_init_8 (fun G8_1 H hX8_1 hln8_1 hrv8_1 hH => ?_)
  have hS8_1 := hX8_1.ex1 (hfr (1) (by omega) (by omega))
  have w1 : isA G8_1 (1) 13 1000 := ⟨hX8_1.new (List.mem_singleton_self _), hX8_1.kd (hkd 1 (by decide)), hln8_1⟩
  have hl : lv_has ls 1 [(0, .ref (G8_1.ad 0))] := by rw [hS8_1.adm (w0.1)]; exact hl
  refine rg_st (st' := [.ref (G8_1.ad 1), .ref (G8_1.ad 0)]) (by rw [hS8_1.adm (w0.1)]) ?_
  have w0 := And.intro (hS8_1.mem w0.1) (hS8_1.kd w0.2)
  have hfr : ∀ x, 2 ≤ x → x < 43 → x ∉ G8_1.L := fun x h1 h2 => hS8_1.nin (hfr x (Nat.le_trans (by decide) h1) h2) (Or.inr (Nat.le_trans (by decide) h1))
  have hkd : ∀ i, i < 111 → G8_1.kd i = kd0 i := by rw [EX_kd hS8_1]; exact hkd
  have hEX := hEX.tr (hS8_1.mono (c := 0) (d := 43) (by decide) (by decide))
  have hU8_1 : Fr iv (clr iv (1) 0) (fun b0 _ => b0 = 1) := Fr.clr Fr.rf (fun _ => rfl)
  have hJ8_1 : FrJ jv (clr jv (1) 0) (fun b0 _ => b0 = 1) := FrJ.clr FrJ.rf (fun _ => rfl)
  have z3 := (hU8_1 _ _ (by decide)).trans z3
  have z4 := (hU8_1 _ _ (by decide)).trans z4
  have z6 := (hU8_1 _ _ (by decide)).trans z6
  have z7 := (hU8_1 _ _ (by decide)).trans z7
  have hFr := hFr.tr (hU8_1.mono (P' := fun lb _ => 0 ≤ lb ∧ lb < 43) (fun lb j h => by rw [h]; exact ⟨by decide, by decide⟩))
  have hFj := hFj.tr (hJ8_1.mono (P' := fun lb _ => 0 ≤ lb ∧ lb < 43) (fun lb j h => by rw [h]; exact ⟨by decide, by decide⟩))
  generalize clr iv (1) 0 = iv8_1 at hH hFr hU8_1 z3 z4 z6 z7
  generalize clr jv (1) 0 = jv8_1 at hH hFj hJ8_1 
  refine rg_putrF hE hH cf_X11 fl_X11_9 rfl fn_X11_1 fo_X11_1 hnm (w0.1) (w0.2) (v := 1) (w1.1) dX11_init_10 (fun H locs hH => ?_)
  have hX10_2 := GX.set (G := G8_1) (lb := 0) (k := 1) (v := some (1))
  have hS10_2 := EX.set (G := G8_1) (lb := 0) (k := 1) (v := some (1))
  have q0_1 := setR_s (G := G8_1) (lb := 0) (k := 1) (v := some (1))
  generalize (G8_1.setR (up2 G8_1.rv 0 1 (some 1))) = G10_2 at hH hX10_2 hS10_2 q0_1
  have hl : lv_has ls 1 [(0, .ref (G10_2.ad 0))] := by rw [hS10_2.adm (w0.1)]; exact hl
  have w0 := And.intro (hS10_2.mem w0.1) (hS10_2.kd w0.2)
  have hfr : ∀ x, 2 ≤ x → x < 43 → x ∉ G10_2.L := fun x h1 h2 => hS10_2.nin (hfr x (Nat.le_trans (by decide) h1) h2) (Or.inr (Nat.le_trans (by decide) h1))
  have hkd : ∀ i, i < 111 → G10_2.kd i = kd0 i := by rw [EX_kd hS10_2]; exact hkd
  have w1 := w1.em hS10_2
  have hEX := hEX.tr (hS10_2.mono (c := 0) (d := 43) (by decide) (by decide))
  refine lv_aload_n hE.1 hE.2.1 dX11_init_13 rfl (lv_at hl 0 rfl) ?_
  refine lv_sipush (v := nI 2000) hE.1 hE.2.1 dX11_init_14 (by decide) ?_
  refine rg_newI (ty := .int) rfl hE hH (2) (hfr (2) (by omega) (by omega)) (hkd 2 (by decide)) (Or.inr (Or.inl ⟨rfl, rfl⟩)) (by omega) (by show 0 + 1 + 1 ≤ 27; omega) (by show 0 + 1000 + 2000 ≤ 40000; omega) dX11_init_17 (fun G17_3 H hX17_3 hln17_3 hrv17_3 hH => ?_)
  have hS17_3 := hX17_3.ex1 (hfr (2) (by omega) (by omega))
  have w2 : isA G17_3 (2) 13 2000 := ⟨hX17_3.new (List.mem_singleton_self _), hX17_3.kd (hkd 2 (by decide)), hln17_3⟩
  have hl : lv_has ls 1 [(0, .ref (G17_3.ad 0))] := by rw [hS17_3.adm (w0.1)]; exact hl
  refine rg_st (st' := [.ref (G17_3.ad 2), .ref (G17_3.ad 0)]) (by rw [hS17_3.adm (w0.1)]) ?_
  have w0 := And.intro (hS17_3.mem w0.1) (hS17_3.kd w0.2)
  have hfr : ∀ x, 3 ≤ x → x < 43 → x ∉ G17_3.L := fun x h1 h2 => hS17_3.nin (hfr x (Nat.le_trans (by decide) h1) h2) (Or.inr (Nat.le_trans (by decide) h1))
  have hkd : ∀ i, i < 111 → G17_3.kd i = kd0 i := by rw [EX_kd hS17_3]; exact hkd
  have w1 := w1.em hS17_3
  have q0_1 := hS17_3.rv (Or.inl (by decide)) q0_1
  have hEX := hEX.tr (hS17_3.mono (c := 0) (d := 43) (by decide) (by decide))
  have hU17_3 : Fr iv8_1 (clr iv8_1 (2) 0) (fun b0 _ => b0 = 2) := Fr.clr Fr.rf (fun _ => rfl)
  have hJ17_3 : FrJ jv8_1 (clr jv8_1 (2) 0) (fun b0 _ => b0 = 2) := FrJ.clr FrJ.rf (fun _ => rfl)
  have z3 := (hU17_3 _ _ (by decide)).trans z3
  have z4 := (hU17_3 _ _ (by decide)).trans z4
  have z6 := (hU17_3 _ _ (by decide)).trans z6
  have z7 := (hU17_3 _ _ (by decide)).trans z7
  have hFr := hFr.tr (hU17_3.mono (P' := fun lb _ => 0 ≤ lb ∧ lb < 43) (fun lb j h => by rw [h]; exact ⟨by decide, by decide⟩))
  have hFj := hFj.tr (hJ17_3.mono (P' := fun lb _ => 0 ≤ lb ∧ lb < 43) (fun lb j h => by rw [h]; exact ⟨by decide, by decide⟩))
  generalize clr iv8_1 (2) 0 = iv17_3 at hH hFr hU17_3 z3 z4 z6 z7
  generalize clr jv8_1 (2) 0 = jv17_3 at hH hFj hJ17_3 
  refine rg_putrF hE hH cf_X11 fl_X11_13 rfl fn_X11_2 fo_X11_2 hnm (w0.1) (w0.2) (v := 2) (w2.1) dX11_init_19 (fun H locs hH => ?_)
  have hX19_4 := GX.set (G := G17_3) (lb := 0) (k := 2) (v := some (2))
  have hS19_4 := EX.set (G := G17_3) (lb := 0) (k := 2) (v := some (2))
  have q0_2 := setR_s (G := G17_3) (lb := 0) (k := 2) (v := some (2))
  generalize (G17_3.setR (up2 G17_3.rv 0 2 (some 2))) = G19_4 at hH hX19_4 hS19_4 q0_2
  have hl : lv_has ls 1 [(0, .ref (G19_4.ad 0))] := by rw [hS19_4.adm (w0.1)]; exact hl
  have w0 := And.intro (hS19_4.mem w0.1) (hS19_4.kd w0.2)
  have hfr : ∀ x, 3 ≤ x → x < 43 → x ∉ G19_4.L := fun x h1 h2 => hS19_4.nin (hfr x (Nat.le_trans (by decide) h1) h2) (Or.inr (Nat.le_trans (by decide) h1))
  have hkd : ∀ i, i < 111 → G19_4.kd i = kd0 i := by rw [EX_kd hS19_4]; exact hkd
  have w1 := w1.em hS19_4
  have q0_1 := hX19_4.rv List.not_mem_nil (fun h => absurd h.2 (by decide)) q0_1
  have w2 := w2.em hS19_4
  have hEX := hEX.tr (hS19_4.mono (c := 0) (d := 43) (by decide) (by decide))
  refine lv_aload_n hE.1 hE.2.1 dX11_init_22 rfl (lv_at hl 0 rfl) ?_
  refine lv_iconst (v := -1) hE.1 hE.2.1 dX11_init_23 (by decide) ?_
  refine rg_puti hE hH cf_X11 fl_X11_16 rfl fn_X11_5 (w0.1) (w0.2) (v := -1) dX11_init_24 (fun H locs hH => ?_)
  have hU24_5 : Fr iv17_3 (up2 iv17_3 0 5 (-1)) (fun b0 j => b0 = 0 ∧ j = 5) := Fr.up Fr.rf ⟨rfl, rfl⟩
  have hJ24_5 : FrJ jv17_3 jv17_3 (fun b0 j => b0 = 0 ∧ j = 5) := FrJ.rf
  have z3 := (hU24_5 _ _ (fun h => absurd h.2 (by decide))).trans z3
  have z4 := (hU24_5 _ _ (fun h => absurd h.2 (by decide))).trans z4
  have z6 := (hU24_5 _ _ (fun h => absurd h.2 (by decide))).trans z6
  have z7 := (hU24_5 _ _ (fun h => absurd h.2 (by decide))).trans z7
  have hFr := hFr.tr (hU24_5.mono (P' := fun lb _ => 0 ≤ lb ∧ lb < 43) (fun lb j h => by rw [h.1]; exact ⟨by decide, by decide⟩))
  have hFj := hFj.tr (hJ24_5.mono (P' := fun lb _ => 0 ≤ lb ∧ lb < 43) (fun lb j h => by rw [h.1]; exact ⟨by decide, by decide⟩))
  have i0_5 : (up2 iv17_3 0 5 (-1)) (0) 5 = -1 := up2_s
  generalize up2 iv17_3 0 5 (-1) = iv24_5 at hH hFr hU24_5 z3 z4 z6 z7 i0_5
  refine lv_aload_n hE.1 hE.2.1 dX11_init_27 rfl (lv_at hl 0 rfl) ?_
  refine lv_bipush (v := nI 6) hE.1 hE.2.1 dX11_init_28 (by decide) ?_
  refine rg_newI (ty := .int) rfl hE hH (8) (hfr (8) (by omega) (by omega)) (hkd 8 (by decide)) (Or.inr (Or.inl ⟨rfl, rfl⟩)) (by omega) (by show 0 + 1 + 1 + 1 ≤ 27; omega) (by show 0 + 1000 + 2000 + 6 ≤ 40000; omega) dX11_init_30 (fun G30_6 H hX30_6 hln30_6 hrv30_6 hH => ?_)
  have hS30_6 := hX30_6.ex1 (hfr (8) (by omega) (by omega))
  have w8 : isA G30_6 (8) 13 6 := ⟨hX30_6.new (List.mem_singleton_self _), hX30_6.kd (hkd 8 (by decide)), hln30_6⟩
  have hl : lv_has ls 1 [(0, .ref (G30_6.ad 0))] := by rw [hS30_6.adm (w0.1)]; exact hl
  refine rg_st (st' := [.ref (G30_6.ad 8), .ref (G30_6.ad 0)]) (by rw [hS30_6.adm (w0.1)]) ?_
  have w0 := And.intro (hS30_6.mem w0.1) (hS30_6.kd w0.2)
  have hfr : ∀ x, 9 ≤ x → x < 43 → x ∉ G30_6.L := fun x h1 h2 => hS30_6.nin (hfr x (Nat.le_trans (by decide) h1) h2) (Or.inr (Nat.le_trans (by decide) h1))
  have hkd : ∀ i, i < 111 → G30_6.kd i = kd0 i := by rw [EX_kd hS30_6]; exact hkd
  have w1 := w1.em hS30_6
  have q0_1 := hS30_6.rv (Or.inl (by decide)) q0_1
  have w2 := w2.em hS30_6
  have q0_2 := hS30_6.rv (Or.inl (by decide)) q0_2
  have hEX := hEX.tr (hS30_6.mono (c := 0) (d := 43) (by decide) (by decide))
  have hU30_6 : Fr iv24_5 (clr iv24_5 (8) 0) (fun b0 _ => b0 = 8) := Fr.clr Fr.rf (fun _ => rfl)
  have hJ30_6 : FrJ jv17_3 (clr jv17_3 (8) 0) (fun b0 _ => b0 = 8) := FrJ.clr FrJ.rf (fun _ => rfl)
  have z3 := (hU30_6 _ _ (by decide)).trans z3
  have z4 := (hU30_6 _ _ (by decide)).trans z4
  have z6 := (hU30_6 _ _ (by decide)).trans z6
  have z7 := (hU30_6 _ _ (by decide)).trans z7
  have i0_5 := (hU30_6 _ _ (by decide)).trans i0_5
  have hFr := hFr.tr (hU30_6.mono (P' := fun lb _ => 0 ≤ lb ∧ lb < 43) (fun lb j h => by rw [h]; exact ⟨by decide, by decide⟩))
  have hFj := hFj.tr (hJ30_6.mono (P' := fun lb _ => 0 ≤ lb ∧ lb < 43) (fun lb j h => by rw [h]; exact ⟨by decide, by decide⟩))
  generalize clr iv24_5 (8) 0 = iv30_6 at hH hFr hU30_6 z3 z4 z6 z7 i0_5
  generalize clr jv17_3 (8) 0 = jv30_6 at hH hFj hJ30_6 
  refine rg_putrF hE hH cf_X11 fl_X11_20 rfl fn_X11_8 fo_X11_8 hnm (w0.1) (w0.2) (v := 8) (w8.1) dX11_init_32 (fun H locs hH => ?_)
  have hX32_7 := GX.set (G := G30_6) (lb := 0) (k := 8) (v := some (8))
  have hS32_7 := EX.set (G := G30_6) (lb := 0) (k := 8) (v := some (8))
  have q0_8 := setR_s (G := G30_6) (lb := 0) (k := 8) (v := some (8))
  generalize (G30_6.setR (up2 G30_6.rv 0 8 (some 8))) = G32_7 at hH hX32_7 hS32_7 q0_8
  have hl : lv_has ls 1 [(0, .ref (G32_7.ad 0))] := by rw [hS32_7.adm (w0.1)]; exact hl
  have w0 := And.intro (hS32_7.mem w0.1) (hS32_7.kd w0.2)
  have hfr : ∀ x, 9 ≤ x → x < 43 → x ∉ G32_7.L := fun x h1 h2 => hS32_7.nin (hfr x (Nat.le_trans (by decide) h1) h2) (Or.inr (Nat.le_trans (by decide) h1))
  have hkd : ∀ i, i < 111 → G32_7.kd i = kd0 i := by rw [EX_kd hS32_7]; exact hkd
  have w1 := w1.em hS32_7
  have q0_1 := hX32_7.rv List.not_mem_nil (fun h => absurd h.2 (by decide)) q0_1
  have w2 := w2.em hS32_7
  have q0_2 := hX32_7.rv List.not_mem_nil (fun h => absurd h.2 (by decide)) q0_2
  have w8 := w8.em hS32_7
  have hEX := hEX.tr (hS32_7.mono (c := 0) (d := 43) (by decide) (by decide))
  refine lv_aload_n hE.1 hE.2.1 dX11_init_35 rfl (lv_at hl 0 rfl) ?_
  refine lv_bipush (v := nI 6) hE.1 hE.2.1 dX11_init_36 (by decide) ?_
  refine rg_newI (ty := .int) rfl hE hH (9) (hfr (9) (by omega) (by omega)) (hkd 9 (by decide)) (Or.inr (Or.inl ⟨rfl, rfl⟩)) (by omega) (by show 0 + 1 + 1 + 1 + 1 ≤ 27; omega) (by show 0 + 1000 + 2000 + 6 + 6 ≤ 40000; omega) dX11_init_38 (fun G38_8 H hX38_8 hln38_8 hrv38_8 hH => ?_)
  have hS38_8 := hX38_8.ex1 (hfr (9) (by omega) (by omega))
  have w9 : isA G38_8 (9) 13 6 := ⟨hX38_8.new (List.mem_singleton_self _), hX38_8.kd (hkd 9 (by decide)), hln38_8⟩
  have hl : lv_has ls 1 [(0, .ref (G38_8.ad 0))] := by rw [hS38_8.adm (w0.1)]; exact hl
  refine rg_st (st' := [.ref (G38_8.ad 9), .ref (G38_8.ad 0)]) (by rw [hS38_8.adm (w0.1)]) ?_
  have w0 := And.intro (hS38_8.mem w0.1) (hS38_8.kd w0.2)
  have hfr : ∀ x, 10 ≤ x → x < 43 → x ∉ G38_8.L := fun x h1 h2 => hS38_8.nin (hfr x (Nat.le_trans (by decide) h1) h2) (Or.inr (Nat.le_trans (by decide) h1))
  have hkd : ∀ i, i < 111 → G38_8.kd i = kd0 i := by rw [EX_kd hS38_8]; exact hkd
  have w1 := w1.em hS38_8
  have q0_1 := hS38_8.rv (Or.inl (by decide)) q0_1
  have w2 := w2.em hS38_8
  have q0_2 := hS38_8.rv (Or.inl (by decide)) q0_2
  have w8 := w8.em hS38_8
  have q0_8 := hS38_8.rv (Or.inl (by decide)) q0_8
  have hEX := hEX.tr (hS38_8.mono (c := 0) (d := 43) (by decide) (by decide))
  have hU38_8 : Fr iv30_6 (clr iv30_6 (9) 0) (fun b0 _ => b0 = 9) := Fr.clr Fr.rf (fun _ => rfl)
  have hJ38_8 : FrJ jv30_6 (clr jv30_6 (9) 0) (fun b0 _ => b0 = 9) := FrJ.clr FrJ.rf (fun _ => rfl)
  have z3 := (hU38_8 _ _ (by decide)).trans z3
  have z4 := (hU38_8 _ _ (by decide)).trans z4
  have z6 := (hU38_8 _ _ (by decide)).trans z6
  have z7 := (hU38_8 _ _ (by decide)).trans z7
  have i0_5 := (hU38_8 _ _ (by decide)).trans i0_5
  have hFr := hFr.tr (hU38_8.mono (P' := fun lb _ => 0 ≤ lb ∧ lb < 43) (fun lb j h => by rw [h]; exact ⟨by decide, by decide⟩))
  have hFj := hFj.tr (hJ38_8.mono (P' := fun lb _ => 0 ≤ lb ∧ lb < 43) (fun lb j h => by rw [h]; exact ⟨by decide, by decide⟩))
  generalize clr iv30_6 (9) 0 = iv38_8 at hH hFr hU38_8 z3 z4 z6 z7 i0_5
  generalize clr jv30_6 (9) 0 = jv38_8 at hH hFj hJ38_8 
  refine rg_putrF hE hH cf_X11 fl_X11_23 rfl fn_X11_9 fo_X11_9 hnm (w0.1) (w0.2) (v := 9) (w9.1) dX11_init_40 (fun H locs hH => ?_)
  have hX40_9 := GX.set (G := G38_8) (lb := 0) (k := 9) (v := some (9))
  have hS40_9 := EX.set (G := G38_8) (lb := 0) (k := 9) (v := some (9))
  have q0_9 := setR_s (G := G38_8) (lb := 0) (k := 9) (v := some (9))
  generalize (G38_8.setR (up2 G38_8.rv 0 9 (some 9))) = G40_9 at hH hX40_9 hS40_9 q0_9
  have hl : lv_has ls 1 [(0, .ref (G40_9.ad 0))] := by rw [hS40_9.adm (w0.1)]; exact hl
  have w0 := And.intro (hS40_9.mem w0.1) (hS40_9.kd w0.2)
  have hfr : ∀ x, 10 ≤ x → x < 43 → x ∉ G40_9.L := fun x h1 h2 => hS40_9.nin (hfr x (Nat.le_trans (by decide) h1) h2) (Or.inr (Nat.le_trans (by decide) h1))
  have hkd : ∀ i, i < 111 → G40_9.kd i = kd0 i := by rw [EX_kd hS40_9]; exact hkd
  have w1 := w1.em hS40_9
  have q0_1 := hX40_9.rv List.not_mem_nil (fun h => absurd h.2 (by decide)) q0_1
  have w2 := w2.em hS40_9
  have q0_2 := hX40_9.rv List.not_mem_nil (fun h => absurd h.2 (by decide)) q0_2
  have w8 := w8.em hS40_9
  have q0_8 := hX40_9.rv List.not_mem_nil (fun h => absurd h.2 (by decide)) q0_8
  have w9 := w9.em hS40_9
  have hEX := hEX.tr (hS40_9.mono (c := 0) (d := 43) (by decide) (by decide))
  refine lv_aload_n hE.1 hE.2.1 dX11_init_43 rfl (lv_at hl 0 rfl) ?_
  refine lv_bipush (v := nI 36) hE.1 hE.2.1 dX11_init_44 (by decide) ?_
  refine rg_newI (ty := .int) rfl hE hH (10) (hfr (10) (by omega) (by omega)) (hkd 10 (by decide)) (Or.inr (Or.inl ⟨rfl, rfl⟩)) (by omega) (by show 0 + 1 + 1 + 1 + 1 + 1 ≤ 27; omega) (by show 0 + 1000 + 2000 + 6 + 6 + 36 ≤ 40000; omega) dX11_init_46 (fun G46_10 H hX46_10 hln46_10 hrv46_10 hH => ?_)
  have hS46_10 := hX46_10.ex1 (hfr (10) (by omega) (by omega))
  have w10 : isA G46_10 (10) 13 36 := ⟨hX46_10.new (List.mem_singleton_self _), hX46_10.kd (hkd 10 (by decide)), hln46_10⟩
  have hl : lv_has ls 1 [(0, .ref (G46_10.ad 0))] := by rw [hS46_10.adm (w0.1)]; exact hl
  refine rg_st (st' := [.ref (G46_10.ad 10), .ref (G46_10.ad 0)]) (by rw [hS46_10.adm (w0.1)]) ?_
  have w0 := And.intro (hS46_10.mem w0.1) (hS46_10.kd w0.2)
  have hfr : ∀ x, 11 ≤ x → x < 43 → x ∉ G46_10.L := fun x h1 h2 => hS46_10.nin (hfr x (Nat.le_trans (by decide) h1) h2) (Or.inr (Nat.le_trans (by decide) h1))
  have hkd : ∀ i, i < 111 → G46_10.kd i = kd0 i := by rw [EX_kd hS46_10]; exact hkd
  have w1 := w1.em hS46_10
  have q0_1 := hS46_10.rv (Or.inl (by decide)) q0_1
  have w2 := w2.em hS46_10
  have q0_2 := hS46_10.rv (Or.inl (by decide)) q0_2
  have w8 := w8.em hS46_10
  have q0_8 := hS46_10.rv (Or.inl (by decide)) q0_8
  have w9 := w9.em hS46_10
  have q0_9 := hS46_10.rv (Or.inl (by decide)) q0_9
  have hEX := hEX.tr (hS46_10.mono (c := 0) (d := 43) (by decide) (by decide))
  have hU46_10 : Fr iv38_8 (clr iv38_8 (10) 0) (fun b0 _ => b0 = 10) := Fr.clr Fr.rf (fun _ => rfl)
  have hJ46_10 : FrJ jv38_8 (clr jv38_8 (10) 0) (fun b0 _ => b0 = 10) := FrJ.clr FrJ.rf (fun _ => rfl)
  have z3 := (hU46_10 _ _ (by decide)).trans z3
  have z4 := (hU46_10 _ _ (by decide)).trans z4
  have z6 := (hU46_10 _ _ (by decide)).trans z6
  have z7 := (hU46_10 _ _ (by decide)).trans z7
  have i0_5 := (hU46_10 _ _ (by decide)).trans i0_5
  have hFr := hFr.tr (hU46_10.mono (P' := fun lb _ => 0 ≤ lb ∧ lb < 43) (fun lb j h => by rw [h]; exact ⟨by decide, by decide⟩))
  have hFj := hFj.tr (hJ46_10.mono (P' := fun lb _ => 0 ≤ lb ∧ lb < 43) (fun lb j h => by rw [h]; exact ⟨by decide, by decide⟩))
  generalize clr iv38_8 (10) 0 = iv46_10 at hH hFr hU46_10 z3 z4 z6 z7 i0_5
  generalize clr jv38_8 (10) 0 = jv46_10 at hH hFj hJ46_10 
  refine rg_putrF hE hH cf_X11 fl_X11_26 rfl fn_X11_10 fo_X11_10 hnm (w0.1) (w0.2) (v := 10) (w10.1) dX11_init_48 (fun H locs hH => ?_)
  have hX48_11 := GX.set (G := G46_10) (lb := 0) (k := 10) (v := some (10))
  have hS48_11 := EX.set (G := G46_10) (lb := 0) (k := 10) (v := some (10))
  have q0_10 := setR_s (G := G46_10) (lb := 0) (k := 10) (v := some (10))
  generalize (G46_10.setR (up2 G46_10.rv 0 10 (some 10))) = G48_11 at hH hX48_11 hS48_11 q0_10
  have hl : lv_has ls 1 [(0, .ref (G48_11.ad 0))] := by rw [hS48_11.adm (w0.1)]; exact hl
  have w0 := And.intro (hS48_11.mem w0.1) (hS48_11.kd w0.2)
  have hfr : ∀ x, 11 ≤ x → x < 43 → x ∉ G48_11.L := fun x h1 h2 => hS48_11.nin (hfr x (Nat.le_trans (by decide) h1) h2) (Or.inr (Nat.le_trans (by decide) h1))
  have hkd : ∀ i, i < 111 → G48_11.kd i = kd0 i := by rw [EX_kd hS48_11]; exact hkd
  have w1 := w1.em hS48_11
  have q0_1 := hX48_11.rv List.not_mem_nil (fun h => absurd h.2 (by decide)) q0_1
  have w2 := w2.em hS48_11
  have q0_2 := hX48_11.rv List.not_mem_nil (fun h => absurd h.2 (by decide)) q0_2
  have w8 := w8.em hS48_11
  have q0_8 := hX48_11.rv List.not_mem_nil (fun h => absurd h.2 (by decide)) q0_8
  have w9 := w9.em hS48_11
  have q0_9 := hX48_11.rv List.not_mem_nil (fun h => absurd h.2 (by decide)) q0_9
  have w10 := w10.em hS48_11
  have hEX := hEX.tr (hS48_11.mono (c := 0) (d := 43) (by decide) (by decide))
  refine lv_aload_n hE.1 hE.2.1 dX11_init_51 rfl (lv_at hl 0 rfl) ?_
  refine lv_sipush (v := nI 252) hE.1 hE.2.1 dX11_init_52 (by decide) ?_
  refine rg_newI (ty := .int) rfl hE hH (11) (hfr (11) (by omega) (by omega)) (hkd 11 (by decide)) (Or.inr (Or.inl ⟨rfl, rfl⟩)) (by omega) (by show 0 + 1 + 1 + 1 + 1 + 1 + 1 ≤ 27; omega) (by show 0 + 1000 + 2000 + 6 + 6 + 36 + 252 ≤ 40000; omega) dX11_init_55 (fun G55_12 H hX55_12 hln55_12 hrv55_12 hH => ?_)
  have hS55_12 := hX55_12.ex1 (hfr (11) (by omega) (by omega))
  have w11 : isA G55_12 (11) 13 252 := ⟨hX55_12.new (List.mem_singleton_self _), hX55_12.kd (hkd 11 (by decide)), hln55_12⟩
  have hl : lv_has ls 1 [(0, .ref (G55_12.ad 0))] := by rw [hS55_12.adm (w0.1)]; exact hl
  refine rg_st (st' := [.ref (G55_12.ad 11), .ref (G55_12.ad 0)]) (by rw [hS55_12.adm (w0.1)]) ?_
  have w0 := And.intro (hS55_12.mem w0.1) (hS55_12.kd w0.2)
  have hfr : ∀ x, 12 ≤ x → x < 43 → x ∉ G55_12.L := fun x h1 h2 => hS55_12.nin (hfr x (Nat.le_trans (by decide) h1) h2) (Or.inr (Nat.le_trans (by decide) h1))
  have hkd : ∀ i, i < 111 → G55_12.kd i = kd0 i := by rw [EX_kd hS55_12]; exact hkd
  have w1 := w1.em hS55_12
  have q0_1 := hS55_12.rv (Or.inl (by decide)) q0_1
  have w2 := w2.em hS55_12
  have q0_2 := hS55_12.rv (Or.inl (by decide)) q0_2
  have w8 := w8.em hS55_12
  have q0_8 := hS55_12.rv (Or.inl (by decide)) q0_8
  have w9 := w9.em hS55_12
  have q0_9 := hS55_12.rv (Or.inl (by decide)) q0_9
  have w10 := w10.em hS55_12
  have q0_10 := hS55_12.rv (Or.inl (by decide)) q0_10
  have hEX := hEX.tr (hS55_12.mono (c := 0) (d := 43) (by decide) (by decide))
  have hU55_12 : Fr iv46_10 (clr iv46_10 (11) 0) (fun b0 _ => b0 = 11) := Fr.clr Fr.rf (fun _ => rfl)
  have hJ55_12 : FrJ jv46_10 (clr jv46_10 (11) 0) (fun b0 _ => b0 = 11) := FrJ.clr FrJ.rf (fun _ => rfl)
  have z3 := (hU55_12 _ _ (by decide)).trans z3
  have z4 := (hU55_12 _ _ (by decide)).trans z4
  have z6 := (hU55_12 _ _ (by decide)).trans z6
  have z7 := (hU55_12 _ _ (by decide)).trans z7
  have i0_5 := (hU55_12 _ _ (by decide)).trans i0_5
  have hFr := hFr.tr (hU55_12.mono (P' := fun lb _ => 0 ≤ lb ∧ lb < 43) (fun lb j h => by rw [h]; exact ⟨by decide, by decide⟩))
  have hFj := hFj.tr (hJ55_12.mono (P' := fun lb _ => 0 ≤ lb ∧ lb < 43) (fun lb j h => by rw [h]; exact ⟨by decide, by decide⟩))
  generalize clr iv46_10 (11) 0 = iv55_12 at hH hFr hU55_12 z3 z4 z6 z7 i0_5
  generalize clr jv46_10 (11) 0 = jv55_12 at hH hFj hJ55_12 
  refine rg_putrF hE hH cf_X11 fl_X11_29 rfl fn_X11_11 fo_X11_11 hnm (w0.1) (w0.2) (v := 11) (w11.1) dX11_init_57 (fun H locs hH => ?_)
  have hX57_13 := GX.set (G := G55_12) (lb := 0) (k := 11) (v := some (11))
  have hS57_13 := EX.set (G := G55_12) (lb := 0) (k := 11) (v := some (11))
  have q0_11 := setR_s (G := G55_12) (lb := 0) (k := 11) (v := some (11))
  generalize (G55_12.setR (up2 G55_12.rv 0 11 (some 11))) = G57_13 at hH hX57_13 hS57_13 q0_11
  have hl : lv_has ls 1 [(0, .ref (G57_13.ad 0))] := by rw [hS57_13.adm (w0.1)]; exact hl
  have w0 := And.intro (hS57_13.mem w0.1) (hS57_13.kd w0.2)
  have hfr : ∀ x, 12 ≤ x → x < 43 → x ∉ G57_13.L := fun x h1 h2 => hS57_13.nin (hfr x (Nat.le_trans (by decide) h1) h2) (Or.inr (Nat.le_trans (by decide) h1))
  have hkd : ∀ i, i < 111 → G57_13.kd i = kd0 i := by rw [EX_kd hS57_13]; exact hkd
  have w1 := w1.em hS57_13
  have q0_1 := hX57_13.rv List.not_mem_nil (fun h => absurd h.2 (by decide)) q0_1
  have w2 := w2.em hS57_13
  have q0_2 := hX57_13.rv List.not_mem_nil (fun h => absurd h.2 (by decide)) q0_2
  have w8 := w8.em hS57_13
  have q0_8 := hX57_13.rv List.not_mem_nil (fun h => absurd h.2 (by decide)) q0_8
  have w9 := w9.em hS57_13
  have q0_9 := hX57_13.rv List.not_mem_nil (fun h => absurd h.2 (by decide)) q0_9
  have w10 := w10.em hS57_13
  have q0_10 := hX57_13.rv List.not_mem_nil (fun h => absurd h.2 (by decide)) q0_10
  have w11 := w11.em hS57_13
  have hEX := hEX.tr (hS57_13.mono (c := 0) (d := 43) (by decide) (by decide))
  refine lv_aload_n hE.1 hE.2.1 dX11_init_60 rfl (lv_at hl 0 rfl) ?_
  refine lv_sipush (v := nI 2016) hE.1 hE.2.1 dX11_init_61 (by decide) ?_
  refine rg_newI (ty := .int) rfl hE hH (12) (hfr (12) (by omega) (by omega)) (hkd 12 (by decide)) (Or.inr (Or.inl ⟨rfl, rfl⟩)) (by omega) (by show 0 + 1 + 1 + 1 + 1 + 1 + 1 + 1 ≤ 27; omega) (by show 0 + 1000 + 2000 + 6 + 6 + 36 + 252 + 2016 ≤ 40000; omega) dX11_init_64 (fun G64_14 H hX64_14 hln64_14 hrv64_14 hH => ?_)
  have hS64_14 := hX64_14.ex1 (hfr (12) (by omega) (by omega))
  have w12 : isA G64_14 (12) 13 2016 := ⟨hX64_14.new (List.mem_singleton_self _), hX64_14.kd (hkd 12 (by decide)), hln64_14⟩
  have hl : lv_has ls 1 [(0, .ref (G64_14.ad 0))] := by rw [hS64_14.adm (w0.1)]; exact hl
  refine rg_st (st' := [.ref (G64_14.ad 12), .ref (G64_14.ad 0)]) (by rw [hS64_14.adm (w0.1)]) ?_
  have w0 := And.intro (hS64_14.mem w0.1) (hS64_14.kd w0.2)
  have hfr : ∀ x, 13 ≤ x → x < 43 → x ∉ G64_14.L := fun x h1 h2 => hS64_14.nin (hfr x (Nat.le_trans (by decide) h1) h2) (Or.inr (Nat.le_trans (by decide) h1))
  have hkd : ∀ i, i < 111 → G64_14.kd i = kd0 i := by rw [EX_kd hS64_14]; exact hkd
  have w1 := w1.em hS64_14
  have q0_1 := hS64_14.rv (Or.inl (by decide)) q0_1
  have w2 := w2.em hS64_14
  have q0_2 := hS64_14.rv (Or.inl (by decide)) q0_2
  have w8 := w8.em hS64_14
  have q0_8 := hS64_14.rv (Or.inl (by decide)) q0_8
  have w9 := w9.em hS64_14
  have q0_9 := hS64_14.rv (Or.inl (by decide)) q0_9
  have w10 := w10.em hS64_14
  have q0_10 := hS64_14.rv (Or.inl (by decide)) q0_10
  have w11 := w11.em hS64_14
  have q0_11 := hS64_14.rv (Or.inl (by decide)) q0_11
  have hEX := hEX.tr (hS64_14.mono (c := 0) (d := 43) (by decide) (by decide))
  have hU64_14 : Fr iv55_12 (clr iv55_12 (12) 0) (fun b0 _ => b0 = 12) := Fr.clr Fr.rf (fun _ => rfl)
  have hJ64_14 : FrJ jv55_12 (clr jv55_12 (12) 0) (fun b0 _ => b0 = 12) := FrJ.clr FrJ.rf (fun _ => rfl)
  have z3 := (hU64_14 _ _ (by decide)).trans z3
  have z4 := (hU64_14 _ _ (by decide)).trans z4
  have z6 := (hU64_14 _ _ (by decide)).trans z6
  have z7 := (hU64_14 _ _ (by decide)).trans z7
  have i0_5 := (hU64_14 _ _ (by decide)).trans i0_5
  have hFr := hFr.tr (hU64_14.mono (P' := fun lb _ => 0 ≤ lb ∧ lb < 43) (fun lb j h => by rw [h]; exact ⟨by decide, by decide⟩))
  have hFj := hFj.tr (hJ64_14.mono (P' := fun lb _ => 0 ≤ lb ∧ lb < 43) (fun lb j h => by rw [h]; exact ⟨by decide, by decide⟩))
  generalize clr iv55_12 (12) 0 = iv64_14 at hH hFr hU64_14 z3 z4 z6 z7 i0_5
  generalize clr jv55_12 (12) 0 = jv64_14 at hH hFj hJ64_14 
  refine rg_putrF hE hH cf_X11 fl_X11_32 rfl fn_X11_12 fo_X11_12 hnm (w0.1) (w0.2) (v := 12) (w12.1) dX11_init_66 (fun H locs hH => ?_)
  have hX66_15 := GX.set (G := G64_14) (lb := 0) (k := 12) (v := some (12))
  have hS66_15 := EX.set (G := G64_14) (lb := 0) (k := 12) (v := some (12))
  have q0_12 := setR_s (G := G64_14) (lb := 0) (k := 12) (v := some (12))
  generalize (G64_14.setR (up2 G64_14.rv 0 12 (some 12))) = G66_15 at hH hX66_15 hS66_15 q0_12
  have hl : lv_has ls 1 [(0, .ref (G66_15.ad 0))] := by rw [hS66_15.adm (w0.1)]; exact hl
  have w0 := And.intro (hS66_15.mem w0.1) (hS66_15.kd w0.2)
  have hfr : ∀ x, 13 ≤ x → x < 43 → x ∉ G66_15.L := fun x h1 h2 => hS66_15.nin (hfr x (Nat.le_trans (by decide) h1) h2) (Or.inr (Nat.le_trans (by decide) h1))
  have hkd : ∀ i, i < 111 → G66_15.kd i = kd0 i := by rw [EX_kd hS66_15]; exact hkd
  have w1 := w1.em hS66_15
  have q0_1 := hX66_15.rv List.not_mem_nil (fun h => absurd h.2 (by decide)) q0_1
  have w2 := w2.em hS66_15
  have q0_2 := hX66_15.rv List.not_mem_nil (fun h => absurd h.2 (by decide)) q0_2
  have w8 := w8.em hS66_15
  have q0_8 := hX66_15.rv List.not_mem_nil (fun h => absurd h.2 (by decide)) q0_8
  have w9 := w9.em hS66_15
  have q0_9 := hX66_15.rv List.not_mem_nil (fun h => absurd h.2 (by decide)) q0_9
  have w10 := w10.em hS66_15
  have q0_10 := hX66_15.rv List.not_mem_nil (fun h => absurd h.2 (by decide)) q0_10
  have w11 := w11.em hS66_15
  have q0_11 := hX66_15.rv List.not_mem_nil (fun h => absurd h.2 (by decide)) q0_11
  have w12 := w12.em hS66_15
  have hEX := hEX.tr (hS66_15.mono (c := 0) (d := 43) (by decide) (by decide))
  refine lv_aload_n hE.1 hE.2.1 dX11_init_69 rfl (lv_at hl 0 rfl) ?_
  refine lv_sipush (v := nI 1200) hE.1 hE.2.1 dX11_init_70 (by decide) ?_
  refine rg_newI (ty := .int) rfl hE hH (13) (hfr (13) (by omega) (by omega)) (hkd 13 (by decide)) (Or.inr (Or.inl ⟨rfl, rfl⟩)) (by omega) (by show 0 + 1 + 1 + 1 + 1 + 1 + 1 + 1 + 1 ≤ 27; omega) (by show 0 + 1000 + 2000 + 6 + 6 + 36 + 252 + 2016 + 1200 ≤ 40000; omega) dX11_init_73 (fun G73_16 H hX73_16 hln73_16 hrv73_16 hH => ?_)
  have hS73_16 := hX73_16.ex1 (hfr (13) (by omega) (by omega))
  have w13 : isA G73_16 (13) 13 1200 := ⟨hX73_16.new (List.mem_singleton_self _), hX73_16.kd (hkd 13 (by decide)), hln73_16⟩
  have hl : lv_has ls 1 [(0, .ref (G73_16.ad 0))] := by rw [hS73_16.adm (w0.1)]; exact hl
  refine rg_st (st' := [.ref (G73_16.ad 13), .ref (G73_16.ad 0)]) (by rw [hS73_16.adm (w0.1)]) ?_
  have w0 := And.intro (hS73_16.mem w0.1) (hS73_16.kd w0.2)
  have hfr : ∀ x, 14 ≤ x → x < 43 → x ∉ G73_16.L := fun x h1 h2 => hS73_16.nin (hfr x (Nat.le_trans (by decide) h1) h2) (Or.inr (Nat.le_trans (by decide) h1))
  have hkd : ∀ i, i < 111 → G73_16.kd i = kd0 i := by rw [EX_kd hS73_16]; exact hkd
  have w1 := w1.em hS73_16
  have q0_1 := hS73_16.rv (Or.inl (by decide)) q0_1
  have w2 := w2.em hS73_16
  have q0_2 := hS73_16.rv (Or.inl (by decide)) q0_2
  have w8 := w8.em hS73_16
  have q0_8 := hS73_16.rv (Or.inl (by decide)) q0_8
  have w9 := w9.em hS73_16
  have q0_9 := hS73_16.rv (Or.inl (by decide)) q0_9
  have w10 := w10.em hS73_16
  have q0_10 := hS73_16.rv (Or.inl (by decide)) q0_10
  have w11 := w11.em hS73_16
  have q0_11 := hS73_16.rv (Or.inl (by decide)) q0_11
  have w12 := w12.em hS73_16
  have q0_12 := hS73_16.rv (Or.inl (by decide)) q0_12
  have hEX := hEX.tr (hS73_16.mono (c := 0) (d := 43) (by decide) (by decide))
  have hU73_16 : Fr iv64_14 (clr iv64_14 (13) 0) (fun b0 _ => b0 = 13) := Fr.clr Fr.rf (fun _ => rfl)
  have hJ73_16 : FrJ jv64_14 (clr jv64_14 (13) 0) (fun b0 _ => b0 = 13) := FrJ.clr FrJ.rf (fun _ => rfl)
  have z3 := (hU73_16 _ _ (by decide)).trans z3
  have z4 := (hU73_16 _ _ (by decide)).trans z4
  have z6 := (hU73_16 _ _ (by decide)).trans z6
  have z7 := (hU73_16 _ _ (by decide)).trans z7
  have i0_5 := (hU73_16 _ _ (by decide)).trans i0_5
  have hFr := hFr.tr (hU73_16.mono (P' := fun lb _ => 0 ≤ lb ∧ lb < 43) (fun lb j h => by rw [h]; exact ⟨by decide, by decide⟩))
  have hFj := hFj.tr (hJ73_16.mono (P' := fun lb _ => 0 ≤ lb ∧ lb < 43) (fun lb j h => by rw [h]; exact ⟨by decide, by decide⟩))
  generalize clr iv64_14 (13) 0 = iv73_16 at hH hFr hU73_16 z3 z4 z6 z7 i0_5
  generalize clr jv64_14 (13) 0 = jv73_16 at hH hFj hJ73_16 
  refine rg_putrF hE hH cf_X11 fl_X11_35 rfl fn_X11_13 fo_X11_13 hnm (w0.1) (w0.2) (v := 13) (w13.1) dX11_init_75 (fun H locs hH => ?_)
  have hX75_17 := GX.set (G := G73_16) (lb := 0) (k := 13) (v := some (13))
  have hS75_17 := EX.set (G := G73_16) (lb := 0) (k := 13) (v := some (13))
  have q0_13 := setR_s (G := G73_16) (lb := 0) (k := 13) (v := some (13))
  generalize (G73_16.setR (up2 G73_16.rv 0 13 (some 13))) = G75_17 at hH hX75_17 hS75_17 q0_13
  have hl : lv_has ls 1 [(0, .ref (G75_17.ad 0))] := by rw [hS75_17.adm (w0.1)]; exact hl
  have w0 := And.intro (hS75_17.mem w0.1) (hS75_17.kd w0.2)
  have hfr : ∀ x, 14 ≤ x → x < 43 → x ∉ G75_17.L := fun x h1 h2 => hS75_17.nin (hfr x (Nat.le_trans (by decide) h1) h2) (Or.inr (Nat.le_trans (by decide) h1))
  have hkd : ∀ i, i < 111 → G75_17.kd i = kd0 i := by rw [EX_kd hS75_17]; exact hkd
  have w1 := w1.em hS75_17
  have q0_1 := hX75_17.rv List.not_mem_nil (fun h => absurd h.2 (by decide)) q0_1
  have w2 := w2.em hS75_17
  have q0_2 := hX75_17.rv List.not_mem_nil (fun h => absurd h.2 (by decide)) q0_2
  have w8 := w8.em hS75_17
  have q0_8 := hX75_17.rv List.not_mem_nil (fun h => absurd h.2 (by decide)) q0_8
  have w9 := w9.em hS75_17
  have q0_9 := hX75_17.rv List.not_mem_nil (fun h => absurd h.2 (by decide)) q0_9
  have w10 := w10.em hS75_17
  have q0_10 := hX75_17.rv List.not_mem_nil (fun h => absurd h.2 (by decide)) q0_10
  have w11 := w11.em hS75_17
  have q0_11 := hX75_17.rv List.not_mem_nil (fun h => absurd h.2 (by decide)) q0_11
  have w12 := w12.em hS75_17
  have q0_12 := hX75_17.rv List.not_mem_nil (fun h => absurd h.2 (by decide)) q0_12
  have w13 := w13.em hS75_17
  have hEX := hEX.tr (hS75_17.mono (c := 0) (d := 43) (by decide) (by decide))
  refine lv_aload_n hE.1 hE.2.1 dX11_init_78 rfl (lv_at hl 0 rfl) ?_
  refine lv_sipush (v := nI 240) hE.1 hE.2.1 dX11_init_79 (by decide) ?_
  refine rg_newI (ty := .int) rfl hE hH (14) (hfr (14) (by omega) (by omega)) (hkd 14 (by decide)) (Or.inr (Or.inl ⟨rfl, rfl⟩)) (by omega) (by show 0 + 1 + 1 + 1 + 1 + 1 + 1 + 1 + 1 + 1 ≤ 27; omega) (by show 0 + 1000 + 2000 + 6 + 6 + 36 + 252 + 2016 + 1200 + 240 ≤ 40000; omega) dX11_init_82 (fun G82_18 H hX82_18 hln82_18 hrv82_18 hH => ?_)
  have hS82_18 := hX82_18.ex1 (hfr (14) (by omega) (by omega))
  have w14 : isA G82_18 (14) 13 240 := ⟨hX82_18.new (List.mem_singleton_self _), hX82_18.kd (hkd 14 (by decide)), hln82_18⟩
  have hl : lv_has ls 1 [(0, .ref (G82_18.ad 0))] := by rw [hS82_18.adm (w0.1)]; exact hl
  refine rg_st (st' := [.ref (G82_18.ad 14), .ref (G82_18.ad 0)]) (by rw [hS82_18.adm (w0.1)]) ?_
  have w0 := And.intro (hS82_18.mem w0.1) (hS82_18.kd w0.2)
  have hfr : ∀ x, 15 ≤ x → x < 43 → x ∉ G82_18.L := fun x h1 h2 => hS82_18.nin (hfr x (Nat.le_trans (by decide) h1) h2) (Or.inr (Nat.le_trans (by decide) h1))
  have hkd : ∀ i, i < 111 → G82_18.kd i = kd0 i := by rw [EX_kd hS82_18]; exact hkd
  have w1 := w1.em hS82_18
  have q0_1 := hS82_18.rv (Or.inl (by decide)) q0_1
  have w2 := w2.em hS82_18
  have q0_2 := hS82_18.rv (Or.inl (by decide)) q0_2
  have w8 := w8.em hS82_18
  have q0_8 := hS82_18.rv (Or.inl (by decide)) q0_8
  have w9 := w9.em hS82_18
  have q0_9 := hS82_18.rv (Or.inl (by decide)) q0_9
  have w10 := w10.em hS82_18
  have q0_10 := hS82_18.rv (Or.inl (by decide)) q0_10
  have w11 := w11.em hS82_18
  have q0_11 := hS82_18.rv (Or.inl (by decide)) q0_11
  have w12 := w12.em hS82_18
  have q0_12 := hS82_18.rv (Or.inl (by decide)) q0_12
  have w13 := w13.em hS82_18
  have q0_13 := hS82_18.rv (Or.inl (by decide)) q0_13
  have hEX := hEX.tr (hS82_18.mono (c := 0) (d := 43) (by decide) (by decide))
  have hU82_18 : Fr iv73_16 (clr iv73_16 (14) 0) (fun b0 _ => b0 = 14) := Fr.clr Fr.rf (fun _ => rfl)
  have hJ82_18 : FrJ jv73_16 (clr jv73_16 (14) 0) (fun b0 _ => b0 = 14) := FrJ.clr FrJ.rf (fun _ => rfl)
  have z3 := (hU82_18 _ _ (by decide)).trans z3
  have z4 := (hU82_18 _ _ (by decide)).trans z4
  have z6 := (hU82_18 _ _ (by decide)).trans z6
  have z7 := (hU82_18 _ _ (by decide)).trans z7
  have i0_5 := (hU82_18 _ _ (by decide)).trans i0_5
  have hFr := hFr.tr (hU82_18.mono (P' := fun lb _ => 0 ≤ lb ∧ lb < 43) (fun lb j h => by rw [h]; exact ⟨by decide, by decide⟩))
  have hFj := hFj.tr (hJ82_18.mono (P' := fun lb _ => 0 ≤ lb ∧ lb < 43) (fun lb j h => by rw [h]; exact ⟨by decide, by decide⟩))
  generalize clr iv73_16 (14) 0 = iv82_18 at hH hFr hU82_18 z3 z4 z6 z7 i0_5
  generalize clr jv73_16 (14) 0 = jv82_18 at hH hFj hJ82_18 
  refine rg_putrF hE hH cf_X11 fl_X11_38 rfl fn_X11_14 fo_X11_14 hnm (w0.1) (w0.2) (v := 14) (w14.1) dX11_init_84 (fun H locs hH => ?_)
  have hX84_19 := GX.set (G := G82_18) (lb := 0) (k := 14) (v := some (14))
  have hS84_19 := EX.set (G := G82_18) (lb := 0) (k := 14) (v := some (14))
  have q0_14 := setR_s (G := G82_18) (lb := 0) (k := 14) (v := some (14))
  generalize (G82_18.setR (up2 G82_18.rv 0 14 (some 14))) = G84_19 at hH hX84_19 hS84_19 q0_14
  have hl : lv_has ls 1 [(0, .ref (G84_19.ad 0))] := by rw [hS84_19.adm (w0.1)]; exact hl
  have w0 := And.intro (hS84_19.mem w0.1) (hS84_19.kd w0.2)
  have hfr : ∀ x, 15 ≤ x → x < 43 → x ∉ G84_19.L := fun x h1 h2 => hS84_19.nin (hfr x (Nat.le_trans (by decide) h1) h2) (Or.inr (Nat.le_trans (by decide) h1))
  have hkd : ∀ i, i < 111 → G84_19.kd i = kd0 i := by rw [EX_kd hS84_19]; exact hkd
  have w1 := w1.em hS84_19
  have q0_1 := hX84_19.rv List.not_mem_nil (fun h => absurd h.2 (by decide)) q0_1
  have w2 := w2.em hS84_19
  have q0_2 := hX84_19.rv List.not_mem_nil (fun h => absurd h.2 (by decide)) q0_2
  have w8 := w8.em hS84_19
  have q0_8 := hX84_19.rv List.not_mem_nil (fun h => absurd h.2 (by decide)) q0_8
  have w9 := w9.em hS84_19
  have q0_9 := hX84_19.rv List.not_mem_nil (fun h => absurd h.2 (by decide)) q0_9
  have w10 := w10.em hS84_19
  have q0_10 := hX84_19.rv List.not_mem_nil (fun h => absurd h.2 (by decide)) q0_10
  have w11 := w11.em hS84_19
  have q0_11 := hX84_19.rv List.not_mem_nil (fun h => absurd h.2 (by decide)) q0_11
  have w12 := w12.em hS84_19
  have q0_12 := hX84_19.rv List.not_mem_nil (fun h => absurd h.2 (by decide)) q0_12
  have w13 := w13.em hS84_19
  have q0_13 := hX84_19.rv List.not_mem_nil (fun h => absurd h.2 (by decide)) q0_13
  have w14 := w14.em hS84_19
  have hEX := hEX.tr (hS84_19.mono (c := 0) (d := 43) (by decide) (by decide))
  refine lv_aload_n hE.1 hE.2.1 dX11_init_87 rfl (lv_at hl 0 rfl) ?_
  refine lv_sipush (v := nI 2400) hE.1 hE.2.1 dX11_init_88 (by decide) ?_
  refine rg_newI (ty := .int) rfl hE hH (15) (hfr (15) (by omega) (by omega)) (hkd 15 (by decide)) (Or.inr (Or.inl ⟨rfl, rfl⟩)) (by omega) (by show 0 + 1 + 1 + 1 + 1 + 1 + 1 + 1 + 1 + 1 + 1 ≤ 27; omega) (by show 0 + 1000 + 2000 + 6 + 6 + 36 + 252 + 2016 + 1200 + 240 + 2400 ≤ 40000; omega) dX11_init_91 (fun G91_20 H hX91_20 hln91_20 hrv91_20 hH => ?_)
  have hS91_20 := hX91_20.ex1 (hfr (15) (by omega) (by omega))
  have w15 : isA G91_20 (15) 13 2400 := ⟨hX91_20.new (List.mem_singleton_self _), hX91_20.kd (hkd 15 (by decide)), hln91_20⟩
  have hl : lv_has ls 1 [(0, .ref (G91_20.ad 0))] := by rw [hS91_20.adm (w0.1)]; exact hl
  refine rg_st (st' := [.ref (G91_20.ad 15), .ref (G91_20.ad 0)]) (by rw [hS91_20.adm (w0.1)]) ?_
  have w0 := And.intro (hS91_20.mem w0.1) (hS91_20.kd w0.2)
  have hfr : ∀ x, 16 ≤ x → x < 43 → x ∉ G91_20.L := fun x h1 h2 => hS91_20.nin (hfr x (Nat.le_trans (by decide) h1) h2) (Or.inr (Nat.le_trans (by decide) h1))
  have hkd : ∀ i, i < 111 → G91_20.kd i = kd0 i := by rw [EX_kd hS91_20]; exact hkd
  have w1 := w1.em hS91_20
  have q0_1 := hS91_20.rv (Or.inl (by decide)) q0_1
  have w2 := w2.em hS91_20
  have q0_2 := hS91_20.rv (Or.inl (by decide)) q0_2
  have w8 := w8.em hS91_20
  have q0_8 := hS91_20.rv (Or.inl (by decide)) q0_8
  have w9 := w9.em hS91_20
  have q0_9 := hS91_20.rv (Or.inl (by decide)) q0_9
  have w10 := w10.em hS91_20
  have q0_10 := hS91_20.rv (Or.inl (by decide)) q0_10
  have w11 := w11.em hS91_20
  have q0_11 := hS91_20.rv (Or.inl (by decide)) q0_11
  have w12 := w12.em hS91_20
  have q0_12 := hS91_20.rv (Or.inl (by decide)) q0_12
  have w13 := w13.em hS91_20
  have q0_13 := hS91_20.rv (Or.inl (by decide)) q0_13
  have w14 := w14.em hS91_20
  have q0_14 := hS91_20.rv (Or.inl (by decide)) q0_14
  have hEX := hEX.tr (hS91_20.mono (c := 0) (d := 43) (by decide) (by decide))
  have hU91_20 : Fr iv82_18 (clr iv82_18 (15) 0) (fun b0 _ => b0 = 15) := Fr.clr Fr.rf (fun _ => rfl)
  have hJ91_20 : FrJ jv82_18 (clr jv82_18 (15) 0) (fun b0 _ => b0 = 15) := FrJ.clr FrJ.rf (fun _ => rfl)
  have z3 := (hU91_20 _ _ (by decide)).trans z3
  have z4 := (hU91_20 _ _ (by decide)).trans z4
  have z6 := (hU91_20 _ _ (by decide)).trans z6
  have z7 := (hU91_20 _ _ (by decide)).trans z7
  have i0_5 := (hU91_20 _ _ (by decide)).trans i0_5
  have hFr := hFr.tr (hU91_20.mono (P' := fun lb _ => 0 ≤ lb ∧ lb < 43) (fun lb j h => by rw [h]; exact ⟨by decide, by decide⟩))
  have hFj := hFj.tr (hJ91_20.mono (P' := fun lb _ => 0 ≤ lb ∧ lb < 43) (fun lb j h => by rw [h]; exact ⟨by decide, by decide⟩))
  generalize clr iv82_18 (15) 0 = iv91_20 at hH hFr hU91_20 z3 z4 z6 z7 i0_5
  generalize clr jv82_18 (15) 0 = jv91_20 at hH hFj hJ91_20 
  refine rg_putrF hE hH cf_X11 fl_X11_41 rfl fn_X11_15 fo_X11_15 hnm (w0.1) (w0.2) (v := 15) (w15.1) dX11_init_93 (fun H locs hH => ?_)
  have hX93_21 := GX.set (G := G91_20) (lb := 0) (k := 15) (v := some (15))
  have hS93_21 := EX.set (G := G91_20) (lb := 0) (k := 15) (v := some (15))
  have q0_15 := setR_s (G := G91_20) (lb := 0) (k := 15) (v := some (15))
  generalize (G91_20.setR (up2 G91_20.rv 0 15 (some 15))) = G93_21 at hH hX93_21 hS93_21 q0_15
  have hl : lv_has ls 1 [(0, .ref (G93_21.ad 0))] := by rw [hS93_21.adm (w0.1)]; exact hl
  have w0 := And.intro (hS93_21.mem w0.1) (hS93_21.kd w0.2)
  have hfr : ∀ x, 16 ≤ x → x < 43 → x ∉ G93_21.L := fun x h1 h2 => hS93_21.nin (hfr x (Nat.le_trans (by decide) h1) h2) (Or.inr (Nat.le_trans (by decide) h1))
  have hkd : ∀ i, i < 111 → G93_21.kd i = kd0 i := by rw [EX_kd hS93_21]; exact hkd
  have w1 := w1.em hS93_21
  have q0_1 := hX93_21.rv List.not_mem_nil (fun h => absurd h.2 (by decide)) q0_1
  have w2 := w2.em hS93_21
  have q0_2 := hX93_21.rv List.not_mem_nil (fun h => absurd h.2 (by decide)) q0_2
  have w8 := w8.em hS93_21
  have q0_8 := hX93_21.rv List.not_mem_nil (fun h => absurd h.2 (by decide)) q0_8
  have w9 := w9.em hS93_21
  have q0_9 := hX93_21.rv List.not_mem_nil (fun h => absurd h.2 (by decide)) q0_9
  have w10 := w10.em hS93_21
  have q0_10 := hX93_21.rv List.not_mem_nil (fun h => absurd h.2 (by decide)) q0_10
  have w11 := w11.em hS93_21
  have q0_11 := hX93_21.rv List.not_mem_nil (fun h => absurd h.2 (by decide)) q0_11
  have w12 := w12.em hS93_21
  have q0_12 := hX93_21.rv List.not_mem_nil (fun h => absurd h.2 (by decide)) q0_12
  have w13 := w13.em hS93_21
  have q0_13 := hX93_21.rv List.not_mem_nil (fun h => absurd h.2 (by decide)) q0_13
  have w14 := w14.em hS93_21
  have q0_14 := hX93_21.rv List.not_mem_nil (fun h => absurd h.2 (by decide)) q0_14
  have w15 := w15.em hS93_21
  have hEX := hEX.tr (hS93_21.mono (c := 0) (d := 43) (by decide) (by decide))
  refine lv_aload_n hE.1 hE.2.1 dX11_init_96 rfl (lv_at hl 0 rfl) ?_
  refine lv_bipush (v := nI 12) hE.1 hE.2.1 dX11_init_97 (by decide) ?_
  refine rg_newI (ty := .int) rfl hE hH (16) (hfr (16) (by omega) (by omega)) (hkd 16 (by decide)) (Or.inr (Or.inl ⟨rfl, rfl⟩)) (by omega) (by show 0 + 1 + 1 + 1 + 1 + 1 + 1 + 1 + 1 + 1 + 1 + 1 ≤ 27; omega) (by show 0 + 1000 + 2000 + 6 + 6 + 36 + 252 + 2016 + 1200 + 240 + 2400 + 12 ≤ 40000; omega) dX11_init_99 (fun G99_22 H hX99_22 hln99_22 hrv99_22 hH => ?_)
  have hS99_22 := hX99_22.ex1 (hfr (16) (by omega) (by omega))
  have w16 : isA G99_22 (16) 13 12 := ⟨hX99_22.new (List.mem_singleton_self _), hX99_22.kd (hkd 16 (by decide)), hln99_22⟩
  have hl : lv_has ls 1 [(0, .ref (G99_22.ad 0))] := by rw [hS99_22.adm (w0.1)]; exact hl
  refine rg_st (st' := [.ref (G99_22.ad 16), .ref (G99_22.ad 0)]) (by rw [hS99_22.adm (w0.1)]) ?_
  have w0 := And.intro (hS99_22.mem w0.1) (hS99_22.kd w0.2)
  have hfr : ∀ x, 17 ≤ x → x < 43 → x ∉ G99_22.L := fun x h1 h2 => hS99_22.nin (hfr x (Nat.le_trans (by decide) h1) h2) (Or.inr (Nat.le_trans (by decide) h1))
  have hkd : ∀ i, i < 111 → G99_22.kd i = kd0 i := by rw [EX_kd hS99_22]; exact hkd
  have w1 := w1.em hS99_22
  have q0_1 := hS99_22.rv (Or.inl (by decide)) q0_1
  have w2 := w2.em hS99_22
  have q0_2 := hS99_22.rv (Or.inl (by decide)) q0_2
  have w8 := w8.em hS99_22
  have q0_8 := hS99_22.rv (Or.inl (by decide)) q0_8
  have w9 := w9.em hS99_22
  have q0_9 := hS99_22.rv (Or.inl (by decide)) q0_9
  have w10 := w10.em hS99_22
  have q0_10 := hS99_22.rv (Or.inl (by decide)) q0_10
  have w11 := w11.em hS99_22
  have q0_11 := hS99_22.rv (Or.inl (by decide)) q0_11
  have w12 := w12.em hS99_22
  have q0_12 := hS99_22.rv (Or.inl (by decide)) q0_12
  have w13 := w13.em hS99_22
  have q0_13 := hS99_22.rv (Or.inl (by decide)) q0_13
  have w14 := w14.em hS99_22
  have q0_14 := hS99_22.rv (Or.inl (by decide)) q0_14
  have w15 := w15.em hS99_22
  have q0_15 := hS99_22.rv (Or.inl (by decide)) q0_15
  have hEX := hEX.tr (hS99_22.mono (c := 0) (d := 43) (by decide) (by decide))
  have hU99_22 : Fr iv91_20 (clr iv91_20 (16) 0) (fun b0 _ => b0 = 16) := Fr.clr Fr.rf (fun _ => rfl)
  have hJ99_22 : FrJ jv91_20 (clr jv91_20 (16) 0) (fun b0 _ => b0 = 16) := FrJ.clr FrJ.rf (fun _ => rfl)
  have z3 := (hU99_22 _ _ (by decide)).trans z3
  have z4 := (hU99_22 _ _ (by decide)).trans z4
  have z6 := (hU99_22 _ _ (by decide)).trans z6
  have z7 := (hU99_22 _ _ (by decide)).trans z7
  have i0_5 := (hU99_22 _ _ (by decide)).trans i0_5
  have hFr := hFr.tr (hU99_22.mono (P' := fun lb _ => 0 ≤ lb ∧ lb < 43) (fun lb j h => by rw [h]; exact ⟨by decide, by decide⟩))
  have hFj := hFj.tr (hJ99_22.mono (P' := fun lb _ => 0 ≤ lb ∧ lb < 43) (fun lb j h => by rw [h]; exact ⟨by decide, by decide⟩))
  generalize clr iv91_20 (16) 0 = iv99_22 at hH hFr hU99_22 z3 z4 z6 z7 i0_5
  generalize clr jv91_20 (16) 0 = jv99_22 at hH hFj hJ99_22 
  refine rg_putrF hE hH cf_X11 fl_X11_44 rfl fn_X11_16 fo_X11_16 hnm (w0.1) (w0.2) (v := 16) (w16.1) dX11_init_101 (fun H locs hH => ?_)
  have hX101_23 := GX.set (G := G99_22) (lb := 0) (k := 16) (v := some (16))
  have hS101_23 := EX.set (G := G99_22) (lb := 0) (k := 16) (v := some (16))
  have q0_16 := setR_s (G := G99_22) (lb := 0) (k := 16) (v := some (16))
  generalize (G99_22.setR (up2 G99_22.rv 0 16 (some 16))) = G101_23 at hH hX101_23 hS101_23 q0_16
  have hl : lv_has ls 1 [(0, .ref (G101_23.ad 0))] := by rw [hS101_23.adm (w0.1)]; exact hl
  have w0 := And.intro (hS101_23.mem w0.1) (hS101_23.kd w0.2)
  have hfr : ∀ x, 17 ≤ x → x < 43 → x ∉ G101_23.L := fun x h1 h2 => hS101_23.nin (hfr x (Nat.le_trans (by decide) h1) h2) (Or.inr (Nat.le_trans (by decide) h1))
  have hkd : ∀ i, i < 111 → G101_23.kd i = kd0 i := by rw [EX_kd hS101_23]; exact hkd
  have w1 := w1.em hS101_23
  have q0_1 := hX101_23.rv List.not_mem_nil (fun h => absurd h.2 (by decide)) q0_1
  have w2 := w2.em hS101_23
  have q0_2 := hX101_23.rv List.not_mem_nil (fun h => absurd h.2 (by decide)) q0_2
  have w8 := w8.em hS101_23
  have q0_8 := hX101_23.rv List.not_mem_nil (fun h => absurd h.2 (by decide)) q0_8
  have w9 := w9.em hS101_23
  have q0_9 := hX101_23.rv List.not_mem_nil (fun h => absurd h.2 (by decide)) q0_9
  have w10 := w10.em hS101_23
  have q0_10 := hX101_23.rv List.not_mem_nil (fun h => absurd h.2 (by decide)) q0_10
  have w11 := w11.em hS101_23
  have q0_11 := hX101_23.rv List.not_mem_nil (fun h => absurd h.2 (by decide)) q0_11
  have w12 := w12.em hS101_23
  have q0_12 := hX101_23.rv List.not_mem_nil (fun h => absurd h.2 (by decide)) q0_12
  have w13 := w13.em hS101_23
  have q0_13 := hX101_23.rv List.not_mem_nil (fun h => absurd h.2 (by decide)) q0_13
  have w14 := w14.em hS101_23
  have q0_14 := hX101_23.rv List.not_mem_nil (fun h => absurd h.2 (by decide)) q0_14
  have w15 := w15.em hS101_23
  have q0_15 := hX101_23.rv List.not_mem_nil (fun h => absurd h.2 (by decide)) q0_15
  have w16 := w16.em hS101_23
  have hEX := hEX.tr (hS101_23.mono (c := 0) (d := 43) (by decide) (by decide))
  refine lv_aload_n hE.1 hE.2.1 dX11_init_104 rfl (lv_at hl 0 rfl) ?_
  refine lv_bipush (v := nI 12) hE.1 hE.2.1 dX11_init_105 (by decide) ?_
  refine rg_newI (ty := .int) rfl hE hH (17) (hfr (17) (by omega) (by omega)) (hkd 17 (by decide)) (Or.inr (Or.inl ⟨rfl, rfl⟩)) (by omega) (by show 0 + 1 + 1 + 1 + 1 + 1 + 1 + 1 + 1 + 1 + 1 + 1 + 1 ≤ 27; omega) (by show 0 + 1000 + 2000 + 6 + 6 + 36 + 252 + 2016 + 1200 + 240 + 2400 + 12 + 12 ≤ 40000; omega) dX11_init_107 (fun G107_24 H hX107_24 hln107_24 hrv107_24 hH => ?_)
  have hS107_24 := hX107_24.ex1 (hfr (17) (by omega) (by omega))
  have w17 : isA G107_24 (17) 13 12 := ⟨hX107_24.new (List.mem_singleton_self _), hX107_24.kd (hkd 17 (by decide)), hln107_24⟩
  have hl : lv_has ls 1 [(0, .ref (G107_24.ad 0))] := by rw [hS107_24.adm (w0.1)]; exact hl
  refine rg_st (st' := [.ref (G107_24.ad 17), .ref (G107_24.ad 0)]) (by rw [hS107_24.adm (w0.1)]) ?_
  have w0 := And.intro (hS107_24.mem w0.1) (hS107_24.kd w0.2)
  have hfr : ∀ x, 18 ≤ x → x < 43 → x ∉ G107_24.L := fun x h1 h2 => hS107_24.nin (hfr x (Nat.le_trans (by decide) h1) h2) (Or.inr (Nat.le_trans (by decide) h1))
  have hkd : ∀ i, i < 111 → G107_24.kd i = kd0 i := by rw [EX_kd hS107_24]; exact hkd
  have w1 := w1.em hS107_24
  have q0_1 := hS107_24.rv (Or.inl (by decide)) q0_1
  have w2 := w2.em hS107_24
  have q0_2 := hS107_24.rv (Or.inl (by decide)) q0_2
  have w8 := w8.em hS107_24
  have q0_8 := hS107_24.rv (Or.inl (by decide)) q0_8
  have w9 := w9.em hS107_24
  have q0_9 := hS107_24.rv (Or.inl (by decide)) q0_9
  have w10 := w10.em hS107_24
  have q0_10 := hS107_24.rv (Or.inl (by decide)) q0_10
  have w11 := w11.em hS107_24
  have q0_11 := hS107_24.rv (Or.inl (by decide)) q0_11
  have w12 := w12.em hS107_24
  have q0_12 := hS107_24.rv (Or.inl (by decide)) q0_12
  have w13 := w13.em hS107_24
  have q0_13 := hS107_24.rv (Or.inl (by decide)) q0_13
  have w14 := w14.em hS107_24
  have q0_14 := hS107_24.rv (Or.inl (by decide)) q0_14
  have w15 := w15.em hS107_24
  have q0_15 := hS107_24.rv (Or.inl (by decide)) q0_15
  have w16 := w16.em hS107_24
  have q0_16 := hS107_24.rv (Or.inl (by decide)) q0_16
  have hEX := hEX.tr (hS107_24.mono (c := 0) (d := 43) (by decide) (by decide))
  have hU107_24 : Fr iv99_22 (clr iv99_22 (17) 0) (fun b0 _ => b0 = 17) := Fr.clr Fr.rf (fun _ => rfl)
  have hJ107_24 : FrJ jv99_22 (clr jv99_22 (17) 0) (fun b0 _ => b0 = 17) := FrJ.clr FrJ.rf (fun _ => rfl)
  have z3 := (hU107_24 _ _ (by decide)).trans z3
  have z4 := (hU107_24 _ _ (by decide)).trans z4
  have z6 := (hU107_24 _ _ (by decide)).trans z6
  have z7 := (hU107_24 _ _ (by decide)).trans z7
  have i0_5 := (hU107_24 _ _ (by decide)).trans i0_5
  have hFr := hFr.tr (hU107_24.mono (P' := fun lb _ => 0 ≤ lb ∧ lb < 43) (fun lb j h => by rw [h]; exact ⟨by decide, by decide⟩))
  have hFj := hFj.tr (hJ107_24.mono (P' := fun lb _ => 0 ≤ lb ∧ lb < 43) (fun lb j h => by rw [h]; exact ⟨by decide, by decide⟩))
  generalize clr iv99_22 (17) 0 = iv107_24 at hH hFr hU107_24 z3 z4 z6 z7 i0_5
  generalize clr jv99_22 (17) 0 = jv107_24 at hH hFj hJ107_24 
  refine rg_putrF hE hH cf_X11 fl_X11_47 rfl fn_X11_17 fo_X11_17 hnm (w0.1) (w0.2) (v := 17) (w17.1) dX11_init_109 (fun H locs hH => ?_)
  have hX109_25 := GX.set (G := G107_24) (lb := 0) (k := 17) (v := some (17))
  have hS109_25 := EX.set (G := G107_24) (lb := 0) (k := 17) (v := some (17))
  have q0_17 := setR_s (G := G107_24) (lb := 0) (k := 17) (v := some (17))
  generalize (G107_24.setR (up2 G107_24.rv 0 17 (some 17))) = G109_25 at hH hX109_25 hS109_25 q0_17
  have hl : lv_has ls 1 [(0, .ref (G109_25.ad 0))] := by rw [hS109_25.adm (w0.1)]; exact hl
  have w0 := And.intro (hS109_25.mem w0.1) (hS109_25.kd w0.2)
  have hfr : ∀ x, 18 ≤ x → x < 43 → x ∉ G109_25.L := fun x h1 h2 => hS109_25.nin (hfr x (Nat.le_trans (by decide) h1) h2) (Or.inr (Nat.le_trans (by decide) h1))
  have hkd : ∀ i, i < 111 → G109_25.kd i = kd0 i := by rw [EX_kd hS109_25]; exact hkd
  have w1 := w1.em hS109_25
  have q0_1 := hX109_25.rv List.not_mem_nil (fun h => absurd h.2 (by decide)) q0_1
  have w2 := w2.em hS109_25
  have q0_2 := hX109_25.rv List.not_mem_nil (fun h => absurd h.2 (by decide)) q0_2
  have w8 := w8.em hS109_25
  have q0_8 := hX109_25.rv List.not_mem_nil (fun h => absurd h.2 (by decide)) q0_8
  have w9 := w9.em hS109_25
  have q0_9 := hX109_25.rv List.not_mem_nil (fun h => absurd h.2 (by decide)) q0_9
  have w10 := w10.em hS109_25
  have q0_10 := hX109_25.rv List.not_mem_nil (fun h => absurd h.2 (by decide)) q0_10
  have w11 := w11.em hS109_25
  have q0_11 := hX109_25.rv List.not_mem_nil (fun h => absurd h.2 (by decide)) q0_11
  have w12 := w12.em hS109_25
  have q0_12 := hX109_25.rv List.not_mem_nil (fun h => absurd h.2 (by decide)) q0_12
  have w13 := w13.em hS109_25
  have q0_13 := hX109_25.rv List.not_mem_nil (fun h => absurd h.2 (by decide)) q0_13
  have w14 := w14.em hS109_25
  have q0_14 := hX109_25.rv List.not_mem_nil (fun h => absurd h.2 (by decide)) q0_14
  have w15 := w15.em hS109_25
  have q0_15 := hX109_25.rv List.not_mem_nil (fun h => absurd h.2 (by decide)) q0_15
  have w16 := w16.em hS109_25
  have q0_16 := hX109_25.rv List.not_mem_nil (fun h => absurd h.2 (by decide)) q0_16
  have w17 := w17.em hS109_25
  have hEX := hEX.tr (hS109_25.mono (c := 0) (d := 43) (by decide) (by decide))
  refine lv_aload_n hE.1 hE.2.1 dX11_init_112 rfl (lv_at hl 0 rfl) ?_
  refine lv_sipush (v := nI 492) hE.1 hE.2.1 dX11_init_113 (by decide) ?_
  refine rg_newI (ty := .int) rfl hE hH (18) (hfr (18) (by omega) (by omega)) (hkd 18 (by decide)) (Or.inr (Or.inl ⟨rfl, rfl⟩)) (by omega) (by show 0 + 1 + 1 + 1 + 1 + 1 + 1 + 1 + 1 + 1 + 1 + 1 + 1 + 1 ≤ 27; omega) (by show 0 + 1000 + 2000 + 6 + 6 + 36 + 252 + 2016 + 1200 + 240 + 2400 + 12 + 12 + 492 ≤ 40000; omega) dX11_init_116 (fun G116_26 H hX116_26 hln116_26 hrv116_26 hH => ?_)
  have hS116_26 := hX116_26.ex1 (hfr (18) (by omega) (by omega))
  have w18 : isA G116_26 (18) 13 492 := ⟨hX116_26.new (List.mem_singleton_self _), hX116_26.kd (hkd 18 (by decide)), hln116_26⟩
  have hl : lv_has ls 1 [(0, .ref (G116_26.ad 0))] := by rw [hS116_26.adm (w0.1)]; exact hl
  refine rg_st (st' := [.ref (G116_26.ad 18), .ref (G116_26.ad 0)]) (by rw [hS116_26.adm (w0.1)]) ?_
  have w0 := And.intro (hS116_26.mem w0.1) (hS116_26.kd w0.2)
  have hfr : ∀ x, 19 ≤ x → x < 43 → x ∉ G116_26.L := fun x h1 h2 => hS116_26.nin (hfr x (Nat.le_trans (by decide) h1) h2) (Or.inr (Nat.le_trans (by decide) h1))
  have hkd : ∀ i, i < 111 → G116_26.kd i = kd0 i := by rw [EX_kd hS116_26]; exact hkd
  have w1 := w1.em hS116_26
  have q0_1 := hS116_26.rv (Or.inl (by decide)) q0_1
  have w2 := w2.em hS116_26
  have q0_2 := hS116_26.rv (Or.inl (by decide)) q0_2
  have w8 := w8.em hS116_26
  have q0_8 := hS116_26.rv (Or.inl (by decide)) q0_8
  have w9 := w9.em hS116_26
  have q0_9 := hS116_26.rv (Or.inl (by decide)) q0_9
  have w10 := w10.em hS116_26
  have q0_10 := hS116_26.rv (Or.inl (by decide)) q0_10
  have w11 := w11.em hS116_26
  have q0_11 := hS116_26.rv (Or.inl (by decide)) q0_11
  have w12 := w12.em hS116_26
  have q0_12 := hS116_26.rv (Or.inl (by decide)) q0_12
  have w13 := w13.em hS116_26
  have q0_13 := hS116_26.rv (Or.inl (by decide)) q0_13
  have w14 := w14.em hS116_26
  have q0_14 := hS116_26.rv (Or.inl (by decide)) q0_14
  have w15 := w15.em hS116_26
  have q0_15 := hS116_26.rv (Or.inl (by decide)) q0_15
  have w16 := w16.em hS116_26
  have q0_16 := hS116_26.rv (Or.inl (by decide)) q0_16
  have w17 := w17.em hS116_26
  have q0_17 := hS116_26.rv (Or.inl (by decide)) q0_17
  have hEX := hEX.tr (hS116_26.mono (c := 0) (d := 43) (by decide) (by decide))
  have hU116_26 : Fr iv107_24 (clr iv107_24 (18) 0) (fun b0 _ => b0 = 18) := Fr.clr Fr.rf (fun _ => rfl)
  have hJ116_26 : FrJ jv107_24 (clr jv107_24 (18) 0) (fun b0 _ => b0 = 18) := FrJ.clr FrJ.rf (fun _ => rfl)
  have z3 := (hU116_26 _ _ (by decide)).trans z3
  have z4 := (hU116_26 _ _ (by decide)).trans z4
  have z6 := (hU116_26 _ _ (by decide)).trans z6
  have z7 := (hU116_26 _ _ (by decide)).trans z7
  have i0_5 := (hU116_26 _ _ (by decide)).trans i0_5
  have hFr := hFr.tr (hU116_26.mono (P' := fun lb _ => 0 ≤ lb ∧ lb < 43) (fun lb j h => by rw [h]; exact ⟨by decide, by decide⟩))
  have hFj := hFj.tr (hJ116_26.mono (P' := fun lb _ => 0 ≤ lb ∧ lb < 43) (fun lb j h => by rw [h]; exact ⟨by decide, by decide⟩))
  generalize clr iv107_24 (18) 0 = iv116_26 at hH hFr hU116_26 z3 z4 z6 z7 i0_5
  generalize clr jv107_24 (18) 0 = jv116_26 at hH hFj hJ116_26 
  refine rg_putrF hE hH cf_X11 fl_X11_50 rfl fn_X11_18 fo_X11_18 hnm (w0.1) (w0.2) (v := 18) (w18.1) dX11_init_118 (fun H locs hH => ?_)
  have hX118_27 := GX.set (G := G116_26) (lb := 0) (k := 18) (v := some (18))
  have hS118_27 := EX.set (G := G116_26) (lb := 0) (k := 18) (v := some (18))
  have q0_18 := setR_s (G := G116_26) (lb := 0) (k := 18) (v := some (18))
  generalize (G116_26.setR (up2 G116_26.rv 0 18 (some 18))) = G118_27 at hH hX118_27 hS118_27 q0_18
  have hl : lv_has ls 1 [(0, .ref (G118_27.ad 0))] := by rw [hS118_27.adm (w0.1)]; exact hl
  have w0 := And.intro (hS118_27.mem w0.1) (hS118_27.kd w0.2)
  have hfr : ∀ x, 19 ≤ x → x < 43 → x ∉ G118_27.L := fun x h1 h2 => hS118_27.nin (hfr x (Nat.le_trans (by decide) h1) h2) (Or.inr (Nat.le_trans (by decide) h1))
  have hkd : ∀ i, i < 111 → G118_27.kd i = kd0 i := by rw [EX_kd hS118_27]; exact hkd
  have w1 := w1.em hS118_27
  have q0_1 := hX118_27.rv List.not_mem_nil (fun h => absurd h.2 (by decide)) q0_1
  have w2 := w2.em hS118_27
  have q0_2 := hX118_27.rv List.not_mem_nil (fun h => absurd h.2 (by decide)) q0_2
  have w8 := w8.em hS118_27
  have q0_8 := hX118_27.rv List.not_mem_nil (fun h => absurd h.2 (by decide)) q0_8
  have w9 := w9.em hS118_27
  have q0_9 := hX118_27.rv List.not_mem_nil (fun h => absurd h.2 (by decide)) q0_9
  have w10 := w10.em hS118_27
  have q0_10 := hX118_27.rv List.not_mem_nil (fun h => absurd h.2 (by decide)) q0_10
  have w11 := w11.em hS118_27
  have q0_11 := hX118_27.rv List.not_mem_nil (fun h => absurd h.2 (by decide)) q0_11
  have w12 := w12.em hS118_27
  have q0_12 := hX118_27.rv List.not_mem_nil (fun h => absurd h.2 (by decide)) q0_12
  have w13 := w13.em hS118_27
  have q0_13 := hX118_27.rv List.not_mem_nil (fun h => absurd h.2 (by decide)) q0_13
  have w14 := w14.em hS118_27
  have q0_14 := hX118_27.rv List.not_mem_nil (fun h => absurd h.2 (by decide)) q0_14
  have w15 := w15.em hS118_27
  have q0_15 := hX118_27.rv List.not_mem_nil (fun h => absurd h.2 (by decide)) q0_15
  have w16 := w16.em hS118_27
  have q0_16 := hX118_27.rv List.not_mem_nil (fun h => absurd h.2 (by decide)) q0_16
  have w17 := w17.em hS118_27
  have q0_17 := hX118_27.rv List.not_mem_nil (fun h => absurd h.2 (by decide)) q0_17
  have w18 := w18.em hS118_27
  have hEX := hEX.tr (hS118_27.mono (c := 0) (d := 43) (by decide) (by decide))
  refine lv_aload_n hE.1 hE.2.1 dX11_init_121 rfl (lv_at hl 0 rfl) ?_
  refine lv_sipush (v := nI 492) hE.1 hE.2.1 dX11_init_122 (by decide) ?_
  refine rg_newI (ty := .int) rfl hE hH (19) (hfr (19) (by omega) (by omega)) (hkd 19 (by decide)) (Or.inr (Or.inl ⟨rfl, rfl⟩)) (by omega) (by show 0 + 1 + 1 + 1 + 1 + 1 + 1 + 1 + 1 + 1 + 1 + 1 + 1 + 1 + 1 ≤ 27; omega) (by show 0 + 1000 + 2000 + 6 + 6 + 36 + 252 + 2016 + 1200 + 240 + 2400 + 12 + 12 + 492 + 492 ≤ 40000; omega) dX11_init_125 (fun G125_28 H hX125_28 hln125_28 hrv125_28 hH => ?_)
  have hS125_28 := hX125_28.ex1 (hfr (19) (by omega) (by omega))
  have w19 : isA G125_28 (19) 13 492 := ⟨hX125_28.new (List.mem_singleton_self _), hX125_28.kd (hkd 19 (by decide)), hln125_28⟩
  have hl : lv_has ls 1 [(0, .ref (G125_28.ad 0))] := by rw [hS125_28.adm (w0.1)]; exact hl
  refine rg_st (st' := [.ref (G125_28.ad 19), .ref (G125_28.ad 0)]) (by rw [hS125_28.adm (w0.1)]) ?_
  have w0 := And.intro (hS125_28.mem w0.1) (hS125_28.kd w0.2)
  have hfr : ∀ x, 20 ≤ x → x < 43 → x ∉ G125_28.L := fun x h1 h2 => hS125_28.nin (hfr x (Nat.le_trans (by decide) h1) h2) (Or.inr (Nat.le_trans (by decide) h1))
  have hkd : ∀ i, i < 111 → G125_28.kd i = kd0 i := by rw [EX_kd hS125_28]; exact hkd
  have w1 := w1.em hS125_28
  have q0_1 := hS125_28.rv (Or.inl (by decide)) q0_1
  have w2 := w2.em hS125_28
  have q0_2 := hS125_28.rv (Or.inl (by decide)) q0_2
  have w8 := w8.em hS125_28
  have q0_8 := hS125_28.rv (Or.inl (by decide)) q0_8
  have w9 := w9.em hS125_28
  have q0_9 := hS125_28.rv (Or.inl (by decide)) q0_9
  have w10 := w10.em hS125_28
  have q0_10 := hS125_28.rv (Or.inl (by decide)) q0_10
  have w11 := w11.em hS125_28
  have q0_11 := hS125_28.rv (Or.inl (by decide)) q0_11
  have w12 := w12.em hS125_28
  have q0_12 := hS125_28.rv (Or.inl (by decide)) q0_12
  have w13 := w13.em hS125_28
  have q0_13 := hS125_28.rv (Or.inl (by decide)) q0_13
  have w14 := w14.em hS125_28
  have q0_14 := hS125_28.rv (Or.inl (by decide)) q0_14
  have w15 := w15.em hS125_28
  have q0_15 := hS125_28.rv (Or.inl (by decide)) q0_15
  have w16 := w16.em hS125_28
  have q0_16 := hS125_28.rv (Or.inl (by decide)) q0_16
  have w17 := w17.em hS125_28
  have q0_17 := hS125_28.rv (Or.inl (by decide)) q0_17
  have w18 := w18.em hS125_28
  have q0_18 := hS125_28.rv (Or.inl (by decide)) q0_18
  have hEX := hEX.tr (hS125_28.mono (c := 0) (d := 43) (by decide) (by decide))
  have hU125_28 : Fr iv116_26 (clr iv116_26 (19) 0) (fun b0 _ => b0 = 19) := Fr.clr Fr.rf (fun _ => rfl)
  have hJ125_28 : FrJ jv116_26 (clr jv116_26 (19) 0) (fun b0 _ => b0 = 19) := FrJ.clr FrJ.rf (fun _ => rfl)
  have z3 := (hU125_28 _ _ (by decide)).trans z3
  have z4 := (hU125_28 _ _ (by decide)).trans z4
  have z6 := (hU125_28 _ _ (by decide)).trans z6
  have z7 := (hU125_28 _ _ (by decide)).trans z7
  have i0_5 := (hU125_28 _ _ (by decide)).trans i0_5
  have hFr := hFr.tr (hU125_28.mono (P' := fun lb _ => 0 ≤ lb ∧ lb < 43) (fun lb j h => by rw [h]; exact ⟨by decide, by decide⟩))
  have hFj := hFj.tr (hJ125_28.mono (P' := fun lb _ => 0 ≤ lb ∧ lb < 43) (fun lb j h => by rw [h]; exact ⟨by decide, by decide⟩))
  generalize clr iv116_26 (19) 0 = iv125_28 at hH hFr hU125_28 z3 z4 z6 z7 i0_5
  generalize clr jv116_26 (19) 0 = jv125_28 at hH hFj hJ125_28 
  refine rg_putrF hE hH cf_X11 fl_X11_53 rfl fn_X11_19 fo_X11_19 hnm (w0.1) (w0.2) (v := 19) (w19.1) dX11_init_127 (fun H locs hH => ?_)
  have hX127_29 := GX.set (G := G125_28) (lb := 0) (k := 19) (v := some (19))
  have hS127_29 := EX.set (G := G125_28) (lb := 0) (k := 19) (v := some (19))
  have q0_19 := setR_s (G := G125_28) (lb := 0) (k := 19) (v := some (19))
  generalize (G125_28.setR (up2 G125_28.rv 0 19 (some 19))) = G127_29 at hH hX127_29 hS127_29 q0_19
  have hl : lv_has ls 1 [(0, .ref (G127_29.ad 0))] := by rw [hS127_29.adm (w0.1)]; exact hl
  have w0 := And.intro (hS127_29.mem w0.1) (hS127_29.kd w0.2)
  have hfr : ∀ x, 20 ≤ x → x < 43 → x ∉ G127_29.L := fun x h1 h2 => hS127_29.nin (hfr x (Nat.le_trans (by decide) h1) h2) (Or.inr (Nat.le_trans (by decide) h1))
  have hkd : ∀ i, i < 111 → G127_29.kd i = kd0 i := by rw [EX_kd hS127_29]; exact hkd
  have w1 := w1.em hS127_29
  have q0_1 := hX127_29.rv List.not_mem_nil (fun h => absurd h.2 (by decide)) q0_1
  have w2 := w2.em hS127_29
  have q0_2 := hX127_29.rv List.not_mem_nil (fun h => absurd h.2 (by decide)) q0_2
  have w8 := w8.em hS127_29
  have q0_8 := hX127_29.rv List.not_mem_nil (fun h => absurd h.2 (by decide)) q0_8
  have w9 := w9.em hS127_29
  have q0_9 := hX127_29.rv List.not_mem_nil (fun h => absurd h.2 (by decide)) q0_9
  have w10 := w10.em hS127_29
  have q0_10 := hX127_29.rv List.not_mem_nil (fun h => absurd h.2 (by decide)) q0_10
  have w11 := w11.em hS127_29
  have q0_11 := hX127_29.rv List.not_mem_nil (fun h => absurd h.2 (by decide)) q0_11
  have w12 := w12.em hS127_29
  have q0_12 := hX127_29.rv List.not_mem_nil (fun h => absurd h.2 (by decide)) q0_12
  have w13 := w13.em hS127_29
  have q0_13 := hX127_29.rv List.not_mem_nil (fun h => absurd h.2 (by decide)) q0_13
  have w14 := w14.em hS127_29
  have q0_14 := hX127_29.rv List.not_mem_nil (fun h => absurd h.2 (by decide)) q0_14
  have w15 := w15.em hS127_29
  have q0_15 := hX127_29.rv List.not_mem_nil (fun h => absurd h.2 (by decide)) q0_15
  have w16 := w16.em hS127_29
  have q0_16 := hX127_29.rv List.not_mem_nil (fun h => absurd h.2 (by decide)) q0_16
  have w17 := w17.em hS127_29
  have q0_17 := hX127_29.rv List.not_mem_nil (fun h => absurd h.2 (by decide)) q0_17
  have w18 := w18.em hS127_29
  have q0_18 := hX127_29.rv List.not_mem_nil (fun h => absurd h.2 (by decide)) q0_18
  have w19 := w19.em hS127_29
  have hEX := hEX.tr (hS127_29.mono (c := 0) (d := 43) (by decide) (by decide))
  refine lv_aload_n hE.1 hE.2.1 dX11_init_130 rfl (lv_at hl 0 rfl) ?_
  refine lv_sipush (v := nI 2400) hE.1 hE.2.1 dX11_init_131 (by decide) ?_
  refine rg_newI (ty := .int) rfl hE hH (20) (hfr (20) (by omega) (by omega)) (hkd 20 (by decide)) (Or.inr (Or.inl ⟨rfl, rfl⟩)) (by omega) (by show 0 + 1 + 1 + 1 + 1 + 1 + 1 + 1 + 1 + 1 + 1 + 1 + 1 + 1 + 1 + 1 ≤ 27; omega) (by show 0 + 1000 + 2000 + 6 + 6 + 36 + 252 + 2016 + 1200 + 240 + 2400 + 12 + 12 + 492 + 492 + 2400 ≤ 40000; omega) dX11_init_134 (fun G134_30 H hX134_30 hln134_30 hrv134_30 hH => ?_)
  have hS134_30 := hX134_30.ex1 (hfr (20) (by omega) (by omega))
  have w20 : isA G134_30 (20) 13 2400 := ⟨hX134_30.new (List.mem_singleton_self _), hX134_30.kd (hkd 20 (by decide)), hln134_30⟩
  have hl : lv_has ls 1 [(0, .ref (G134_30.ad 0))] := by rw [hS134_30.adm (w0.1)]; exact hl
  refine rg_st (st' := [.ref (G134_30.ad 20), .ref (G134_30.ad 0)]) (by rw [hS134_30.adm (w0.1)]) ?_
  have w0 := And.intro (hS134_30.mem w0.1) (hS134_30.kd w0.2)
  have hfr : ∀ x, 21 ≤ x → x < 43 → x ∉ G134_30.L := fun x h1 h2 => hS134_30.nin (hfr x (Nat.le_trans (by decide) h1) h2) (Or.inr (Nat.le_trans (by decide) h1))
  have hkd : ∀ i, i < 111 → G134_30.kd i = kd0 i := by rw [EX_kd hS134_30]; exact hkd
  have w1 := w1.em hS134_30
  have q0_1 := hS134_30.rv (Or.inl (by decide)) q0_1
  have w2 := w2.em hS134_30
  have q0_2 := hS134_30.rv (Or.inl (by decide)) q0_2
  have w8 := w8.em hS134_30
  have q0_8 := hS134_30.rv (Or.inl (by decide)) q0_8
  have w9 := w9.em hS134_30
  have q0_9 := hS134_30.rv (Or.inl (by decide)) q0_9
  have w10 := w10.em hS134_30
  have q0_10 := hS134_30.rv (Or.inl (by decide)) q0_10
  have w11 := w11.em hS134_30
  have q0_11 := hS134_30.rv (Or.inl (by decide)) q0_11
  have w12 := w12.em hS134_30
  have q0_12 := hS134_30.rv (Or.inl (by decide)) q0_12
  have w13 := w13.em hS134_30
  have q0_13 := hS134_30.rv (Or.inl (by decide)) q0_13
  have w14 := w14.em hS134_30
  have q0_14 := hS134_30.rv (Or.inl (by decide)) q0_14
  have w15 := w15.em hS134_30
  have q0_15 := hS134_30.rv (Or.inl (by decide)) q0_15
  have w16 := w16.em hS134_30
  have q0_16 := hS134_30.rv (Or.inl (by decide)) q0_16
  have w17 := w17.em hS134_30
  have q0_17 := hS134_30.rv (Or.inl (by decide)) q0_17
  have w18 := w18.em hS134_30
  have q0_18 := hS134_30.rv (Or.inl (by decide)) q0_18
  have w19 := w19.em hS134_30
  have q0_19 := hS134_30.rv (Or.inl (by decide)) q0_19
  have hEX := hEX.tr (hS134_30.mono (c := 0) (d := 43) (by decide) (by decide))
  have hU134_30 : Fr iv125_28 (clr iv125_28 (20) 0) (fun b0 _ => b0 = 20) := Fr.clr Fr.rf (fun _ => rfl)
  have hJ134_30 : FrJ jv125_28 (clr jv125_28 (20) 0) (fun b0 _ => b0 = 20) := FrJ.clr FrJ.rf (fun _ => rfl)
  have z3 := (hU134_30 _ _ (by decide)).trans z3
  have z4 := (hU134_30 _ _ (by decide)).trans z4
  have z6 := (hU134_30 _ _ (by decide)).trans z6
  have z7 := (hU134_30 _ _ (by decide)).trans z7
  have i0_5 := (hU134_30 _ _ (by decide)).trans i0_5
  have hFr := hFr.tr (hU134_30.mono (P' := fun lb _ => 0 ≤ lb ∧ lb < 43) (fun lb j h => by rw [h]; exact ⟨by decide, by decide⟩))
  have hFj := hFj.tr (hJ134_30.mono (P' := fun lb _ => 0 ≤ lb ∧ lb < 43) (fun lb j h => by rw [h]; exact ⟨by decide, by decide⟩))
  generalize clr iv125_28 (20) 0 = iv134_30 at hH hFr hU134_30 z3 z4 z6 z7 i0_5
  generalize clr jv125_28 (20) 0 = jv134_30 at hH hFj hJ134_30 
  refine rg_putrF hE hH cf_X11 fl_X11_56 rfl fn_X11_20 fo_X11_20 hnm (w0.1) (w0.2) (v := 20) (w20.1) dX11_init_136 (fun H locs hH => ?_)
  have hX136_31 := GX.set (G := G134_30) (lb := 0) (k := 20) (v := some (20))
  have hS136_31 := EX.set (G := G134_30) (lb := 0) (k := 20) (v := some (20))
  have q0_20 := setR_s (G := G134_30) (lb := 0) (k := 20) (v := some (20))
  generalize (G134_30.setR (up2 G134_30.rv 0 20 (some 20))) = G136_31 at hH hX136_31 hS136_31 q0_20
  have hl : lv_has ls 1 [(0, .ref (G136_31.ad 0))] := by rw [hS136_31.adm (w0.1)]; exact hl
  have w0 := And.intro (hS136_31.mem w0.1) (hS136_31.kd w0.2)
  have hfr : ∀ x, 21 ≤ x → x < 43 → x ∉ G136_31.L := fun x h1 h2 => hS136_31.nin (hfr x (Nat.le_trans (by decide) h1) h2) (Or.inr (Nat.le_trans (by decide) h1))
  have hkd : ∀ i, i < 111 → G136_31.kd i = kd0 i := by rw [EX_kd hS136_31]; exact hkd
  have w1 := w1.em hS136_31
  have q0_1 := hX136_31.rv List.not_mem_nil (fun h => absurd h.2 (by decide)) q0_1
  have w2 := w2.em hS136_31
  have q0_2 := hX136_31.rv List.not_mem_nil (fun h => absurd h.2 (by decide)) q0_2
  have w8 := w8.em hS136_31
  have q0_8 := hX136_31.rv List.not_mem_nil (fun h => absurd h.2 (by decide)) q0_8
  have w9 := w9.em hS136_31
  have q0_9 := hX136_31.rv List.not_mem_nil (fun h => absurd h.2 (by decide)) q0_9
  have w10 := w10.em hS136_31
  have q0_10 := hX136_31.rv List.not_mem_nil (fun h => absurd h.2 (by decide)) q0_10
  have w11 := w11.em hS136_31
  have q0_11 := hX136_31.rv List.not_mem_nil (fun h => absurd h.2 (by decide)) q0_11
  have w12 := w12.em hS136_31
  have q0_12 := hX136_31.rv List.not_mem_nil (fun h => absurd h.2 (by decide)) q0_12
  have w13 := w13.em hS136_31
  have q0_13 := hX136_31.rv List.not_mem_nil (fun h => absurd h.2 (by decide)) q0_13
  have w14 := w14.em hS136_31
  have q0_14 := hX136_31.rv List.not_mem_nil (fun h => absurd h.2 (by decide)) q0_14
  have w15 := w15.em hS136_31
  have q0_15 := hX136_31.rv List.not_mem_nil (fun h => absurd h.2 (by decide)) q0_15
  have w16 := w16.em hS136_31
  have q0_16 := hX136_31.rv List.not_mem_nil (fun h => absurd h.2 (by decide)) q0_16
  have w17 := w17.em hS136_31
  have q0_17 := hX136_31.rv List.not_mem_nil (fun h => absurd h.2 (by decide)) q0_17
  have w18 := w18.em hS136_31
  have q0_18 := hX136_31.rv List.not_mem_nil (fun h => absurd h.2 (by decide)) q0_18
  have w19 := w19.em hS136_31
  have q0_19 := hX136_31.rv List.not_mem_nil (fun h => absurd h.2 (by decide)) q0_19
  have w20 := w20.em hS136_31
  have hEX := hEX.tr (hS136_31.mono (c := 0) (d := 43) (by decide) (by decide))
  refine lv_aload_n hE.1 hE.2.1 dX11_init_139 rfl (lv_at hl 0 rfl) ?_
  refine lv_sipush (v := nI 2400) hE.1 hE.2.1 dX11_init_140 (by decide) ?_
  refine rg_newI (ty := .int) rfl hE hH (21) (hfr (21) (by omega) (by omega)) (hkd 21 (by decide)) (Or.inr (Or.inl ⟨rfl, rfl⟩)) (by omega) (by show 0 + 1 + 1 + 1 + 1 + 1 + 1 + 1 + 1 + 1 + 1 + 1 + 1 + 1 + 1 + 1 + 1 ≤ 27; omega) (by show 0 + 1000 + 2000 + 6 + 6 + 36 + 252 + 2016 + 1200 + 240 + 2400 + 12 + 12 + 492 + 492 + 2400 + 2400 ≤ 40000; omega) dX11_init_143 (fun G143_32 H hX143_32 hln143_32 hrv143_32 hH => ?_)
  have hS143_32 := hX143_32.ex1 (hfr (21) (by omega) (by omega))
  have w21 : isA G143_32 (21) 13 2400 := ⟨hX143_32.new (List.mem_singleton_self _), hX143_32.kd (hkd 21 (by decide)), hln143_32⟩
  have hl : lv_has ls 1 [(0, .ref (G143_32.ad 0))] := by rw [hS143_32.adm (w0.1)]; exact hl
  refine rg_st (st' := [.ref (G143_32.ad 21), .ref (G143_32.ad 0)]) (by rw [hS143_32.adm (w0.1)]) ?_
  have w0 := And.intro (hS143_32.mem w0.1) (hS143_32.kd w0.2)
  have hfr : ∀ x, 22 ≤ x → x < 43 → x ∉ G143_32.L := fun x h1 h2 => hS143_32.nin (hfr x (Nat.le_trans (by decide) h1) h2) (Or.inr (Nat.le_trans (by decide) h1))
  have hkd : ∀ i, i < 111 → G143_32.kd i = kd0 i := by rw [EX_kd hS143_32]; exact hkd
  have w1 := w1.em hS143_32
  have q0_1 := hS143_32.rv (Or.inl (by decide)) q0_1
  have w2 := w2.em hS143_32
  have q0_2 := hS143_32.rv (Or.inl (by decide)) q0_2
  have w8 := w8.em hS143_32
  have q0_8 := hS143_32.rv (Or.inl (by decide)) q0_8
  have w9 := w9.em hS143_32
  have q0_9 := hS143_32.rv (Or.inl (by decide)) q0_9
  have w10 := w10.em hS143_32
  have q0_10 := hS143_32.rv (Or.inl (by decide)) q0_10
  have w11 := w11.em hS143_32
  have q0_11 := hS143_32.rv (Or.inl (by decide)) q0_11
  have w12 := w12.em hS143_32
  have q0_12 := hS143_32.rv (Or.inl (by decide)) q0_12
  have w13 := w13.em hS143_32
  have q0_13 := hS143_32.rv (Or.inl (by decide)) q0_13
  have w14 := w14.em hS143_32
  have q0_14 := hS143_32.rv (Or.inl (by decide)) q0_14
  have w15 := w15.em hS143_32
  have q0_15 := hS143_32.rv (Or.inl (by decide)) q0_15
  have w16 := w16.em hS143_32
  have q0_16 := hS143_32.rv (Or.inl (by decide)) q0_16
  have w17 := w17.em hS143_32
  have q0_17 := hS143_32.rv (Or.inl (by decide)) q0_17
  have w18 := w18.em hS143_32
  have q0_18 := hS143_32.rv (Or.inl (by decide)) q0_18
  have w19 := w19.em hS143_32
  have q0_19 := hS143_32.rv (Or.inl (by decide)) q0_19
  have w20 := w20.em hS143_32
  have q0_20 := hS143_32.rv (Or.inl (by decide)) q0_20
  have hEX := hEX.tr (hS143_32.mono (c := 0) (d := 43) (by decide) (by decide))
  have hU143_32 : Fr iv134_30 (clr iv134_30 (21) 0) (fun b0 _ => b0 = 21) := Fr.clr Fr.rf (fun _ => rfl)
  have hJ143_32 : FrJ jv134_30 (clr jv134_30 (21) 0) (fun b0 _ => b0 = 21) := FrJ.clr FrJ.rf (fun _ => rfl)
  have z3 := (hU143_32 _ _ (by decide)).trans z3
  have z4 := (hU143_32 _ _ (by decide)).trans z4
  have z6 := (hU143_32 _ _ (by decide)).trans z6
  have z7 := (hU143_32 _ _ (by decide)).trans z7
  have i0_5 := (hU143_32 _ _ (by decide)).trans i0_5
  have hFr := hFr.tr (hU143_32.mono (P' := fun lb _ => 0 ≤ lb ∧ lb < 43) (fun lb j h => by rw [h]; exact ⟨by decide, by decide⟩))
  have hFj := hFj.tr (hJ143_32.mono (P' := fun lb _ => 0 ≤ lb ∧ lb < 43) (fun lb j h => by rw [h]; exact ⟨by decide, by decide⟩))
  generalize clr iv134_30 (21) 0 = iv143_32 at hH hFr hU143_32 z3 z4 z6 z7 i0_5
  generalize clr jv134_30 (21) 0 = jv143_32 at hH hFj hJ143_32 
  refine rg_putrF hE hH cf_X11 fl_X11_59 rfl fn_X11_21 fo_X11_21 hnm (w0.1) (w0.2) (v := 21) (w21.1) dX11_init_145 (fun H locs hH => ?_)
  have hX145_33 := GX.set (G := G143_32) (lb := 0) (k := 21) (v := some (21))
  have hS145_33 := EX.set (G := G143_32) (lb := 0) (k := 21) (v := some (21))
  have q0_21 := setR_s (G := G143_32) (lb := 0) (k := 21) (v := some (21))
  generalize (G143_32.setR (up2 G143_32.rv 0 21 (some 21))) = G145_33 at hH hX145_33 hS145_33 q0_21
  have hl : lv_has ls 1 [(0, .ref (G145_33.ad 0))] := by rw [hS145_33.adm (w0.1)]; exact hl
  have w0 := And.intro (hS145_33.mem w0.1) (hS145_33.kd w0.2)
  have hfr : ∀ x, 22 ≤ x → x < 43 → x ∉ G145_33.L := fun x h1 h2 => hS145_33.nin (hfr x (Nat.le_trans (by decide) h1) h2) (Or.inr (Nat.le_trans (by decide) h1))
  have hkd : ∀ i, i < 111 → G145_33.kd i = kd0 i := by rw [EX_kd hS145_33]; exact hkd
  have w1 := w1.em hS145_33
  have q0_1 := hX145_33.rv List.not_mem_nil (fun h => absurd h.2 (by decide)) q0_1
  have w2 := w2.em hS145_33
  have q0_2 := hX145_33.rv List.not_mem_nil (fun h => absurd h.2 (by decide)) q0_2
  have w8 := w8.em hS145_33
  have q0_8 := hX145_33.rv List.not_mem_nil (fun h => absurd h.2 (by decide)) q0_8
  have w9 := w9.em hS145_33
  have q0_9 := hX145_33.rv List.not_mem_nil (fun h => absurd h.2 (by decide)) q0_9
  have w10 := w10.em hS145_33
  have q0_10 := hX145_33.rv List.not_mem_nil (fun h => absurd h.2 (by decide)) q0_10
  have w11 := w11.em hS145_33
  have q0_11 := hX145_33.rv List.not_mem_nil (fun h => absurd h.2 (by decide)) q0_11
  have w12 := w12.em hS145_33
  have q0_12 := hX145_33.rv List.not_mem_nil (fun h => absurd h.2 (by decide)) q0_12
  have w13 := w13.em hS145_33
  have q0_13 := hX145_33.rv List.not_mem_nil (fun h => absurd h.2 (by decide)) q0_13
  have w14 := w14.em hS145_33
  have q0_14 := hX145_33.rv List.not_mem_nil (fun h => absurd h.2 (by decide)) q0_14
  have w15 := w15.em hS145_33
  have q0_15 := hX145_33.rv List.not_mem_nil (fun h => absurd h.2 (by decide)) q0_15
  have w16 := w16.em hS145_33
  have q0_16 := hX145_33.rv List.not_mem_nil (fun h => absurd h.2 (by decide)) q0_16
  have w17 := w17.em hS145_33
  have q0_17 := hX145_33.rv List.not_mem_nil (fun h => absurd h.2 (by decide)) q0_17
  have w18 := w18.em hS145_33
  have q0_18 := hX145_33.rv List.not_mem_nil (fun h => absurd h.2 (by decide)) q0_18
  have w19 := w19.em hS145_33
  have q0_19 := hX145_33.rv List.not_mem_nil (fun h => absurd h.2 (by decide)) q0_19
  have w20 := w20.em hS145_33
  have q0_20 := hX145_33.rv List.not_mem_nil (fun h => absurd h.2 (by decide)) q0_20
  have w21 := w21.em hS145_33
  have hEX := hEX.tr (hS145_33.mono (c := 0) (d := 43) (by decide) (by decide))
  refine lv_aload_n hE.1 hE.2.1 dX11_init_148 rfl (lv_at hl 0 rfl) ?_
  refine lv_bipush (v := nI 6) hE.1 hE.2.1 dX11_init_149 (by decide) ?_
  refine rg_newI (ty := .boolean) rfl hE hH (23) (hfr (23) (by omega) (by omega)) (hkd 23 (by decide)) (Or.inr (Or.inr ⟨rfl, rfl⟩)) (by omega) (by show 0 + 1 + 1 + 1 + 1 + 1 + 1 + 1 + 1 + 1 + 1 + 1 + 1 + 1 + 1 + 1 + 1 + 1 ≤ 27; omega) (by show 0 + 1000 + 2000 + 6 + 6 + 36 + 252 + 2016 + 1200 + 240 + 2400 + 12 + 12 + 492 + 492 + 2400 + 2400 + 6 ≤ 40000; omega) dX11_init_151 (fun G151_34 H hX151_34 hln151_34 hrv151_34 hH => ?_)
  have hS151_34 := hX151_34.ex1 (hfr (23) (by omega) (by omega))
  have w23 : isA G151_34 (23) 15 6 := ⟨hX151_34.new (List.mem_singleton_self _), hX151_34.kd (hkd 23 (by decide)), hln151_34⟩
  have hl : lv_has ls 1 [(0, .ref (G151_34.ad 0))] := by rw [hS151_34.adm (w0.1)]; exact hl
  refine rg_st (st' := [.ref (G151_34.ad 23), .ref (G151_34.ad 0)]) (by rw [hS151_34.adm (w0.1)]) ?_
  have w0 := And.intro (hS151_34.mem w0.1) (hS151_34.kd w0.2)
  have hfr : ∀ x, 24 ≤ x → x < 43 → x ∉ G151_34.L := fun x h1 h2 => hS151_34.nin (hfr x (Nat.le_trans (by decide) h1) h2) (Or.inr (Nat.le_trans (by decide) h1))
  have hkd : ∀ i, i < 111 → G151_34.kd i = kd0 i := by rw [EX_kd hS151_34]; exact hkd
  have w1 := w1.em hS151_34
  have q0_1 := hS151_34.rv (Or.inl (by decide)) q0_1
  have w2 := w2.em hS151_34
  have q0_2 := hS151_34.rv (Or.inl (by decide)) q0_2
  have w8 := w8.em hS151_34
  have q0_8 := hS151_34.rv (Or.inl (by decide)) q0_8
  have w9 := w9.em hS151_34
  have q0_9 := hS151_34.rv (Or.inl (by decide)) q0_9
  have w10 := w10.em hS151_34
  have q0_10 := hS151_34.rv (Or.inl (by decide)) q0_10
  have w11 := w11.em hS151_34
  have q0_11 := hS151_34.rv (Or.inl (by decide)) q0_11
  have w12 := w12.em hS151_34
  have q0_12 := hS151_34.rv (Or.inl (by decide)) q0_12
  have w13 := w13.em hS151_34
  have q0_13 := hS151_34.rv (Or.inl (by decide)) q0_13
  have w14 := w14.em hS151_34
  have q0_14 := hS151_34.rv (Or.inl (by decide)) q0_14
  have w15 := w15.em hS151_34
  have q0_15 := hS151_34.rv (Or.inl (by decide)) q0_15
  have w16 := w16.em hS151_34
  have q0_16 := hS151_34.rv (Or.inl (by decide)) q0_16
  have w17 := w17.em hS151_34
  have q0_17 := hS151_34.rv (Or.inl (by decide)) q0_17
  have w18 := w18.em hS151_34
  have q0_18 := hS151_34.rv (Or.inl (by decide)) q0_18
  have w19 := w19.em hS151_34
  have q0_19 := hS151_34.rv (Or.inl (by decide)) q0_19
  have w20 := w20.em hS151_34
  have q0_20 := hS151_34.rv (Or.inl (by decide)) q0_20
  have w21 := w21.em hS151_34
  have q0_21 := hS151_34.rv (Or.inl (by decide)) q0_21
  have hEX := hEX.tr (hS151_34.mono (c := 0) (d := 43) (by decide) (by decide))
  have hU151_34 : Fr iv143_32 (clr iv143_32 (23) 0) (fun b0 _ => b0 = 23) := Fr.clr Fr.rf (fun _ => rfl)
  have hJ151_34 : FrJ jv143_32 (clr jv143_32 (23) 0) (fun b0 _ => b0 = 23) := FrJ.clr FrJ.rf (fun _ => rfl)
  have z3 := (hU151_34 _ _ (by decide)).trans z3
  have z4 := (hU151_34 _ _ (by decide)).trans z4
  have z6 := (hU151_34 _ _ (by decide)).trans z6
  have z7 := (hU151_34 _ _ (by decide)).trans z7
  have i0_5 := (hU151_34 _ _ (by decide)).trans i0_5
  have hFr := hFr.tr (hU151_34.mono (P' := fun lb _ => 0 ≤ lb ∧ lb < 43) (fun lb j h => by rw [h]; exact ⟨by decide, by decide⟩))
  have hFj := hFj.tr (hJ151_34.mono (P' := fun lb _ => 0 ≤ lb ∧ lb < 43) (fun lb j h => by rw [h]; exact ⟨by decide, by decide⟩))
  have hz23 : ∀ j, (clr iv143_32 (23) 0) (23) j = 0 := fun j => clr_s
  generalize clr iv143_32 (23) 0 = iv151_34 at hH hFr hU151_34 z3 z4 z6 z7 i0_5 hz23
  generalize clr jv143_32 (23) 0 = jv151_34 at hH hFj hJ151_34 
  refine rg_putrF hE hH cf_X11 fl_X11_62 rfl fn_X11_23 fo_X11_23 hnm (w0.1) (w0.2) (v := 23) (w23.1) dX11_init_153 (fun H locs hH => ?_)
  have hX153_35 := GX.set (G := G151_34) (lb := 0) (k := 23) (v := some (23))
  have hS153_35 := EX.set (G := G151_34) (lb := 0) (k := 23) (v := some (23))
  have q0_23 := setR_s (G := G151_34) (lb := 0) (k := 23) (v := some (23))
  generalize (G151_34.setR (up2 G151_34.rv 0 23 (some 23))) = G153_35 at hH hX153_35 hS153_35 q0_23
  have hl : lv_has ls 1 [(0, .ref (G153_35.ad 0))] := by rw [hS153_35.adm (w0.1)]; exact hl
  have w0 := And.intro (hS153_35.mem w0.1) (hS153_35.kd w0.2)
  have hfr : ∀ x, 24 ≤ x → x < 43 → x ∉ G153_35.L := fun x h1 h2 => hS153_35.nin (hfr x (Nat.le_trans (by decide) h1) h2) (Or.inr (Nat.le_trans (by decide) h1))
  have hkd : ∀ i, i < 111 → G153_35.kd i = kd0 i := by rw [EX_kd hS153_35]; exact hkd
  have w1 := w1.em hS153_35
  have q0_1 := hX153_35.rv List.not_mem_nil (fun h => absurd h.2 (by decide)) q0_1
  have w2 := w2.em hS153_35
  have q0_2 := hX153_35.rv List.not_mem_nil (fun h => absurd h.2 (by decide)) q0_2
  have w8 := w8.em hS153_35
  have q0_8 := hX153_35.rv List.not_mem_nil (fun h => absurd h.2 (by decide)) q0_8
  have w9 := w9.em hS153_35
  have q0_9 := hX153_35.rv List.not_mem_nil (fun h => absurd h.2 (by decide)) q0_9
  have w10 := w10.em hS153_35
  have q0_10 := hX153_35.rv List.not_mem_nil (fun h => absurd h.2 (by decide)) q0_10
  have w11 := w11.em hS153_35
  have q0_11 := hX153_35.rv List.not_mem_nil (fun h => absurd h.2 (by decide)) q0_11
  have w12 := w12.em hS153_35
  have q0_12 := hX153_35.rv List.not_mem_nil (fun h => absurd h.2 (by decide)) q0_12
  have w13 := w13.em hS153_35
  have q0_13 := hX153_35.rv List.not_mem_nil (fun h => absurd h.2 (by decide)) q0_13
  have w14 := w14.em hS153_35
  have q0_14 := hX153_35.rv List.not_mem_nil (fun h => absurd h.2 (by decide)) q0_14
  have w15 := w15.em hS153_35
  have q0_15 := hX153_35.rv List.not_mem_nil (fun h => absurd h.2 (by decide)) q0_15
  have w16 := w16.em hS153_35
  have q0_16 := hX153_35.rv List.not_mem_nil (fun h => absurd h.2 (by decide)) q0_16
  have w17 := w17.em hS153_35
  have q0_17 := hX153_35.rv List.not_mem_nil (fun h => absurd h.2 (by decide)) q0_17
  have w18 := w18.em hS153_35
  have q0_18 := hX153_35.rv List.not_mem_nil (fun h => absurd h.2 (by decide)) q0_18
  have w19 := w19.em hS153_35
  have q0_19 := hX153_35.rv List.not_mem_nil (fun h => absurd h.2 (by decide)) q0_19
  have w20 := w20.em hS153_35
  have q0_20 := hX153_35.rv List.not_mem_nil (fun h => absurd h.2 (by decide)) q0_20
  have w21 := w21.em hS153_35
  have q0_21 := hX153_35.rv List.not_mem_nil (fun h => absurd h.2 (by decide)) q0_21
  have w23 := w23.em hS153_35
  have hEX := hEX.tr (hS153_35.mono (c := 0) (d := 43) (by decide) (by decide))
  refine lv_aload_n hE.1 hE.2.1 dX11_init_156 rfl (lv_at hl 0 rfl) ?_
  refine lv_bipush (v := nI 6) hE.1 hE.2.1 dX11_init_157 (by decide) ?_
  refine rg_newI (ty := .int) rfl hE hH (24) (hfr (24) (by omega) (by omega)) (hkd 24 (by decide)) (Or.inr (Or.inl ⟨rfl, rfl⟩)) (by omega) (by show 0 + 1 + 1 + 1 + 1 + 1 + 1 + 1 + 1 + 1 + 1 + 1 + 1 + 1 + 1 + 1 + 1 + 1 + 1 ≤ 27; omega) (by show 0 + 1000 + 2000 + 6 + 6 + 36 + 252 + 2016 + 1200 + 240 + 2400 + 12 + 12 + 492 + 492 + 2400 + 2400 + 6 + 6 ≤ 40000; omega) dX11_init_159 (fun G159_36 H hX159_36 hln159_36 hrv159_36 hH => ?_)
  have hS159_36 := hX159_36.ex1 (hfr (24) (by omega) (by omega))
  have w24 : isA G159_36 (24) 13 6 := ⟨hX159_36.new (List.mem_singleton_self _), hX159_36.kd (hkd 24 (by decide)), hln159_36⟩
  have hl : lv_has ls 1 [(0, .ref (G159_36.ad 0))] := by rw [hS159_36.adm (w0.1)]; exact hl
  refine rg_st (st' := [.ref (G159_36.ad 24), .ref (G159_36.ad 0)]) (by rw [hS159_36.adm (w0.1)]) ?_
  have w0 := And.intro (hS159_36.mem w0.1) (hS159_36.kd w0.2)
  have hfr : ∀ x, 25 ≤ x → x < 43 → x ∉ G159_36.L := fun x h1 h2 => hS159_36.nin (hfr x (Nat.le_trans (by decide) h1) h2) (Or.inr (Nat.le_trans (by decide) h1))
  have hkd : ∀ i, i < 111 → G159_36.kd i = kd0 i := by rw [EX_kd hS159_36]; exact hkd
  have w1 := w1.em hS159_36
  have q0_1 := hS159_36.rv (Or.inl (by decide)) q0_1
  have w2 := w2.em hS159_36
  have q0_2 := hS159_36.rv (Or.inl (by decide)) q0_2
  have w8 := w8.em hS159_36
  have q0_8 := hS159_36.rv (Or.inl (by decide)) q0_8
  have w9 := w9.em hS159_36
  have q0_9 := hS159_36.rv (Or.inl (by decide)) q0_9
  have w10 := w10.em hS159_36
  have q0_10 := hS159_36.rv (Or.inl (by decide)) q0_10
  have w11 := w11.em hS159_36
  have q0_11 := hS159_36.rv (Or.inl (by decide)) q0_11
  have w12 := w12.em hS159_36
  have q0_12 := hS159_36.rv (Or.inl (by decide)) q0_12
  have w13 := w13.em hS159_36
  have q0_13 := hS159_36.rv (Or.inl (by decide)) q0_13
  have w14 := w14.em hS159_36
  have q0_14 := hS159_36.rv (Or.inl (by decide)) q0_14
  have w15 := w15.em hS159_36
  have q0_15 := hS159_36.rv (Or.inl (by decide)) q0_15
  have w16 := w16.em hS159_36
  have q0_16 := hS159_36.rv (Or.inl (by decide)) q0_16
  have w17 := w17.em hS159_36
  have q0_17 := hS159_36.rv (Or.inl (by decide)) q0_17
  have w18 := w18.em hS159_36
  have q0_18 := hS159_36.rv (Or.inl (by decide)) q0_18
  have w19 := w19.em hS159_36
  have q0_19 := hS159_36.rv (Or.inl (by decide)) q0_19
  have w20 := w20.em hS159_36
  have q0_20 := hS159_36.rv (Or.inl (by decide)) q0_20
  have w21 := w21.em hS159_36
  have q0_21 := hS159_36.rv (Or.inl (by decide)) q0_21
  have w23 := w23.em hS159_36
  have q0_23 := hS159_36.rv (Or.inl (by decide)) q0_23
  have hEX := hEX.tr (hS159_36.mono (c := 0) (d := 43) (by decide) (by decide))
  have hU159_36 : Fr iv151_34 (clr iv151_34 (24) 0) (fun b0 _ => b0 = 24) := Fr.clr Fr.rf (fun _ => rfl)
  have hJ159_36 : FrJ jv151_34 (clr jv151_34 (24) 0) (fun b0 _ => b0 = 24) := FrJ.clr FrJ.rf (fun _ => rfl)
  have z3 := (hU159_36 _ _ (by decide)).trans z3
  have z4 := (hU159_36 _ _ (by decide)).trans z4
  have z6 := (hU159_36 _ _ (by decide)).trans z6
  have z7 := (hU159_36 _ _ (by decide)).trans z7
  have i0_5 := (hU159_36 _ _ (by decide)).trans i0_5
  have hz23 := (fun (j : Nat) => (hU159_36 _ _ (by omega)).trans (hz23 j))
  have hFr := hFr.tr (hU159_36.mono (P' := fun lb _ => 0 ≤ lb ∧ lb < 43) (fun lb j h => by rw [h]; exact ⟨by decide, by decide⟩))
  have hFj := hFj.tr (hJ159_36.mono (P' := fun lb _ => 0 ≤ lb ∧ lb < 43) (fun lb j h => by rw [h]; exact ⟨by decide, by decide⟩))
  have hz24 : ∀ j, (clr iv151_34 (24) 0) (24) j = 0 := fun j => clr_s
  generalize clr iv151_34 (24) 0 = iv159_36 at hH hFr hU159_36 z3 z4 z6 z7 i0_5 hz23 hz24
  generalize clr jv151_34 (24) 0 = jv159_36 at hH hFj hJ159_36 hz23
  refine rg_putrF hE hH cf_X11 fl_X11_66 rfl fn_X11_24 fo_X11_24 hnm (w0.1) (w0.2) (v := 24) (w24.1) dX11_init_161 (fun H locs hH => ?_)
  have hX161_37 := GX.set (G := G159_36) (lb := 0) (k := 24) (v := some (24))
  have hS161_37 := EX.set (G := G159_36) (lb := 0) (k := 24) (v := some (24))
  have q0_24 := setR_s (G := G159_36) (lb := 0) (k := 24) (v := some (24))
  generalize (G159_36.setR (up2 G159_36.rv 0 24 (some 24))) = G161_37 at hH hX161_37 hS161_37 q0_24
  have hl : lv_has ls 1 [(0, .ref (G161_37.ad 0))] := by rw [hS161_37.adm (w0.1)]; exact hl
  have w0 := And.intro (hS161_37.mem w0.1) (hS161_37.kd w0.2)
  have hfr : ∀ x, 25 ≤ x → x < 43 → x ∉ G161_37.L := fun x h1 h2 => hS161_37.nin (hfr x (Nat.le_trans (by decide) h1) h2) (Or.inr (Nat.le_trans (by decide) h1))
  have hkd : ∀ i, i < 111 → G161_37.kd i = kd0 i := by rw [EX_kd hS161_37]; exact hkd
  have w1 := w1.em hS161_37
  have q0_1 := hX161_37.rv List.not_mem_nil (fun h => absurd h.2 (by decide)) q0_1
  have w2 := w2.em hS161_37
  have q0_2 := hX161_37.rv List.not_mem_nil (fun h => absurd h.2 (by decide)) q0_2
  have w8 := w8.em hS161_37
  have q0_8 := hX161_37.rv List.not_mem_nil (fun h => absurd h.2 (by decide)) q0_8
  have w9 := w9.em hS161_37
  have q0_9 := hX161_37.rv List.not_mem_nil (fun h => absurd h.2 (by decide)) q0_9
  have w10 := w10.em hS161_37
  have q0_10 := hX161_37.rv List.not_mem_nil (fun h => absurd h.2 (by decide)) q0_10
  have w11 := w11.em hS161_37
  have q0_11 := hX161_37.rv List.not_mem_nil (fun h => absurd h.2 (by decide)) q0_11
  have w12 := w12.em hS161_37
  have q0_12 := hX161_37.rv List.not_mem_nil (fun h => absurd h.2 (by decide)) q0_12
  have w13 := w13.em hS161_37
  have q0_13 := hX161_37.rv List.not_mem_nil (fun h => absurd h.2 (by decide)) q0_13
  have w14 := w14.em hS161_37
  have q0_14 := hX161_37.rv List.not_mem_nil (fun h => absurd h.2 (by decide)) q0_14
  have w15 := w15.em hS161_37
  have q0_15 := hX161_37.rv List.not_mem_nil (fun h => absurd h.2 (by decide)) q0_15
  have w16 := w16.em hS161_37
  have q0_16 := hX161_37.rv List.not_mem_nil (fun h => absurd h.2 (by decide)) q0_16
  have w17 := w17.em hS161_37
  have q0_17 := hX161_37.rv List.not_mem_nil (fun h => absurd h.2 (by decide)) q0_17
  have w18 := w18.em hS161_37
  have q0_18 := hX161_37.rv List.not_mem_nil (fun h => absurd h.2 (by decide)) q0_18
  have w19 := w19.em hS161_37
  have q0_19 := hX161_37.rv List.not_mem_nil (fun h => absurd h.2 (by decide)) q0_19
  have w20 := w20.em hS161_37
  have q0_20 := hX161_37.rv List.not_mem_nil (fun h => absurd h.2 (by decide)) q0_20
  have w21 := w21.em hS161_37
  have q0_21 := hX161_37.rv List.not_mem_nil (fun h => absurd h.2 (by decide)) q0_21
  have w23 := w23.em hS161_37
  have q0_23 := hX161_37.rv List.not_mem_nil (fun h => absurd h.2 (by decide)) q0_23
  have w24 := w24.em hS161_37
  have hEX := hEX.tr (hS161_37.mono (c := 0) (d := 43) (by decide) (by decide))
  refine lv_aload_n hE.1 hE.2.1 dX11_init_164 rfl (lv_at hl 0 rfl) ?_
  refine lv_sipush (v := nI 2400) hE.1 hE.2.1 dX11_init_165 (by decide) ?_
  refine rg_newI (ty := .int) rfl hE hH (25) (hfr (25) (by omega) (by omega)) (hkd 25 (by decide)) (Or.inr (Or.inl ⟨rfl, rfl⟩)) (by omega) (by show 0 + 1 + 1 + 1 + 1 + 1 + 1 + 1 + 1 + 1 + 1 + 1 + 1 + 1 + 1 + 1 + 1 + 1 + 1 + 1 ≤ 27; omega) (by show 0 + 1000 + 2000 + 6 + 6 + 36 + 252 + 2016 + 1200 + 240 + 2400 + 12 + 12 + 492 + 492 + 2400 + 2400 + 6 + 6 + 2400 ≤ 40000; omega) dX11_init_168 (fun G168_38 H hX168_38 hln168_38 hrv168_38 hH => ?_)
  have hS168_38 := hX168_38.ex1 (hfr (25) (by omega) (by omega))
  have w25 : isA G168_38 (25) 13 2400 := ⟨hX168_38.new (List.mem_singleton_self _), hX168_38.kd (hkd 25 (by decide)), hln168_38⟩
  have hl : lv_has ls 1 [(0, .ref (G168_38.ad 0))] := by rw [hS168_38.adm (w0.1)]; exact hl
  refine rg_st (st' := [.ref (G168_38.ad 25), .ref (G168_38.ad 0)]) (by rw [hS168_38.adm (w0.1)]) ?_
  have w0 := And.intro (hS168_38.mem w0.1) (hS168_38.kd w0.2)
  have hfr : ∀ x, 26 ≤ x → x < 43 → x ∉ G168_38.L := fun x h1 h2 => hS168_38.nin (hfr x (Nat.le_trans (by decide) h1) h2) (Or.inr (Nat.le_trans (by decide) h1))
  have hkd : ∀ i, i < 111 → G168_38.kd i = kd0 i := by rw [EX_kd hS168_38]; exact hkd
  have w1 := w1.em hS168_38
  have q0_1 := hS168_38.rv (Or.inl (by decide)) q0_1
  have w2 := w2.em hS168_38
  have q0_2 := hS168_38.rv (Or.inl (by decide)) q0_2
  have w8 := w8.em hS168_38
  have q0_8 := hS168_38.rv (Or.inl (by decide)) q0_8
  have w9 := w9.em hS168_38
  have q0_9 := hS168_38.rv (Or.inl (by decide)) q0_9
  have w10 := w10.em hS168_38
  have q0_10 := hS168_38.rv (Or.inl (by decide)) q0_10
  have w11 := w11.em hS168_38
  have q0_11 := hS168_38.rv (Or.inl (by decide)) q0_11
  have w12 := w12.em hS168_38
  have q0_12 := hS168_38.rv (Or.inl (by decide)) q0_12
  have w13 := w13.em hS168_38
  have q0_13 := hS168_38.rv (Or.inl (by decide)) q0_13
  have w14 := w14.em hS168_38
  have q0_14 := hS168_38.rv (Or.inl (by decide)) q0_14
  have w15 := w15.em hS168_38
  have q0_15 := hS168_38.rv (Or.inl (by decide)) q0_15
  have w16 := w16.em hS168_38
  have q0_16 := hS168_38.rv (Or.inl (by decide)) q0_16
  have w17 := w17.em hS168_38
  have q0_17 := hS168_38.rv (Or.inl (by decide)) q0_17
  have w18 := w18.em hS168_38
  have q0_18 := hS168_38.rv (Or.inl (by decide)) q0_18
  have w19 := w19.em hS168_38
  have q0_19 := hS168_38.rv (Or.inl (by decide)) q0_19
  have w20 := w20.em hS168_38
  have q0_20 := hS168_38.rv (Or.inl (by decide)) q0_20
  have w21 := w21.em hS168_38
  have q0_21 := hS168_38.rv (Or.inl (by decide)) q0_21
  have w23 := w23.em hS168_38
  have q0_23 := hS168_38.rv (Or.inl (by decide)) q0_23
  have w24 := w24.em hS168_38
  have q0_24 := hS168_38.rv (Or.inl (by decide)) q0_24
  have hEX := hEX.tr (hS168_38.mono (c := 0) (d := 43) (by decide) (by decide))
  have hU168_38 : Fr iv159_36 (clr iv159_36 (25) 0) (fun b0 _ => b0 = 25) := Fr.clr Fr.rf (fun _ => rfl)
  have hJ168_38 : FrJ jv159_36 (clr jv159_36 (25) 0) (fun b0 _ => b0 = 25) := FrJ.clr FrJ.rf (fun _ => rfl)
  have z3 := (hU168_38 _ _ (by decide)).trans z3
  have z4 := (hU168_38 _ _ (by decide)).trans z4
  have z6 := (hU168_38 _ _ (by decide)).trans z6
  have z7 := (hU168_38 _ _ (by decide)).trans z7
  have i0_5 := (hU168_38 _ _ (by decide)).trans i0_5
  have hz23 := (fun (j : Nat) => (hU168_38 _ _ (by omega)).trans (hz23 j))
  have hz24 := (fun (j : Nat) => (hU168_38 _ _ (by omega)).trans (hz24 j))
  have hFr := hFr.tr (hU168_38.mono (P' := fun lb _ => 0 ≤ lb ∧ lb < 43) (fun lb j h => by rw [h]; exact ⟨by decide, by decide⟩))
  have hFj := hFj.tr (hJ168_38.mono (P' := fun lb _ => 0 ≤ lb ∧ lb < 43) (fun lb j h => by rw [h]; exact ⟨by decide, by decide⟩))
  generalize clr iv159_36 (25) 0 = iv168_38 at hH hFr hU168_38 z3 z4 z6 z7 i0_5 hz23 hz24
  generalize clr jv159_36 (25) 0 = jv168_38 at hH hFj hJ168_38 hz23 hz24
  refine rg_putrF hE hH cf_X11 fl_X11_69 rfl fn_X11_25 fo_X11_25 hnm (w0.1) (w0.2) (v := 25) (w25.1) dX11_init_170 (fun H locs hH => ?_)
  have hX170_39 := GX.set (G := G168_38) (lb := 0) (k := 25) (v := some (25))
  have hS170_39 := EX.set (G := G168_38) (lb := 0) (k := 25) (v := some (25))
  have q0_25 := setR_s (G := G168_38) (lb := 0) (k := 25) (v := some (25))
  generalize (G168_38.setR (up2 G168_38.rv 0 25 (some 25))) = G170_39 at hH hX170_39 hS170_39 q0_25
  have hl : lv_has ls 1 [(0, .ref (G170_39.ad 0))] := by rw [hS170_39.adm (w0.1)]; exact hl
  have w0 := And.intro (hS170_39.mem w0.1) (hS170_39.kd w0.2)
  have hfr : ∀ x, 26 ≤ x → x < 43 → x ∉ G170_39.L := fun x h1 h2 => hS170_39.nin (hfr x (Nat.le_trans (by decide) h1) h2) (Or.inr (Nat.le_trans (by decide) h1))
  have hkd : ∀ i, i < 111 → G170_39.kd i = kd0 i := by rw [EX_kd hS170_39]; exact hkd
  have w1 := w1.em hS170_39
  have q0_1 := hX170_39.rv List.not_mem_nil (fun h => absurd h.2 (by decide)) q0_1
  have w2 := w2.em hS170_39
  have q0_2 := hX170_39.rv List.not_mem_nil (fun h => absurd h.2 (by decide)) q0_2
  have w8 := w8.em hS170_39
  have q0_8 := hX170_39.rv List.not_mem_nil (fun h => absurd h.2 (by decide)) q0_8
  have w9 := w9.em hS170_39
  have q0_9 := hX170_39.rv List.not_mem_nil (fun h => absurd h.2 (by decide)) q0_9
  have w10 := w10.em hS170_39
  have q0_10 := hX170_39.rv List.not_mem_nil (fun h => absurd h.2 (by decide)) q0_10
  have w11 := w11.em hS170_39
  have q0_11 := hX170_39.rv List.not_mem_nil (fun h => absurd h.2 (by decide)) q0_11
  have w12 := w12.em hS170_39
  have q0_12 := hX170_39.rv List.not_mem_nil (fun h => absurd h.2 (by decide)) q0_12
  have w13 := w13.em hS170_39
  have q0_13 := hX170_39.rv List.not_mem_nil (fun h => absurd h.2 (by decide)) q0_13
  have w14 := w14.em hS170_39
  have q0_14 := hX170_39.rv List.not_mem_nil (fun h => absurd h.2 (by decide)) q0_14
  have w15 := w15.em hS170_39
  have q0_15 := hX170_39.rv List.not_mem_nil (fun h => absurd h.2 (by decide)) q0_15
  have w16 := w16.em hS170_39
  have q0_16 := hX170_39.rv List.not_mem_nil (fun h => absurd h.2 (by decide)) q0_16
  have w17 := w17.em hS170_39
  have q0_17 := hX170_39.rv List.not_mem_nil (fun h => absurd h.2 (by decide)) q0_17
  have w18 := w18.em hS170_39
  have q0_18 := hX170_39.rv List.not_mem_nil (fun h => absurd h.2 (by decide)) q0_18
  have w19 := w19.em hS170_39
  have q0_19 := hX170_39.rv List.not_mem_nil (fun h => absurd h.2 (by decide)) q0_19
  have w20 := w20.em hS170_39
  have q0_20 := hX170_39.rv List.not_mem_nil (fun h => absurd h.2 (by decide)) q0_20
  have w21 := w21.em hS170_39
  have q0_21 := hX170_39.rv List.not_mem_nil (fun h => absurd h.2 (by decide)) q0_21
  have w23 := w23.em hS170_39
  have q0_23 := hX170_39.rv List.not_mem_nil (fun h => absurd h.2 (by decide)) q0_23
  have w24 := w24.em hS170_39
  have q0_24 := hX170_39.rv List.not_mem_nil (fun h => absurd h.2 (by decide)) q0_24
  have w25 := w25.em hS170_39
  have hEX := hEX.tr (hS170_39.mono (c := 0) (d := 43) (by decide) (by decide))
  refine lv_aload_n hE.1 hE.2.1 dX11_init_173 rfl (lv_at hl 0 rfl) ?_
  refine lv_sipush (v := nI 2400) hE.1 hE.2.1 dX11_init_174 (by decide) ?_
  refine rg_newI (ty := .int) rfl hE hH (26) (hfr (26) (by omega) (by omega)) (hkd 26 (by decide)) (Or.inr (Or.inl ⟨rfl, rfl⟩)) (by omega) (by show 0 + 1 + 1 + 1 + 1 + 1 + 1 + 1 + 1 + 1 + 1 + 1 + 1 + 1 + 1 + 1 + 1 + 1 + 1 + 1 + 1 ≤ 27; omega) (by show 0 + 1000 + 2000 + 6 + 6 + 36 + 252 + 2016 + 1200 + 240 + 2400 + 12 + 12 + 492 + 492 + 2400 + 2400 + 6 + 6 + 2400 + 2400 ≤ 40000; omega) dX11_init_177 (fun G177_40 H hX177_40 hln177_40 hrv177_40 hH => ?_)
  have hS177_40 := hX177_40.ex1 (hfr (26) (by omega) (by omega))
  have w26 : isA G177_40 (26) 13 2400 := ⟨hX177_40.new (List.mem_singleton_self _), hX177_40.kd (hkd 26 (by decide)), hln177_40⟩
  have hl : lv_has ls 1 [(0, .ref (G177_40.ad 0))] := by rw [hS177_40.adm (w0.1)]; exact hl
  refine rg_st (st' := [.ref (G177_40.ad 26), .ref (G177_40.ad 0)]) (by rw [hS177_40.adm (w0.1)]) ?_
  have w0 := And.intro (hS177_40.mem w0.1) (hS177_40.kd w0.2)
  have hfr : ∀ x, 27 ≤ x → x < 43 → x ∉ G177_40.L := fun x h1 h2 => hS177_40.nin (hfr x (Nat.le_trans (by decide) h1) h2) (Or.inr (Nat.le_trans (by decide) h1))
  have hkd : ∀ i, i < 111 → G177_40.kd i = kd0 i := by rw [EX_kd hS177_40]; exact hkd
  have w1 := w1.em hS177_40
  have q0_1 := hS177_40.rv (Or.inl (by decide)) q0_1
  have w2 := w2.em hS177_40
  have q0_2 := hS177_40.rv (Or.inl (by decide)) q0_2
  have w8 := w8.em hS177_40
  have q0_8 := hS177_40.rv (Or.inl (by decide)) q0_8
  have w9 := w9.em hS177_40
  have q0_9 := hS177_40.rv (Or.inl (by decide)) q0_9
  have w10 := w10.em hS177_40
  have q0_10 := hS177_40.rv (Or.inl (by decide)) q0_10
  have w11 := w11.em hS177_40
  have q0_11 := hS177_40.rv (Or.inl (by decide)) q0_11
  have w12 := w12.em hS177_40
  have q0_12 := hS177_40.rv (Or.inl (by decide)) q0_12
  have w13 := w13.em hS177_40
  have q0_13 := hS177_40.rv (Or.inl (by decide)) q0_13
  have w14 := w14.em hS177_40
  have q0_14 := hS177_40.rv (Or.inl (by decide)) q0_14
  have w15 := w15.em hS177_40
  have q0_15 := hS177_40.rv (Or.inl (by decide)) q0_15
  have w16 := w16.em hS177_40
  have q0_16 := hS177_40.rv (Or.inl (by decide)) q0_16
  have w17 := w17.em hS177_40
  have q0_17 := hS177_40.rv (Or.inl (by decide)) q0_17
  have w18 := w18.em hS177_40
  have q0_18 := hS177_40.rv (Or.inl (by decide)) q0_18
  have w19 := w19.em hS177_40
  have q0_19 := hS177_40.rv (Or.inl (by decide)) q0_19
  have w20 := w20.em hS177_40
  have q0_20 := hS177_40.rv (Or.inl (by decide)) q0_20
  have w21 := w21.em hS177_40
  have q0_21 := hS177_40.rv (Or.inl (by decide)) q0_21
  have w23 := w23.em hS177_40
  have q0_23 := hS177_40.rv (Or.inl (by decide)) q0_23
  have w24 := w24.em hS177_40
  have q0_24 := hS177_40.rv (Or.inl (by decide)) q0_24
  have w25 := w25.em hS177_40
  have q0_25 := hS177_40.rv (Or.inl (by decide)) q0_25
  have hEX := hEX.tr (hS177_40.mono (c := 0) (d := 43) (by decide) (by decide))
  have hU177_40 : Fr iv168_38 (clr iv168_38 (26) 0) (fun b0 _ => b0 = 26) := Fr.clr Fr.rf (fun _ => rfl)
  have hJ177_40 : FrJ jv168_38 (clr jv168_38 (26) 0) (fun b0 _ => b0 = 26) := FrJ.clr FrJ.rf (fun _ => rfl)
  have z3 := (hU177_40 _ _ (by decide)).trans z3
  have z4 := (hU177_40 _ _ (by decide)).trans z4
  have z6 := (hU177_40 _ _ (by decide)).trans z6
  have z7 := (hU177_40 _ _ (by decide)).trans z7
  have i0_5 := (hU177_40 _ _ (by decide)).trans i0_5
  have hz23 := (fun (j : Nat) => (hU177_40 _ _ (by omega)).trans (hz23 j))
  have hz24 := (fun (j : Nat) => (hU177_40 _ _ (by omega)).trans (hz24 j))
  have hFr := hFr.tr (hU177_40.mono (P' := fun lb _ => 0 ≤ lb ∧ lb < 43) (fun lb j h => by rw [h]; exact ⟨by decide, by decide⟩))
  have hFj := hFj.tr (hJ177_40.mono (P' := fun lb _ => 0 ≤ lb ∧ lb < 43) (fun lb j h => by rw [h]; exact ⟨by decide, by decide⟩))
  generalize clr iv168_38 (26) 0 = iv177_40 at hH hFr hU177_40 z3 z4 z6 z7 i0_5 hz23 hz24
  generalize clr jv168_38 (26) 0 = jv177_40 at hH hFj hJ177_40 hz23 hz24
  refine rg_putrF hE hH cf_X11 fl_X11_72 rfl fn_X11_26 fo_X11_26 hnm (w0.1) (w0.2) (v := 26) (w26.1) dX11_init_179 (fun H locs hH => ?_)
  have hX179_41 := GX.set (G := G177_40) (lb := 0) (k := 26) (v := some (26))
  have hS179_41 := EX.set (G := G177_40) (lb := 0) (k := 26) (v := some (26))
  have q0_26 := setR_s (G := G177_40) (lb := 0) (k := 26) (v := some (26))
  generalize (G177_40.setR (up2 G177_40.rv 0 26 (some 26))) = G179_41 at hH hX179_41 hS179_41 q0_26
  have hl : lv_has ls 1 [(0, .ref (G179_41.ad 0))] := by rw [hS179_41.adm (w0.1)]; exact hl
  have w0 := And.intro (hS179_41.mem w0.1) (hS179_41.kd w0.2)
  have hfr : ∀ x, 27 ≤ x → x < 43 → x ∉ G179_41.L := fun x h1 h2 => hS179_41.nin (hfr x (Nat.le_trans (by decide) h1) h2) (Or.inr (Nat.le_trans (by decide) h1))
  have hkd : ∀ i, i < 111 → G179_41.kd i = kd0 i := by rw [EX_kd hS179_41]; exact hkd
  have w1 := w1.em hS179_41
  have q0_1 := hX179_41.rv List.not_mem_nil (fun h => absurd h.2 (by decide)) q0_1
  have w2 := w2.em hS179_41
  have q0_2 := hX179_41.rv List.not_mem_nil (fun h => absurd h.2 (by decide)) q0_2
  have w8 := w8.em hS179_41
  have q0_8 := hX179_41.rv List.not_mem_nil (fun h => absurd h.2 (by decide)) q0_8
  have w9 := w9.em hS179_41
  have q0_9 := hX179_41.rv List.not_mem_nil (fun h => absurd h.2 (by decide)) q0_9
  have w10 := w10.em hS179_41
  have q0_10 := hX179_41.rv List.not_mem_nil (fun h => absurd h.2 (by decide)) q0_10
  have w11 := w11.em hS179_41
  have q0_11 := hX179_41.rv List.not_mem_nil (fun h => absurd h.2 (by decide)) q0_11
  have w12 := w12.em hS179_41
  have q0_12 := hX179_41.rv List.not_mem_nil (fun h => absurd h.2 (by decide)) q0_12
  have w13 := w13.em hS179_41
  have q0_13 := hX179_41.rv List.not_mem_nil (fun h => absurd h.2 (by decide)) q0_13
  have w14 := w14.em hS179_41
  have q0_14 := hX179_41.rv List.not_mem_nil (fun h => absurd h.2 (by decide)) q0_14
  have w15 := w15.em hS179_41
  have q0_15 := hX179_41.rv List.not_mem_nil (fun h => absurd h.2 (by decide)) q0_15
  have w16 := w16.em hS179_41
  have q0_16 := hX179_41.rv List.not_mem_nil (fun h => absurd h.2 (by decide)) q0_16
  have w17 := w17.em hS179_41
  have q0_17 := hX179_41.rv List.not_mem_nil (fun h => absurd h.2 (by decide)) q0_17
  have w18 := w18.em hS179_41
  have q0_18 := hX179_41.rv List.not_mem_nil (fun h => absurd h.2 (by decide)) q0_18
  have w19 := w19.em hS179_41
  have q0_19 := hX179_41.rv List.not_mem_nil (fun h => absurd h.2 (by decide)) q0_19
  have w20 := w20.em hS179_41
  have q0_20 := hX179_41.rv List.not_mem_nil (fun h => absurd h.2 (by decide)) q0_20
  have w21 := w21.em hS179_41
  have q0_21 := hX179_41.rv List.not_mem_nil (fun h => absurd h.2 (by decide)) q0_21
  have w23 := w23.em hS179_41
  have q0_23 := hX179_41.rv List.not_mem_nil (fun h => absurd h.2 (by decide)) q0_23
  have w24 := w24.em hS179_41
  have q0_24 := hX179_41.rv List.not_mem_nil (fun h => absurd h.2 (by decide)) q0_24
  have w25 := w25.em hS179_41
  have q0_25 := hX179_41.rv List.not_mem_nil (fun h => absurd h.2 (by decide)) q0_25
  have w26 := w26.em hS179_41
  have hEX := hEX.tr (hS179_41.mono (c := 0) (d := 43) (by decide) (by decide))
  refine lv_aload_n hE.1 hE.2.1 dX11_init_182 rfl (lv_at hl 0 rfl) ?_
  refine lv_bipush (v := nI 6) hE.1 hE.2.1 dX11_init_183 (by decide) ?_
  refine rg_newI (ty := .int) rfl hE hH (27) (hfr (27) (by omega) (by omega)) (hkd 27 (by decide)) (Or.inr (Or.inl ⟨rfl, rfl⟩)) (by omega) (by show 0 + 1 + 1 + 1 + 1 + 1 + 1 + 1 + 1 + 1 + 1 + 1 + 1 + 1 + 1 + 1 + 1 + 1 + 1 + 1 + 1 + 1 ≤ 27; omega) (by show 0 + 1000 + 2000 + 6 + 6 + 36 + 252 + 2016 + 1200 + 240 + 2400 + 12 + 12 + 492 + 492 + 2400 + 2400 + 6 + 6 + 2400 + 2400 + 6 ≤ 40000; omega) dX11_init_185 (fun G185_42 H hX185_42 hln185_42 hrv185_42 hH => ?_)
  have hS185_42 := hX185_42.ex1 (hfr (27) (by omega) (by omega))
  have w27 : isA G185_42 (27) 13 6 := ⟨hX185_42.new (List.mem_singleton_self _), hX185_42.kd (hkd 27 (by decide)), hln185_42⟩
  have hl : lv_has ls 1 [(0, .ref (G185_42.ad 0))] := by rw [hS185_42.adm (w0.1)]; exact hl
  refine rg_st (st' := [.ref (G185_42.ad 27), .ref (G185_42.ad 0)]) (by rw [hS185_42.adm (w0.1)]) ?_
  have w0 := And.intro (hS185_42.mem w0.1) (hS185_42.kd w0.2)
  have hfr : ∀ x, 28 ≤ x → x < 43 → x ∉ G185_42.L := fun x h1 h2 => hS185_42.nin (hfr x (Nat.le_trans (by decide) h1) h2) (Or.inr (Nat.le_trans (by decide) h1))
  have hkd : ∀ i, i < 111 → G185_42.kd i = kd0 i := by rw [EX_kd hS185_42]; exact hkd
  have w1 := w1.em hS185_42
  have q0_1 := hS185_42.rv (Or.inl (by decide)) q0_1
  have w2 := w2.em hS185_42
  have q0_2 := hS185_42.rv (Or.inl (by decide)) q0_2
  have w8 := w8.em hS185_42
  have q0_8 := hS185_42.rv (Or.inl (by decide)) q0_8
  have w9 := w9.em hS185_42
  have q0_9 := hS185_42.rv (Or.inl (by decide)) q0_9
  have w10 := w10.em hS185_42
  have q0_10 := hS185_42.rv (Or.inl (by decide)) q0_10
  have w11 := w11.em hS185_42
  have q0_11 := hS185_42.rv (Or.inl (by decide)) q0_11
  have w12 := w12.em hS185_42
  have q0_12 := hS185_42.rv (Or.inl (by decide)) q0_12
  have w13 := w13.em hS185_42
  have q0_13 := hS185_42.rv (Or.inl (by decide)) q0_13
  have w14 := w14.em hS185_42
  have q0_14 := hS185_42.rv (Or.inl (by decide)) q0_14
  have w15 := w15.em hS185_42
  have q0_15 := hS185_42.rv (Or.inl (by decide)) q0_15
  have w16 := w16.em hS185_42
  have q0_16 := hS185_42.rv (Or.inl (by decide)) q0_16
  have w17 := w17.em hS185_42
  have q0_17 := hS185_42.rv (Or.inl (by decide)) q0_17
  have w18 := w18.em hS185_42
  have q0_18 := hS185_42.rv (Or.inl (by decide)) q0_18
  have w19 := w19.em hS185_42
  have q0_19 := hS185_42.rv (Or.inl (by decide)) q0_19
  have w20 := w20.em hS185_42
  have q0_20 := hS185_42.rv (Or.inl (by decide)) q0_20
  have w21 := w21.em hS185_42
  have q0_21 := hS185_42.rv (Or.inl (by decide)) q0_21
  have w23 := w23.em hS185_42
  have q0_23 := hS185_42.rv (Or.inl (by decide)) q0_23
  have w24 := w24.em hS185_42
  have q0_24 := hS185_42.rv (Or.inl (by decide)) q0_24
  have w25 := w25.em hS185_42
  have q0_25 := hS185_42.rv (Or.inl (by decide)) q0_25
  have w26 := w26.em hS185_42
  have q0_26 := hS185_42.rv (Or.inl (by decide)) q0_26
  have hEX := hEX.tr (hS185_42.mono (c := 0) (d := 43) (by decide) (by decide))
  have hU185_42 : Fr iv177_40 (clr iv177_40 (27) 0) (fun b0 _ => b0 = 27) := Fr.clr Fr.rf (fun _ => rfl)
  have hJ185_42 : FrJ jv177_40 (clr jv177_40 (27) 0) (fun b0 _ => b0 = 27) := FrJ.clr FrJ.rf (fun _ => rfl)
  have z3 := (hU185_42 _ _ (by decide)).trans z3
  have z4 := (hU185_42 _ _ (by decide)).trans z4
  have z6 := (hU185_42 _ _ (by decide)).trans z6
  have z7 := (hU185_42 _ _ (by decide)).trans z7
  have i0_5 := (hU185_42 _ _ (by decide)).trans i0_5
  have hz23 := (fun (j : Nat) => (hU185_42 _ _ (by omega)).trans (hz23 j))
  have hz24 := (fun (j : Nat) => (hU185_42 _ _ (by omega)).trans (hz24 j))
  have hFr := hFr.tr (hU185_42.mono (P' := fun lb _ => 0 ≤ lb ∧ lb < 43) (fun lb j h => by rw [h]; exact ⟨by decide, by decide⟩))
  have hFj := hFj.tr (hJ185_42.mono (P' := fun lb _ => 0 ≤ lb ∧ lb < 43) (fun lb j h => by rw [h]; exact ⟨by decide, by decide⟩))
  have hz27 : ∀ j, (clr iv177_40 (27) 0) (27) j = 0 := fun j => clr_s
  generalize clr iv177_40 (27) 0 = iv185_42 at hH hFr hU185_42 z3 z4 z6 z7 i0_5 hz23 hz24 hz27
  generalize clr jv177_40 (27) 0 = jv185_42 at hH hFj hJ185_42 hz23 hz24
  refine rg_putrF hE hH cf_X11 fl_X11_75 rfl fn_X11_27 fo_X11_27 hnm (w0.1) (w0.2) (v := 27) (w27.1) dX11_init_187 (fun H locs hH => ?_)
  have hX187_43 := GX.set (G := G185_42) (lb := 0) (k := 27) (v := some (27))
  have hS187_43 := EX.set (G := G185_42) (lb := 0) (k := 27) (v := some (27))
  have q0_27 := setR_s (G := G185_42) (lb := 0) (k := 27) (v := some (27))
  generalize (G185_42.setR (up2 G185_42.rv 0 27 (some 27))) = G187_43 at hH hX187_43 hS187_43 q0_27
  have hl : lv_has ls 1 [(0, .ref (G187_43.ad 0))] := by rw [hS187_43.adm (w0.1)]; exact hl
  have w0 := And.intro (hS187_43.mem w0.1) (hS187_43.kd w0.2)
  have hfr : ∀ x, 28 ≤ x → x < 43 → x ∉ G187_43.L := fun x h1 h2 => hS187_43.nin (hfr x (Nat.le_trans (by decide) h1) h2) (Or.inr (Nat.le_trans (by decide) h1))
  have hkd : ∀ i, i < 111 → G187_43.kd i = kd0 i := by rw [EX_kd hS187_43]; exact hkd
  have w1 := w1.em hS187_43
  have q0_1 := hX187_43.rv List.not_mem_nil (fun h => absurd h.2 (by decide)) q0_1
  have w2 := w2.em hS187_43
  have q0_2 := hX187_43.rv List.not_mem_nil (fun h => absurd h.2 (by decide)) q0_2
  have w8 := w8.em hS187_43
  have q0_8 := hX187_43.rv List.not_mem_nil (fun h => absurd h.2 (by decide)) q0_8
  have w9 := w9.em hS187_43
  have q0_9 := hX187_43.rv List.not_mem_nil (fun h => absurd h.2 (by decide)) q0_9
  have w10 := w10.em hS187_43
  have q0_10 := hX187_43.rv List.not_mem_nil (fun h => absurd h.2 (by decide)) q0_10
  have w11 := w11.em hS187_43
  have q0_11 := hX187_43.rv List.not_mem_nil (fun h => absurd h.2 (by decide)) q0_11
  have w12 := w12.em hS187_43
  have q0_12 := hX187_43.rv List.not_mem_nil (fun h => absurd h.2 (by decide)) q0_12
  have w13 := w13.em hS187_43
  have q0_13 := hX187_43.rv List.not_mem_nil (fun h => absurd h.2 (by decide)) q0_13
  have w14 := w14.em hS187_43
  have q0_14 := hX187_43.rv List.not_mem_nil (fun h => absurd h.2 (by decide)) q0_14
  have w15 := w15.em hS187_43
  have q0_15 := hX187_43.rv List.not_mem_nil (fun h => absurd h.2 (by decide)) q0_15
  have w16 := w16.em hS187_43
  have q0_16 := hX187_43.rv List.not_mem_nil (fun h => absurd h.2 (by decide)) q0_16
  have w17 := w17.em hS187_43
  have q0_17 := hX187_43.rv List.not_mem_nil (fun h => absurd h.2 (by decide)) q0_17
  have w18 := w18.em hS187_43
  have q0_18 := hX187_43.rv List.not_mem_nil (fun h => absurd h.2 (by decide)) q0_18
  have w19 := w19.em hS187_43
  have q0_19 := hX187_43.rv List.not_mem_nil (fun h => absurd h.2 (by decide)) q0_19
  have w20 := w20.em hS187_43
  have q0_20 := hX187_43.rv List.not_mem_nil (fun h => absurd h.2 (by decide)) q0_20
  have w21 := w21.em hS187_43
  have q0_21 := hX187_43.rv List.not_mem_nil (fun h => absurd h.2 (by decide)) q0_21
  have w23 := w23.em hS187_43
  have q0_23 := hX187_43.rv List.not_mem_nil (fun h => absurd h.2 (by decide)) q0_23
  have w24 := w24.em hS187_43
  have q0_24 := hX187_43.rv List.not_mem_nil (fun h => absurd h.2 (by decide)) q0_24
  have w25 := w25.em hS187_43
  have q0_25 := hX187_43.rv List.not_mem_nil (fun h => absurd h.2 (by decide)) q0_25
  have w26 := w26.em hS187_43
  have q0_26 := hX187_43.rv List.not_mem_nil (fun h => absurd h.2 (by decide)) q0_26
  have w27 := w27.em hS187_43
  have hEX := hEX.tr (hS187_43.mono (c := 0) (d := 43) (by decide) (by decide))
  refine lv_aload_n hE.1 hE.2.1 dX11_init_190 rfl (lv_at hl 0 rfl) ?_
  refine lv_sipush (v := nI 2400) hE.1 hE.2.1 dX11_init_191 (by decide) ?_
  refine rg_newI (ty := .int) rfl hE hH (28) (hfr (28) (by omega) (by omega)) (hkd 28 (by decide)) (Or.inr (Or.inl ⟨rfl, rfl⟩)) (by omega) (by show 0 + 1 + 1 + 1 + 1 + 1 + 1 + 1 + 1 + 1 + 1 + 1 + 1 + 1 + 1 + 1 + 1 + 1 + 1 + 1 + 1 + 1 + 1 ≤ 27; omega) (by show 0 + 1000 + 2000 + 6 + 6 + 36 + 252 + 2016 + 1200 + 240 + 2400 + 12 + 12 + 492 + 492 + 2400 + 2400 + 6 + 6 + 2400 + 2400 + 6 + 2400 ≤ 40000; omega) dX11_init_194 (fun G194_44 H hX194_44 hln194_44 hrv194_44 hH => ?_)
  have hS194_44 := hX194_44.ex1 (hfr (28) (by omega) (by omega))
  have w28 : isA G194_44 (28) 13 2400 := ⟨hX194_44.new (List.mem_singleton_self _), hX194_44.kd (hkd 28 (by decide)), hln194_44⟩
  have hl : lv_has ls 1 [(0, .ref (G194_44.ad 0))] := by rw [hS194_44.adm (w0.1)]; exact hl
  refine rg_st (st' := [.ref (G194_44.ad 28), .ref (G194_44.ad 0)]) (by rw [hS194_44.adm (w0.1)]) ?_
  have w0 := And.intro (hS194_44.mem w0.1) (hS194_44.kd w0.2)
  have hfr : ∀ x, 29 ≤ x → x < 43 → x ∉ G194_44.L := fun x h1 h2 => hS194_44.nin (hfr x (Nat.le_trans (by decide) h1) h2) (Or.inr (Nat.le_trans (by decide) h1))
  have hkd : ∀ i, i < 111 → G194_44.kd i = kd0 i := by rw [EX_kd hS194_44]; exact hkd
  have w1 := w1.em hS194_44
  have q0_1 := hS194_44.rv (Or.inl (by decide)) q0_1
  have w2 := w2.em hS194_44
  have q0_2 := hS194_44.rv (Or.inl (by decide)) q0_2
  have w8 := w8.em hS194_44
  have q0_8 := hS194_44.rv (Or.inl (by decide)) q0_8
  have w9 := w9.em hS194_44
  have q0_9 := hS194_44.rv (Or.inl (by decide)) q0_9
  have w10 := w10.em hS194_44
  have q0_10 := hS194_44.rv (Or.inl (by decide)) q0_10
  have w11 := w11.em hS194_44
  have q0_11 := hS194_44.rv (Or.inl (by decide)) q0_11
  have w12 := w12.em hS194_44
  have q0_12 := hS194_44.rv (Or.inl (by decide)) q0_12
  have w13 := w13.em hS194_44
  have q0_13 := hS194_44.rv (Or.inl (by decide)) q0_13
  have w14 := w14.em hS194_44
  have q0_14 := hS194_44.rv (Or.inl (by decide)) q0_14
  have w15 := w15.em hS194_44
  have q0_15 := hS194_44.rv (Or.inl (by decide)) q0_15
  have w16 := w16.em hS194_44
  have q0_16 := hS194_44.rv (Or.inl (by decide)) q0_16
  have w17 := w17.em hS194_44
  have q0_17 := hS194_44.rv (Or.inl (by decide)) q0_17
  have w18 := w18.em hS194_44
  have q0_18 := hS194_44.rv (Or.inl (by decide)) q0_18
  have w19 := w19.em hS194_44
  have q0_19 := hS194_44.rv (Or.inl (by decide)) q0_19
  have w20 := w20.em hS194_44
  have q0_20 := hS194_44.rv (Or.inl (by decide)) q0_20
  have w21 := w21.em hS194_44
  have q0_21 := hS194_44.rv (Or.inl (by decide)) q0_21
  have w23 := w23.em hS194_44
  have q0_23 := hS194_44.rv (Or.inl (by decide)) q0_23
  have w24 := w24.em hS194_44
  have q0_24 := hS194_44.rv (Or.inl (by decide)) q0_24
  have w25 := w25.em hS194_44
  have q0_25 := hS194_44.rv (Or.inl (by decide)) q0_25
  have w26 := w26.em hS194_44
  have q0_26 := hS194_44.rv (Or.inl (by decide)) q0_26
  have w27 := w27.em hS194_44
  have q0_27 := hS194_44.rv (Or.inl (by decide)) q0_27
  have hEX := hEX.tr (hS194_44.mono (c := 0) (d := 43) (by decide) (by decide))
  have hU194_44 : Fr iv185_42 (clr iv185_42 (28) 0) (fun b0 _ => b0 = 28) := Fr.clr Fr.rf (fun _ => rfl)
  have hJ194_44 : FrJ jv185_42 (clr jv185_42 (28) 0) (fun b0 _ => b0 = 28) := FrJ.clr FrJ.rf (fun _ => rfl)
  have z3 := (hU194_44 _ _ (by decide)).trans z3
  have z4 := (hU194_44 _ _ (by decide)).trans z4
  have z6 := (hU194_44 _ _ (by decide)).trans z6
  have z7 := (hU194_44 _ _ (by decide)).trans z7
  have i0_5 := (hU194_44 _ _ (by decide)).trans i0_5
  have hz23 := (fun (j : Nat) => (hU194_44 _ _ (by omega)).trans (hz23 j))
  have hz24 := (fun (j : Nat) => (hU194_44 _ _ (by omega)).trans (hz24 j))
  have hz27 := (fun (j : Nat) => (hU194_44 _ _ (by omega)).trans (hz27 j))
  have hFr := hFr.tr (hU194_44.mono (P' := fun lb _ => 0 ≤ lb ∧ lb < 43) (fun lb j h => by rw [h]; exact ⟨by decide, by decide⟩))
  have hFj := hFj.tr (hJ194_44.mono (P' := fun lb _ => 0 ≤ lb ∧ lb < 43) (fun lb j h => by rw [h]; exact ⟨by decide, by decide⟩))
  generalize clr iv185_42 (28) 0 = iv194_44 at hH hFr hU194_44 z3 z4 z6 z7 i0_5 hz23 hz24 hz27
  generalize clr jv185_42 (28) 0 = jv194_44 at hH hFj hJ194_44 hz23 hz24 hz27
  refine rg_putrF hE hH cf_X11 fl_X11_78 rfl fn_X11_28 fo_X11_28 hnm (w0.1) (w0.2) (v := 28) (w28.1) dX11_init_196 (fun H locs hH => ?_)
  have hX196_45 := GX.set (G := G194_44) (lb := 0) (k := 28) (v := some (28))
  have hS196_45 := EX.set (G := G194_44) (lb := 0) (k := 28) (v := some (28))
  have q0_28 := setR_s (G := G194_44) (lb := 0) (k := 28) (v := some (28))
  generalize (G194_44.setR (up2 G194_44.rv 0 28 (some 28))) = G196_45 at hH hX196_45 hS196_45 q0_28
  have hl : lv_has ls 1 [(0, .ref (G196_45.ad 0))] := by rw [hS196_45.adm (w0.1)]; exact hl
  have w0 := And.intro (hS196_45.mem w0.1) (hS196_45.kd w0.2)
  have hfr : ∀ x, 29 ≤ x → x < 43 → x ∉ G196_45.L := fun x h1 h2 => hS196_45.nin (hfr x (Nat.le_trans (by decide) h1) h2) (Or.inr (Nat.le_trans (by decide) h1))
  have hkd : ∀ i, i < 111 → G196_45.kd i = kd0 i := by rw [EX_kd hS196_45]; exact hkd
  have w1 := w1.em hS196_45
  have q0_1 := hX196_45.rv List.not_mem_nil (fun h => absurd h.2 (by decide)) q0_1
  have w2 := w2.em hS196_45
  have q0_2 := hX196_45.rv List.not_mem_nil (fun h => absurd h.2 (by decide)) q0_2
  have w8 := w8.em hS196_45
  have q0_8 := hX196_45.rv List.not_mem_nil (fun h => absurd h.2 (by decide)) q0_8
  have w9 := w9.em hS196_45
  have q0_9 := hX196_45.rv List.not_mem_nil (fun h => absurd h.2 (by decide)) q0_9
  have w10 := w10.em hS196_45
  have q0_10 := hX196_45.rv List.not_mem_nil (fun h => absurd h.2 (by decide)) q0_10
  have w11 := w11.em hS196_45
  have q0_11 := hX196_45.rv List.not_mem_nil (fun h => absurd h.2 (by decide)) q0_11
  have w12 := w12.em hS196_45
  have q0_12 := hX196_45.rv List.not_mem_nil (fun h => absurd h.2 (by decide)) q0_12
  have w13 := w13.em hS196_45
  have q0_13 := hX196_45.rv List.not_mem_nil (fun h => absurd h.2 (by decide)) q0_13
  have w14 := w14.em hS196_45
  have q0_14 := hX196_45.rv List.not_mem_nil (fun h => absurd h.2 (by decide)) q0_14
  have w15 := w15.em hS196_45
  have q0_15 := hX196_45.rv List.not_mem_nil (fun h => absurd h.2 (by decide)) q0_15
  have w16 := w16.em hS196_45
  have q0_16 := hX196_45.rv List.not_mem_nil (fun h => absurd h.2 (by decide)) q0_16
  have w17 := w17.em hS196_45
  have q0_17 := hX196_45.rv List.not_mem_nil (fun h => absurd h.2 (by decide)) q0_17
  have w18 := w18.em hS196_45
  have q0_18 := hX196_45.rv List.not_mem_nil (fun h => absurd h.2 (by decide)) q0_18
  have w19 := w19.em hS196_45
  have q0_19 := hX196_45.rv List.not_mem_nil (fun h => absurd h.2 (by decide)) q0_19
  have w20 := w20.em hS196_45
  have q0_20 := hX196_45.rv List.not_mem_nil (fun h => absurd h.2 (by decide)) q0_20
  have w21 := w21.em hS196_45
  have q0_21 := hX196_45.rv List.not_mem_nil (fun h => absurd h.2 (by decide)) q0_21
  have w23 := w23.em hS196_45
  have q0_23 := hX196_45.rv List.not_mem_nil (fun h => absurd h.2 (by decide)) q0_23
  have w24 := w24.em hS196_45
  have q0_24 := hX196_45.rv List.not_mem_nil (fun h => absurd h.2 (by decide)) q0_24
  have w25 := w25.em hS196_45
  have q0_25 := hX196_45.rv List.not_mem_nil (fun h => absurd h.2 (by decide)) q0_25
  have w26 := w26.em hS196_45
  have q0_26 := hX196_45.rv List.not_mem_nil (fun h => absurd h.2 (by decide)) q0_26
  have w27 := w27.em hS196_45
  have q0_27 := hX196_45.rv List.not_mem_nil (fun h => absurd h.2 (by decide)) q0_27
  have w28 := w28.em hS196_45
  have hEX := hEX.tr (hS196_45.mono (c := 0) (d := 43) (by decide) (by decide))
  refine lv_aload_n hE.1 hE.2.1 dX11_init_199 rfl (lv_at hl 0 rfl) ?_
  refine lv_iconst (v := nI 5) hE.1 hE.2.1 dX11_init_200 (by decide) ?_
  refine rg_newI (ty := .int) rfl hE hH (37) (hfr (37) (by omega) (by omega)) (hkd 37 (by decide)) (Or.inr (Or.inl ⟨rfl, rfl⟩)) (by omega) (by show 0 + 1 + 1 + 1 + 1 + 1 + 1 + 1 + 1 + 1 + 1 + 1 + 1 + 1 + 1 + 1 + 1 + 1 + 1 + 1 + 1 + 1 + 1 + 1 ≤ 27; omega) (by show 0 + 1000 + 2000 + 6 + 6 + 36 + 252 + 2016 + 1200 + 240 + 2400 + 12 + 12 + 492 + 492 + 2400 + 2400 + 6 + 6 + 2400 + 2400 + 6 + 2400 + 5 ≤ 40000; omega) dX11_init_201 (fun G201_46 H hX201_46 hln201_46 hrv201_46 hH => ?_)
  have hS201_46 := hX201_46.ex1 (hfr (37) (by omega) (by omega))
  have w37 : isA G201_46 (37) 13 5 := ⟨hX201_46.new (List.mem_singleton_self _), hX201_46.kd (hkd 37 (by decide)), hln201_46⟩
  have hl : lv_has ls 1 [(0, .ref (G201_46.ad 0))] := by rw [hS201_46.adm (w0.1)]; exact hl
  refine rg_st (st' := [.ref (G201_46.ad 37), .ref (G201_46.ad 0)]) (by rw [hS201_46.adm (w0.1)]) ?_
  have w0 := And.intro (hS201_46.mem w0.1) (hS201_46.kd w0.2)
  have hfr : ∀ x, 38 ≤ x → x < 43 → x ∉ G201_46.L := fun x h1 h2 => hS201_46.nin (hfr x (Nat.le_trans (by decide) h1) h2) (Or.inr (Nat.le_trans (by decide) h1))
  have hkd : ∀ i, i < 111 → G201_46.kd i = kd0 i := by rw [EX_kd hS201_46]; exact hkd
  have w1 := w1.em hS201_46
  have q0_1 := hS201_46.rv (Or.inl (by decide)) q0_1
  have w2 := w2.em hS201_46
  have q0_2 := hS201_46.rv (Or.inl (by decide)) q0_2
  have w8 := w8.em hS201_46
  have q0_8 := hS201_46.rv (Or.inl (by decide)) q0_8
  have w9 := w9.em hS201_46
  have q0_9 := hS201_46.rv (Or.inl (by decide)) q0_9
  have w10 := w10.em hS201_46
  have q0_10 := hS201_46.rv (Or.inl (by decide)) q0_10
  have w11 := w11.em hS201_46
  have q0_11 := hS201_46.rv (Or.inl (by decide)) q0_11
  have w12 := w12.em hS201_46
  have q0_12 := hS201_46.rv (Or.inl (by decide)) q0_12
  have w13 := w13.em hS201_46
  have q0_13 := hS201_46.rv (Or.inl (by decide)) q0_13
  have w14 := w14.em hS201_46
  have q0_14 := hS201_46.rv (Or.inl (by decide)) q0_14
  have w15 := w15.em hS201_46
  have q0_15 := hS201_46.rv (Or.inl (by decide)) q0_15
  have w16 := w16.em hS201_46
  have q0_16 := hS201_46.rv (Or.inl (by decide)) q0_16
  have w17 := w17.em hS201_46
  have q0_17 := hS201_46.rv (Or.inl (by decide)) q0_17
  have w18 := w18.em hS201_46
  have q0_18 := hS201_46.rv (Or.inl (by decide)) q0_18
  have w19 := w19.em hS201_46
  have q0_19 := hS201_46.rv (Or.inl (by decide)) q0_19
  have w20 := w20.em hS201_46
  have q0_20 := hS201_46.rv (Or.inl (by decide)) q0_20
  have w21 := w21.em hS201_46
  have q0_21 := hS201_46.rv (Or.inl (by decide)) q0_21
  have w23 := w23.em hS201_46
  have q0_23 := hS201_46.rv (Or.inl (by decide)) q0_23
  have w24 := w24.em hS201_46
  have q0_24 := hS201_46.rv (Or.inl (by decide)) q0_24
  have w25 := w25.em hS201_46
  have q0_25 := hS201_46.rv (Or.inl (by decide)) q0_25
  have w26 := w26.em hS201_46
  have q0_26 := hS201_46.rv (Or.inl (by decide)) q0_26
  have w27 := w27.em hS201_46
  have q0_27 := hS201_46.rv (Or.inl (by decide)) q0_27
  have w28 := w28.em hS201_46
  have q0_28 := hS201_46.rv (Or.inl (by decide)) q0_28
  have hEX := hEX.tr (hS201_46.mono (c := 0) (d := 43) (by decide) (by decide))
  have hU201_46 : Fr iv194_44 (clr iv194_44 (37) 0) (fun b0 _ => b0 = 37) := Fr.clr Fr.rf (fun _ => rfl)
  have hJ201_46 : FrJ jv194_44 (clr jv194_44 (37) 0) (fun b0 _ => b0 = 37) := FrJ.clr FrJ.rf (fun _ => rfl)
  have z3 := (hU201_46 _ _ (by decide)).trans z3
  have z4 := (hU201_46 _ _ (by decide)).trans z4
  have z6 := (hU201_46 _ _ (by decide)).trans z6
  have z7 := (hU201_46 _ _ (by decide)).trans z7
  have i0_5 := (hU201_46 _ _ (by decide)).trans i0_5
  have hz23 := (fun (j : Nat) => (hU201_46 _ _ (by omega)).trans (hz23 j))
  have hz24 := (fun (j : Nat) => (hU201_46 _ _ (by omega)).trans (hz24 j))
  have hz27 := (fun (j : Nat) => (hU201_46 _ _ (by omega)).trans (hz27 j))
  have hFr := hFr.tr (hU201_46.mono (P' := fun lb _ => 0 ≤ lb ∧ lb < 43) (fun lb j h => by rw [h]; exact ⟨by decide, by decide⟩))
  have hFj := hFj.tr (hJ201_46.mono (P' := fun lb _ => 0 ≤ lb ∧ lb < 43) (fun lb j h => by rw [h]; exact ⟨by decide, by decide⟩))
  generalize clr iv194_44 (37) 0 = iv201_46 at hH hFr hU201_46 z3 z4 z6 z7 i0_5 hz23 hz24 hz27
  generalize clr jv194_44 (37) 0 = jv201_46 at hH hFj hJ201_46 hz23 hz24 hz27
  refine rg_putrF hE hH cf_X11 fl_X11_81 rfl fn_X11_37 fo_X11_37 hnm (w0.1) (w0.2) (v := 37) (w37.1) dX11_init_203 (fun H locs hH => ?_)
  have hX203_47 := GX.set (G := G201_46) (lb := 0) (k := 37) (v := some (37))
  have hS203_47 := EX.set (G := G201_46) (lb := 0) (k := 37) (v := some (37))
  have q0_37 := setR_s (G := G201_46) (lb := 0) (k := 37) (v := some (37))
  generalize (G201_46.setR (up2 G201_46.rv 0 37 (some 37))) = G203_47 at hH hX203_47 hS203_47 q0_37
  have hl : lv_has ls 1 [(0, .ref (G203_47.ad 0))] := by rw [hS203_47.adm (w0.1)]; exact hl
  have w0 := And.intro (hS203_47.mem w0.1) (hS203_47.kd w0.2)
  have hfr : ∀ x, 38 ≤ x → x < 43 → x ∉ G203_47.L := fun x h1 h2 => hS203_47.nin (hfr x (Nat.le_trans (by decide) h1) h2) (Or.inr (Nat.le_trans (by decide) h1))
  have hkd : ∀ i, i < 111 → G203_47.kd i = kd0 i := by rw [EX_kd hS203_47]; exact hkd
  have w1 := w1.em hS203_47
  have q0_1 := hX203_47.rv List.not_mem_nil (fun h => absurd h.2 (by decide)) q0_1
  have w2 := w2.em hS203_47
  have q0_2 := hX203_47.rv List.not_mem_nil (fun h => absurd h.2 (by decide)) q0_2
  have w8 := w8.em hS203_47
  have q0_8 := hX203_47.rv List.not_mem_nil (fun h => absurd h.2 (by decide)) q0_8
  have w9 := w9.em hS203_47
  have q0_9 := hX203_47.rv List.not_mem_nil (fun h => absurd h.2 (by decide)) q0_9
  have w10 := w10.em hS203_47
  have q0_10 := hX203_47.rv List.not_mem_nil (fun h => absurd h.2 (by decide)) q0_10
  have w11 := w11.em hS203_47
  have q0_11 := hX203_47.rv List.not_mem_nil (fun h => absurd h.2 (by decide)) q0_11
  have w12 := w12.em hS203_47
  have q0_12 := hX203_47.rv List.not_mem_nil (fun h => absurd h.2 (by decide)) q0_12
  have w13 := w13.em hS203_47
  have q0_13 := hX203_47.rv List.not_mem_nil (fun h => absurd h.2 (by decide)) q0_13
  have w14 := w14.em hS203_47
  have q0_14 := hX203_47.rv List.not_mem_nil (fun h => absurd h.2 (by decide)) q0_14
  have w15 := w15.em hS203_47
  have q0_15 := hX203_47.rv List.not_mem_nil (fun h => absurd h.2 (by decide)) q0_15
  have w16 := w16.em hS203_47
  have q0_16 := hX203_47.rv List.not_mem_nil (fun h => absurd h.2 (by decide)) q0_16
  have w17 := w17.em hS203_47
  have q0_17 := hX203_47.rv List.not_mem_nil (fun h => absurd h.2 (by decide)) q0_17
  have w18 := w18.em hS203_47
  have q0_18 := hX203_47.rv List.not_mem_nil (fun h => absurd h.2 (by decide)) q0_18
  have w19 := w19.em hS203_47
  have q0_19 := hX203_47.rv List.not_mem_nil (fun h => absurd h.2 (by decide)) q0_19
  have w20 := w20.em hS203_47
  have q0_20 := hX203_47.rv List.not_mem_nil (fun h => absurd h.2 (by decide)) q0_20
  have w21 := w21.em hS203_47
  have q0_21 := hX203_47.rv List.not_mem_nil (fun h => absurd h.2 (by decide)) q0_21
  have w23 := w23.em hS203_47
  have q0_23 := hX203_47.rv List.not_mem_nil (fun h => absurd h.2 (by decide)) q0_23
  have w24 := w24.em hS203_47
  have q0_24 := hX203_47.rv List.not_mem_nil (fun h => absurd h.2 (by decide)) q0_24
  have w25 := w25.em hS203_47
  have q0_25 := hX203_47.rv List.not_mem_nil (fun h => absurd h.2 (by decide)) q0_25
  have w26 := w26.em hS203_47
  have q0_26 := hX203_47.rv List.not_mem_nil (fun h => absurd h.2 (by decide)) q0_26
  have w27 := w27.em hS203_47
  have q0_27 := hX203_47.rv List.not_mem_nil (fun h => absurd h.2 (by decide)) q0_27
  have w28 := w28.em hS203_47
  have q0_28 := hX203_47.rv List.not_mem_nil (fun h => absurd h.2 (by decide)) q0_28
  have w37 := w37.em hS203_47
  have hEX := hEX.tr (hS203_47.mono (c := 0) (d := 43) (by decide) (by decide))
  refine lv_aload_n hE.1 hE.2.1 dX11_init_206 rfl (lv_at hl 0 rfl) ?_
  refine lv_sipush (v := nI 2000) hE.1 hE.2.1 dX11_init_207 (by decide) ?_
  refine rg_newI (ty := .int) rfl hE hH (38) (hfr (38) (by omega) (by omega)) (hkd 38 (by decide)) (Or.inr (Or.inl ⟨rfl, rfl⟩)) (by omega) (by show 0 + 1 + 1 + 1 + 1 + 1 + 1 + 1 + 1 + 1 + 1 + 1 + 1 + 1 + 1 + 1 + 1 + 1 + 1 + 1 + 1 + 1 + 1 + 1 + 1 ≤ 27; omega) (by show 0 + 1000 + 2000 + 6 + 6 + 36 + 252 + 2016 + 1200 + 240 + 2400 + 12 + 12 + 492 + 492 + 2400 + 2400 + 6 + 6 + 2400 + 2400 + 6 + 2400 + 5 + 2000 ≤ 40000; omega) dX11_init_210 (fun G210_48 H hX210_48 hln210_48 hrv210_48 hH => ?_)
  have hS210_48 := hX210_48.ex1 (hfr (38) (by omega) (by omega))
  have w38 : isA G210_48 (38) 13 2000 := ⟨hX210_48.new (List.mem_singleton_self _), hX210_48.kd (hkd 38 (by decide)), hln210_48⟩
  have hl : lv_has ls 1 [(0, .ref (G210_48.ad 0))] := by rw [hS210_48.adm (w0.1)]; exact hl
  refine rg_st (st' := [.ref (G210_48.ad 38), .ref (G210_48.ad 0)]) (by rw [hS210_48.adm (w0.1)]) ?_
  have w0 := And.intro (hS210_48.mem w0.1) (hS210_48.kd w0.2)
  have hfr : ∀ x, 39 ≤ x → x < 43 → x ∉ G210_48.L := fun x h1 h2 => hS210_48.nin (hfr x (Nat.le_trans (by decide) h1) h2) (Or.inr (Nat.le_trans (by decide) h1))
  have hkd : ∀ i, i < 111 → G210_48.kd i = kd0 i := by rw [EX_kd hS210_48]; exact hkd
  have w1 := w1.em hS210_48
  have q0_1 := hS210_48.rv (Or.inl (by decide)) q0_1
  have w2 := w2.em hS210_48
  have q0_2 := hS210_48.rv (Or.inl (by decide)) q0_2
  have w8 := w8.em hS210_48
  have q0_8 := hS210_48.rv (Or.inl (by decide)) q0_8
  have w9 := w9.em hS210_48
  have q0_9 := hS210_48.rv (Or.inl (by decide)) q0_9
  have w10 := w10.em hS210_48
  have q0_10 := hS210_48.rv (Or.inl (by decide)) q0_10
  have w11 := w11.em hS210_48
  have q0_11 := hS210_48.rv (Or.inl (by decide)) q0_11
  have w12 := w12.em hS210_48
  have q0_12 := hS210_48.rv (Or.inl (by decide)) q0_12
  have w13 := w13.em hS210_48
  have q0_13 := hS210_48.rv (Or.inl (by decide)) q0_13
  have w14 := w14.em hS210_48
  have q0_14 := hS210_48.rv (Or.inl (by decide)) q0_14
  have w15 := w15.em hS210_48
  have q0_15 := hS210_48.rv (Or.inl (by decide)) q0_15
  have w16 := w16.em hS210_48
  have q0_16 := hS210_48.rv (Or.inl (by decide)) q0_16
  have w17 := w17.em hS210_48
  have q0_17 := hS210_48.rv (Or.inl (by decide)) q0_17
  have w18 := w18.em hS210_48
  have q0_18 := hS210_48.rv (Or.inl (by decide)) q0_18
  have w19 := w19.em hS210_48
  have q0_19 := hS210_48.rv (Or.inl (by decide)) q0_19
  have w20 := w20.em hS210_48
  have q0_20 := hS210_48.rv (Or.inl (by decide)) q0_20
  have w21 := w21.em hS210_48
  have q0_21 := hS210_48.rv (Or.inl (by decide)) q0_21
  have w23 := w23.em hS210_48
  have q0_23 := hS210_48.rv (Or.inl (by decide)) q0_23
  have w24 := w24.em hS210_48
  have q0_24 := hS210_48.rv (Or.inl (by decide)) q0_24
  have w25 := w25.em hS210_48
  have q0_25 := hS210_48.rv (Or.inl (by decide)) q0_25
  have w26 := w26.em hS210_48
  have q0_26 := hS210_48.rv (Or.inl (by decide)) q0_26
  have w27 := w27.em hS210_48
  have q0_27 := hS210_48.rv (Or.inl (by decide)) q0_27
  have w28 := w28.em hS210_48
  have q0_28 := hS210_48.rv (Or.inl (by decide)) q0_28
  have w37 := w37.em hS210_48
  have q0_37 := hS210_48.rv (Or.inl (by decide)) q0_37
  have hEX := hEX.tr (hS210_48.mono (c := 0) (d := 43) (by decide) (by decide))
  have hU210_48 : Fr iv201_46 (clr iv201_46 (38) 0) (fun b0 _ => b0 = 38) := Fr.clr Fr.rf (fun _ => rfl)
  have hJ210_48 : FrJ jv201_46 (clr jv201_46 (38) 0) (fun b0 _ => b0 = 38) := FrJ.clr FrJ.rf (fun _ => rfl)
  have z3 := (hU210_48 _ _ (by decide)).trans z3
  have z4 := (hU210_48 _ _ (by decide)).trans z4
  have z6 := (hU210_48 _ _ (by decide)).trans z6
  have z7 := (hU210_48 _ _ (by decide)).trans z7
  have i0_5 := (hU210_48 _ _ (by decide)).trans i0_5
  have hz23 := (fun (j : Nat) => (hU210_48 _ _ (by omega)).trans (hz23 j))
  have hz24 := (fun (j : Nat) => (hU210_48 _ _ (by omega)).trans (hz24 j))
  have hz27 := (fun (j : Nat) => (hU210_48 _ _ (by omega)).trans (hz27 j))
  have hFr := hFr.tr (hU210_48.mono (P' := fun lb _ => 0 ≤ lb ∧ lb < 43) (fun lb j h => by rw [h]; exact ⟨by decide, by decide⟩))
  have hFj := hFj.tr (hJ210_48.mono (P' := fun lb _ => 0 ≤ lb ∧ lb < 43) (fun lb j h => by rw [h]; exact ⟨by decide, by decide⟩))
  generalize clr iv201_46 (38) 0 = iv210_48 at hH hFr hU210_48 z3 z4 z6 z7 i0_5 hz23 hz24 hz27
  generalize clr jv201_46 (38) 0 = jv210_48 at hH hFj hJ210_48 hz23 hz24 hz27
  refine rg_putrF hE hH cf_X11 fl_X11_84 rfl fn_X11_38 fo_X11_38 hnm (w0.1) (w0.2) (v := 38) (w38.1) dX11_init_212 (fun H locs hH => ?_)
  have hX212_49 := GX.set (G := G210_48) (lb := 0) (k := 38) (v := some (38))
  have hS212_49 := EX.set (G := G210_48) (lb := 0) (k := 38) (v := some (38))
  have q0_38 := setR_s (G := G210_48) (lb := 0) (k := 38) (v := some (38))
  generalize (G210_48.setR (up2 G210_48.rv 0 38 (some 38))) = G212_49 at hH hX212_49 hS212_49 q0_38
  have hl : lv_has ls 1 [(0, .ref (G212_49.ad 0))] := by rw [hS212_49.adm (w0.1)]; exact hl
  have w0 := And.intro (hS212_49.mem w0.1) (hS212_49.kd w0.2)
  have hfr : ∀ x, 39 ≤ x → x < 43 → x ∉ G212_49.L := fun x h1 h2 => hS212_49.nin (hfr x (Nat.le_trans (by decide) h1) h2) (Or.inr (Nat.le_trans (by decide) h1))
  have hkd : ∀ i, i < 111 → G212_49.kd i = kd0 i := by rw [EX_kd hS212_49]; exact hkd
  have w1 := w1.em hS212_49
  have q0_1 := hX212_49.rv List.not_mem_nil (fun h => absurd h.2 (by decide)) q0_1
  have w2 := w2.em hS212_49
  have q0_2 := hX212_49.rv List.not_mem_nil (fun h => absurd h.2 (by decide)) q0_2
  have w8 := w8.em hS212_49
  have q0_8 := hX212_49.rv List.not_mem_nil (fun h => absurd h.2 (by decide)) q0_8
  have w9 := w9.em hS212_49
  have q0_9 := hX212_49.rv List.not_mem_nil (fun h => absurd h.2 (by decide)) q0_9
  have w10 := w10.em hS212_49
  have q0_10 := hX212_49.rv List.not_mem_nil (fun h => absurd h.2 (by decide)) q0_10
  have w11 := w11.em hS212_49
  have q0_11 := hX212_49.rv List.not_mem_nil (fun h => absurd h.2 (by decide)) q0_11
  have w12 := w12.em hS212_49
  have q0_12 := hX212_49.rv List.not_mem_nil (fun h => absurd h.2 (by decide)) q0_12
  have w13 := w13.em hS212_49
  have q0_13 := hX212_49.rv List.not_mem_nil (fun h => absurd h.2 (by decide)) q0_13
  have w14 := w14.em hS212_49
  have q0_14 := hX212_49.rv List.not_mem_nil (fun h => absurd h.2 (by decide)) q0_14
  have w15 := w15.em hS212_49
  have q0_15 := hX212_49.rv List.not_mem_nil (fun h => absurd h.2 (by decide)) q0_15
  have w16 := w16.em hS212_49
  have q0_16 := hX212_49.rv List.not_mem_nil (fun h => absurd h.2 (by decide)) q0_16
  have w17 := w17.em hS212_49
  have q0_17 := hX212_49.rv List.not_mem_nil (fun h => absurd h.2 (by decide)) q0_17
  have w18 := w18.em hS212_49
  have q0_18 := hX212_49.rv List.not_mem_nil (fun h => absurd h.2 (by decide)) q0_18
  have w19 := w19.em hS212_49
  have q0_19 := hX212_49.rv List.not_mem_nil (fun h => absurd h.2 (by decide)) q0_19
  have w20 := w20.em hS212_49
  have q0_20 := hX212_49.rv List.not_mem_nil (fun h => absurd h.2 (by decide)) q0_20
  have w21 := w21.em hS212_49
  have q0_21 := hX212_49.rv List.not_mem_nil (fun h => absurd h.2 (by decide)) q0_21
  have w23 := w23.em hS212_49
  have q0_23 := hX212_49.rv List.not_mem_nil (fun h => absurd h.2 (by decide)) q0_23
  have w24 := w24.em hS212_49
  have q0_24 := hX212_49.rv List.not_mem_nil (fun h => absurd h.2 (by decide)) q0_24
  have w25 := w25.em hS212_49
  have q0_25 := hX212_49.rv List.not_mem_nil (fun h => absurd h.2 (by decide)) q0_25
  have w26 := w26.em hS212_49
  have q0_26 := hX212_49.rv List.not_mem_nil (fun h => absurd h.2 (by decide)) q0_26
  have w27 := w27.em hS212_49
  have q0_27 := hX212_49.rv List.not_mem_nil (fun h => absurd h.2 (by decide)) q0_27
  have w28 := w28.em hS212_49
  have q0_28 := hX212_49.rv List.not_mem_nil (fun h => absurd h.2 (by decide)) q0_28
  have w37 := w37.em hS212_49
  have q0_37 := hX212_49.rv List.not_mem_nil (fun h => absurd h.2 (by decide)) q0_37
  have w38 := w38.em hS212_49
  have hEX := hEX.tr (hS212_49.mono (c := 0) (d := 43) (by decide) (by decide))
  refine lv_aload_n hE.1 hE.2.1 dX11_init_215 rfl (lv_at hl 0 rfl) ?_
  refine lv_sipush (v := nI 8000) hE.1 hE.2.1 dX11_init_216 (by decide) ?_
  refine rg_newI (ty := .int) rfl hE hH (39) (hfr (39) (by omega) (by omega)) (hkd 39 (by decide)) (Or.inr (Or.inl ⟨rfl, rfl⟩)) (by omega) (by show 0 + 1 + 1 + 1 + 1 + 1 + 1 + 1 + 1 + 1 + 1 + 1 + 1 + 1 + 1 + 1 + 1 + 1 + 1 + 1 + 1 + 1 + 1 + 1 + 1 + 1 ≤ 27; omega) (by show 0 + 1000 + 2000 + 6 + 6 + 36 + 252 + 2016 + 1200 + 240 + 2400 + 12 + 12 + 492 + 492 + 2400 + 2400 + 6 + 6 + 2400 + 2400 + 6 + 2400 + 5 + 2000 + 8000 ≤ 40000; omega) dX11_init_219 (fun G219_50 H hX219_50 hln219_50 hrv219_50 hH => ?_)
  have hS219_50 := hX219_50.ex1 (hfr (39) (by omega) (by omega))
  have w39 : isA G219_50 (39) 13 8000 := ⟨hX219_50.new (List.mem_singleton_self _), hX219_50.kd (hkd 39 (by decide)), hln219_50⟩
  have hl : lv_has ls 1 [(0, .ref (G219_50.ad 0))] := by rw [hS219_50.adm (w0.1)]; exact hl
  refine rg_st (st' := [.ref (G219_50.ad 39), .ref (G219_50.ad 0)]) (by rw [hS219_50.adm (w0.1)]) ?_
  have w0 := And.intro (hS219_50.mem w0.1) (hS219_50.kd w0.2)
  have hfr : ∀ x, 40 ≤ x → x < 43 → x ∉ G219_50.L := fun x h1 h2 => hS219_50.nin (hfr x (Nat.le_trans (by decide) h1) h2) (Or.inr (Nat.le_trans (by decide) h1))
  have hkd : ∀ i, i < 111 → G219_50.kd i = kd0 i := by rw [EX_kd hS219_50]; exact hkd
  have w1 := w1.em hS219_50
  have q0_1 := hS219_50.rv (Or.inl (by decide)) q0_1
  have w2 := w2.em hS219_50
  have q0_2 := hS219_50.rv (Or.inl (by decide)) q0_2
  have w8 := w8.em hS219_50
  have q0_8 := hS219_50.rv (Or.inl (by decide)) q0_8
  have w9 := w9.em hS219_50
  have q0_9 := hS219_50.rv (Or.inl (by decide)) q0_9
  have w10 := w10.em hS219_50
  have q0_10 := hS219_50.rv (Or.inl (by decide)) q0_10
  have w11 := w11.em hS219_50
  have q0_11 := hS219_50.rv (Or.inl (by decide)) q0_11
  have w12 := w12.em hS219_50
  have q0_12 := hS219_50.rv (Or.inl (by decide)) q0_12
  have w13 := w13.em hS219_50
  have q0_13 := hS219_50.rv (Or.inl (by decide)) q0_13
  have w14 := w14.em hS219_50
  have q0_14 := hS219_50.rv (Or.inl (by decide)) q0_14
  have w15 := w15.em hS219_50
  have q0_15 := hS219_50.rv (Or.inl (by decide)) q0_15
  have w16 := w16.em hS219_50
  have q0_16 := hS219_50.rv (Or.inl (by decide)) q0_16
  have w17 := w17.em hS219_50
  have q0_17 := hS219_50.rv (Or.inl (by decide)) q0_17
  have w18 := w18.em hS219_50
  have q0_18 := hS219_50.rv (Or.inl (by decide)) q0_18
  have w19 := w19.em hS219_50
  have q0_19 := hS219_50.rv (Or.inl (by decide)) q0_19
  have w20 := w20.em hS219_50
  have q0_20 := hS219_50.rv (Or.inl (by decide)) q0_20
  have w21 := w21.em hS219_50
  have q0_21 := hS219_50.rv (Or.inl (by decide)) q0_21
  have w23 := w23.em hS219_50
  have q0_23 := hS219_50.rv (Or.inl (by decide)) q0_23
  have w24 := w24.em hS219_50
  have q0_24 := hS219_50.rv (Or.inl (by decide)) q0_24
  have w25 := w25.em hS219_50
  have q0_25 := hS219_50.rv (Or.inl (by decide)) q0_25
  have w26 := w26.em hS219_50
  have q0_26 := hS219_50.rv (Or.inl (by decide)) q0_26
  have w27 := w27.em hS219_50
  have q0_27 := hS219_50.rv (Or.inl (by decide)) q0_27
  have w28 := w28.em hS219_50
  have q0_28 := hS219_50.rv (Or.inl (by decide)) q0_28
  have w37 := w37.em hS219_50
  have q0_37 := hS219_50.rv (Or.inl (by decide)) q0_37
  have w38 := w38.em hS219_50
  have q0_38 := hS219_50.rv (Or.inl (by decide)) q0_38
  have hEX := hEX.tr (hS219_50.mono (c := 0) (d := 43) (by decide) (by decide))
  have hU219_50 : Fr iv210_48 (clr iv210_48 (39) 0) (fun b0 _ => b0 = 39) := Fr.clr Fr.rf (fun _ => rfl)
  have hJ219_50 : FrJ jv210_48 (clr jv210_48 (39) 0) (fun b0 _ => b0 = 39) := FrJ.clr FrJ.rf (fun _ => rfl)
  have z3 := (hU219_50 _ _ (by decide)).trans z3
  have z4 := (hU219_50 _ _ (by decide)).trans z4
  have z6 := (hU219_50 _ _ (by decide)).trans z6
  have z7 := (hU219_50 _ _ (by decide)).trans z7
  have i0_5 := (hU219_50 _ _ (by decide)).trans i0_5
  have hz23 := (fun (j : Nat) => (hU219_50 _ _ (by omega)).trans (hz23 j))
  have hz24 := (fun (j : Nat) => (hU219_50 _ _ (by omega)).trans (hz24 j))
  have hz27 := (fun (j : Nat) => (hU219_50 _ _ (by omega)).trans (hz27 j))
  have hFr := hFr.tr (hU219_50.mono (P' := fun lb _ => 0 ≤ lb ∧ lb < 43) (fun lb j h => by rw [h]; exact ⟨by decide, by decide⟩))
  have hFj := hFj.tr (hJ219_50.mono (P' := fun lb _ => 0 ≤ lb ∧ lb < 43) (fun lb j h => by rw [h]; exact ⟨by decide, by decide⟩))
  generalize clr iv210_48 (39) 0 = iv219_50 at hH hFr hU219_50 z3 z4 z6 z7 i0_5 hz23 hz24 hz27
  generalize clr jv210_48 (39) 0 = jv219_50 at hH hFj hJ219_50 hz23 hz24 hz27
  refine rg_putrF hE hH cf_X11 fl_X11_87 rfl fn_X11_39 fo_X11_39 hnm (w0.1) (w0.2) (v := 39) (w39.1) dX11_init_221 (fun H locs hH => ?_)
  have hX221_51 := GX.set (G := G219_50) (lb := 0) (k := 39) (v := some (39))
  have hS221_51 := EX.set (G := G219_50) (lb := 0) (k := 39) (v := some (39))
  have q0_39 := setR_s (G := G219_50) (lb := 0) (k := 39) (v := some (39))
  generalize (G219_50.setR (up2 G219_50.rv 0 39 (some 39))) = G221_51 at hH hX221_51 hS221_51 q0_39
  have hl : lv_has ls 1 [(0, .ref (G221_51.ad 0))] := by rw [hS221_51.adm (w0.1)]; exact hl
  have w0 := And.intro (hS221_51.mem w0.1) (hS221_51.kd w0.2)
  have hfr : ∀ x, 40 ≤ x → x < 43 → x ∉ G221_51.L := fun x h1 h2 => hS221_51.nin (hfr x (Nat.le_trans (by decide) h1) h2) (Or.inr (Nat.le_trans (by decide) h1))
  have hkd : ∀ i, i < 111 → G221_51.kd i = kd0 i := by rw [EX_kd hS221_51]; exact hkd
  have w1 := w1.em hS221_51
  have q0_1 := hX221_51.rv List.not_mem_nil (fun h => absurd h.2 (by decide)) q0_1
  have w2 := w2.em hS221_51
  have q0_2 := hX221_51.rv List.not_mem_nil (fun h => absurd h.2 (by decide)) q0_2
  have w8 := w8.em hS221_51
  have q0_8 := hX221_51.rv List.not_mem_nil (fun h => absurd h.2 (by decide)) q0_8
  have w9 := w9.em hS221_51
  have q0_9 := hX221_51.rv List.not_mem_nil (fun h => absurd h.2 (by decide)) q0_9
  have w10 := w10.em hS221_51
  have q0_10 := hX221_51.rv List.not_mem_nil (fun h => absurd h.2 (by decide)) q0_10
  have w11 := w11.em hS221_51
  have q0_11 := hX221_51.rv List.not_mem_nil (fun h => absurd h.2 (by decide)) q0_11
  have w12 := w12.em hS221_51
  have q0_12 := hX221_51.rv List.not_mem_nil (fun h => absurd h.2 (by decide)) q0_12
  have w13 := w13.em hS221_51
  have q0_13 := hX221_51.rv List.not_mem_nil (fun h => absurd h.2 (by decide)) q0_13
  have w14 := w14.em hS221_51
  have q0_14 := hX221_51.rv List.not_mem_nil (fun h => absurd h.2 (by decide)) q0_14
  have w15 := w15.em hS221_51
  have q0_15 := hX221_51.rv List.not_mem_nil (fun h => absurd h.2 (by decide)) q0_15
  have w16 := w16.em hS221_51
  have q0_16 := hX221_51.rv List.not_mem_nil (fun h => absurd h.2 (by decide)) q0_16
  have w17 := w17.em hS221_51
  have q0_17 := hX221_51.rv List.not_mem_nil (fun h => absurd h.2 (by decide)) q0_17
  have w18 := w18.em hS221_51
  have q0_18 := hX221_51.rv List.not_mem_nil (fun h => absurd h.2 (by decide)) q0_18
  have w19 := w19.em hS221_51
  have q0_19 := hX221_51.rv List.not_mem_nil (fun h => absurd h.2 (by decide)) q0_19
  have w20 := w20.em hS221_51
  have q0_20 := hX221_51.rv List.not_mem_nil (fun h => absurd h.2 (by decide)) q0_20
  have w21 := w21.em hS221_51
  have q0_21 := hX221_51.rv List.not_mem_nil (fun h => absurd h.2 (by decide)) q0_21
  have w23 := w23.em hS221_51
  have q0_23 := hX221_51.rv List.not_mem_nil (fun h => absurd h.2 (by decide)) q0_23
  have w24 := w24.em hS221_51
  have q0_24 := hX221_51.rv List.not_mem_nil (fun h => absurd h.2 (by decide)) q0_24
  have w25 := w25.em hS221_51
  have q0_25 := hX221_51.rv List.not_mem_nil (fun h => absurd h.2 (by decide)) q0_25
  have w26 := w26.em hS221_51
  have q0_26 := hX221_51.rv List.not_mem_nil (fun h => absurd h.2 (by decide)) q0_26
  have w27 := w27.em hS221_51
  have q0_27 := hX221_51.rv List.not_mem_nil (fun h => absurd h.2 (by decide)) q0_27
  have w28 := w28.em hS221_51
  have q0_28 := hX221_51.rv List.not_mem_nil (fun h => absurd h.2 (by decide)) q0_28
  have w37 := w37.em hS221_51
  have q0_37 := hX221_51.rv List.not_mem_nil (fun h => absurd h.2 (by decide)) q0_37
  have w38 := w38.em hS221_51
  have q0_38 := hX221_51.rv List.not_mem_nil (fun h => absurd h.2 (by decide)) q0_38
  have w39 := w39.em hS221_51
  have hEX := hEX.tr (hS221_51.mono (c := 0) (d := 43) (by decide) (by decide))
  refine lv_aload_n hE.1 hE.2.1 dX11_init_224 rfl (lv_at hl 0 rfl) ?_
  refine lv_sipush (v := nI 400) hE.1 hE.2.1 dX11_init_225 (by decide) ?_
  refine rg_newI (ty := .int) rfl hE hH (40) (hfr (40) (by omega) (by omega)) (hkd 40 (by decide)) (Or.inr (Or.inl ⟨rfl, rfl⟩)) (by omega) (by show 0 + 1 + 1 + 1 + 1 + 1 + 1 + 1 + 1 + 1 + 1 + 1 + 1 + 1 + 1 + 1 + 1 + 1 + 1 + 1 + 1 + 1 + 1 + 1 + 1 + 1 + 1 ≤ 27; omega) (by show 0 + 1000 + 2000 + 6 + 6 + 36 + 252 + 2016 + 1200 + 240 + 2400 + 12 + 12 + 492 + 492 + 2400 + 2400 + 6 + 6 + 2400 + 2400 + 6 + 2400 + 5 + 2000 + 8000 + 400 ≤ 40000; omega) dX11_init_228 (fun G228_52 H hX228_52 hln228_52 hrv228_52 hH => ?_)
  have hS228_52 := hX228_52.ex1 (hfr (40) (by omega) (by omega))
  have w40 : isA G228_52 (40) 13 400 := ⟨hX228_52.new (List.mem_singleton_self _), hX228_52.kd (hkd 40 (by decide)), hln228_52⟩
  have hl : lv_has ls 1 [(0, .ref (G228_52.ad 0))] := by rw [hS228_52.adm (w0.1)]; exact hl
  refine rg_st (st' := [.ref (G228_52.ad 40), .ref (G228_52.ad 0)]) (by rw [hS228_52.adm (w0.1)]) ?_
  have w0 := And.intro (hS228_52.mem w0.1) (hS228_52.kd w0.2)
  have hfr : ∀ x, 41 ≤ x → x < 43 → x ∉ G228_52.L := fun x h1 h2 => hS228_52.nin (hfr x (Nat.le_trans (by decide) h1) h2) (Or.inr (Nat.le_trans (by decide) h1))
  have hkd : ∀ i, i < 111 → G228_52.kd i = kd0 i := by rw [EX_kd hS228_52]; exact hkd
  have w1 := w1.em hS228_52
  have q0_1 := hS228_52.rv (Or.inl (by decide)) q0_1
  have w2 := w2.em hS228_52
  have q0_2 := hS228_52.rv (Or.inl (by decide)) q0_2
  have w8 := w8.em hS228_52
  have q0_8 := hS228_52.rv (Or.inl (by decide)) q0_8
  have w9 := w9.em hS228_52
  have q0_9 := hS228_52.rv (Or.inl (by decide)) q0_9
  have w10 := w10.em hS228_52
  have q0_10 := hS228_52.rv (Or.inl (by decide)) q0_10
  have w11 := w11.em hS228_52
  have q0_11 := hS228_52.rv (Or.inl (by decide)) q0_11
  have w12 := w12.em hS228_52
  have q0_12 := hS228_52.rv (Or.inl (by decide)) q0_12
  have w13 := w13.em hS228_52
  have q0_13 := hS228_52.rv (Or.inl (by decide)) q0_13
  have w14 := w14.em hS228_52
  have q0_14 := hS228_52.rv (Or.inl (by decide)) q0_14
  have w15 := w15.em hS228_52
  have q0_15 := hS228_52.rv (Or.inl (by decide)) q0_15
  have w16 := w16.em hS228_52
  have q0_16 := hS228_52.rv (Or.inl (by decide)) q0_16
  have w17 := w17.em hS228_52
  have q0_17 := hS228_52.rv (Or.inl (by decide)) q0_17
  have w18 := w18.em hS228_52
  have q0_18 := hS228_52.rv (Or.inl (by decide)) q0_18
  have w19 := w19.em hS228_52
  have q0_19 := hS228_52.rv (Or.inl (by decide)) q0_19
  have w20 := w20.em hS228_52
  have q0_20 := hS228_52.rv (Or.inl (by decide)) q0_20
  have w21 := w21.em hS228_52
  have q0_21 := hS228_52.rv (Or.inl (by decide)) q0_21
  have w23 := w23.em hS228_52
  have q0_23 := hS228_52.rv (Or.inl (by decide)) q0_23
  have w24 := w24.em hS228_52
  have q0_24 := hS228_52.rv (Or.inl (by decide)) q0_24
  have w25 := w25.em hS228_52
  have q0_25 := hS228_52.rv (Or.inl (by decide)) q0_25
  have w26 := w26.em hS228_52
  have q0_26 := hS228_52.rv (Or.inl (by decide)) q0_26
  have w27 := w27.em hS228_52
  have q0_27 := hS228_52.rv (Or.inl (by decide)) q0_27
  have w28 := w28.em hS228_52
  have q0_28 := hS228_52.rv (Or.inl (by decide)) q0_28
  have w37 := w37.em hS228_52
  have q0_37 := hS228_52.rv (Or.inl (by decide)) q0_37
  have w38 := w38.em hS228_52
  have q0_38 := hS228_52.rv (Or.inl (by decide)) q0_38
  have w39 := w39.em hS228_52
  have q0_39 := hS228_52.rv (Or.inl (by decide)) q0_39
  have hEX := hEX.tr (hS228_52.mono (c := 0) (d := 43) (by decide) (by decide))
  have hU228_52 : Fr iv219_50 (clr iv219_50 (40) 0) (fun b0 _ => b0 = 40) := Fr.clr Fr.rf (fun _ => rfl)
  have hJ228_52 : FrJ jv219_50 (clr jv219_50 (40) 0) (fun b0 _ => b0 = 40) := FrJ.clr FrJ.rf (fun _ => rfl)
  have z3 := (hU228_52 _ _ (by decide)).trans z3
  have z4 := (hU228_52 _ _ (by decide)).trans z4
  have z6 := (hU228_52 _ _ (by decide)).trans z6
  have z7 := (hU228_52 _ _ (by decide)).trans z7
  have i0_5 := (hU228_52 _ _ (by decide)).trans i0_5
  have hz23 := (fun (j : Nat) => (hU228_52 _ _ (by omega)).trans (hz23 j))
  have hz24 := (fun (j : Nat) => (hU228_52 _ _ (by omega)).trans (hz24 j))
  have hz27 := (fun (j : Nat) => (hU228_52 _ _ (by omega)).trans (hz27 j))
  have hFr := hFr.tr (hU228_52.mono (P' := fun lb _ => 0 ≤ lb ∧ lb < 43) (fun lb j h => by rw [h]; exact ⟨by decide, by decide⟩))
  have hFj := hFj.tr (hJ228_52.mono (P' := fun lb _ => 0 ≤ lb ∧ lb < 43) (fun lb j h => by rw [h]; exact ⟨by decide, by decide⟩))
  generalize clr iv219_50 (40) 0 = iv228_52 at hH hFr hU228_52 z3 z4 z6 z7 i0_5 hz23 hz24 hz27
  generalize clr jv219_50 (40) 0 = jv228_52 at hH hFj hJ228_52 hz23 hz24 hz27
  refine rg_putrF hE hH cf_X11 fl_X11_90 rfl fn_X11_40 fo_X11_40 hnm (w0.1) (w0.2) (v := 40) (w40.1) dX11_init_230 (fun H locs hH => ?_)
  have hX230_53 := GX.set (G := G228_52) (lb := 0) (k := 40) (v := some (40))
  have hS230_53 := EX.set (G := G228_52) (lb := 0) (k := 40) (v := some (40))
  have q0_40 := setR_s (G := G228_52) (lb := 0) (k := 40) (v := some (40))
  generalize (G228_52.setR (up2 G228_52.rv 0 40 (some 40))) = G230_53 at hH hX230_53 hS230_53 q0_40
  have hl : lv_has ls 1 [(0, .ref (G230_53.ad 0))] := by rw [hS230_53.adm (w0.1)]; exact hl
  have w0 := And.intro (hS230_53.mem w0.1) (hS230_53.kd w0.2)
  have hfr : ∀ x, 41 ≤ x → x < 43 → x ∉ G230_53.L := fun x h1 h2 => hS230_53.nin (hfr x (Nat.le_trans (by decide) h1) h2) (Or.inr (Nat.le_trans (by decide) h1))
  have hkd : ∀ i, i < 111 → G230_53.kd i = kd0 i := by rw [EX_kd hS230_53]; exact hkd
  have w1 := w1.em hS230_53
  have q0_1 := hX230_53.rv List.not_mem_nil (fun h => absurd h.2 (by decide)) q0_1
  have w2 := w2.em hS230_53
  have q0_2 := hX230_53.rv List.not_mem_nil (fun h => absurd h.2 (by decide)) q0_2
  have w8 := w8.em hS230_53
  have q0_8 := hX230_53.rv List.not_mem_nil (fun h => absurd h.2 (by decide)) q0_8
  have w9 := w9.em hS230_53
  have q0_9 := hX230_53.rv List.not_mem_nil (fun h => absurd h.2 (by decide)) q0_9
  have w10 := w10.em hS230_53
  have q0_10 := hX230_53.rv List.not_mem_nil (fun h => absurd h.2 (by decide)) q0_10
  have w11 := w11.em hS230_53
  have q0_11 := hX230_53.rv List.not_mem_nil (fun h => absurd h.2 (by decide)) q0_11
  have w12 := w12.em hS230_53
  have q0_12 := hX230_53.rv List.not_mem_nil (fun h => absurd h.2 (by decide)) q0_12
  have w13 := w13.em hS230_53
  have q0_13 := hX230_53.rv List.not_mem_nil (fun h => absurd h.2 (by decide)) q0_13
  have w14 := w14.em hS230_53
  have q0_14 := hX230_53.rv List.not_mem_nil (fun h => absurd h.2 (by decide)) q0_14
  have w15 := w15.em hS230_53
  have q0_15 := hX230_53.rv List.not_mem_nil (fun h => absurd h.2 (by decide)) q0_15
  have w16 := w16.em hS230_53
  have q0_16 := hX230_53.rv List.not_mem_nil (fun h => absurd h.2 (by decide)) q0_16
  have w17 := w17.em hS230_53
  have q0_17 := hX230_53.rv List.not_mem_nil (fun h => absurd h.2 (by decide)) q0_17
  have w18 := w18.em hS230_53
  have q0_18 := hX230_53.rv List.not_mem_nil (fun h => absurd h.2 (by decide)) q0_18
  have w19 := w19.em hS230_53
  have q0_19 := hX230_53.rv List.not_mem_nil (fun h => absurd h.2 (by decide)) q0_19
  have w20 := w20.em hS230_53
  have q0_20 := hX230_53.rv List.not_mem_nil (fun h => absurd h.2 (by decide)) q0_20
  have w21 := w21.em hS230_53
  have q0_21 := hX230_53.rv List.not_mem_nil (fun h => absurd h.2 (by decide)) q0_21
  have w23 := w23.em hS230_53
  have q0_23 := hX230_53.rv List.not_mem_nil (fun h => absurd h.2 (by decide)) q0_23
  have w24 := w24.em hS230_53
  have q0_24 := hX230_53.rv List.not_mem_nil (fun h => absurd h.2 (by decide)) q0_24
  have w25 := w25.em hS230_53
  have q0_25 := hX230_53.rv List.not_mem_nil (fun h => absurd h.2 (by decide)) q0_25
  have w26 := w26.em hS230_53
  have q0_26 := hX230_53.rv List.not_mem_nil (fun h => absurd h.2 (by decide)) q0_26
  have w27 := w27.em hS230_53
  have q0_27 := hX230_53.rv List.not_mem_nil (fun h => absurd h.2 (by decide)) q0_27
  have w28 := w28.em hS230_53
  have q0_28 := hX230_53.rv List.not_mem_nil (fun h => absurd h.2 (by decide)) q0_28
  have w37 := w37.em hS230_53
  have q0_37 := hX230_53.rv List.not_mem_nil (fun h => absurd h.2 (by decide)) q0_37
  have w38 := w38.em hS230_53
  have q0_38 := hX230_53.rv List.not_mem_nil (fun h => absurd h.2 (by decide)) q0_38
  have w39 := w39.em hS230_53
  have q0_39 := hX230_53.rv List.not_mem_nil (fun h => absurd h.2 (by decide)) q0_39
  have w40 := w40.em hS230_53
  have hEX := hEX.tr (hS230_53.mono (c := 0) (d := 43) (by decide) (by decide))
  refine lv_aload_n hE.1 hE.2.1 dX11_init_233 rfl (lv_at hl 0 rfl) ?_
  refine lv_sipush (v := nI 400) hE.1 hE.2.1 dX11_init_234 (by decide) ?_
  refine rg_newI (ty := .boolean) rfl hE hH (41) (hfr (41) (by omega) (by omega)) (hkd 41 (by decide)) (Or.inr (Or.inr ⟨rfl, rfl⟩)) (by omega) (by show 0 + 1 + 1 + 1 + 1 + 1 + 1 + 1 + 1 + 1 + 1 + 1 + 1 + 1 + 1 + 1 + 1 + 1 + 1 + 1 + 1 + 1 + 1 + 1 + 1 + 1 + 1 + 1 ≤ 27; omega) (by show 0 + 1000 + 2000 + 6 + 6 + 36 + 252 + 2016 + 1200 + 240 + 2400 + 12 + 12 + 492 + 492 + 2400 + 2400 + 6 + 6 + 2400 + 2400 + 6 + 2400 + 5 + 2000 + 8000 + 400 + 400 ≤ 40000; omega) dX11_init_237 (fun G237_54 H hX237_54 hln237_54 hrv237_54 hH => ?_)
  have hS237_54 := hX237_54.ex1 (hfr (41) (by omega) (by omega))
  have w41 : isA G237_54 (41) 15 400 := ⟨hX237_54.new (List.mem_singleton_self _), hX237_54.kd (hkd 41 (by decide)), hln237_54⟩
  have hl : lv_has ls 1 [(0, .ref (G237_54.ad 0))] := by rw [hS237_54.adm (w0.1)]; exact hl
  refine rg_st (st' := [.ref (G237_54.ad 41), .ref (G237_54.ad 0)]) (by rw [hS237_54.adm (w0.1)]) ?_
  have w0 := And.intro (hS237_54.mem w0.1) (hS237_54.kd w0.2)
  have hfr : ∀ x, 42 ≤ x → x < 43 → x ∉ G237_54.L := fun x h1 h2 => hS237_54.nin (hfr x (Nat.le_trans (by decide) h1) h2) (Or.inr (Nat.le_trans (by decide) h1))
  have hkd : ∀ i, i < 111 → G237_54.kd i = kd0 i := by rw [EX_kd hS237_54]; exact hkd
  have w1 := w1.em hS237_54
  have q0_1 := hS237_54.rv (Or.inl (by decide)) q0_1
  have w2 := w2.em hS237_54
  have q0_2 := hS237_54.rv (Or.inl (by decide)) q0_2
  have w8 := w8.em hS237_54
  have q0_8 := hS237_54.rv (Or.inl (by decide)) q0_8
  have w9 := w9.em hS237_54
  have q0_9 := hS237_54.rv (Or.inl (by decide)) q0_9
  have w10 := w10.em hS237_54
  have q0_10 := hS237_54.rv (Or.inl (by decide)) q0_10
  have w11 := w11.em hS237_54
  have q0_11 := hS237_54.rv (Or.inl (by decide)) q0_11
  have w12 := w12.em hS237_54
  have q0_12 := hS237_54.rv (Or.inl (by decide)) q0_12
  have w13 := w13.em hS237_54
  have q0_13 := hS237_54.rv (Or.inl (by decide)) q0_13
  have w14 := w14.em hS237_54
  have q0_14 := hS237_54.rv (Or.inl (by decide)) q0_14
  have w15 := w15.em hS237_54
  have q0_15 := hS237_54.rv (Or.inl (by decide)) q0_15
  have w16 := w16.em hS237_54
  have q0_16 := hS237_54.rv (Or.inl (by decide)) q0_16
  have w17 := w17.em hS237_54
  have q0_17 := hS237_54.rv (Or.inl (by decide)) q0_17
  have w18 := w18.em hS237_54
  have q0_18 := hS237_54.rv (Or.inl (by decide)) q0_18
  have w19 := w19.em hS237_54
  have q0_19 := hS237_54.rv (Or.inl (by decide)) q0_19
  have w20 := w20.em hS237_54
  have q0_20 := hS237_54.rv (Or.inl (by decide)) q0_20
  have w21 := w21.em hS237_54
  have q0_21 := hS237_54.rv (Or.inl (by decide)) q0_21
  have w23 := w23.em hS237_54
  have q0_23 := hS237_54.rv (Or.inl (by decide)) q0_23
  have w24 := w24.em hS237_54
  have q0_24 := hS237_54.rv (Or.inl (by decide)) q0_24
  have w25 := w25.em hS237_54
  have q0_25 := hS237_54.rv (Or.inl (by decide)) q0_25
  have w26 := w26.em hS237_54
  have q0_26 := hS237_54.rv (Or.inl (by decide)) q0_26
  have w27 := w27.em hS237_54
  have q0_27 := hS237_54.rv (Or.inl (by decide)) q0_27
  have w28 := w28.em hS237_54
  have q0_28 := hS237_54.rv (Or.inl (by decide)) q0_28
  have w37 := w37.em hS237_54
  have q0_37 := hS237_54.rv (Or.inl (by decide)) q0_37
  have w38 := w38.em hS237_54
  have q0_38 := hS237_54.rv (Or.inl (by decide)) q0_38
  have w39 := w39.em hS237_54
  have q0_39 := hS237_54.rv (Or.inl (by decide)) q0_39
  have w40 := w40.em hS237_54
  have q0_40 := hS237_54.rv (Or.inl (by decide)) q0_40
  have hEX := hEX.tr (hS237_54.mono (c := 0) (d := 43) (by decide) (by decide))
  have hU237_54 : Fr iv228_52 (clr iv228_52 (41) 0) (fun b0 _ => b0 = 41) := Fr.clr Fr.rf (fun _ => rfl)
  have hJ237_54 : FrJ jv228_52 (clr jv228_52 (41) 0) (fun b0 _ => b0 = 41) := FrJ.clr FrJ.rf (fun _ => rfl)
  have z3 := (hU237_54 _ _ (by decide)).trans z3
  have z4 := (hU237_54 _ _ (by decide)).trans z4
  have z6 := (hU237_54 _ _ (by decide)).trans z6
  have z7 := (hU237_54 _ _ (by decide)).trans z7
  have i0_5 := (hU237_54 _ _ (by decide)).trans i0_5
  have hz23 := (fun (j : Nat) => (hU237_54 _ _ (by omega)).trans (hz23 j))
  have hz24 := (fun (j : Nat) => (hU237_54 _ _ (by omega)).trans (hz24 j))
  have hz27 := (fun (j : Nat) => (hU237_54 _ _ (by omega)).trans (hz27 j))
  have hFr := hFr.tr (hU237_54.mono (P' := fun lb _ => 0 ≤ lb ∧ lb < 43) (fun lb j h => by rw [h]; exact ⟨by decide, by decide⟩))
  have hFj := hFj.tr (hJ237_54.mono (P' := fun lb _ => 0 ≤ lb ∧ lb < 43) (fun lb j h => by rw [h]; exact ⟨by decide, by decide⟩))
  generalize clr iv228_52 (41) 0 = iv237_54 at hH hFr hU237_54 z3 z4 z6 z7 i0_5 hz23 hz24 hz27
  generalize clr jv228_52 (41) 0 = jv237_54 at hH hFj hJ237_54 hz23 hz24 hz27
  refine rg_putrF hE hH cf_X11 fl_X11_93 rfl fn_X11_41 fo_X11_41 hnm (w0.1) (w0.2) (v := 41) (w41.1) dX11_init_239 (fun H locs hH => ?_)
  have hX239_55 := GX.set (G := G237_54) (lb := 0) (k := 41) (v := some (41))
  have hS239_55 := EX.set (G := G237_54) (lb := 0) (k := 41) (v := some (41))
  have q0_41 := setR_s (G := G237_54) (lb := 0) (k := 41) (v := some (41))
  generalize (G237_54.setR (up2 G237_54.rv 0 41 (some 41))) = G239_55 at hH hX239_55 hS239_55 q0_41
  have hl : lv_has ls 1 [(0, .ref (G239_55.ad 0))] := by rw [hS239_55.adm (w0.1)]; exact hl
  have w0 := And.intro (hS239_55.mem w0.1) (hS239_55.kd w0.2)
  have hfr : ∀ x, 42 ≤ x → x < 43 → x ∉ G239_55.L := fun x h1 h2 => hS239_55.nin (hfr x (Nat.le_trans (by decide) h1) h2) (Or.inr (Nat.le_trans (by decide) h1))
  have hkd : ∀ i, i < 111 → G239_55.kd i = kd0 i := by rw [EX_kd hS239_55]; exact hkd
  have w1 := w1.em hS239_55
  have q0_1 := hX239_55.rv List.not_mem_nil (fun h => absurd h.2 (by decide)) q0_1
  have w2 := w2.em hS239_55
  have q0_2 := hX239_55.rv List.not_mem_nil (fun h => absurd h.2 (by decide)) q0_2
  have w8 := w8.em hS239_55
  have q0_8 := hX239_55.rv List.not_mem_nil (fun h => absurd h.2 (by decide)) q0_8
  have w9 := w9.em hS239_55
  have q0_9 := hX239_55.rv List.not_mem_nil (fun h => absurd h.2 (by decide)) q0_9
  have w10 := w10.em hS239_55
  have q0_10 := hX239_55.rv List.not_mem_nil (fun h => absurd h.2 (by decide)) q0_10
  have w11 := w11.em hS239_55
  have q0_11 := hX239_55.rv List.not_mem_nil (fun h => absurd h.2 (by decide)) q0_11
  have w12 := w12.em hS239_55
  have q0_12 := hX239_55.rv List.not_mem_nil (fun h => absurd h.2 (by decide)) q0_12
  have w13 := w13.em hS239_55
  have q0_13 := hX239_55.rv List.not_mem_nil (fun h => absurd h.2 (by decide)) q0_13
  have w14 := w14.em hS239_55
  have q0_14 := hX239_55.rv List.not_mem_nil (fun h => absurd h.2 (by decide)) q0_14
  have w15 := w15.em hS239_55
  have q0_15 := hX239_55.rv List.not_mem_nil (fun h => absurd h.2 (by decide)) q0_15
  have w16 := w16.em hS239_55
  have q0_16 := hX239_55.rv List.not_mem_nil (fun h => absurd h.2 (by decide)) q0_16
  have w17 := w17.em hS239_55
  have q0_17 := hX239_55.rv List.not_mem_nil (fun h => absurd h.2 (by decide)) q0_17
  have w18 := w18.em hS239_55
  have q0_18 := hX239_55.rv List.not_mem_nil (fun h => absurd h.2 (by decide)) q0_18
  have w19 := w19.em hS239_55
  have q0_19 := hX239_55.rv List.not_mem_nil (fun h => absurd h.2 (by decide)) q0_19
  have w20 := w20.em hS239_55
  have q0_20 := hX239_55.rv List.not_mem_nil (fun h => absurd h.2 (by decide)) q0_20
  have w21 := w21.em hS239_55
  have q0_21 := hX239_55.rv List.not_mem_nil (fun h => absurd h.2 (by decide)) q0_21
  have w23 := w23.em hS239_55
  have q0_23 := hX239_55.rv List.not_mem_nil (fun h => absurd h.2 (by decide)) q0_23
  have w24 := w24.em hS239_55
  have q0_24 := hX239_55.rv List.not_mem_nil (fun h => absurd h.2 (by decide)) q0_24
  have w25 := w25.em hS239_55
  have q0_25 := hX239_55.rv List.not_mem_nil (fun h => absurd h.2 (by decide)) q0_25
  have w26 := w26.em hS239_55
  have q0_26 := hX239_55.rv List.not_mem_nil (fun h => absurd h.2 (by decide)) q0_26
  have w27 := w27.em hS239_55
  have q0_27 := hX239_55.rv List.not_mem_nil (fun h => absurd h.2 (by decide)) q0_27
  have w28 := w28.em hS239_55
  have q0_28 := hX239_55.rv List.not_mem_nil (fun h => absurd h.2 (by decide)) q0_28
  have w37 := w37.em hS239_55
  have q0_37 := hX239_55.rv List.not_mem_nil (fun h => absurd h.2 (by decide)) q0_37
  have w38 := w38.em hS239_55
  have q0_38 := hX239_55.rv List.not_mem_nil (fun h => absurd h.2 (by decide)) q0_38
  have w39 := w39.em hS239_55
  have q0_39 := hX239_55.rv List.not_mem_nil (fun h => absurd h.2 (by decide)) q0_39
  have w40 := w40.em hS239_55
  have q0_40 := hX239_55.rv List.not_mem_nil (fun h => absurd h.2 (by decide)) q0_40
  have w41 := w41.em hS239_55
  have hEX := hEX.tr (hS239_55.mono (c := 0) (d := 43) (by decide) (by decide))
  refine W.widen (k := 27) (n := 40000) (by show 0 + 1 + 1 + 1 + 1 + 1 + 1 + 1 + 1 + 1 + 1 + 1 + 1 + 1 + 1 + 1 + 1 + 1 + 1 + 1 + 1 + 1 + 1 + 1 + 1 + 1 + 1 + 1 ≤ 27; omega) (by show 0 + 1000 + 2000 + 6 + 6 + 36 + 252 + 2016 + 1200 + 240 + 2400 + 12 + 12 + 492 + 492 + 2400 + 2400 + 6 + 6 + 2400 + 2400 + 6 + 2400 + 5 + 2000 + 8000 + 400 + 400 ≤ 40000; omega) ?_
  exact rg_vret hE hr hlk hH ⟨hEX, ⟨w0, fun k hk => by
    simp only [mArr, List.mem_cons, List.not_mem_nil, or_false] at hk
    rcases hk with rfl | rfl | rfl | rfl | rfl | rfl | rfl | rfl | rfl | rfl | rfl | rfl | rfl | rfl | rfl | rfl | rfl | rfl | rfl | rfl | rfl | rfl | rfl | rfl | rfl | rfl | rfl
    · exact ⟨w1.1, w1.2.1, w1.2.2, q0_1⟩
    · exact ⟨w2.1, w2.2.1, w2.2.2, q0_2⟩
    · exact ⟨w8.1, w8.2.1, w8.2.2, q0_8⟩
    · exact ⟨w9.1, w9.2.1, w9.2.2, q0_9⟩
    · exact ⟨w10.1, w10.2.1, w10.2.2, q0_10⟩
    · exact ⟨w11.1, w11.2.1, w11.2.2, q0_11⟩
    · exact ⟨w12.1, w12.2.1, w12.2.2, q0_12⟩
    · exact ⟨w13.1, w13.2.1, w13.2.2, q0_13⟩
    · exact ⟨w14.1, w14.2.1, w14.2.2, q0_14⟩
    · exact ⟨w15.1, w15.2.1, w15.2.2, q0_15⟩
    · exact ⟨w16.1, w16.2.1, w16.2.2, q0_16⟩
    · exact ⟨w17.1, w17.2.1, w17.2.2, q0_17⟩
    · exact ⟨w18.1, w18.2.1, w18.2.2, q0_18⟩
    · exact ⟨w19.1, w19.2.1, w19.2.2, q0_19⟩
    · exact ⟨w20.1, w20.2.1, w20.2.2, q0_20⟩
    · exact ⟨w21.1, w21.2.1, w21.2.2, q0_21⟩
    · exact ⟨w23.1, w23.2.1, w23.2.2, q0_23⟩
    · exact ⟨w24.1, w24.2.1, w24.2.2, q0_24⟩
    · exact ⟨w25.1, w25.2.1, w25.2.2, q0_25⟩
    · exact ⟨w26.1, w26.2.1, w26.2.2, q0_26⟩
    · exact ⟨w27.1, w27.2.1, w27.2.2, q0_27⟩
    · exact ⟨w28.1, w28.2.1, w28.2.2, q0_28⟩
    · exact ⟨w37.1, w37.2.1, w37.2.2, q0_37⟩
    · exact ⟨w38.1, w38.2.1, w38.2.2, q0_38⟩
    · exact ⟨w39.1, w39.2.1, w39.2.2, q0_39⟩
    · exact ⟨w40.1, w40.2.1, w40.2.2, q0_40⟩
    · exact ⟨w41.1, w41.2.1, w41.2.2, q0_41⟩⟩, ⟨⟨z3, Nat.zero_le _, fun k hk => absurd hk (Nat.not_lt_zero k), fun k hk => absurd hk (Nat.not_lt_zero k)⟩, i0_5, ⟨z6, by decide, fun T hT => absurd hT (Nat.not_lt_zero T), fun T _ _ => ⟨hz23 T, hz24 T, hz27 T⟩⟩, ⟨z7, by decide, fun P hP => absurd hP (Nat.not_lt_zero P)⟩, ⟨z4, by decide, fun k hk => absurd hk (Nat.not_lt_zero k)⟩⟩, hFr, hFj⟩ dX11_init_242
set_option maxRecDepth 100000 in
set_option maxHeartbeats 4000000 in
theorem c_X_init (l : Launch) (z : ZK) (G : GW) (iv : IV) (jv : JV) (w100 : 100 ∈ G.L ∧ G.kd 100 = 10) (hfr : ∀ x, 101 ≤ x → x < 20004 → x ∉ G.L) (hkd : ∀ i, i < 111 → G.kd i = kd0 i) (hkL : ∀ i, i < 33 → G.kd (10000 + i) = kLa i) (hkW : ∀ i, i < 4 → G.kd (20000 + i) = kWh i) : cV l z yX10_init cX10_init 1 none 3 61 34 6700 [.ref (G.ad 100)] G iv jv (fun G' iv' jv' => EX G G' 100 20004 ∧ isX0 G' ∧ isLa G' 10000 ∧ isWh G' 20000 ∧ G'.rv 100 7 = some 10000 ∧ G'.rv 100 8 = some 20000 ∧ (iv' 100 1 = nI 0 ∧ iv' 100 4 = nI 0 ∧ iv' 100 6 = nI 0 ∧ iv' 100 9 = -1 ∧ cOu iv' []) ∧ (∀ lb ∈ G'.L, lb ∈ G.L ∨ (100 ≤ lb ∧ lb < 111) ∨ (10000 ≤ lb ∧ lb < 10040) ∨ (20000 ≤ lb ∧ lb < 20004)) ∧ Fr iv iv' (fun lb _ => 100 ≤ lb ∧ lb < 20004) ∧ FrJ jv jv' (fun lb _ => 100 ≤ lb ∧ lb < 20004)) := by
  intro sz
  refine rg_entry rfl (Nat.le_of_ble_eq_true rfl) ?_
  intro pq eq sq mq bq methq cq ls hE hr hlk hml hnm hl hsz hH
  have hl : lv_has ls 1 [(0, .ref (G.ad 100))] := hl
  have f101 := hfr 101 (by decide) (by decide)
  have f102 := hfr 102 (by decide) (by decide)
  have f107 := hfr 107 (by decide) (by decide)
  have f108 := hfr 108 (by decide) (by decide)
  have f109 := hfr 109 (by decide) (by decide)
  have f110 := hfr 110 (by decide) (by decide)
  have hfP : ∀ x, 103 ≤ x → x < 107 → x ∉ G.L := fun x h1 h2 => hfr x (by omega) (by omega)
  have fL := hfr 10000 (by decide) (by decide)
  have hfL : ∀ x, 10001 ≤ x → x < 10040 → x ∉ G.L := fun x h1 h2 => hfr x (by omega) (by omega)
  have fW := hfr 20000 (by decide) (by decide)
  have hfW : ∀ x, 20001 ≤ x → x < 20004 → x ∉ G.L := fun x h1 h2 => hfr x (by omega) (by omega)
  have hCv : ∀ lb ∈ G.L, lb ∈ G.L ∨ (100 ≤ lb ∧ lb < 111) ∨ (10000 ≤ lb ∧ lb < 10040) ∨ (20000 ≤ lb ∧ lb < 20004) := fun lb h => Or.inl h
  have hEX : EX G G 100 20004 := EX.rf
  have hFr : Fr iv iv (fun lb _ => 100 ≤ lb ∧ lb < 20004) := Fr.rf
  have hFj : FrJ jv jv (fun lb _ => 100 ≤ lb ∧ lb < 20004) := FrJ.rf
  refine lv_aload_n hE.1 hE.2.1 dX10_init_0 rfl (lv_at hl 0 rfl) ?_
  refine rg_obj (rest := []) hE ⟨(b1 29 rfl rfl), (b1 30 rfl rfl), (b1 31 rfl rfl)⟩ hml hl.1 rfl dX10_init_1 (Nat.le_of_ble_eq_true rfl) (Nat.le_of_ble_eq_true rfl) ?_
  refine lv_aload_n hE.1 hE.2.1 dX10_init_4 rfl (lv_at hl 0 rfl) ?_
  refine lv_sipush (v := nI 1000) hE.1 hE.2.1 dX10_init_5 (by decide) ?_
  refine rg_newI (ty := .byte) rfl hE hH (101) f101 (hkd 101 (by decide)) (Or.inl ⟨rfl, rfl⟩) (by omega) (by show 0 + 1 ≤ 34; omega) (by show 0 + 1000 ≤ 6700; omega) dX10_init_8 (fun G8_1 H hX8_1 hln8_1 hrv8_1 hH => ?_)
  have hS8_1 := hX8_1.ex1 f101
  have w101 : isA G8_1 (101) 12 1000 := ⟨hX8_1.new (List.mem_singleton_self _), hX8_1.kd (hkd 101 (by decide)), hln8_1⟩
  have hl : lv_has ls 1 [(0, .ref (G8_1.ad 100))] := by rw [hS8_1.adm (w100.1)]; exact hl
  refine rg_st (st' := [.ref (G8_1.ad 101), .ref (G8_1.ad 100)]) (by rw [hS8_1.adm (w100.1)]) ?_
  have w100 := And.intro (hS8_1.mem w100.1) (hS8_1.kd w100.2)
  have f102 := hS8_1.nin f102 (Or.inr (by decide))
  have hfP : ∀ x, 103 ≤ x → x < 107 → x ∉ G8_1.L := fun x h1 h2 => hS8_1.nin (hfP x (Nat.le_trans (by decide) h1) h2) (Or.inr (Nat.le_trans (by decide) h1))
  have f107 := hS8_1.nin f107 (Or.inr (by decide))
  have f108 := hS8_1.nin f108 (Or.inr (by decide))
  have f109 := hS8_1.nin f109 (Or.inr (by decide))
  have f110 := hS8_1.nin f110 (Or.inr (by decide))
  have fL := hS8_1.nin fL (Or.inr (by decide))
  have hfL : ∀ x, 10001 ≤ x → x < 10040 → x ∉ G8_1.L := fun x h1 h2 => hS8_1.nin (hfL x (Nat.le_trans (by decide) h1) h2) (Or.inr (Nat.le_trans (by decide) h1))
  have fW := hS8_1.nin fW (Or.inr (by decide))
  have hfW : ∀ x, 20001 ≤ x → x < 20004 → x ∉ G8_1.L := fun x h1 h2 => hS8_1.nin (hfW x (Nat.le_trans (by decide) h1) h2) (Or.inr (Nat.le_trans (by decide) h1))
  have hkd : ∀ i, i < 111 → G8_1.kd i = kd0 i := by rw [EX_kd hS8_1]; exact hkd
  have hkL : ∀ i, i < 33 → G8_1.kd (10000 + i) = kLa i := by rw [EX_kd hS8_1]; exact hkL
  have hkW : ∀ i, i < 4 → G8_1.kd (20000 + i) = kWh i := by rw [EX_kd hS8_1]; exact hkW
  have hCv := (fun (lb : Nat) hm => (EX.cov hS8_1 hm).elim (hCv lb) (fun h => Or.inr (by omega)))
  have hEX := hEX.tr (hS8_1.mono (c := 100) (d := 20004) (by decide) (by decide))
  have hU8_1 : Fr iv (clr iv (101) 0) (fun b0 _ => b0 = 101) := Fr.clr Fr.rf (fun _ => rfl)
  have hJ8_1 : FrJ jv (clr jv (101) 0) (fun b0 _ => b0 = 101) := FrJ.clr FrJ.rf (fun _ => rfl)
  have hFr := hFr.tr (hU8_1.mono (P' := fun lb _ => 100 ≤ lb ∧ lb < 20004) (fun lb j h => by rw [h]; exact ⟨by decide, by decide⟩))
  have hFj := hFj.tr (hJ8_1.mono (P' := fun lb _ => 100 ≤ lb ∧ lb < 20004) (fun lb j h => by rw [h]; exact ⟨by decide, by decide⟩))
  generalize clr iv (101) 0 = iv8_1 at hH hFr hU8_1 
  generalize clr jv (101) 0 = jv8_1 at hH hFj hJ8_1 
  refine rg_putrF hE hH cf_X10 fl_X10_9 rfl fn_X10_0 fo_X10_0 hnm (w100.1) (w100.2) (v := 101) (w101.1) dX10_init_10 (fun H locs hH => ?_)
  have hX10_2 := GX.set (G := G8_1) (lb := 100) (k := 0) (v := some (101))
  have hS10_2 := EX.set (G := G8_1) (lb := 100) (k := 0) (v := some (101))
  have q100_0 := setR_s (G := G8_1) (lb := 100) (k := 0) (v := some (101))
  generalize (G8_1.setR (up2 G8_1.rv 100 0 (some 101))) = G10_2 at hH hX10_2 hS10_2 q100_0
  have hl : lv_has ls 1 [(0, .ref (G10_2.ad 100))] := by rw [hS10_2.adm (w100.1)]; exact hl
  have w100 := And.intro (hS10_2.mem w100.1) (hS10_2.kd w100.2)
  have f102 := hS10_2.nin f102 (Or.inr (by decide))
  have hfP : ∀ x, 103 ≤ x → x < 107 → x ∉ G10_2.L := fun x h1 h2 => hS10_2.nin (hfP x (Nat.le_trans (by decide) h1) h2) (Or.inr (Nat.le_trans (by decide) h1))
  have f107 := hS10_2.nin f107 (Or.inr (by decide))
  have f108 := hS10_2.nin f108 (Or.inr (by decide))
  have f109 := hS10_2.nin f109 (Or.inr (by decide))
  have f110 := hS10_2.nin f110 (Or.inr (by decide))
  have fL := hS10_2.nin fL (Or.inr (by decide))
  have hfL : ∀ x, 10001 ≤ x → x < 10040 → x ∉ G10_2.L := fun x h1 h2 => hS10_2.nin (hfL x (Nat.le_trans (by decide) h1) h2) (Or.inr (Nat.le_trans (by decide) h1))
  have fW := hS10_2.nin fW (Or.inr (by decide))
  have hfW : ∀ x, 20001 ≤ x → x < 20004 → x ∉ G10_2.L := fun x h1 h2 => hS10_2.nin (hfW x (Nat.le_trans (by decide) h1) h2) (Or.inr (Nat.le_trans (by decide) h1))
  have hkd : ∀ i, i < 111 → G10_2.kd i = kd0 i := by rw [EX_kd hS10_2]; exact hkd
  have hkL : ∀ i, i < 33 → G10_2.kd (10000 + i) = kLa i := by rw [EX_kd hS10_2]; exact hkL
  have hkW : ∀ i, i < 4 → G10_2.kd (20000 + i) = kWh i := by rw [EX_kd hS10_2]; exact hkW
  have hCv := (fun (lb : Nat) hm => (EX.cov hS10_2 hm).elim (hCv lb) (fun h => Or.inr (by omega)))
  have w101 := w101.em hS10_2
  have hEX := hEX.tr (hS10_2.mono (c := 100) (d := 20004) (by decide) (by decide))
  refine lv_aload_n hE.1 hE.2.1 dX10_init_13 rfl (lv_at hl 0 rfl) ?_
  refine lv_iconst (v := nI 0) hE.1 hE.2.1 dX10_init_14 (by decide) ?_
  refine rg_puti hE hH cf_X10 fl_X10_13 rfl fn_X10_1 (w100.1) (w100.2) (v := nI 0) dX10_init_15 (fun H locs hH => ?_)
  have hU15_3 : Fr iv8_1 (up2 iv8_1 100 1 (nI 0)) (fun b0 j => b0 = 100 ∧ j = 1) := Fr.up Fr.rf ⟨rfl, rfl⟩
  have hJ15_3 : FrJ jv8_1 jv8_1 (fun b0 j => b0 = 100 ∧ j = 1) := FrJ.rf
  have hFr := hFr.tr (hU15_3.mono (P' := fun lb _ => 100 ≤ lb ∧ lb < 20004) (fun lb j h => by rw [h.1]; exact ⟨by decide, by decide⟩))
  have hFj := hFj.tr (hJ15_3.mono (P' := fun lb _ => 100 ≤ lb ∧ lb < 20004) (fun lb j h => by rw [h.1]; exact ⟨by decide, by decide⟩))
  have i100_1 : (up2 iv8_1 100 1 (nI 0)) (100) 1 = nI 0 := up2_s
  generalize up2 iv8_1 100 1 (nI 0) = iv15_3 at hH hFr hU15_3 i100_1
  refine lv_aload_n hE.1 hE.2.1 dX10_init_18 rfl (lv_at hl 0 rfl) ?_
  refine rg_newO (ci := 4) hE hH (102) f102 (hkd 102 (by decide)) cf_X4 ⟨RX4, TX4, rfl, (b1 32 rfl rfl), (b1 33 rfl rfl), (b1 2 rfl rfl)⟩ (by show 0 + 1 + 1 ≤ 34; omega) (by show 0 + 1000 + 2 ≤ 6700; omega) dX10_init_19 (fun G19_4 H hX19_4 hln19_4 hrv19_4 hH => ?_)
  have hS19_4 := hX19_4.ex1 f102
  have w102 : (102) ∈ G19_4.L ∧ G19_4.kd (102) = 4 := ⟨hX19_4.new (List.mem_singleton_self _), hX19_4.kd (hkd 102 (by decide))⟩
  have hl : lv_has ls 1 [(0, .ref (G19_4.ad 100))] := by rw [hS19_4.adm (w100.1)]; exact hl
  refine rg_st (st' := [.ref (G19_4.ad 102), .ref (G19_4.ad 100)]) (by rw [hS19_4.adm (w100.1)]) ?_
  have w100 := And.intro (hS19_4.mem w100.1) (hS19_4.kd w100.2)
  have hfP : ∀ x, 103 ≤ x → x < 107 → x ∉ G19_4.L := fun x h1 h2 => hS19_4.nin (hfP x (Nat.le_trans (by decide) h1) h2) (Or.inr (Nat.le_trans (by decide) h1))
  have f107 := hS19_4.nin f107 (Or.inr (by decide))
  have f108 := hS19_4.nin f108 (Or.inr (by decide))
  have f109 := hS19_4.nin f109 (Or.inr (by decide))
  have f110 := hS19_4.nin f110 (Or.inr (by decide))
  have fL := hS19_4.nin fL (Or.inr (by decide))
  have hfL : ∀ x, 10001 ≤ x → x < 10040 → x ∉ G19_4.L := fun x h1 h2 => hS19_4.nin (hfL x (Nat.le_trans (by decide) h1) h2) (Or.inr (Nat.le_trans (by decide) h1))
  have fW := hS19_4.nin fW (Or.inr (by decide))
  have hfW : ∀ x, 20001 ≤ x → x < 20004 → x ∉ G19_4.L := fun x h1 h2 => hS19_4.nin (hfW x (Nat.le_trans (by decide) h1) h2) (Or.inr (Nat.le_trans (by decide) h1))
  have hkd : ∀ i, i < 111 → G19_4.kd i = kd0 i := by rw [EX_kd hS19_4]; exact hkd
  have hkL : ∀ i, i < 33 → G19_4.kd (10000 + i) = kLa i := by rw [EX_kd hS19_4]; exact hkL
  have hkW : ∀ i, i < 4 → G19_4.kd (20000 + i) = kWh i := by rw [EX_kd hS19_4]; exact hkW
  have hCv := (fun (lb : Nat) hm => (EX.cov hS19_4 hm).elim (hCv lb) (fun h => Or.inr (by omega)))
  have w101 := w101.em hS19_4
  have q100_0 := hS19_4.rv (Or.inl (by decide)) q100_0
  have hEX := hEX.tr (hS19_4.mono (c := 100) (d := 20004) (by decide) (by decide))
  have hU19_4 : Fr iv15_3 (clr iv15_3 (102) 0) (fun b0 _ => b0 = 102) := Fr.clr Fr.rf (fun _ => rfl)
  have hJ19_4 : FrJ jv8_1 (clr jv8_1 (102) 0) (fun b0 _ => b0 = 102) := FrJ.clr FrJ.rf (fun _ => rfl)
  have i100_1 := (hU19_4 _ _ (by decide)).trans i100_1
  have hFr := hFr.tr (hU19_4.mono (P' := fun lb _ => 100 ≤ lb ∧ lb < 20004) (fun lb j h => by rw [h]; exact ⟨by decide, by decide⟩))
  have hFj := hFj.tr (hJ19_4.mono (P' := fun lb _ => 100 ≤ lb ∧ lb < 20004) (fun lb j h => by rw [h]; exact ⟨by decide, by decide⟩))
  generalize clr iv15_3 (102) 0 = iv19_4 at hH hFr hU19_4 i100_1
  generalize clr jv8_1 (102) 0 = jv19_4 at hH hFj hJ19_4 
  refine lv_dup hE.1 hE.2.1 dX10_init_22 rfl ?_
  refine rg_IV (As := []) (rest := [.ref (G19_4.ad 102), .ref (G19_4.ad 100)]) hE hml hH mc_X10_19 (c_Pa_init l z G19_4 iv19_4 jv19_4 w102 hfP hkd) rfl ⟨Nat.le_of_ble_eq_true rfl, Nat.le_of_ble_eq_true rfl⟩ rfl hl.1 (by simp [Value.category]) dX10_init_23 ⟨by show 0 + 1 + 1 + 4 ≤ 34; omega, by show 0 + 1000 + 2 + 3011 ≤ 6700; omega⟩ (fun G23 iv23 jv23 H locs hp23 hH => ?_)
  obtain ⟨hS23_5, hPz, hU23_5, hJ23_5⟩ := hp23
  have hl : lv_has ls 1 [(0, .ref (G23.ad 100))] := by rw [hS23_5.adm (w100.1)]; exact hl
  refine rg_st (st' := [.ref (G23.ad 102), .ref (G23.ad 100)]) (by rw [hS23_5.adm (w102.1), hS23_5.adm (w100.1)]) ?_
  have w100 := And.intro (hS23_5.mem w100.1) (hS23_5.kd w100.2)
  have f107 := hS23_5.nin f107 (Or.inr (by decide))
  have f108 := hS23_5.nin f108 (Or.inr (by decide))
  have f109 := hS23_5.nin f109 (Or.inr (by decide))
  have f110 := hS23_5.nin f110 (Or.inr (by decide))
  have fL := hS23_5.nin fL (Or.inr (by decide))
  have hfL : ∀ x, 10001 ≤ x → x < 10040 → x ∉ G23.L := fun x h1 h2 => hS23_5.nin (hfL x (Nat.le_trans (by decide) h1) h2) (Or.inr (Nat.le_trans (by decide) h1))
  have fW := hS23_5.nin fW (Or.inr (by decide))
  have hfW : ∀ x, 20001 ≤ x → x < 20004 → x ∉ G23.L := fun x h1 h2 => hS23_5.nin (hfW x (Nat.le_trans (by decide) h1) h2) (Or.inr (Nat.le_trans (by decide) h1))
  have hkd : ∀ i, i < 111 → G23.kd i = kd0 i := by rw [EX_kd hS23_5]; exact hkd
  have hkL : ∀ i, i < 33 → G23.kd (10000 + i) = kLa i := by rw [EX_kd hS23_5]; exact hkL
  have hkW : ∀ i, i < 4 → G23.kd (20000 + i) = kWh i := by rw [EX_kd hS23_5]; exact hkW
  have hCv := (fun (lb : Nat) hm => (EX.cov hS23_5 hm).elim (hCv lb) (fun h => Or.inr (by omega)))
  have w101 := w101.em hS23_5
  have q100_0 := hS23_5.rv (Or.inl (by decide)) q100_0
  have w102 := And.intro (hS23_5.mem w102.1) (hS23_5.kd w102.2)
  have hEX := hEX.tr (hS23_5.mono (c := 100) (d := 20004) (by decide) (by decide))
  have i100_1 := (hU23_5 _ _ (by omega)).trans i100_1
  have hFr := hFr.tr (hU23_5.mono (P' := fun lb _ => 100 ≤ lb ∧ lb < 20004) (fun lb j h => by omega))
  have hFj := hFj.tr (hJ23_5.mono (P' := fun lb _ => 100 ≤ lb ∧ lb < 20004) (fun lb j h => by omega))
  refine rg_putrF hE hH cf_X10 fl_X10_20 rfl fn_X10_2 fo_X10_2 hnm (w100.1) (w100.2) (v := 102) (w102.1) dX10_init_26 (fun H locs hH => ?_)
  have hX26_6 := GX.set (G := G23) (lb := 100) (k := 2) (v := some (102))
  have hS26_6 := EX.set (G := G23) (lb := 100) (k := 2) (v := some (102))
  have q100_2 := setR_s (G := G23) (lb := 100) (k := 2) (v := some (102))
  generalize (G23.setR (up2 G23.rv 100 2 (some 102))) = G26_6 at hH hX26_6 hS26_6 q100_2
  have hl : lv_has ls 1 [(0, .ref (G26_6.ad 100))] := by rw [hS26_6.adm (w100.1)]; exact hl
  have w100 := And.intro (hS26_6.mem w100.1) (hS26_6.kd w100.2)
  have f107 := hS26_6.nin f107 (Or.inr (by decide))
  have f108 := hS26_6.nin f108 (Or.inr (by decide))
  have f109 := hS26_6.nin f109 (Or.inr (by decide))
  have f110 := hS26_6.nin f110 (Or.inr (by decide))
  have fL := hS26_6.nin fL (Or.inr (by decide))
  have hfL : ∀ x, 10001 ≤ x → x < 10040 → x ∉ G26_6.L := fun x h1 h2 => hS26_6.nin (hfL x (Nat.le_trans (by decide) h1) h2) (Or.inr (Nat.le_trans (by decide) h1))
  have fW := hS26_6.nin fW (Or.inr (by decide))
  have hfW : ∀ x, 20001 ≤ x → x < 20004 → x ∉ G26_6.L := fun x h1 h2 => hS26_6.nin (hfW x (Nat.le_trans (by decide) h1) h2) (Or.inr (Nat.le_trans (by decide) h1))
  have hkd : ∀ i, i < 111 → G26_6.kd i = kd0 i := by rw [EX_kd hS26_6]; exact hkd
  have hkL : ∀ i, i < 33 → G26_6.kd (10000 + i) = kLa i := by rw [EX_kd hS26_6]; exact hkL
  have hkW : ∀ i, i < 4 → G26_6.kd (20000 + i) = kWh i := by rw [EX_kd hS26_6]; exact hkW
  have hCv := (fun (lb : Nat) hm => (EX.cov hS26_6 hm).elim (hCv lb) (fun h => Or.inr (by omega)))
  have w101 := w101.em hS26_6
  have q100_0 := hX26_6.rv List.not_mem_nil (fun h => absurd h.2 (by decide)) q100_0
  have w102 := And.intro (hS26_6.mem w102.1) (hS26_6.kd w102.2)
  have hPz := hPz.e hS26_6 (by decide)
  have hEX := hEX.tr (hS26_6.mono (c := 100) (d := 20004) (by decide) (by decide))
  refine lv_aload_n hE.1 hE.2.1 dX10_init_29 rfl (lv_at hl 0 rfl) ?_
  refine lv_bipush (v := nI 6) hE.1 hE.2.1 dX10_init_30 (by decide) ?_
  refine rg_newQ hE hH (107) f107 (hkd 107 (by decide)) ⟨RX7, (b1 82 rfl rfl), nb1 83 rfl rfl, Or.inr (Or.inr ⟨rfl, rfl⟩)⟩ (by omega) (by show 0 + 1 + 1 + 4 + 1 ≤ 34; omega) (by show 0 + 1000 + 2 + 3011 + 6 ≤ 6700; omega) dX10_init_32 (fun G32_7 H hX32_7 hln32_7 hrv32_7 hH => ?_)
  have hS32_7 := hX32_7.ex1 f107
  have w107 : isA G32_7 (107) 18 6 := ⟨hX32_7.new (List.mem_singleton_self _), hX32_7.kd (hkd 107 (by decide)), hln32_7⟩
  have hl : lv_has ls 1 [(0, .ref (G32_7.ad 100))] := by rw [hS32_7.adm (w100.1)]; exact hl
  refine rg_st (st' := [.ref (G32_7.ad 107), .ref (G32_7.ad 100)]) (by rw [hS32_7.adm (w100.1)]) ?_
  have w100 := And.intro (hS32_7.mem w100.1) (hS32_7.kd w100.2)
  have f108 := hS32_7.nin f108 (Or.inr (by decide))
  have f109 := hS32_7.nin f109 (Or.inr (by decide))
  have f110 := hS32_7.nin f110 (Or.inr (by decide))
  have fL := hS32_7.nin fL (Or.inr (by decide))
  have hfL : ∀ x, 10001 ≤ x → x < 10040 → x ∉ G32_7.L := fun x h1 h2 => hS32_7.nin (hfL x (Nat.le_trans (by decide) h1) h2) (Or.inr (Nat.le_trans (by decide) h1))
  have fW := hS32_7.nin fW (Or.inr (by decide))
  have hfW : ∀ x, 20001 ≤ x → x < 20004 → x ∉ G32_7.L := fun x h1 h2 => hS32_7.nin (hfW x (Nat.le_trans (by decide) h1) h2) (Or.inr (Nat.le_trans (by decide) h1))
  have hkd : ∀ i, i < 111 → G32_7.kd i = kd0 i := by rw [EX_kd hS32_7]; exact hkd
  have hkL : ∀ i, i < 33 → G32_7.kd (10000 + i) = kLa i := by rw [EX_kd hS32_7]; exact hkL
  have hkW : ∀ i, i < 4 → G32_7.kd (20000 + i) = kWh i := by rw [EX_kd hS32_7]; exact hkW
  have hCv := (fun (lb : Nat) hm => (EX.cov hS32_7 hm).elim (hCv lb) (fun h => Or.inr (by omega)))
  have w101 := w101.em hS32_7
  have q100_0 := hS32_7.rv (Or.inl (by decide)) q100_0
  have w102 := And.intro (hS32_7.mem w102.1) (hS32_7.kd w102.2)
  have hPz := hPz.e hS32_7 (by decide)
  have q100_2 := hS32_7.rv (Or.inl (by decide)) q100_2
  have hEX := hEX.tr (hS32_7.mono (c := 100) (d := 20004) (by decide) (by decide))
  have hU32_7 : Fr iv23 (clr iv23 (107) 0) (fun b0 _ => b0 = 107) := Fr.clr Fr.rf (fun _ => rfl)
  have hJ32_7 : FrJ jv23 (clr jv23 (107) 0) (fun b0 _ => b0 = 107) := FrJ.clr FrJ.rf (fun _ => rfl)
  have i100_1 := (hU32_7 _ _ (by decide)).trans i100_1
  have hFr := hFr.tr (hU32_7.mono (P' := fun lb _ => 100 ≤ lb ∧ lb < 20004) (fun lb j h => by rw [h]; exact ⟨by decide, by decide⟩))
  have hFj := hFj.tr (hJ32_7.mono (P' := fun lb _ => 100 ≤ lb ∧ lb < 20004) (fun lb j h => by rw [h]; exact ⟨by decide, by decide⟩))
  generalize clr iv23 (107) 0 = iv32_7 at hH hFr hU32_7 i100_1
  generalize clr jv23 (107) 0 = jv32_7 at hH hFj hJ32_7 
  refine rg_putrF hE hH cf_X10 fl_X10_26 rfl fn_X10_3 fo_X10_3 hnm (w100.1) (w100.2) (v := 107) (w107.1) dX10_init_35 (fun H locs hH => ?_)
  have hX35_8 := GX.set (G := G32_7) (lb := 100) (k := 3) (v := some (107))
  have hS35_8 := EX.set (G := G32_7) (lb := 100) (k := 3) (v := some (107))
  have q100_3 := setR_s (G := G32_7) (lb := 100) (k := 3) (v := some (107))
  generalize (G32_7.setR (up2 G32_7.rv 100 3 (some 107))) = G35_8 at hH hX35_8 hS35_8 q100_3
  have hl : lv_has ls 1 [(0, .ref (G35_8.ad 100))] := by rw [hS35_8.adm (w100.1)]; exact hl
  have w100 := And.intro (hS35_8.mem w100.1) (hS35_8.kd w100.2)
  have f108 := hS35_8.nin f108 (Or.inr (by decide))
  have f109 := hS35_8.nin f109 (Or.inr (by decide))
  have f110 := hS35_8.nin f110 (Or.inr (by decide))
  have fL := hS35_8.nin fL (Or.inr (by decide))
  have hfL : ∀ x, 10001 ≤ x → x < 10040 → x ∉ G35_8.L := fun x h1 h2 => hS35_8.nin (hfL x (Nat.le_trans (by decide) h1) h2) (Or.inr (Nat.le_trans (by decide) h1))
  have fW := hS35_8.nin fW (Or.inr (by decide))
  have hfW : ∀ x, 20001 ≤ x → x < 20004 → x ∉ G35_8.L := fun x h1 h2 => hS35_8.nin (hfW x (Nat.le_trans (by decide) h1) h2) (Or.inr (Nat.le_trans (by decide) h1))
  have hkd : ∀ i, i < 111 → G35_8.kd i = kd0 i := by rw [EX_kd hS35_8]; exact hkd
  have hkL : ∀ i, i < 33 → G35_8.kd (10000 + i) = kLa i := by rw [EX_kd hS35_8]; exact hkL
  have hkW : ∀ i, i < 4 → G35_8.kd (20000 + i) = kWh i := by rw [EX_kd hS35_8]; exact hkW
  have hCv := (fun (lb : Nat) hm => (EX.cov hS35_8 hm).elim (hCv lb) (fun h => Or.inr (by omega)))
  have w101 := w101.em hS35_8
  have q100_0 := hX35_8.rv List.not_mem_nil (fun h => absurd h.2 (by decide)) q100_0
  have w102 := And.intro (hS35_8.mem w102.1) (hS35_8.kd w102.2)
  have hPz := hPz.e hS35_8 (by decide)
  have q100_2 := hX35_8.rv List.not_mem_nil (fun h => absurd h.2 (by decide)) q100_2
  have w107 := w107.em hS35_8
  have hEX := hEX.tr (hS35_8.mono (c := 100) (d := 20004) (by decide) (by decide))
  refine lv_aload_n hE.1 hE.2.1 dX10_init_38 rfl (lv_at hl 0 rfl) ?_
  refine lv_iconst (v := nI 0) hE.1 hE.2.1 dX10_init_39 (by decide) ?_
  refine rg_puti hE hH cf_X10 fl_X10_30 rfl fn_X10_4 (w100.1) (w100.2) (v := nI 0) dX10_init_40 (fun H locs hH => ?_)
  have hU40_9 : Fr iv32_7 (up2 iv32_7 100 4 (nI 0)) (fun b0 j => b0 = 100 ∧ j = 4) := Fr.up Fr.rf ⟨rfl, rfl⟩
  have hJ40_9 : FrJ jv32_7 jv32_7 (fun b0 j => b0 = 100 ∧ j = 4) := FrJ.rf
  have i100_1 := (hU40_9 _ _ (fun h => absurd h.2 (by decide))).trans i100_1
  have hFr := hFr.tr (hU40_9.mono (P' := fun lb _ => 100 ≤ lb ∧ lb < 20004) (fun lb j h => by rw [h.1]; exact ⟨by decide, by decide⟩))
  have hFj := hFj.tr (hJ40_9.mono (P' := fun lb _ => 100 ≤ lb ∧ lb < 20004) (fun lb j h => by rw [h.1]; exact ⟨by decide, by decide⟩))
  have i100_4 : (up2 iv32_7 100 4 (nI 0)) (100) 4 = nI 0 := up2_s
  generalize up2 iv32_7 100 4 (nI 0) = iv40_9 at hH hFr hU40_9 i100_1 i100_4
  refine lv_aload_n hE.1 hE.2.1 dX10_init_43 rfl (lv_at hl 0 rfl) ?_
  refine lv_bipush (v := nI 12) hE.1 hE.2.1 dX10_init_44 (by decide) ?_
  refine rg_newQ hE hH (108) f108 (hkd 108 (by decide)) ⟨RX5, (b1 84 rfl rfl), nb1 85 rfl rfl, Or.inr (Or.inl ⟨rfl, rfl⟩)⟩ (by omega) (by show 0 + 1 + 1 + 4 + 1 + 1 ≤ 34; omega) (by show 0 + 1000 + 2 + 3011 + 6 + 12 ≤ 6700; omega) dX10_init_46 (fun G46_10 H hX46_10 hln46_10 hrv46_10 hH => ?_)
  have hS46_10 := hX46_10.ex1 f108
  have w108 : isA G46_10 (108) 17 12 := ⟨hX46_10.new (List.mem_singleton_self _), hX46_10.kd (hkd 108 (by decide)), hln46_10⟩
  have hl : lv_has ls 1 [(0, .ref (G46_10.ad 100))] := by rw [hS46_10.adm (w100.1)]; exact hl
  refine rg_st (st' := [.ref (G46_10.ad 108), .ref (G46_10.ad 100)]) (by rw [hS46_10.adm (w100.1)]) ?_
  have w100 := And.intro (hS46_10.mem w100.1) (hS46_10.kd w100.2)
  have f109 := hS46_10.nin f109 (Or.inr (by decide))
  have f110 := hS46_10.nin f110 (Or.inr (by decide))
  have fL := hS46_10.nin fL (Or.inr (by decide))
  have hfL : ∀ x, 10001 ≤ x → x < 10040 → x ∉ G46_10.L := fun x h1 h2 => hS46_10.nin (hfL x (Nat.le_trans (by decide) h1) h2) (Or.inr (Nat.le_trans (by decide) h1))
  have fW := hS46_10.nin fW (Or.inr (by decide))
  have hfW : ∀ x, 20001 ≤ x → x < 20004 → x ∉ G46_10.L := fun x h1 h2 => hS46_10.nin (hfW x (Nat.le_trans (by decide) h1) h2) (Or.inr (Nat.le_trans (by decide) h1))
  have hkd : ∀ i, i < 111 → G46_10.kd i = kd0 i := by rw [EX_kd hS46_10]; exact hkd
  have hkL : ∀ i, i < 33 → G46_10.kd (10000 + i) = kLa i := by rw [EX_kd hS46_10]; exact hkL
  have hkW : ∀ i, i < 4 → G46_10.kd (20000 + i) = kWh i := by rw [EX_kd hS46_10]; exact hkW
  have hCv := (fun (lb : Nat) hm => (EX.cov hS46_10 hm).elim (hCv lb) (fun h => Or.inr (by omega)))
  have w101 := w101.em hS46_10
  have q100_0 := hS46_10.rv (Or.inl (by decide)) q100_0
  have w102 := And.intro (hS46_10.mem w102.1) (hS46_10.kd w102.2)
  have hPz := hPz.e hS46_10 (by decide)
  have q100_2 := hS46_10.rv (Or.inl (by decide)) q100_2
  have w107 := w107.em hS46_10
  have q100_3 := hS46_10.rv (Or.inl (by decide)) q100_3
  have hEX := hEX.tr (hS46_10.mono (c := 100) (d := 20004) (by decide) (by decide))
  have hU46_10 : Fr iv40_9 (clr iv40_9 (108) 0) (fun b0 _ => b0 = 108) := Fr.clr Fr.rf (fun _ => rfl)
  have hJ46_10 : FrJ jv32_7 (clr jv32_7 (108) 0) (fun b0 _ => b0 = 108) := FrJ.clr FrJ.rf (fun _ => rfl)
  have i100_1 := (hU46_10 _ _ (by decide)).trans i100_1
  have i100_4 := (hU46_10 _ _ (by decide)).trans i100_4
  have hFr := hFr.tr (hU46_10.mono (P' := fun lb _ => 100 ≤ lb ∧ lb < 20004) (fun lb j h => by rw [h]; exact ⟨by decide, by decide⟩))
  have hFj := hFj.tr (hJ46_10.mono (P' := fun lb _ => 100 ≤ lb ∧ lb < 20004) (fun lb j h => by rw [h]; exact ⟨by decide, by decide⟩))
  generalize clr iv40_9 (108) 0 = iv46_10 at hH hFr hU46_10 i100_1 i100_4
  generalize clr jv32_7 (108) 0 = jv46_10 at hH hFj hJ46_10 
  refine rg_putrF hE hH cf_X10 fl_X10_35 rfl fn_X10_5 fo_X10_5 hnm (w100.1) (w100.2) (v := 108) (w108.1) dX10_init_49 (fun H locs hH => ?_)
  have hX49_11 := GX.set (G := G46_10) (lb := 100) (k := 5) (v := some (108))
  have hS49_11 := EX.set (G := G46_10) (lb := 100) (k := 5) (v := some (108))
  have q100_5 := setR_s (G := G46_10) (lb := 100) (k := 5) (v := some (108))
  generalize (G46_10.setR (up2 G46_10.rv 100 5 (some 108))) = G49_11 at hH hX49_11 hS49_11 q100_5
  have hl : lv_has ls 1 [(0, .ref (G49_11.ad 100))] := by rw [hS49_11.adm (w100.1)]; exact hl
  have w100 := And.intro (hS49_11.mem w100.1) (hS49_11.kd w100.2)
  have f109 := hS49_11.nin f109 (Or.inr (by decide))
  have f110 := hS49_11.nin f110 (Or.inr (by decide))
  have fL := hS49_11.nin fL (Or.inr (by decide))
  have hfL : ∀ x, 10001 ≤ x → x < 10040 → x ∉ G49_11.L := fun x h1 h2 => hS49_11.nin (hfL x (Nat.le_trans (by decide) h1) h2) (Or.inr (Nat.le_trans (by decide) h1))
  have fW := hS49_11.nin fW (Or.inr (by decide))
  have hfW : ∀ x, 20001 ≤ x → x < 20004 → x ∉ G49_11.L := fun x h1 h2 => hS49_11.nin (hfW x (Nat.le_trans (by decide) h1) h2) (Or.inr (Nat.le_trans (by decide) h1))
  have hkd : ∀ i, i < 111 → G49_11.kd i = kd0 i := by rw [EX_kd hS49_11]; exact hkd
  have hkL : ∀ i, i < 33 → G49_11.kd (10000 + i) = kLa i := by rw [EX_kd hS49_11]; exact hkL
  have hkW : ∀ i, i < 4 → G49_11.kd (20000 + i) = kWh i := by rw [EX_kd hS49_11]; exact hkW
  have hCv := (fun (lb : Nat) hm => (EX.cov hS49_11 hm).elim (hCv lb) (fun h => Or.inr (by omega)))
  have w101 := w101.em hS49_11
  have q100_0 := hX49_11.rv List.not_mem_nil (fun h => absurd h.2 (by decide)) q100_0
  have w102 := And.intro (hS49_11.mem w102.1) (hS49_11.kd w102.2)
  have hPz := hPz.e hS49_11 (by decide)
  have q100_2 := hX49_11.rv List.not_mem_nil (fun h => absurd h.2 (by decide)) q100_2
  have w107 := w107.em hS49_11
  have q100_3 := hX49_11.rv List.not_mem_nil (fun h => absurd h.2 (by decide)) q100_3
  have w108 := w108.em hS49_11
  have hEX := hEX.tr (hS49_11.mono (c := 100) (d := 20004) (by decide) (by decide))
  refine lv_aload_n hE.1 hE.2.1 dX10_init_52 rfl (lv_at hl 0 rfl) ?_
  refine lv_iconst (v := nI 0) hE.1 hE.2.1 dX10_init_53 (by decide) ?_
  refine rg_puti hE hH cf_X10 fl_X10_39 rfl fn_X10_6 (w100.1) (w100.2) (v := nI 0) dX10_init_54 (fun H locs hH => ?_)
  have hU54_12 : Fr iv46_10 (up2 iv46_10 100 6 (nI 0)) (fun b0 j => b0 = 100 ∧ j = 6) := Fr.up Fr.rf ⟨rfl, rfl⟩
  have hJ54_12 : FrJ jv46_10 jv46_10 (fun b0 j => b0 = 100 ∧ j = 6) := FrJ.rf
  have i100_1 := (hU54_12 _ _ (fun h => absurd h.2 (by decide))).trans i100_1
  have i100_4 := (hU54_12 _ _ (fun h => absurd h.2 (by decide))).trans i100_4
  have hFr := hFr.tr (hU54_12.mono (P' := fun lb _ => 100 ≤ lb ∧ lb < 20004) (fun lb j h => by rw [h.1]; exact ⟨by decide, by decide⟩))
  have hFj := hFj.tr (hJ54_12.mono (P' := fun lb _ => 100 ≤ lb ∧ lb < 20004) (fun lb j h => by rw [h.1]; exact ⟨by decide, by decide⟩))
  have i100_6 : (up2 iv46_10 100 6 (nI 0)) (100) 6 = nI 0 := up2_s
  generalize up2 iv46_10 100 6 (nI 0) = iv54_12 at hH hFr hU54_12 i100_1 i100_4 i100_6
  refine lv_aload_n hE.1 hE.2.1 dX10_init_57 rfl (lv_at hl 0 rfl) ?_
  refine rg_newO (ci := 1) hE hH (10000) fL (hkL 0 (by decide)) cf_X1 ⟨RX1, TX1, rfl, (b1 86 rfl rfl), (b1 87 rfl rfl), (b1 4 rfl rfl)⟩ (by show 0 + 1 + 1 + 4 + 1 + 1 + 1 ≤ 34; omega) (by show 0 + 1000 + 2 + 3011 + 6 + 12 + 5 ≤ 6700; omega) dX10_init_58 (fun G58_13 H hX58_13 hln58_13 hrv58_13 hH => ?_)
  have hS58_13 := hX58_13.ex1 fL
  have w10000 : (10000) ∈ G58_13.L ∧ G58_13.kd (10000) = 1 := ⟨hX58_13.new (List.mem_singleton_self _), hX58_13.kd (hkL 0 (by decide))⟩
  have hl : lv_has ls 1 [(0, .ref (G58_13.ad 100))] := by rw [hS58_13.adm (w100.1)]; exact hl
  refine rg_st (st' := [.ref (G58_13.ad 10000), .ref (G58_13.ad 100)]) (by rw [hS58_13.adm (w100.1)]) ?_
  have w100 := And.intro (hS58_13.mem w100.1) (hS58_13.kd w100.2)
  have f109 := hS58_13.nin f109 (Or.inl (by decide))
  have f110 := hS58_13.nin f110 (Or.inl (by decide))
  have hfL : ∀ x, 10001 ≤ x → x < 10040 → x ∉ G58_13.L := fun x h1 h2 => hS58_13.nin (hfL x (Nat.le_trans (by decide) h1) h2) (Or.inr (Nat.le_trans (by decide) h1))
  have fW := hS58_13.nin fW (Or.inr (by decide))
  have hfW : ∀ x, 20001 ≤ x → x < 20004 → x ∉ G58_13.L := fun x h1 h2 => hS58_13.nin (hfW x (Nat.le_trans (by decide) h1) h2) (Or.inr (Nat.le_trans (by decide) h1))
  have hkd : ∀ i, i < 111 → G58_13.kd i = kd0 i := by rw [EX_kd hS58_13]; exact hkd
  have hkL : ∀ i, i < 33 → G58_13.kd (10000 + i) = kLa i := by rw [EX_kd hS58_13]; exact hkL
  have hkW : ∀ i, i < 4 → G58_13.kd (20000 + i) = kWh i := by rw [EX_kd hS58_13]; exact hkW
  have hCv := (fun (lb : Nat) hm => (EX.cov hS58_13 hm).elim (hCv lb) (fun h => Or.inr (by omega)))
  have w101 := w101.em hS58_13
  have q100_0 := hS58_13.rv (Or.inl (by decide)) q100_0
  have w102 := And.intro (hS58_13.mem w102.1) (hS58_13.kd w102.2)
  have hPz := hPz.e hS58_13 (by decide)
  have q100_2 := hS58_13.rv (Or.inl (by decide)) q100_2
  have w107 := w107.em hS58_13
  have q100_3 := hS58_13.rv (Or.inl (by decide)) q100_3
  have w108 := w108.em hS58_13
  have q100_5 := hS58_13.rv (Or.inl (by decide)) q100_5
  have hEX := hEX.tr (hS58_13.mono (c := 100) (d := 20004) (by decide) (by decide))
  have hU58_13 : Fr iv54_12 (clr iv54_12 (10000) 0) (fun b0 _ => b0 = 10000) := Fr.clr Fr.rf (fun _ => rfl)
  have hJ58_13 : FrJ jv46_10 (clr jv46_10 (10000) 0) (fun b0 _ => b0 = 10000) := FrJ.clr FrJ.rf (fun _ => rfl)
  have i100_1 := (hU58_13 _ _ (by decide)).trans i100_1
  have i100_4 := (hU58_13 _ _ (by decide)).trans i100_4
  have i100_6 := (hU58_13 _ _ (by decide)).trans i100_6
  have hFr := hFr.tr (hU58_13.mono (P' := fun lb _ => 100 ≤ lb ∧ lb < 20004) (fun lb j h => by rw [h]; exact ⟨by decide, by decide⟩))
  have hFj := hFj.tr (hJ58_13.mono (P' := fun lb _ => 100 ≤ lb ∧ lb < 20004) (fun lb j h => by rw [h]; exact ⟨by decide, by decide⟩))
  generalize clr iv54_12 (10000) 0 = iv58_13 at hH hFr hU58_13 i100_1 i100_4 i100_6
  generalize clr jv46_10 (10000) 0 = jv58_13 at hH hFj hJ58_13 
  refine lv_dup hE.1 hE.2.1 dX10_init_61 rfl ?_
  refine rg_IV (As := []) (rest := [.ref (G58_13.ad 10000), .ref (G58_13.ad 100)]) hE hml hH mc_X10_44 (c_La_init l z G58_13 iv58_13 jv58_13 10000 w10000 hfL hkL) rfl ⟨Nat.le_of_ble_eq_true rfl, Nat.le_of_ble_eq_true rfl⟩ rfl hl.1 (by simp [Value.category]) dX10_init_62 ⟨by show 0 + 1 + 1 + 4 + 1 + 1 + 1 + 16 ≤ 34; omega, by show 0 + 1000 + 2 + 3011 + 6 + 12 + 5 + 304 ≤ 6700; omega⟩ (fun G62 iv62 jv62 H locs hp62 hH => ?_)
  obtain ⟨hS62_14, hLa, hU62_14, hJ62_14⟩ := hp62
  have hl : lv_has ls 1 [(0, .ref (G62.ad 100))] := by rw [hS62_14.adm (w100.1)]; exact hl
  refine rg_st (st' := [.ref (G62.ad 10000), .ref (G62.ad 100)]) (by rw [hS62_14.adm (w10000.1), hS62_14.adm (w100.1)]) ?_
  have w100 := And.intro (hS62_14.mem w100.1) (hS62_14.kd w100.2)
  have f109 := hS62_14.nin f109 (Or.inl (by decide))
  have f110 := hS62_14.nin f110 (Or.inl (by decide))
  have fW := hS62_14.nin fW (Or.inr (by decide))
  have hfW : ∀ x, 20001 ≤ x → x < 20004 → x ∉ G62.L := fun x h1 h2 => hS62_14.nin (hfW x (Nat.le_trans (by decide) h1) h2) (Or.inr (Nat.le_trans (by decide) h1))
  have hkd : ∀ i, i < 111 → G62.kd i = kd0 i := by rw [EX_kd hS62_14]; exact hkd
  have hkL : ∀ i, i < 33 → G62.kd (10000 + i) = kLa i := by rw [EX_kd hS62_14]; exact hkL
  have hkW : ∀ i, i < 4 → G62.kd (20000 + i) = kWh i := by rw [EX_kd hS62_14]; exact hkW
  have hCv := (fun (lb : Nat) hm => (EX.cov hS62_14 hm).elim (hCv lb) (fun h => Or.inr (by omega)))
  have w101 := w101.em hS62_14
  have q100_0 := hS62_14.rv (Or.inl (by decide)) q100_0
  have w102 := And.intro (hS62_14.mem w102.1) (hS62_14.kd w102.2)
  have hPz := hPz.e hS62_14 (by decide)
  have q100_2 := hS62_14.rv (Or.inl (by decide)) q100_2
  have w107 := w107.em hS62_14
  have q100_3 := hS62_14.rv (Or.inl (by decide)) q100_3
  have w108 := w108.em hS62_14
  have q100_5 := hS62_14.rv (Or.inl (by decide)) q100_5
  have w10000 := And.intro (hS62_14.mem w10000.1) (hS62_14.kd w10000.2)
  have hEX := hEX.tr (hS62_14.mono (c := 100) (d := 20004) (by decide) (by decide))
  have i100_1 := (hU62_14 _ _ (by omega)).trans i100_1
  have i100_4 := (hU62_14 _ _ (by omega)).trans i100_4
  have i100_6 := (hU62_14 _ _ (by omega)).trans i100_6
  have hFr := hFr.tr (hU62_14.mono (P' := fun lb _ => 100 ≤ lb ∧ lb < 20004) (fun lb j h => by omega))
  have hFj := hFj.tr (hJ62_14.mono (P' := fun lb _ => 100 ≤ lb ∧ lb < 20004) (fun lb j h => by omega))
  refine rg_putr hE hH cf_X10 fl_X10_45 rfl fn_X10_7 (w100.1) (w100.2) (v := 10000) (w10000.1) dX10_init_65 (fun H locs hH => ?_)
  have hX65_15 := GX.set (G := G62) (lb := 100) (k := 7) (v := some (10000))
  have hS65_15 := EX.set (G := G62) (lb := 100) (k := 7) (v := some (10000))
  have q100_7 := setR_s (G := G62) (lb := 100) (k := 7) (v := some (10000))
  generalize (G62.setR (up2 G62.rv 100 7 (some 10000))) = G65_15 at hH hX65_15 hS65_15 q100_7
  have hl : lv_has ls 1 [(0, .ref (G65_15.ad 100))] := by rw [hS65_15.adm (w100.1)]; exact hl
  have w100 := And.intro (hS65_15.mem w100.1) (hS65_15.kd w100.2)
  have f109 := hS65_15.nin f109 (Or.inr (by decide))
  have f110 := hS65_15.nin f110 (Or.inr (by decide))
  have fW := hS65_15.nin fW (Or.inr (by decide))
  have hfW : ∀ x, 20001 ≤ x → x < 20004 → x ∉ G65_15.L := fun x h1 h2 => hS65_15.nin (hfW x (Nat.le_trans (by decide) h1) h2) (Or.inr (Nat.le_trans (by decide) h1))
  have hkd : ∀ i, i < 111 → G65_15.kd i = kd0 i := by rw [EX_kd hS65_15]; exact hkd
  have hkL : ∀ i, i < 33 → G65_15.kd (10000 + i) = kLa i := by rw [EX_kd hS65_15]; exact hkL
  have hkW : ∀ i, i < 4 → G65_15.kd (20000 + i) = kWh i := by rw [EX_kd hS65_15]; exact hkW
  have hCv := (fun (lb : Nat) hm => (EX.cov hS65_15 hm).elim (hCv lb) (fun h => Or.inr (by omega)))
  have w101 := w101.em hS65_15
  have q100_0 := hX65_15.rv List.not_mem_nil (fun h => absurd h.2 (by decide)) q100_0
  have w102 := And.intro (hS65_15.mem w102.1) (hS65_15.kd w102.2)
  have hPz := hPz.e hS65_15 (by decide)
  have q100_2 := hX65_15.rv List.not_mem_nil (fun h => absurd h.2 (by decide)) q100_2
  have w107 := w107.em hS65_15
  have q100_3 := hX65_15.rv List.not_mem_nil (fun h => absurd h.2 (by decide)) q100_3
  have w108 := w108.em hS65_15
  have q100_5 := hX65_15.rv List.not_mem_nil (fun h => absurd h.2 (by decide)) q100_5
  have w10000 := And.intro (hS65_15.mem w10000.1) (hS65_15.kd w10000.2)
  have hLa := hLa.e hS65_15 (by decide)
  have hEX := hEX.tr (hS65_15.mono (c := 100) (d := 20004) (by decide) (by decide))
  refine lv_aload_n hE.1 hE.2.1 dX10_init_68 rfl (lv_at hl 0 rfl) ?_
  refine rg_newO (ci := 9) hE hH (20000) fW (hkW 0 (by decide)) cf_X9 ⟨RX9, TX9, rfl, (b1 171 rfl rfl), (b1 172 rfl rfl), (b1 7 rfl rfl)⟩ (by show 0 + 1 + 1 + 4 + 1 + 1 + 1 + 16 + 1 ≤ 34; omega) (by show 0 + 1000 + 2 + 3011 + 6 + 12 + 5 + 304 + 2 ≤ 6700; omega) dX10_init_69 (fun G69_16 H hX69_16 hln69_16 hrv69_16 hH => ?_)
  have hS69_16 := hX69_16.ex1 fW
  have w20000 : (20000) ∈ G69_16.L ∧ G69_16.kd (20000) = 9 := ⟨hX69_16.new (List.mem_singleton_self _), hX69_16.kd (hkW 0 (by decide))⟩
  have hl : lv_has ls 1 [(0, .ref (G69_16.ad 100))] := by rw [hS69_16.adm (w100.1)]; exact hl
  refine rg_st (st' := [.ref (G69_16.ad 20000), .ref (G69_16.ad 100)]) (by rw [hS69_16.adm (w100.1)]) ?_
  have w100 := And.intro (hS69_16.mem w100.1) (hS69_16.kd w100.2)
  have f109 := hS69_16.nin f109 (Or.inl (by decide))
  have f110 := hS69_16.nin f110 (Or.inl (by decide))
  have hfW : ∀ x, 20001 ≤ x → x < 20004 → x ∉ G69_16.L := fun x h1 h2 => hS69_16.nin (hfW x (Nat.le_trans (by decide) h1) h2) (Or.inr (Nat.le_trans (by decide) h1))
  have hkd : ∀ i, i < 111 → G69_16.kd i = kd0 i := by rw [EX_kd hS69_16]; exact hkd
  have hkL : ∀ i, i < 33 → G69_16.kd (10000 + i) = kLa i := by rw [EX_kd hS69_16]; exact hkL
  have hkW : ∀ i, i < 4 → G69_16.kd (20000 + i) = kWh i := by rw [EX_kd hS69_16]; exact hkW
  have hCv := (fun (lb : Nat) hm => (EX.cov hS69_16 hm).elim (hCv lb) (fun h => Or.inr (by omega)))
  have w101 := w101.em hS69_16
  have q100_0 := hS69_16.rv (Or.inl (by decide)) q100_0
  have w102 := And.intro (hS69_16.mem w102.1) (hS69_16.kd w102.2)
  have hPz := hPz.e hS69_16 (by decide)
  have q100_2 := hS69_16.rv (Or.inl (by decide)) q100_2
  have w107 := w107.em hS69_16
  have q100_3 := hS69_16.rv (Or.inl (by decide)) q100_3
  have w108 := w108.em hS69_16
  have q100_5 := hS69_16.rv (Or.inl (by decide)) q100_5
  have w10000 := And.intro (hS69_16.mem w10000.1) (hS69_16.kd w10000.2)
  have hLa := hLa.e hS69_16 (by decide)
  have q100_7 := hS69_16.rv (Or.inl (by decide)) q100_7
  have hEX := hEX.tr (hS69_16.mono (c := 100) (d := 20004) (by decide) (by decide))
  have hU69_16 : Fr iv62 (clr iv62 (20000) 0) (fun b0 _ => b0 = 20000) := Fr.clr Fr.rf (fun _ => rfl)
  have hJ69_16 : FrJ jv62 (clr jv62 (20000) 0) (fun b0 _ => b0 = 20000) := FrJ.clr FrJ.rf (fun _ => rfl)
  have i100_1 := (hU69_16 _ _ (by decide)).trans i100_1
  have i100_4 := (hU69_16 _ _ (by decide)).trans i100_4
  have i100_6 := (hU69_16 _ _ (by decide)).trans i100_6
  have hFr := hFr.tr (hU69_16.mono (P' := fun lb _ => 100 ≤ lb ∧ lb < 20004) (fun lb j h => by rw [h]; exact ⟨by decide, by decide⟩))
  have hFj := hFj.tr (hJ69_16.mono (P' := fun lb _ => 100 ≤ lb ∧ lb < 20004) (fun lb j h => by rw [h]; exact ⟨by decide, by decide⟩))
  generalize clr iv62 (20000) 0 = iv69_16 at hH hFr hU69_16 i100_1 i100_4 i100_6
  generalize clr jv62 (20000) 0 = jv69_16 at hH hFj hJ69_16 
  refine lv_dup hE.1 hE.2.1 dX10_init_72 rfl ?_
  refine rg_IV (As := []) (rest := [.ref (G69_16.ad 20000), .ref (G69_16.ad 100)]) hE hml hH mc_X10_51 (c_Wh_init l z G69_16 iv69_16 jv69_16 20000 w20000 hfW hkW) rfl ⟨Nat.le_of_ble_eq_true rfl, Nat.le_of_ble_eq_true rfl⟩ rfl hl.1 (by simp [Value.category]) dX10_init_73 ⟨by show 0 + 1 + 1 + 4 + 1 + 1 + 1 + 16 + 1 + 3 ≤ 34; omega, by show 0 + 1000 + 2 + 3011 + 6 + 12 + 5 + 304 + 2 + 243 ≤ 6700; omega⟩ (fun G73 iv73 jv73 H locs hp73 hH => ?_)
  obtain ⟨hS73_17, hWh, hU73_17, hJ73_17⟩ := hp73
  have hl : lv_has ls 1 [(0, .ref (G73.ad 100))] := by rw [hS73_17.adm (w100.1)]; exact hl
  refine rg_st (st' := [.ref (G73.ad 20000), .ref (G73.ad 100)]) (by rw [hS73_17.adm (w20000.1), hS73_17.adm (w100.1)]) ?_
  have w100 := And.intro (hS73_17.mem w100.1) (hS73_17.kd w100.2)
  have f109 := hS73_17.nin f109 (Or.inl (by decide))
  have f110 := hS73_17.nin f110 (Or.inl (by decide))
  have hkd : ∀ i, i < 111 → G73.kd i = kd0 i := by rw [EX_kd hS73_17]; exact hkd
  have hkL : ∀ i, i < 33 → G73.kd (10000 + i) = kLa i := by rw [EX_kd hS73_17]; exact hkL
  have hkW : ∀ i, i < 4 → G73.kd (20000 + i) = kWh i := by rw [EX_kd hS73_17]; exact hkW
  have hCv := (fun (lb : Nat) hm => (EX.cov hS73_17 hm).elim (hCv lb) (fun h => Or.inr (by omega)))
  have w101 := w101.em hS73_17
  have q100_0 := hS73_17.rv (Or.inl (by decide)) q100_0
  have w102 := And.intro (hS73_17.mem w102.1) (hS73_17.kd w102.2)
  have hPz := hPz.e hS73_17 (by decide)
  have q100_2 := hS73_17.rv (Or.inl (by decide)) q100_2
  have w107 := w107.em hS73_17
  have q100_3 := hS73_17.rv (Or.inl (by decide)) q100_3
  have w108 := w108.em hS73_17
  have q100_5 := hS73_17.rv (Or.inl (by decide)) q100_5
  have w10000 := And.intro (hS73_17.mem w10000.1) (hS73_17.kd w10000.2)
  have hLa := hLa.e hS73_17 (by decide)
  have q100_7 := hS73_17.rv (Or.inl (by decide)) q100_7
  have w20000 := And.intro (hS73_17.mem w20000.1) (hS73_17.kd w20000.2)
  have hEX := hEX.tr (hS73_17.mono (c := 100) (d := 20004) (by decide) (by decide))
  have i100_1 := (hU73_17 _ _ (by omega)).trans i100_1
  have i100_4 := (hU73_17 _ _ (by omega)).trans i100_4
  have i100_6 := (hU73_17 _ _ (by omega)).trans i100_6
  have hFr := hFr.tr (hU73_17.mono (P' := fun lb _ => 100 ≤ lb ∧ lb < 20004) (fun lb j h => by omega))
  have hFj := hFj.tr (hJ73_17.mono (P' := fun lb _ => 100 ≤ lb ∧ lb < 20004) (fun lb j h => by omega))
  refine rg_putrF hE hH cf_X10 fl_X10_52 rfl fn_X10_8 fo_X10_8 hnm (w100.1) (w100.2) (v := 20000) (w20000.1) dX10_init_76 (fun H locs hH => ?_)
  have hX76_18 := GX.set (G := G73) (lb := 100) (k := 8) (v := some (20000))
  have hS76_18 := EX.set (G := G73) (lb := 100) (k := 8) (v := some (20000))
  have q100_8 := setR_s (G := G73) (lb := 100) (k := 8) (v := some (20000))
  generalize (G73.setR (up2 G73.rv 100 8 (some 20000))) = G76_18 at hH hX76_18 hS76_18 q100_8
  have hl : lv_has ls 1 [(0, .ref (G76_18.ad 100))] := by rw [hS76_18.adm (w100.1)]; exact hl
  have w100 := And.intro (hS76_18.mem w100.1) (hS76_18.kd w100.2)
  have f109 := hS76_18.nin f109 (Or.inr (by decide))
  have f110 := hS76_18.nin f110 (Or.inr (by decide))
  have hkd : ∀ i, i < 111 → G76_18.kd i = kd0 i := by rw [EX_kd hS76_18]; exact hkd
  have hkL : ∀ i, i < 33 → G76_18.kd (10000 + i) = kLa i := by rw [EX_kd hS76_18]; exact hkL
  have hkW : ∀ i, i < 4 → G76_18.kd (20000 + i) = kWh i := by rw [EX_kd hS76_18]; exact hkW
  have hCv := (fun (lb : Nat) hm => (EX.cov hS76_18 hm).elim (hCv lb) (fun h => Or.inr (by omega)))
  have w101 := w101.em hS76_18
  have q100_0 := hX76_18.rv List.not_mem_nil (fun h => absurd h.2 (by decide)) q100_0
  have w102 := And.intro (hS76_18.mem w102.1) (hS76_18.kd w102.2)
  have hPz := hPz.e hS76_18 (by decide)
  have q100_2 := hX76_18.rv List.not_mem_nil (fun h => absurd h.2 (by decide)) q100_2
  have w107 := w107.em hS76_18
  have q100_3 := hX76_18.rv List.not_mem_nil (fun h => absurd h.2 (by decide)) q100_3
  have w108 := w108.em hS76_18
  have q100_5 := hX76_18.rv List.not_mem_nil (fun h => absurd h.2 (by decide)) q100_5
  have w10000 := And.intro (hS76_18.mem w10000.1) (hS76_18.kd w10000.2)
  have hLa := hLa.e hS76_18 (by decide)
  have q100_7 := hX76_18.rv List.not_mem_nil (fun h => absurd h.2 (by decide)) q100_7
  have w20000 := And.intro (hS76_18.mem w20000.1) (hS76_18.kd w20000.2)
  have hWh := hWh.e hS76_18 (by decide)
  have hEX := hEX.tr (hS76_18.mono (c := 100) (d := 20004) (by decide) (by decide))
  refine lv_aload_n hE.1 hE.2.1 dX10_init_79 rfl (lv_at hl 0 rfl) ?_
  refine lv_iconst (v := -1) hE.1 hE.2.1 dX10_init_80 (by decide) ?_
  refine rg_puti hE hH cf_X10 fl_X10_56 rfl fn_X10_9 (w100.1) (w100.2) (v := -1) dX10_init_81 (fun H locs hH => ?_)
  have hU81_19 : Fr iv73 (up2 iv73 100 9 (-1)) (fun b0 j => b0 = 100 ∧ j = 9) := Fr.up Fr.rf ⟨rfl, rfl⟩
  have hJ81_19 : FrJ jv73 jv73 (fun b0 j => b0 = 100 ∧ j = 9) := FrJ.rf
  have i100_1 := (hU81_19 _ _ (fun h => absurd h.2 (by decide))).trans i100_1
  have i100_4 := (hU81_19 _ _ (fun h => absurd h.2 (by decide))).trans i100_4
  have i100_6 := (hU81_19 _ _ (fun h => absurd h.2 (by decide))).trans i100_6
  have hFr := hFr.tr (hU81_19.mono (P' := fun lb _ => 100 ≤ lb ∧ lb < 20004) (fun lb j h => by rw [h.1]; exact ⟨by decide, by decide⟩))
  have hFj := hFj.tr (hJ81_19.mono (P' := fun lb _ => 100 ≤ lb ∧ lb < 20004) (fun lb j h => by rw [h.1]; exact ⟨by decide, by decide⟩))
  have i100_9 : (up2 iv73 100 9 (-1)) (100) 9 = -1 := up2_s
  generalize up2 iv73 100 9 (-1) = iv81_19 at hH hFr hU81_19 i100_1 i100_4 i100_6 i100_9
  refine lv_aload_n hE.1 hE.2.1 dX10_init_84 rfl (lv_at hl 0 rfl) ?_
  refine rg_newO (ci := 3) hE hH (109) f109 (hkd 109 (by decide)) cf_X3 ⟨RX3, TX3, rfl, (b1 190 rfl rfl), (b1 191 rfl rfl), (b1 8 rfl rfl)⟩ (by show 0 + 1 + 1 + 4 + 1 + 1 + 1 + 16 + 1 + 3 + 1 ≤ 34; omega) (by show 0 + 1000 + 2 + 3011 + 6 + 12 + 5 + 304 + 2 + 243 + 2 ≤ 6700; omega) dX10_init_85 (fun G85_20 H hX85_20 hln85_20 hrv85_20 hH => ?_)
  have hS85_20 := hX85_20.ex1 f109
  have w109 : (109) ∈ G85_20.L ∧ G85_20.kd (109) = 3 := ⟨hX85_20.new (List.mem_singleton_self _), hX85_20.kd (hkd 109 (by decide))⟩
  have hl : lv_has ls 1 [(0, .ref (G85_20.ad 100))] := by rw [hS85_20.adm (w100.1)]; exact hl
  refine rg_st (st' := [.ref (G85_20.ad 109), .ref (G85_20.ad 100)]) (by rw [hS85_20.adm (w100.1)]) ?_
  have w100 := And.intro (hS85_20.mem w100.1) (hS85_20.kd w100.2)
  have f110 := hS85_20.nin f110 (Or.inr (by decide))
  have hkd : ∀ i, i < 111 → G85_20.kd i = kd0 i := by rw [EX_kd hS85_20]; exact hkd
  have hkL : ∀ i, i < 33 → G85_20.kd (10000 + i) = kLa i := by rw [EX_kd hS85_20]; exact hkL
  have hkW : ∀ i, i < 4 → G85_20.kd (20000 + i) = kWh i := by rw [EX_kd hS85_20]; exact hkW
  have hCv := (fun (lb : Nat) hm => (EX.cov hS85_20 hm).elim (hCv lb) (fun h => Or.inr (by omega)))
  have w101 := w101.em hS85_20
  have q100_0 := hS85_20.rv (Or.inl (by decide)) q100_0
  have w102 := And.intro (hS85_20.mem w102.1) (hS85_20.kd w102.2)
  have hPz := hPz.e hS85_20 (by decide)
  have q100_2 := hS85_20.rv (Or.inl (by decide)) q100_2
  have w107 := w107.em hS85_20
  have q100_3 := hS85_20.rv (Or.inl (by decide)) q100_3
  have w108 := w108.em hS85_20
  have q100_5 := hS85_20.rv (Or.inl (by decide)) q100_5
  have w10000 := And.intro (hS85_20.mem w10000.1) (hS85_20.kd w10000.2)
  have hLa := hLa.e hS85_20 (by decide)
  have q100_7 := hS85_20.rv (Or.inl (by decide)) q100_7
  have w20000 := And.intro (hS85_20.mem w20000.1) (hS85_20.kd w20000.2)
  have hWh := hWh.e hS85_20 (by decide)
  have q100_8 := hS85_20.rv (Or.inl (by decide)) q100_8
  have hEX := hEX.tr (hS85_20.mono (c := 100) (d := 20004) (by decide) (by decide))
  have hU85_20 : Fr iv81_19 (clr iv81_19 (109) 0) (fun b0 _ => b0 = 109) := Fr.clr Fr.rf (fun _ => rfl)
  have hJ85_20 : FrJ jv73 (clr jv73 (109) 0) (fun b0 _ => b0 = 109) := FrJ.clr FrJ.rf (fun _ => rfl)
  have i100_1 := (hU85_20 _ _ (by decide)).trans i100_1
  have i100_4 := (hU85_20 _ _ (by decide)).trans i100_4
  have i100_6 := (hU85_20 _ _ (by decide)).trans i100_6
  have i100_9 := (hU85_20 _ _ (by decide)).trans i100_9
  have hFr := hFr.tr (hU85_20.mono (P' := fun lb _ => 100 ≤ lb ∧ lb < 20004) (fun lb j h => by rw [h]; exact ⟨by decide, by decide⟩))
  have hFj := hFj.tr (hJ85_20.mono (P' := fun lb _ => 100 ≤ lb ∧ lb < 20004) (fun lb j h => by rw [h]; exact ⟨by decide, by decide⟩))
  generalize clr iv81_19 (109) 0 = iv85_20 at hH hFr hU85_20 i100_1 i100_4 i100_6 i100_9
  generalize clr jv73 (109) 0 = jv85_20 at hH hFj hJ85_20 
  refine lv_dup hE.1 hE.2.1 dX10_init_88 rfl ?_
  refine rg_IV (As := []) (rest := [.ref (G85_20.ad 109), .ref (G85_20.ad 100)]) hE hml hH mc_X10_61 (c_Ou_init l z G85_20 iv85_20 jv85_20 w109 f110 hkd) rfl ⟨Nat.le_of_ble_eq_true rfl, Nat.le_of_ble_eq_true rfl⟩ rfl hl.1 (by simp [Value.category]) dX10_init_89 ⟨by show 0 + 1 + 1 + 4 + 1 + 1 + 1 + 16 + 1 + 3 + 1 + 1 ≤ 34; omega, by show 0 + 1000 + 2 + 3011 + 6 + 12 + 5 + 304 + 2 + 243 + 2 + 2000 ≤ 6700; omega⟩ (fun G89 iv89 jv89 H locs hp89 hH => ?_)
  obtain ⟨hS89_21, hOu, hO, hU89_21, hJ89_21⟩ := hp89
  have hl : lv_has ls 1 [(0, .ref (G89.ad 100))] := by rw [hS89_21.adm (w100.1)]; exact hl
  refine rg_st (st' := [.ref (G89.ad 109), .ref (G89.ad 100)]) (by rw [hS89_21.adm (w109.1), hS89_21.adm (w100.1)]) ?_
  have w100 := And.intro (hS89_21.mem w100.1) (hS89_21.kd w100.2)
  have hkd : ∀ i, i < 111 → G89.kd i = kd0 i := by rw [EX_kd hS89_21]; exact hkd
  have hkL : ∀ i, i < 33 → G89.kd (10000 + i) = kLa i := by rw [EX_kd hS89_21]; exact hkL
  have hkW : ∀ i, i < 4 → G89.kd (20000 + i) = kWh i := by rw [EX_kd hS89_21]; exact hkW
  have hCv := (fun (lb : Nat) hm => (EX.cov hS89_21 hm).elim (hCv lb) (fun h => Or.inr (by omega)))
  have w101 := w101.em hS89_21
  have q100_0 := hS89_21.rv (Or.inl (by decide)) q100_0
  have w102 := And.intro (hS89_21.mem w102.1) (hS89_21.kd w102.2)
  have hPz := hPz.e hS89_21 (by decide)
  have q100_2 := hS89_21.rv (Or.inl (by decide)) q100_2
  have w107 := w107.em hS89_21
  have q100_3 := hS89_21.rv (Or.inl (by decide)) q100_3
  have w108 := w108.em hS89_21
  have q100_5 := hS89_21.rv (Or.inl (by decide)) q100_5
  have w10000 := And.intro (hS89_21.mem w10000.1) (hS89_21.kd w10000.2)
  have hLa := hLa.e hS89_21 (by decide)
  have q100_7 := hS89_21.rv (Or.inl (by decide)) q100_7
  have w20000 := And.intro (hS89_21.mem w20000.1) (hS89_21.kd w20000.2)
  have hWh := hWh.e hS89_21 (by decide)
  have q100_8 := hS89_21.rv (Or.inl (by decide)) q100_8
  have w109 := And.intro (hS89_21.mem w109.1) (hS89_21.kd w109.2)
  have hEX := hEX.tr (hS89_21.mono (c := 100) (d := 20004) (by decide) (by decide))
  have i100_1 := (hU89_21 _ _ (by omega)).trans i100_1
  have i100_4 := (hU89_21 _ _ (by omega)).trans i100_4
  have i100_6 := (hU89_21 _ _ (by omega)).trans i100_6
  have i100_9 := (hU89_21 _ _ (by omega)).trans i100_9
  have hFr := hFr.tr (hU89_21.mono (P' := fun lb _ => 100 ≤ lb ∧ lb < 20004) (fun lb j h => by omega))
  have hFj := hFj.tr (hJ89_21.mono (P' := fun lb _ => 100 ≤ lb ∧ lb < 20004) (fun lb j h => by omega))
  refine rg_putrF hE hH cf_X10 fl_X10_62 rfl fn_X10_10 fo_X10_10 hnm (w100.1) (w100.2) (v := 109) (w109.1) dX10_init_92 (fun H locs hH => ?_)
  have hX92_22 := GX.set (G := G89) (lb := 100) (k := 10) (v := some (109))
  have hS92_22 := EX.set (G := G89) (lb := 100) (k := 10) (v := some (109))
  have q100_10 := setR_s (G := G89) (lb := 100) (k := 10) (v := some (109))
  generalize (G89.setR (up2 G89.rv 100 10 (some 109))) = G92_22 at hH hX92_22 hS92_22 q100_10
  have hl : lv_has ls 1 [(0, .ref (G92_22.ad 100))] := by rw [hS92_22.adm (w100.1)]; exact hl
  have w100 := And.intro (hS92_22.mem w100.1) (hS92_22.kd w100.2)
  have hkd : ∀ i, i < 111 → G92_22.kd i = kd0 i := by rw [EX_kd hS92_22]; exact hkd
  have hkL : ∀ i, i < 33 → G92_22.kd (10000 + i) = kLa i := by rw [EX_kd hS92_22]; exact hkL
  have hkW : ∀ i, i < 4 → G92_22.kd (20000 + i) = kWh i := by rw [EX_kd hS92_22]; exact hkW
  have hCv := (fun (lb : Nat) hm => (EX.cov hS92_22 hm).elim (hCv lb) (fun h => Or.inr (by omega)))
  have w101 := w101.em hS92_22
  have q100_0 := hX92_22.rv List.not_mem_nil (fun h => absurd h.2 (by decide)) q100_0
  have w102 := And.intro (hS92_22.mem w102.1) (hS92_22.kd w102.2)
  have hPz := hPz.e hS92_22 (by decide)
  have q100_2 := hX92_22.rv List.not_mem_nil (fun h => absurd h.2 (by decide)) q100_2
  have w107 := w107.em hS92_22
  have q100_3 := hX92_22.rv List.not_mem_nil (fun h => absurd h.2 (by decide)) q100_3
  have w108 := w108.em hS92_22
  have q100_5 := hX92_22.rv List.not_mem_nil (fun h => absurd h.2 (by decide)) q100_5
  have w10000 := And.intro (hS92_22.mem w10000.1) (hS92_22.kd w10000.2)
  have hLa := hLa.e hS92_22 (by decide)
  have q100_7 := hX92_22.rv List.not_mem_nil (fun h => absurd h.2 (by decide)) q100_7
  have w20000 := And.intro (hS92_22.mem w20000.1) (hS92_22.kd w20000.2)
  have hWh := hWh.e hS92_22 (by decide)
  have q100_8 := hX92_22.rv List.not_mem_nil (fun h => absurd h.2 (by decide)) q100_8
  have w109 := And.intro (hS92_22.mem w109.1) (hS92_22.kd w109.2)
  have hOu := hOu.e hS92_22 (by decide)
  have hEX := hEX.tr (hS92_22.mono (c := 100) (d := 20004) (by decide) (by decide))
  refine W.widen (k := 34) (n := 6700) (by show 0 + 1 + 1 + 4 + 1 + 1 + 1 + 16 + 1 + 3 + 1 + 1 ≤ 34; omega) (by show 0 + 1000 + 2 + 3011 + 6 + 12 + 5 + 304 + 2 + 243 + 2 + 2000 ≤ 6700; omega) ?_
  exact rg_vret hE hr hlk hH ⟨hEX, ⟨w100, ⟨hPz.1, hPz.2.1.1, hPz.2.1.2.1, hPz.2.1.2.2.1, hPz.2.1.2.2.2.1, w101, hPz.2.2, hPz.2.1.2.2.2.2.1, hPz.2.1.2.2.2.2.2.1, hPz.2.1.2.2.2.2.2.2⟩, w107, w108, hOu, q100_0, q100_2, q100_3, q100_5, q100_10⟩, hLa, hWh, q100_7, q100_8, ⟨i100_1, i100_4, i100_6, i100_9, hO⟩, hCv, hFr, hFj⟩ dX10_init_95
