set_option maxRecDepth 100000 in
set_option maxHeartbeats 4000000 in
theorem c_Co_init (l : Launch) (z : ZK) (G : GW) (iv : IV) (jv : JV) (c : Nat) (wc : c ∈ G.L ∧ G.kd c = 0) (f1 : c + 1 ∉ G.L) (k1 : G.kd (c + 1) = 14) : cV l z yX0_init cX0_init 1 none 1 20 1 6 [.ref (G.ad c)] G iv jv (fun G' iv' jv' => EX G G' c (c + 2) ∧ isCo G' c ∧ iv' c 1 = nI 0 ∧ Fr iv iv' (fun lb _ => c ≤ lb ∧ lb < c + 2) ∧ FrJ jv jv' (fun lb _ => c ≤ lb ∧ lb < c + 2)) := by
  intro sz
  refine rg_entry rfl (Nat.le_of_ble_eq_true rfl) ?_
  intro pq eq sq mq bq methq cq ls hE hr hlk hml hnm hl hsz hH
  have hl : lv_has ls 1 [(0, .ref (G.ad c))] := hl
  have hEX : EX G G c (c + 2) := EX.rf
  have hFr : Fr iv iv (fun lb _ => c ≤ lb ∧ lb < c + 2) := Fr.rf
  have hFj : FrJ jv jv (fun lb _ => c ≤ lb ∧ lb < c + 2) := FrJ.rf
  refine lv_aload_n hE.1 hE.2.1 dX0_init_0 rfl (lv_at hl 0 rfl) ?_
  refine rg_obj (rest := []) hE ⟨(b1 98 rfl rfl), (b1 30 rfl rfl), (b1 31 rfl rfl)⟩ hml hl.1 rfl dX0_init_1 (Nat.le_of_ble_eq_true rfl) (Nat.le_of_ble_eq_true rfl) ?_
  refine lv_aload_n hE.1 hE.2.1 dX0_init_4 rfl (lv_at hl 0 rfl) ?_
  refine lv_lconst (v := 0) hE.1 hE.2.1 dX0_init_5 (by decide) ?_
  refine rg_putj hE hH cf_X0 fl_X0_9 rfl fn_X0_0 (wc.1) (wc.2) (v := 0) dX0_init_6 (fun H locs hH => ?_)
  have hU6_1 : Fr iv iv (fun b0 j => b0 = c ∧ j = 0) := Fr.rf
  have hJ6_1 : FrJ jv (up2 jv c 0 0) (fun b0 j => b0 = c ∧ j = 0) := FrJ.up FrJ.rf ⟨rfl, rfl⟩
  have hFr := hFr.tr (hU6_1.mono (P' := fun lb _ => c ≤ lb ∧ lb < c + 2) (fun lb j h => by rw [h.1]; exact ⟨dle c (a := 0) (c := 0) (by decide), dl c (a := 0) (c := 2) (by decide)⟩))
  have hFj := hFj.tr (hJ6_1.mono (P' := fun lb _ => c ≤ lb ∧ lb < c + 2) (fun lb j h => by rw [h.1]; exact ⟨dle c (a := 0) (c := 0) (by decide), dl c (a := 0) (c := 2) (by decide)⟩))
  generalize up2 jv c 0 0 = jv6_1 at hH hFj hJ6_1 
  refine lv_aload_n hE.1 hE.2.1 dX0_init_9 rfl (lv_at hl 0 rfl) ?_
  refine lv_iconst (v := nI 0) hE.1 hE.2.1 dX0_init_10 (by decide) ?_
  refine rg_puti hE hH cf_X0 fl_X0_15 rfl fn_X0_1 (wc.1) (wc.2) (v := nI 0) dX0_init_11 (fun H locs hH => ?_)
  have hU11_2 : Fr iv (up2 iv c 1 (nI 0)) (fun b0 j => b0 = c ∧ j = 1) := Fr.up Fr.rf ⟨rfl, rfl⟩
  have hJ11_2 : FrJ jv6_1 jv6_1 (fun b0 j => b0 = c ∧ j = 1) := FrJ.rf
  have hFr := hFr.tr (hU11_2.mono (P' := fun lb _ => c ≤ lb ∧ lb < c + 2) (fun lb j h => by rw [h.1]; exact ⟨dle c (a := 0) (c := 0) (by decide), dl c (a := 0) (c := 2) (by decide)⟩))
  have hFj := hFj.tr (hJ11_2.mono (P' := fun lb _ => c ≤ lb ∧ lb < c + 2) (fun lb j h => by rw [h.1]; exact ⟨dle c (a := 0) (c := 0) (by decide), dl c (a := 0) (c := 2) (by decide)⟩))
  have ic_1 : (up2 iv c 1 (nI 0)) (c) 1 = nI 0 := up2_s
  generalize up2 iv c 1 (nI 0) = iv11_2 at hH hFr hU11_2 ic_1
  refine lv_aload_n hE.1 hE.2.1 dX0_init_14 rfl (lv_at hl 0 rfl) ?_
  refine lv_bipush (v := nI 6) hE.1 hE.2.1 dX0_init_15 (by decide) ?_
  refine rg_newJ hE hH (c + 1) f1 k1 (by omega) (by show 0 + 1 ≤ 1; omega) (by show 0 + 6 ≤ 6; omega) dX0_init_17 (fun G17_3 H hX17_3 hln17_3 hrv17_3 hH => ?_)
  have hS17_3 := hX17_3.ex1 f1
  have wc_1 : isA G17_3 (c + 1) 14 6 := ⟨hX17_3.new (List.mem_singleton_self _), hX17_3.kd k1, hln17_3⟩
  have hl : lv_has ls 1 [(0, .ref (G17_3.ad c))] := by rw [hS17_3.adm (wc.1)]; exact hl
  refine rg_st (st' := [.ref (G17_3.ad (c + 1)), .ref (G17_3.ad c)]) (by rw [hS17_3.adm (wc.1)]) ?_
  have wc := And.intro (hS17_3.mem wc.1) (hS17_3.kd wc.2)
  have k1 : G17_3.kd (c + 1) = 14 := by rw [EX_kd hS17_3]; exact k1
  have hEX := hEX.tr (hS17_3.mono (c := c) (d := c + 2) (dle c (a := 0) (c := 1) (by decide)) (dle c (a := 2) (c := 2) (by decide)))
  have hU17_3 : Fr iv11_2 (clr iv11_2 (c + 1) 0) (fun b0 _ => b0 = c + 1) := Fr.clr Fr.rf (fun _ => rfl)
  have hJ17_3 : FrJ jv6_1 (clr jv6_1 (c + 1) 0) (fun b0 _ => b0 = c + 1) := FrJ.clr FrJ.rf (fun _ => rfl)
  have ic_1 := (hU17_3 _ _ (dn c (a := 0) (c := 1) (by decide))).trans ic_1
  have hFr := hFr.tr (hU17_3.mono (P' := fun lb _ => c ≤ lb ∧ lb < c + 2) (fun lb j h => by rw [h]; exact ⟨dle c (a := 0) (c := 1) (by decide), dl c (a := 1) (c := 2) (by decide)⟩))
  have hFj := hFj.tr (hJ17_3.mono (P' := fun lb _ => c ≤ lb ∧ lb < c + 2) (fun lb j h => by rw [h]; exact ⟨dle c (a := 0) (c := 1) (by decide), dl c (a := 1) (c := 2) (by decide)⟩))
  generalize clr iv11_2 (c + 1) 0 = iv17_3 at hH hFr hU17_3 ic_1
  generalize clr jv6_1 (c + 1) 0 = jv17_3 at hH hFj hJ17_3 
  refine rg_putrF hE hH cf_X0 fl_X0_19 rfl fn_X0_2 fo_X0_2 hnm (wc.1) (wc.2) (v := c + 1) (wc_1.1) dX0_init_19 (fun H locs hH => ?_)
  have hX19_4 := GX.set (G := G17_3) (lb := c) (k := 2) (v := some (c + 1))
  have hS19_4 := EX.set (G := G17_3) (lb := c) (k := 2) (v := some (c + 1))
  have qc_2 := setR_s (G := G17_3) (lb := c) (k := 2) (v := some (c + 1))
  generalize (G17_3.setR (up2 G17_3.rv c 2 (some (c + 1)))) = G19_4 at hH hX19_4 hS19_4 qc_2
  have hl : lv_has ls 1 [(0, .ref (G19_4.ad c))] := by rw [hS19_4.adm (wc.1)]; exact hl
  have wc := And.intro (hS19_4.mem wc.1) (hS19_4.kd wc.2)
  have k1 : G19_4.kd (c + 1) = 14 := by rw [EX_kd hS19_4]; exact k1
  have wc_1 := wc_1.em hS19_4
  have hEX := hEX.tr (hS19_4.mono (c := c) (d := c + 2) (dle c (a := 0) (c := 0) (by decide)) (dle c (a := 1) (c := 2) (by decide)))
  refine W.widen (k := 1) (n := 6) (by show 0 + 1 ≤ 1; omega) (by show 0 + 6 ≤ 6; omega) ?_
  exact rg_vret hE hr hlk hH ⟨hEX, ⟨wc, wc_1, qc_2⟩, ic_1, hFr, hFj⟩ dX0_init_22
set_option maxRecDepth 100000 in
set_option maxHeartbeats 4000000 in
theorem c_Ro_init (l : Launch) (z : ZK) (G : GW) (iv : IV) (jv : JV) (r : Nat) (wr : r ∈ G.L ∧ G.kd r = 6) (f1 : r + 1 ∉ G.L) (f2 : r + 2 ∉ G.L) (k1 : G.kd (r + 1) = 13) (k2 : G.kd (r + 2) = 13) : cV l z yX6_init cX6_init 1 none 1 20 2 240 [.ref (G.ad r)] G iv jv (fun G' iv' jv' => EX G G' r (r + 3) ∧ isRo G' r ∧ iv' r 0 = nI 0 ∧ Fr iv iv' (fun lb _ => r ≤ lb ∧ lb < r + 3) ∧ FrJ jv jv' (fun lb _ => r ≤ lb ∧ lb < r + 3)) := by
  intro sz
  refine rg_entry rfl (Nat.le_of_ble_eq_true rfl) ?_
  intro pq eq sq mq bq methq cq ls hE hr hlk hml hnm hl hsz hH
  have hl : lv_has ls 1 [(0, .ref (G.ad r))] := hl
  have hEX : EX G G r (r + 3) := EX.rf
  have hFr : Fr iv iv (fun lb _ => r ≤ lb ∧ lb < r + 3) := Fr.rf
  have hFj : FrJ jv jv (fun lb _ => r ≤ lb ∧ lb < r + 3) := FrJ.rf
  refine lv_aload_n hE.1 hE.2.1 dX6_init_0 rfl (lv_at hl 0 rfl) ?_
  refine rg_obj (rest := []) hE ⟨(b1 121 rfl rfl), (b1 30 rfl rfl), (b1 31 rfl rfl)⟩ hml hl.1 rfl dX6_init_1 (Nat.le_of_ble_eq_true rfl) (Nat.le_of_ble_eq_true rfl) ?_
  refine lv_aload_n hE.1 hE.2.1 dX6_init_4 rfl (lv_at hl 0 rfl) ?_
  refine lv_iconst (v := nI 0) hE.1 hE.2.1 dX6_init_5 (by decide) ?_
  refine rg_puti hE hH cf_X6 fl_X6_9 rfl fn_X6_0 (wr.1) (wr.2) (v := nI 0) dX6_init_6 (fun H locs hH => ?_)
  have hU6_1 : Fr iv (up2 iv r 0 (nI 0)) (fun b0 j => b0 = r ∧ j = 0) := Fr.up Fr.rf ⟨rfl, rfl⟩
  have hJ6_1 : FrJ jv jv (fun b0 j => b0 = r ∧ j = 0) := FrJ.rf
  have hFr := hFr.tr (hU6_1.mono (P' := fun lb _ => r ≤ lb ∧ lb < r + 3) (fun lb j h => by rw [h.1]; exact ⟨dle r (a := 0) (c := 0) (by decide), dl r (a := 0) (c := 3) (by decide)⟩))
  have hFj := hFj.tr (hJ6_1.mono (P' := fun lb _ => r ≤ lb ∧ lb < r + 3) (fun lb j h => by rw [h.1]; exact ⟨dle r (a := 0) (c := 0) (by decide), dl r (a := 0) (c := 3) (by decide)⟩))
  have ir_0 : (up2 iv r 0 (nI 0)) (r) 0 = nI 0 := up2_s
  generalize up2 iv r 0 (nI 0) = iv6_1 at hH hFr hU6_1 ir_0
  refine lv_aload_n hE.1 hE.2.1 dX6_init_9 rfl (lv_at hl 0 rfl) ?_
  refine lv_sipush (v := nI 200) hE.1 hE.2.1 dX6_init_10 (by decide) ?_
  refine rg_newI (ty := .int) rfl hE hH (r + 1) f1 k1 (Or.inr (Or.inl ⟨rfl, rfl⟩)) (by omega) (by show 0 + 1 ≤ 2; omega) (by show 0 + 200 ≤ 240; omega) dX6_init_13 (fun G13_2 H hX13_2 hln13_2 hrv13_2 hH => ?_)
  have hS13_2 := hX13_2.ex1 f1
  have wr_1 : isA G13_2 (r + 1) 13 200 := ⟨hX13_2.new (List.mem_singleton_self _), hX13_2.kd k1, hln13_2⟩
  have hl : lv_has ls 1 [(0, .ref (G13_2.ad r))] := by rw [hS13_2.adm (wr.1)]; exact hl
  refine rg_st (st' := [.ref (G13_2.ad (r + 1)), .ref (G13_2.ad r)]) (by rw [hS13_2.adm (wr.1)]) ?_
  have wr := And.intro (hS13_2.mem wr.1) (hS13_2.kd wr.2)
  have f2 := hS13_2.nin f2 (Or.inr (dle r (a := 2) (c := 2) (by decide)))
  have k1 : G13_2.kd (r + 1) = 13 := by rw [EX_kd hS13_2]; exact k1
  have k2 : G13_2.kd (r + 2) = 13 := by rw [EX_kd hS13_2]; exact k2
  have hEX := hEX.tr (hS13_2.mono (c := r) (d := r + 3) (dle r (a := 0) (c := 1) (by decide)) (dle r (a := 2) (c := 3) (by decide)))
  have hU13_2 : Fr iv6_1 (clr iv6_1 (r + 1) 0) (fun b0 _ => b0 = r + 1) := Fr.clr Fr.rf (fun _ => rfl)
  have hJ13_2 : FrJ jv (clr jv (r + 1) 0) (fun b0 _ => b0 = r + 1) := FrJ.clr FrJ.rf (fun _ => rfl)
  have ir_0 := (hU13_2 _ _ (dn r (a := 0) (c := 1) (by decide))).trans ir_0
  have hFr := hFr.tr (hU13_2.mono (P' := fun lb _ => r ≤ lb ∧ lb < r + 3) (fun lb j h => by rw [h]; exact ⟨dle r (a := 0) (c := 1) (by decide), dl r (a := 1) (c := 3) (by decide)⟩))
  have hFj := hFj.tr (hJ13_2.mono (P' := fun lb _ => r ≤ lb ∧ lb < r + 3) (fun lb j h => by rw [h]; exact ⟨dle r (a := 0) (c := 1) (by decide), dl r (a := 1) (c := 3) (by decide)⟩))
  generalize clr iv6_1 (r + 1) 0 = iv13_2 at hH hFr hU13_2 ir_0
  generalize clr jv (r + 1) 0 = jv13_2 at hH hFj hJ13_2 
  refine rg_putrF hE hH cf_X6 fl_X6_15 rfl fn_X6_1 fo_X6_1 hnm (wr.1) (wr.2) (v := r + 1) (wr_1.1) dX6_init_15 (fun H locs hH => ?_)
  have hX15_3 := GX.set (G := G13_2) (lb := r) (k := 1) (v := some (r + 1))
  have hS15_3 := EX.set (G := G13_2) (lb := r) (k := 1) (v := some (r + 1))
  have qr_1 := setR_s (G := G13_2) (lb := r) (k := 1) (v := some (r + 1))
  generalize (G13_2.setR (up2 G13_2.rv r 1 (some (r + 1)))) = G15_3 at hH hX15_3 hS15_3 qr_1
  have hl : lv_has ls 1 [(0, .ref (G15_3.ad r))] := by rw [hS15_3.adm (wr.1)]; exact hl
  have wr := And.intro (hS15_3.mem wr.1) (hS15_3.kd wr.2)
  have f2 := hS15_3.nin f2 (Or.inr (dle r (a := 1) (c := 2) (by decide)))
  have k1 : G15_3.kd (r + 1) = 13 := by rw [EX_kd hS15_3]; exact k1
  have k2 : G15_3.kd (r + 2) = 13 := by rw [EX_kd hS15_3]; exact k2
  have wr_1 := wr_1.em hS15_3
  have hEX := hEX.tr (hS15_3.mono (c := r) (d := r + 3) (dle r (a := 0) (c := 0) (by decide)) (dle r (a := 1) (c := 3) (by decide)))
  refine lv_aload_n hE.1 hE.2.1 dX6_init_18 rfl (lv_at hl 0 rfl) ?_
  refine lv_bipush (v := nI 40) hE.1 hE.2.1 dX6_init_19 (by decide) ?_
  refine rg_newI (ty := .int) rfl hE hH (r + 2) f2 k2 (Or.inr (Or.inl ⟨rfl, rfl⟩)) (by omega) (by show 0 + 1 + 1 ≤ 2; omega) (by show 0 + 200 + 40 ≤ 240; omega) dX6_init_21 (fun G21_4 H hX21_4 hln21_4 hrv21_4 hH => ?_)
  have hS21_4 := hX21_4.ex1 f2
  have wr_2 : isA G21_4 (r + 2) 13 40 := ⟨hX21_4.new (List.mem_singleton_self _), hX21_4.kd k2, hln21_4⟩
  have hl : lv_has ls 1 [(0, .ref (G21_4.ad r))] := by rw [hS21_4.adm (wr.1)]; exact hl
  refine rg_st (st' := [.ref (G21_4.ad (r + 2)), .ref (G21_4.ad r)]) (by rw [hS21_4.adm (wr.1)]) ?_
  have wr := And.intro (hS21_4.mem wr.1) (hS21_4.kd wr.2)
  have k1 : G21_4.kd (r + 1) = 13 := by rw [EX_kd hS21_4]; exact k1
  have k2 : G21_4.kd (r + 2) = 13 := by rw [EX_kd hS21_4]; exact k2
  have wr_1 := wr_1.em hS21_4
  have qr_1 := hS21_4.rv (Or.inl (dl r (a := 0) (c := 2) (by decide))) qr_1
  have hEX := hEX.tr (hS21_4.mono (c := r) (d := r + 3) (dle r (a := 0) (c := 2) (by decide)) (dle r (a := 3) (c := 3) (by decide)))
  have hU21_4 : Fr iv13_2 (clr iv13_2 (r + 2) 0) (fun b0 _ => b0 = r + 2) := Fr.clr Fr.rf (fun _ => rfl)
  have hJ21_4 : FrJ jv13_2 (clr jv13_2 (r + 2) 0) (fun b0 _ => b0 = r + 2) := FrJ.clr FrJ.rf (fun _ => rfl)
  have ir_0 := (hU21_4 _ _ (dn r (a := 0) (c := 2) (by decide))).trans ir_0
  have hFr := hFr.tr (hU21_4.mono (P' := fun lb _ => r ≤ lb ∧ lb < r + 3) (fun lb j h => by rw [h]; exact ⟨dle r (a := 0) (c := 2) (by decide), dl r (a := 2) (c := 3) (by decide)⟩))
  have hFj := hFj.tr (hJ21_4.mono (P' := fun lb _ => r ≤ lb ∧ lb < r + 3) (fun lb j h => by rw [h]; exact ⟨dle r (a := 0) (c := 2) (by decide), dl r (a := 2) (c := 3) (by decide)⟩))
  generalize clr iv13_2 (r + 2) 0 = iv21_4 at hH hFr hU21_4 ir_0
  generalize clr jv13_2 (r + 2) 0 = jv21_4 at hH hFj hJ21_4 
  refine rg_putrF hE hH cf_X6 fl_X6_19 rfl fn_X6_2 fo_X6_2 hnm (wr.1) (wr.2) (v := r + 2) (wr_2.1) dX6_init_23 (fun H locs hH => ?_)
  have hX23_5 := GX.set (G := G21_4) (lb := r) (k := 2) (v := some (r + 2))
  have hS23_5 := EX.set (G := G21_4) (lb := r) (k := 2) (v := some (r + 2))
  have qr_2 := setR_s (G := G21_4) (lb := r) (k := 2) (v := some (r + 2))
  generalize (G21_4.setR (up2 G21_4.rv r 2 (some (r + 2)))) = G23_5 at hH hX23_5 hS23_5 qr_2
  have hl : lv_has ls 1 [(0, .ref (G23_5.ad r))] := by rw [hS23_5.adm (wr.1)]; exact hl
  have wr := And.intro (hS23_5.mem wr.1) (hS23_5.kd wr.2)
  have k1 : G23_5.kd (r + 1) = 13 := by rw [EX_kd hS23_5]; exact k1
  have k2 : G23_5.kd (r + 2) = 13 := by rw [EX_kd hS23_5]; exact k2
  have wr_1 := wr_1.em hS23_5
  have qr_1 := hX23_5.rv List.not_mem_nil (fun h => absurd h.2 (by decide)) qr_1
  have wr_2 := wr_2.em hS23_5
  have hEX := hEX.tr (hS23_5.mono (c := r) (d := r + 3) (dle r (a := 0) (c := 0) (by decide)) (dle r (a := 1) (c := 3) (by decide)))
  refine W.widen (k := 2) (n := 240) (by show 0 + 1 + 1 ≤ 2; omega) (by show 0 + 200 + 40 ≤ 240; omega) ?_
  exact rg_vret hE hr hlk hH ⟨hEX, ⟨wr, wr_1, wr_2, qr_1, qr_2⟩, ir_0, hFr, hFj⟩ dX6_init_26
set_option maxRecDepth 100000 in
set_option maxHeartbeats 4000000 in
theorem c_Wh_init (l : Launch) (z : ZK) (G : GW) (iv : IV) (jv : JV) (w : Nat) (ww : w ∈ G.L ∧ G.kd w = 9) (hfr : ∀ x, w + 1 ≤ x → x < w + 4 → x ∉ G.L) (hkd : ∀ i, i < 4 → G.kd (w + i) = kWh i) : cV l z yX9_init cX9_init 1 none 2 40 3 243 [.ref (G.ad w)] G iv jv (fun G' iv' jv' => EX G G' w (w + 4) ∧ isWh G' w ∧ Fr iv iv' (fun lb _ => w ≤ lb ∧ lb < w + 4) ∧ FrJ jv jv' (fun lb _ => w ≤ lb ∧ lb < w + 4)) := by
  intro sz
  refine rg_entry rfl (Nat.le_of_ble_eq_true rfl) ?_
  intro pq eq sq mq bq methq cq ls hE hr hlk hml hnm hl hsz hH
  have hl : lv_has ls 1 [(0, .ref (G.ad w))] := hl
  have hEX : EX G G w (w + 4) := EX.rf
  have hFr : Fr iv iv (fun lb _ => w ≤ lb ∧ lb < w + 4) := Fr.rf
  have hFj : FrJ jv jv (fun lb _ => w ≤ lb ∧ lb < w + 4) := FrJ.rf
  refine lv_aload_n hE.1 hE.2.1 dX9_init_0 rfl (lv_at hl 0 rfl) ?_
  refine rg_obj (rest := []) hE ⟨(b1 176 rfl rfl), (b1 30 rfl rfl), (b1 31 rfl rfl)⟩ hml hl.1 rfl dX9_init_1 (Nat.le_of_ble_eq_true rfl) (Nat.le_of_ble_eq_true rfl) ?_
  refine lv_aload_n hE.1 hE.2.1 dX9_init_4 rfl (lv_at hl 0 rfl) ?_
  refine rg_newO (ci := 6) hE hH (w + 1) (hfr (w + 1) (by omega) (by omega)) (hkd 1 (by omega)) cf_X6 ⟨RX6, TX6, rfl, (b1 177 rfl rfl), (b1 117 rfl rfl), (b1 6 rfl rfl)⟩ (by show 0 + 1 ≤ 3; omega) (by show 0 + 3 ≤ 243; omega) dX9_init_5 (fun G5_1 H hX5_1 hln5_1 hrv5_1 hH => ?_)
  have hS5_1 := hX5_1.ex1 (hfr (w + 1) (by omega) (by omega))
  have ww_1 : (w + 1) ∈ G5_1.L ∧ G5_1.kd (w + 1) = 6 := ⟨hX5_1.new (List.mem_singleton_self _), hX5_1.kd (hkd 1 (by omega))⟩
  have hl : lv_has ls 1 [(0, .ref (G5_1.ad w))] := by rw [hS5_1.adm (ww.1)]; exact hl
  refine rg_st (st' := [.ref (G5_1.ad (w + 1)), .ref (G5_1.ad w)]) (by rw [hS5_1.adm (ww.1)]) ?_
  have ww := And.intro (hS5_1.mem ww.1) (hS5_1.kd ww.2)
  have hfr : ∀ x, w + 2 ≤ x → x < w + 4 → x ∉ G5_1.L := fun x h1 h2 => hS5_1.nin (hfr x (Nat.le_trans (dle w (a := 1) (c := 2) (by decide)) h1) h2) (Or.inr (Nat.le_trans (dle w (a := 2) (c := 2) (by decide)) h1))
  have hkd : ∀ i, i < 4 → G5_1.kd (w + i) = kWh i := by rw [EX_kd hS5_1]; exact hkd
  have hEX := hEX.tr (hS5_1.mono (c := w) (d := w + 4) (dle w (a := 0) (c := 1) (by decide)) (dle w (a := 2) (c := 4) (by decide)))
  have hU5_1 : Fr iv (clr iv (w + 1) 0) (fun b0 _ => b0 = w + 1) := Fr.clr Fr.rf (fun _ => rfl)
  have hJ5_1 : FrJ jv (clr jv (w + 1) 0) (fun b0 _ => b0 = w + 1) := FrJ.clr FrJ.rf (fun _ => rfl)
  have hFr := hFr.tr (hU5_1.mono (P' := fun lb _ => w ≤ lb ∧ lb < w + 4) (fun lb j h => by rw [h]; exact ⟨dle w (a := 0) (c := 1) (by decide), dl w (a := 1) (c := 4) (by decide)⟩))
  have hFj := hFj.tr (hJ5_1.mono (P' := fun lb _ => w ≤ lb ∧ lb < w + 4) (fun lb j h => by rw [h]; exact ⟨dle w (a := 0) (c := 1) (by decide), dl w (a := 1) (c := 4) (by decide)⟩))
  generalize clr iv (w + 1) 0 = iv5_1 at hH hFr hU5_1 
  generalize clr jv (w + 1) 0 = jv5_1 at hH hFj hJ5_1 
  refine lv_dup hE.1 hE.2.1 dX9_init_8 rfl ?_
  refine rg_IV (As := []) (rest := [.ref (G5_1.ad (w + 1)), .ref (G5_1.ad w)]) hE hml hH mc_X9_9 (c_Ro_init l z G5_1 iv5_1 jv5_1 (w + 1) ww_1 (hfr (w + 1 + 1) (by omega) (by omega)) (hfr (w + 1 + 2) (by omega) (by omega)) (hkd 2 (by omega)) (hkd 3 (by omega))) rfl ⟨Nat.le_of_ble_eq_true rfl, Nat.le_of_ble_eq_true rfl⟩ rfl hl.1 (by simp [Value.category]) dX9_init_9 ⟨by show 0 + 1 + 2 ≤ 3; omega, by show 0 + 3 + 240 ≤ 243; omega⟩ (fun G9 iv9 jv9 H locs hp9 hH => ?_)
  obtain ⟨hS9_2, row_1, -, hU9_2, hJ9_2⟩ := hp9
  have hl : lv_has ls 1 [(0, .ref (G9.ad w))] := by rw [hS9_2.adm (ww.1)]; exact hl
  refine rg_st (st' := [.ref (G9.ad (w + 1)), .ref (G9.ad w)]) (by rw [hS9_2.adm (ww_1.1), hS9_2.adm (ww.1)]) ?_
  have ww := And.intro (hS9_2.mem ww.1) (hS9_2.kd ww.2)
  have hfr : ∀ x, w + 4 ≤ x → x < w + 4 → x ∉ G9.L := fun x h1 h2 => hS9_2.nin (hfr x (by omega) h2) (by omega)
  have hkd : ∀ i, i < 4 → G9.kd (w + i) = kWh i := by rw [EX_kd hS9_2]; exact hkd
  have ww_1 := And.intro (hS9_2.mem ww_1.1) (hS9_2.kd ww_1.2)
  have hEX := hEX.tr (hS9_2.mono (c := w) (d := w + 4) (by omega) (by omega))
  have hFr := hFr.tr (hU9_2.mono (P' := fun lb _ => w ≤ lb ∧ lb < w + 4) (fun lb j h => by omega))
  have hFj := hFj.tr (hJ9_2.mono (P' := fun lb _ => w ≤ lb ∧ lb < w + 4) (fun lb j h => by omega))
  refine rg_putrF hE hH cf_X9 fl_X9_10 rfl fn_X9_0 fo_X9_0 hnm (ww.1) (ww.2) (v := w + 1) (ww_1.1) dX9_init_12 (fun H locs hH => ?_)
  have hX12_3 := GX.set (G := G9) (lb := w) (k := 0) (v := some (w + 1))
  have hS12_3 := EX.set (G := G9) (lb := w) (k := 0) (v := some (w + 1))
  have qw_0 := setR_s (G := G9) (lb := w) (k := 0) (v := some (w + 1))
  generalize (G9.setR (up2 G9.rv w 0 (some (w + 1)))) = G12_3 at hH hX12_3 hS12_3 qw_0
  have hl : lv_has ls 1 [(0, .ref (G12_3.ad w))] := by rw [hS12_3.adm (ww.1)]; exact hl
  have ww := And.intro (hS12_3.mem ww.1) (hS12_3.kd ww.2)
  have hfr : ∀ x, w + 4 ≤ x → x < w + 4 → x ∉ G12_3.L := fun x h1 h2 => hS12_3.nin (hfr x (Nat.le_trans (dle w (a := 4) (c := 4) (by decide)) h1) h2) (Or.inr (Nat.le_trans (dle w (a := 1) (c := 4) (by decide)) h1))
  have hkd : ∀ i, i < 4 → G12_3.kd (w + i) = kWh i := by rw [EX_kd hS12_3]; exact hkd
  have ww_1 := And.intro (hS12_3.mem ww_1.1) (hS12_3.kd ww_1.2)
  have row_1 := row_1.e hS12_3 (by omega)
  have hEX := hEX.tr (hS12_3.mono (c := w) (d := w + 4) (dle w (a := 0) (c := 0) (by decide)) (dle w (a := 1) (c := 4) (by decide)))
  refine lv_aload_n hE.1 hE.2.1 dX9_init_15 rfl (lv_at hl 0 rfl) ?_
  refine lv_iconst (v := nI 0) hE.1 hE.2.1 dX9_init_16 (by decide) ?_
  refine rg_puti hE hH cf_X9 fl_X9_16 rfl fn_X9_1 (ww.1) (ww.2) (v := nI 0) dX9_init_17 (fun H locs hH => ?_)
  have hU17_4 : Fr iv9 (up2 iv9 w 1 (nI 0)) (fun b0 j => b0 = w ∧ j = 1) := Fr.up Fr.rf ⟨rfl, rfl⟩
  have hJ17_4 : FrJ jv9 jv9 (fun b0 j => b0 = w ∧ j = 1) := FrJ.rf
  have hFr := hFr.tr (hU17_4.mono (P' := fun lb _ => w ≤ lb ∧ lb < w + 4) (fun lb j h => by rw [h.1]; exact ⟨dle w (a := 0) (c := 0) (by decide), dl w (a := 0) (c := 4) (by decide)⟩))
  have hFj := hFj.tr (hJ17_4.mono (P' := fun lb _ => w ≤ lb ∧ lb < w + 4) (fun lb j h => by rw [h.1]; exact ⟨dle w (a := 0) (c := 0) (by decide), dl w (a := 0) (c := 4) (by decide)⟩))
  have iw_1 : (up2 iv9 w 1 (nI 0)) (w) 1 = nI 0 := up2_s
  generalize up2 iv9 w 1 (nI 0) = iv17_4 at hH hFr hU17_4 iw_1
  refine W.widen (k := 3) (n := 243) (by show 0 + 1 + 2 ≤ 3; omega) (by show 0 + 3 + 240 ≤ 243; omega) ?_
  exact rg_vret hE hr hlk hH ⟨hEX, ⟨ww, row_1, qw_0⟩, hFr, hFj⟩ dX9_init_20
set_option maxRecDepth 100000 in
set_option maxHeartbeats 4000000 in
theorem c_Lx_init (l : Launch) (z : ZK) (G : GW) (iv : IV) (jv : JV) (w103 : 103 ∈ G.L ∧ G.kd 103 = 2) (hfr : ∀ x, 104 ≤ x → x < 107 → x ∉ G.L) (hkd : ∀ i, i < 111 → G.kd i = kd0 i) : cV l z yX2_init cX2_init 1 none 1 20 3 3003 [.ref (G.ad 103)] G iv jv (fun G' iv' jv' => EX G G' 103 107 ∧ isLx G' ∧ Fr iv iv' (fun lb _ => 103 ≤ lb ∧ lb < 107) ∧ FrJ jv jv' (fun lb _ => 103 ≤ lb ∧ lb < 107)) := by
  intro sz
  refine rg_entry rfl (Nat.le_of_ble_eq_true rfl) ?_
  intro pq eq sq mq bq methq cq ls hE hr hlk hml hnm hl hsz hH
  have hl : lv_has ls 1 [(0, .ref (G.ad 103))] := hl
  have hEX : EX G G 103 107 := EX.rf
  have hFr : Fr iv iv (fun lb _ => 103 ≤ lb ∧ lb < 107) := Fr.rf
  have hFj : FrJ jv jv (fun lb _ => 103 ≤ lb ∧ lb < 107) := FrJ.rf
  refine lv_aload_n hE.1 hE.2.1 dX2_init_0 rfl (lv_at hl 0 rfl) ?_
  refine rg_obj (rest := []) hE ⟨(b1 43 rfl rfl), (b1 30 rfl rfl), (b1 31 rfl rfl)⟩ hml hl.1 rfl dX2_init_1 (Nat.le_of_ble_eq_true rfl) (Nat.le_of_ble_eq_true rfl) ?_
  refine lv_aload_n hE.1 hE.2.1 dX2_init_4 rfl (lv_at hl 0 rfl) ?_
  refine lv_sipush (v := nI 1001) hE.1 hE.2.1 dX2_init_5 (by decide) ?_
  refine rg_newI (ty := .int) rfl hE hH (104) (hfr (104) (by omega) (by omega)) (hkd 104 (by omega)) (Or.inr (Or.inl ⟨rfl, rfl⟩)) (by omega) (by show 0 + 1 ≤ 3; omega) (by show 0 + 1001 ≤ 3003; omega) dX2_init_8 (fun G8_1 H hX8_1 hln8_1 hrv8_1 hH => ?_)
  have hS8_1 := hX8_1.ex1 (hfr (104) (by omega) (by omega))
  have w104 : isA G8_1 (104) 13 1001 := ⟨hX8_1.new (List.mem_singleton_self _), hX8_1.kd (hkd 104 (by omega)), hln8_1⟩
  have hl : lv_has ls 1 [(0, .ref (G8_1.ad 103))] := by rw [hS8_1.adm (w103.1)]; exact hl
  refine rg_st (st' := [.ref (G8_1.ad 104), .ref (G8_1.ad 103)]) (by rw [hS8_1.adm (w103.1)]) ?_
  have w103 := And.intro (hS8_1.mem w103.1) (hS8_1.kd w103.2)
  have hfr : ∀ x, 105 ≤ x → x < 107 → x ∉ G8_1.L := fun x h1 h2 => hS8_1.nin (hfr x (Nat.le_trans (by decide) h1) h2) (Or.inr (Nat.le_trans (by decide) h1))
  have hkd : ∀ i, i < 111 → G8_1.kd i = kd0 i := by rw [EX_kd hS8_1]; exact hkd
  have hEX := hEX.tr (hS8_1.mono (c := 103) (d := 107) (by decide) (by decide))
  have hU8_1 : Fr iv (clr iv (104) 0) (fun b0 _ => b0 = 104) := Fr.clr Fr.rf (fun _ => rfl)
  have hJ8_1 : FrJ jv (clr jv (104) 0) (fun b0 _ => b0 = 104) := FrJ.clr FrJ.rf (fun _ => rfl)
  have hFr := hFr.tr (hU8_1.mono (P' := fun lb _ => 103 ≤ lb ∧ lb < 107) (fun lb j h => by rw [h]; exact ⟨by decide, by decide⟩))
  have hFj := hFj.tr (hJ8_1.mono (P' := fun lb _ => 103 ≤ lb ∧ lb < 107) (fun lb j h => by rw [h]; exact ⟨by decide, by decide⟩))
  generalize clr iv (104) 0 = iv8_1 at hH hFr hU8_1 
  generalize clr jv (104) 0 = jv8_1 at hH hFj hJ8_1 
  refine rg_putrF hE hH cf_X2 fl_X2_9 rfl fn_X2_0 fo_X2_0 hnm (w103.1) (w103.2) (v := 104) (w104.1) dX2_init_10 (fun H locs hH => ?_)
  have hX10_2 := GX.set (G := G8_1) (lb := 103) (k := 0) (v := some (104))
  have hS10_2 := EX.set (G := G8_1) (lb := 103) (k := 0) (v := some (104))
  have q103_0 := setR_s (G := G8_1) (lb := 103) (k := 0) (v := some (104))
  generalize (G8_1.setR (up2 G8_1.rv 103 0 (some 104))) = G10_2 at hH hX10_2 hS10_2 q103_0
  have hl : lv_has ls 1 [(0, .ref (G10_2.ad 103))] := by rw [hS10_2.adm (w103.1)]; exact hl
  have w103 := And.intro (hS10_2.mem w103.1) (hS10_2.kd w103.2)
  have hfr : ∀ x, 105 ≤ x → x < 107 → x ∉ G10_2.L := fun x h1 h2 => hS10_2.nin (hfr x (Nat.le_trans (by decide) h1) h2) (Or.inr (Nat.le_trans (by decide) h1))
  have hkd : ∀ i, i < 111 → G10_2.kd i = kd0 i := by rw [EX_kd hS10_2]; exact hkd
  have w104 := w104.em hS10_2
  have hEX := hEX.tr (hS10_2.mono (c := 103) (d := 107) (by decide) (by decide))
  refine lv_aload_n hE.1 hE.2.1 dX2_init_13 rfl (lv_at hl 0 rfl) ?_
  refine lv_sipush (v := nI 1001) hE.1 hE.2.1 dX2_init_14 (by decide) ?_
  refine rg_newI (ty := .int) rfl hE hH (105) (hfr (105) (by omega) (by omega)) (hkd 105 (by omega)) (Or.inr (Or.inl ⟨rfl, rfl⟩)) (by omega) (by show 0 + 1 + 1 ≤ 3; omega) (by show 0 + 1001 + 1001 ≤ 3003; omega) dX2_init_17 (fun G17_3 H hX17_3 hln17_3 hrv17_3 hH => ?_)
  have hS17_3 := hX17_3.ex1 (hfr (105) (by omega) (by omega))
  have w105 : isA G17_3 (105) 13 1001 := ⟨hX17_3.new (List.mem_singleton_self _), hX17_3.kd (hkd 105 (by omega)), hln17_3⟩
  have hl : lv_has ls 1 [(0, .ref (G17_3.ad 103))] := by rw [hS17_3.adm (w103.1)]; exact hl
  refine rg_st (st' := [.ref (G17_3.ad 105), .ref (G17_3.ad 103)]) (by rw [hS17_3.adm (w103.1)]) ?_
  have w103 := And.intro (hS17_3.mem w103.1) (hS17_3.kd w103.2)
  have hfr : ∀ x, 106 ≤ x → x < 107 → x ∉ G17_3.L := fun x h1 h2 => hS17_3.nin (hfr x (Nat.le_trans (by decide) h1) h2) (Or.inr (Nat.le_trans (by decide) h1))
  have hkd : ∀ i, i < 111 → G17_3.kd i = kd0 i := by rw [EX_kd hS17_3]; exact hkd
  have w104 := w104.em hS17_3
  have q103_0 := hS17_3.rv (Or.inl (by decide)) q103_0
  have hEX := hEX.tr (hS17_3.mono (c := 103) (d := 107) (by decide) (by decide))
  have hU17_3 : Fr iv8_1 (clr iv8_1 (105) 0) (fun b0 _ => b0 = 105) := Fr.clr Fr.rf (fun _ => rfl)
  have hJ17_3 : FrJ jv8_1 (clr jv8_1 (105) 0) (fun b0 _ => b0 = 105) := FrJ.clr FrJ.rf (fun _ => rfl)
  have hFr := hFr.tr (hU17_3.mono (P' := fun lb _ => 103 ≤ lb ∧ lb < 107) (fun lb j h => by rw [h]; exact ⟨by decide, by decide⟩))
  have hFj := hFj.tr (hJ17_3.mono (P' := fun lb _ => 103 ≤ lb ∧ lb < 107) (fun lb j h => by rw [h]; exact ⟨by decide, by decide⟩))
  generalize clr iv8_1 (105) 0 = iv17_3 at hH hFr hU17_3 
  generalize clr jv8_1 (105) 0 = jv17_3 at hH hFj hJ17_3 
  refine rg_putrF hE hH cf_X2 fl_X2_15 rfl fn_X2_1 fo_X2_1 hnm (w103.1) (w103.2) (v := 105) (w105.1) dX2_init_19 (fun H locs hH => ?_)
  have hX19_4 := GX.set (G := G17_3) (lb := 103) (k := 1) (v := some (105))
  have hS19_4 := EX.set (G := G17_3) (lb := 103) (k := 1) (v := some (105))
  have q103_1 := setR_s (G := G17_3) (lb := 103) (k := 1) (v := some (105))
  generalize (G17_3.setR (up2 G17_3.rv 103 1 (some 105))) = G19_4 at hH hX19_4 hS19_4 q103_1
  have hl : lv_has ls 1 [(0, .ref (G19_4.ad 103))] := by rw [hS19_4.adm (w103.1)]; exact hl
  have w103 := And.intro (hS19_4.mem w103.1) (hS19_4.kd w103.2)
  have hfr : ∀ x, 106 ≤ x → x < 107 → x ∉ G19_4.L := fun x h1 h2 => hS19_4.nin (hfr x (Nat.le_trans (by decide) h1) h2) (Or.inr (Nat.le_trans (by decide) h1))
  have hkd : ∀ i, i < 111 → G19_4.kd i = kd0 i := by rw [EX_kd hS19_4]; exact hkd
  have w104 := w104.em hS19_4
  have q103_0 := hX19_4.rv List.not_mem_nil (fun h => absurd h.2 (by decide)) q103_0
  have w105 := w105.em hS19_4
  have hEX := hEX.tr (hS19_4.mono (c := 103) (d := 107) (by decide) (by decide))
  refine lv_aload_n hE.1 hE.2.1 dX2_init_22 rfl (lv_at hl 0 rfl) ?_
  refine lv_sipush (v := nI 1001) hE.1 hE.2.1 dX2_init_23 (by decide) ?_
  refine rg_newJ hE hH (106) (hfr (106) (by omega) (by omega)) (hkd 106 (by omega)) (by omega) (by show 0 + 1 + 1 + 1 ≤ 3; omega) (by show 0 + 1001 + 1001 + 1001 ≤ 3003; omega) dX2_init_26 (fun G26_5 H hX26_5 hln26_5 hrv26_5 hH => ?_)
  have hS26_5 := hX26_5.ex1 (hfr (106) (by omega) (by omega))
  have w106 : isA G26_5 (106) 14 1001 := ⟨hX26_5.new (List.mem_singleton_self _), hX26_5.kd (hkd 106 (by omega)), hln26_5⟩
  have hl : lv_has ls 1 [(0, .ref (G26_5.ad 103))] := by rw [hS26_5.adm (w103.1)]; exact hl
  refine rg_st (st' := [.ref (G26_5.ad 106), .ref (G26_5.ad 103)]) (by rw [hS26_5.adm (w103.1)]) ?_
  have w103 := And.intro (hS26_5.mem w103.1) (hS26_5.kd w103.2)
  have hfr : ∀ x, 107 ≤ x → x < 107 → x ∉ G26_5.L := fun x h1 h2 => hS26_5.nin (hfr x (Nat.le_trans (by decide) h1) h2) (Or.inr (Nat.le_trans (by decide) h1))
  have hkd : ∀ i, i < 111 → G26_5.kd i = kd0 i := by rw [EX_kd hS26_5]; exact hkd
  have w104 := w104.em hS26_5
  have q103_0 := hS26_5.rv (Or.inl (by decide)) q103_0
  have w105 := w105.em hS26_5
  have q103_1 := hS26_5.rv (Or.inl (by decide)) q103_1
  have hEX := hEX.tr (hS26_5.mono (c := 103) (d := 107) (by decide) (by decide))
  have hU26_5 : Fr iv17_3 (clr iv17_3 (106) 0) (fun b0 _ => b0 = 106) := Fr.clr Fr.rf (fun _ => rfl)
  have hJ26_5 : FrJ jv17_3 (clr jv17_3 (106) 0) (fun b0 _ => b0 = 106) := FrJ.clr FrJ.rf (fun _ => rfl)
  have hFr := hFr.tr (hU26_5.mono (P' := fun lb _ => 103 ≤ lb ∧ lb < 107) (fun lb j h => by rw [h]; exact ⟨by decide, by decide⟩))
  have hFj := hFj.tr (hJ26_5.mono (P' := fun lb _ => 103 ≤ lb ∧ lb < 107) (fun lb j h => by rw [h]; exact ⟨by decide, by decide⟩))
  generalize clr iv17_3 (106) 0 = iv26_5 at hH hFr hU26_5 
  generalize clr jv17_3 (106) 0 = jv26_5 at hH hFj hJ26_5 
  refine rg_putrF hE hH cf_X2 fl_X2_18 rfl fn_X2_2 fo_X2_2 hnm (w103.1) (w103.2) (v := 106) (w106.1) dX2_init_28 (fun H locs hH => ?_)
  have hX28_6 := GX.set (G := G26_5) (lb := 103) (k := 2) (v := some (106))
  have hS28_6 := EX.set (G := G26_5) (lb := 103) (k := 2) (v := some (106))
  have q103_2 := setR_s (G := G26_5) (lb := 103) (k := 2) (v := some (106))
  generalize (G26_5.setR (up2 G26_5.rv 103 2 (some 106))) = G28_6 at hH hX28_6 hS28_6 q103_2
  have hl : lv_has ls 1 [(0, .ref (G28_6.ad 103))] := by rw [hS28_6.adm (w103.1)]; exact hl
  have w103 := And.intro (hS28_6.mem w103.1) (hS28_6.kd w103.2)
  have hfr : ∀ x, 107 ≤ x → x < 107 → x ∉ G28_6.L := fun x h1 h2 => hS28_6.nin (hfr x (Nat.le_trans (by decide) h1) h2) (Or.inr (Nat.le_trans (by decide) h1))
  have hkd : ∀ i, i < 111 → G28_6.kd i = kd0 i := by rw [EX_kd hS28_6]; exact hkd
  have w104 := w104.em hS28_6
  have q103_0 := hX28_6.rv List.not_mem_nil (fun h => absurd h.2 (by decide)) q103_0
  have w105 := w105.em hS28_6
  have q103_1 := hX28_6.rv List.not_mem_nil (fun h => absurd h.2 (by decide)) q103_1
  have w106 := w106.em hS28_6
  have hEX := hEX.tr (hS28_6.mono (c := 103) (d := 107) (by decide) (by decide))
  refine lv_aload_n hE.1 hE.2.1 dX2_init_31 rfl (lv_at hl 0 rfl) ?_
  refine lv_iconst (v := nI 0) hE.1 hE.2.1 dX2_init_32 (by decide) ?_
  refine rg_puti hE hH cf_X2 fl_X2_22 rfl fn_X2_3 (w103.1) (w103.2) (v := nI 0) dX2_init_33 (fun H locs hH => ?_)
  have hU33_7 : Fr iv26_5 (up2 iv26_5 103 3 (nI 0)) (fun b0 j => b0 = 103 ∧ j = 3) := Fr.up Fr.rf ⟨rfl, rfl⟩
  have hJ33_7 : FrJ jv26_5 jv26_5 (fun b0 j => b0 = 103 ∧ j = 3) := FrJ.rf
  have hFr := hFr.tr (hU33_7.mono (P' := fun lb _ => 103 ≤ lb ∧ lb < 107) (fun lb j h => by rw [h.1]; exact ⟨by decide, by decide⟩))
  have hFj := hFj.tr (hJ33_7.mono (P' := fun lb _ => 103 ≤ lb ∧ lb < 107) (fun lb j h => by rw [h.1]; exact ⟨by decide, by decide⟩))
  have i103_3 : (up2 iv26_5 103 3 (nI 0)) (103) 3 = nI 0 := up2_s
  generalize up2 iv26_5 103 3 (nI 0) = iv33_7 at hH hFr hU33_7 i103_3
  refine lv_aload_n hE.1 hE.2.1 dX2_init_36 rfl (lv_at hl 0 rfl) ?_
  refine lv_iconst (v := nI 0) hE.1 hE.2.1 dX2_init_37 (by decide) ?_
  refine rg_puti hE hH cf_X2 fl_X2_26 rfl fn_X2_4 (w103.1) (w103.2) (v := nI 0) dX2_init_38 (fun H locs hH => ?_)
  have hU38_8 : Fr iv33_7 (up2 iv33_7 103 4 (nI 0)) (fun b0 j => b0 = 103 ∧ j = 4) := Fr.up Fr.rf ⟨rfl, rfl⟩
  have hJ38_8 : FrJ jv26_5 jv26_5 (fun b0 j => b0 = 103 ∧ j = 4) := FrJ.rf
  have i103_3 := (hU38_8 _ _ (fun h => absurd h.2 (by decide))).trans i103_3
  have hFr := hFr.tr (hU38_8.mono (P' := fun lb _ => 103 ≤ lb ∧ lb < 107) (fun lb j h => by rw [h.1]; exact ⟨by decide, by decide⟩))
  have hFj := hFj.tr (hJ38_8.mono (P' := fun lb _ => 103 ≤ lb ∧ lb < 107) (fun lb j h => by rw [h.1]; exact ⟨by decide, by decide⟩))
  have i103_4 : (up2 iv33_7 103 4 (nI 0)) (103) 4 = nI 0 := up2_s
  generalize up2 iv33_7 103 4 (nI 0) = iv38_8 at hH hFr hU38_8 i103_3 i103_4
  refine lv_aload_n hE.1 hE.2.1 dX2_init_41 rfl (lv_at hl 0 rfl) ?_
  refine lv_bipush (v := nI 15) hE.1 hE.2.1 dX2_init_42 (by decide) ?_
  refine rg_puti hE hH cf_X2 fl_X2_29 rfl fn_X2_5 (w103.1) (w103.2) (v := nI 15) dX2_init_44 (fun H locs hH => ?_)
  have hU44_9 : Fr iv38_8 (up2 iv38_8 103 5 (nI 15)) (fun b0 j => b0 = 103 ∧ j = 5) := Fr.up Fr.rf ⟨rfl, rfl⟩
  have hJ44_9 : FrJ jv26_5 jv26_5 (fun b0 j => b0 = 103 ∧ j = 5) := FrJ.rf
  have i103_3 := (hU44_9 _ _ (fun h => absurd h.2 (by decide))).trans i103_3
  have i103_4 := (hU44_9 _ _ (fun h => absurd h.2 (by decide))).trans i103_4
  have hFr := hFr.tr (hU44_9.mono (P' := fun lb _ => 103 ≤ lb ∧ lb < 107) (fun lb j h => by rw [h.1]; exact ⟨by decide, by decide⟩))
  have hFj := hFj.tr (hJ44_9.mono (P' := fun lb _ => 103 ≤ lb ∧ lb < 107) (fun lb j h => by rw [h.1]; exact ⟨by decide, by decide⟩))
  have i103_5 : (up2 iv38_8 103 5 (nI 15)) (103) 5 = nI 15 := up2_s
  generalize up2 iv38_8 103 5 (nI 15) = iv44_9 at hH hFr hU44_9 i103_3 i103_4 i103_5
  refine lv_aload_n hE.1 hE.2.1 dX2_init_47 rfl (lv_at hl 0 rfl) ?_
  refine lv_iconst (v := nI 0) hE.1 hE.2.1 dX2_init_48 (by decide) ?_
  refine rg_puti hE hH cf_X2 fl_X2_32 rfl fn_X2_6 (w103.1) (w103.2) (v := nI 0) dX2_init_49 (fun H locs hH => ?_)
  have hU49_10 : Fr iv44_9 (up2 iv44_9 103 6 (nI 0)) (fun b0 j => b0 = 103 ∧ j = 6) := Fr.up Fr.rf ⟨rfl, rfl⟩
  have hJ49_10 : FrJ jv26_5 jv26_5 (fun b0 j => b0 = 103 ∧ j = 6) := FrJ.rf
  have i103_3 := (hU49_10 _ _ (fun h => absurd h.2 (by decide))).trans i103_3
  have i103_4 := (hU49_10 _ _ (fun h => absurd h.2 (by decide))).trans i103_4
  have i103_5 := (hU49_10 _ _ (fun h => absurd h.2 (by decide))).trans i103_5
  have hFr := hFr.tr (hU49_10.mono (P' := fun lb _ => 103 ≤ lb ∧ lb < 107) (fun lb j h => by rw [h.1]; exact ⟨by decide, by decide⟩))
  have hFj := hFj.tr (hJ49_10.mono (P' := fun lb _ => 103 ≤ lb ∧ lb < 107) (fun lb j h => by rw [h.1]; exact ⟨by decide, by decide⟩))
  have i103_6 : (up2 iv44_9 103 6 (nI 0)) (103) 6 = nI 0 := up2_s
  generalize up2 iv44_9 103 6 (nI 0) = iv49_10 at hH hFr hU49_10 i103_3 i103_4 i103_5 i103_6
  refine lv_aload_n hE.1 hE.2.1 dX2_init_52 rfl (lv_at hl 0 rfl) ?_
  refine lv_lconst (v := 0) hE.1 hE.2.1 dX2_init_53 (by decide) ?_
  refine rg_putj hE hH cf_X2 fl_X2_35 rfl fn_X2_7 (w103.1) (w103.2) (v := 0) dX2_init_54 (fun H locs hH => ?_)
  have hU54_11 : Fr iv49_10 iv49_10 (fun b0 j => b0 = 103 ∧ j = 7) := Fr.rf
  have hJ54_11 : FrJ jv26_5 (up2 jv26_5 103 7 0) (fun b0 j => b0 = 103 ∧ j = 7) := FrJ.up FrJ.rf ⟨rfl, rfl⟩
  have i103_3 := (hU54_11 _ _ (fun h => absurd h.2 (by decide))).trans i103_3
  have i103_4 := (hU54_11 _ _ (fun h => absurd h.2 (by decide))).trans i103_4
  have i103_5 := (hU54_11 _ _ (fun h => absurd h.2 (by decide))).trans i103_5
  have i103_6 := (hU54_11 _ _ (fun h => absurd h.2 (by decide))).trans i103_6
  have hFr := hFr.tr (hU54_11.mono (P' := fun lb _ => 103 ≤ lb ∧ lb < 107) (fun lb j h => by rw [h.1]; exact ⟨by decide, by decide⟩))
  have hFj := hFj.tr (hJ54_11.mono (P' := fun lb _ => 103 ≤ lb ∧ lb < 107) (fun lb j h => by rw [h.1]; exact ⟨by decide, by decide⟩))
  generalize up2 jv26_5 103 7 0 = jv54_11 at hH hFj hJ54_11 
  refine W.widen (k := 3) (n := 3003) (by show 0 + 1 + 1 + 1 ≤ 3; omega) (by show 0 + 1001 + 1001 + 1001 ≤ 3003; omega) ?_
  exact rg_vret hE hr hlk hH ⟨hEX, ⟨w103, w104, w105, w106, q103_0, q103_1, q103_2⟩, hFr, hFj⟩ dX2_init_57
set_option maxRecDepth 100000 in
set_option maxHeartbeats 4000000 in
theorem c_Pa_init (l : Launch) (z : ZK) (G : GW) (iv : IV) (jv : JV) (w102 : 102 ∈ G.L ∧ G.kd 102 = 4) (hfr : ∀ x, 103 ≤ x → x < 107 → x ∉ G.L) (hkd : ∀ i, i < 111 → G.kd i = kd0 i) : cV l z yX4_init cX4_init 1 none 2 40 4 3011 [.ref (G.ad 102)] G iv jv (fun G' iv' jv' => EX G G' 102 107 ∧ isPz G' ∧ Fr iv iv' (fun lb _ => 102 ≤ lb ∧ lb < 107) ∧ FrJ jv jv' (fun lb _ => 102 ≤ lb ∧ lb < 107)) := by
  intro sz
  refine rg_entry rfl (Nat.le_of_ble_eq_true rfl) ?_
  intro pq eq sq mq bq methq cq ls hE hr hlk hml hnm hl hsz hH
  have hl : lv_has ls 1 [(0, .ref (G.ad 102))] := hl
  have hEX : EX G G 102 107 := EX.rf
  have hFr : Fr iv iv (fun lb _ => 102 ≤ lb ∧ lb < 107) := Fr.rf
  have hFj : FrJ jv jv (fun lb _ => 102 ≤ lb ∧ lb < 107) := FrJ.rf
  refine lv_aload_n hE.1 hE.2.1 dX4_init_0 rfl (lv_at hl 0 rfl) ?_
  refine rg_obj (rest := []) hE ⟨(b1 37 rfl rfl), (b1 30 rfl rfl), (b1 31 rfl rfl)⟩ hml hl.1 rfl dX4_init_1 (Nat.le_of_ble_eq_true rfl) (Nat.le_of_ble_eq_true rfl) ?_
  refine lv_aload_n hE.1 hE.2.1 dX4_init_4 rfl (lv_at hl 0 rfl) ?_
  refine rg_newO (ci := 2) hE hH (103) (hfr (103) (by omega) (by omega)) (hkd 103 (by omega)) cf_X2 ⟨RX2, TX2, rfl, (b1 38 rfl rfl), (b1 39 rfl rfl), (b1 3 rfl rfl)⟩ (by show 0 + 1 ≤ 4; omega) (by show 0 + 8 ≤ 3011; omega) dX4_init_5 (fun G5_1 H hX5_1 hln5_1 hrv5_1 hH => ?_)
  have hS5_1 := hX5_1.ex1 (hfr (103) (by omega) (by omega))
  have w103 : (103) ∈ G5_1.L ∧ G5_1.kd (103) = 2 := ⟨hX5_1.new (List.mem_singleton_self _), hX5_1.kd (hkd 103 (by omega))⟩
  have hl : lv_has ls 1 [(0, .ref (G5_1.ad 102))] := by rw [hS5_1.adm (w102.1)]; exact hl
  refine rg_st (st' := [.ref (G5_1.ad 103), .ref (G5_1.ad 102)]) (by rw [hS5_1.adm (w102.1)]) ?_
  have w102 := And.intro (hS5_1.mem w102.1) (hS5_1.kd w102.2)
  have hfr : ∀ x, 104 ≤ x → x < 107 → x ∉ G5_1.L := fun x h1 h2 => hS5_1.nin (hfr x (Nat.le_trans (by decide) h1) h2) (Or.inr (Nat.le_trans (by decide) h1))
  have hkd : ∀ i, i < 111 → G5_1.kd i = kd0 i := by rw [EX_kd hS5_1]; exact hkd
  have hEX := hEX.tr (hS5_1.mono (c := 102) (d := 107) (by decide) (by decide))
  have hU5_1 : Fr iv (clr iv (103) 0) (fun b0 _ => b0 = 103) := Fr.clr Fr.rf (fun _ => rfl)
  have hJ5_1 : FrJ jv (clr jv (103) 0) (fun b0 _ => b0 = 103) := FrJ.clr FrJ.rf (fun _ => rfl)
  have hFr := hFr.tr (hU5_1.mono (P' := fun lb _ => 102 ≤ lb ∧ lb < 107) (fun lb j h => by rw [h]; exact ⟨by decide, by decide⟩))
  have hFj := hFj.tr (hJ5_1.mono (P' := fun lb _ => 102 ≤ lb ∧ lb < 107) (fun lb j h => by rw [h]; exact ⟨by decide, by decide⟩))
  generalize clr iv (103) 0 = iv5_1 at hH hFr hU5_1 
  generalize clr jv (103) 0 = jv5_1 at hH hFj hJ5_1 
  refine lv_dup hE.1 hE.2.1 dX4_init_8 rfl ?_
  refine rg_IV (As := []) (rest := [.ref (G5_1.ad 103), .ref (G5_1.ad 102)]) hE hml hH mc_X4_11 (c_Lx_init l z G5_1 iv5_1 jv5_1 w103 hfr hkd) rfl ⟨Nat.le_of_ble_eq_true rfl, Nat.le_of_ble_eq_true rfl⟩ rfl hl.1 (by simp [Value.category]) dX4_init_9 ⟨by show 0 + 1 + 3 ≤ 4; omega, by show 0 + 8 + 3003 ≤ 3011; omega⟩ (fun G9 iv9 jv9 H locs hp9 hH => ?_)
  obtain ⟨hS9_2, hLx, hU9_2, hJ9_2⟩ := hp9
  have hl : lv_has ls 1 [(0, .ref (G9.ad 102))] := by rw [hS9_2.adm (w102.1)]; exact hl
  refine rg_st (st' := [.ref (G9.ad 103), .ref (G9.ad 102)]) (by rw [hS9_2.adm (w103.1), hS9_2.adm (w102.1)]) ?_
  have w102 := And.intro (hS9_2.mem w102.1) (hS9_2.kd w102.2)
  have hfr : ∀ x, 107 ≤ x → x < 107 → x ∉ G9.L := fun x h1 h2 => hS9_2.nin (hfr x (by omega) h2) (by omega)
  have hkd : ∀ i, i < 111 → G9.kd i = kd0 i := by rw [EX_kd hS9_2]; exact hkd
  have w103 := And.intro (hS9_2.mem w103.1) (hS9_2.kd w103.2)
  have hEX := hEX.tr (hS9_2.mono (c := 102) (d := 107) (by omega) (by omega))
  have hFr := hFr.tr (hU9_2.mono (P' := fun lb _ => 102 ≤ lb ∧ lb < 107) (fun lb j h => by omega))
  have hFj := hFj.tr (hJ9_2.mono (P' := fun lb _ => 102 ≤ lb ∧ lb < 107) (fun lb j h => by omega))
  refine rg_putrF hE hH cf_X4 fl_X4_12 rfl fn_X4_0 fo_X4_0 hnm (w102.1) (w102.2) (v := 103) (w103.1) dX4_init_12 (fun H locs hH => ?_)
  have hX12_3 := GX.set (G := G9) (lb := 102) (k := 0) (v := some (103))
  have hS12_3 := EX.set (G := G9) (lb := 102) (k := 0) (v := some (103))
  have q102_0 := setR_s (G := G9) (lb := 102) (k := 0) (v := some (103))
  generalize (G9.setR (up2 G9.rv 102 0 (some 103))) = G12_3 at hH hX12_3 hS12_3 q102_0
  have hl : lv_has ls 1 [(0, .ref (G12_3.ad 102))] := by rw [hS12_3.adm (w102.1)]; exact hl
  have w102 := And.intro (hS12_3.mem w102.1) (hS12_3.kd w102.2)
  have hfr : ∀ x, 107 ≤ x → x < 107 → x ∉ G12_3.L := fun x h1 h2 => hS12_3.nin (hfr x (Nat.le_trans (by decide) h1) h2) (Or.inr (Nat.le_trans (by decide) h1))
  have hkd : ∀ i, i < 111 → G12_3.kd i = kd0 i := by rw [EX_kd hS12_3]; exact hkd
  have w103 := And.intro (hS12_3.mem w103.1) (hS12_3.kd w103.2)
  have hLx := hLx.e hS12_3 (by omega)
  have hEX := hEX.tr (hS12_3.mono (c := 102) (d := 107) (by decide) (by decide))
  refine lv_aload_n hE.1 hE.2.1 dX4_init_15 rfl (lv_at hl 0 rfl) ?_
  refine lv_iconst (v := nI 0) hE.1 hE.2.1 dX4_init_16 (by decide) ?_
  refine rg_puti hE hH cf_X4 fl_X4_18 rfl fn_X4_1 (w102.1) (w102.2) (v := nI 0) dX4_init_17 (fun H locs hH => ?_)
  have hU17_4 : Fr iv9 (up2 iv9 102 1 (nI 0)) (fun b0 j => b0 = 102 ∧ j = 1) := Fr.up Fr.rf ⟨rfl, rfl⟩
  have hJ17_4 : FrJ jv9 jv9 (fun b0 j => b0 = 102 ∧ j = 1) := FrJ.rf
  have hFr := hFr.tr (hU17_4.mono (P' := fun lb _ => 102 ≤ lb ∧ lb < 107) (fun lb j h => by rw [h.1]; exact ⟨by decide, by decide⟩))
  have hFj := hFj.tr (hJ17_4.mono (P' := fun lb _ => 102 ≤ lb ∧ lb < 107) (fun lb j h => by rw [h.1]; exact ⟨by decide, by decide⟩))
  have i102_1 : (up2 iv9 102 1 (nI 0)) (102) 1 = nI 0 := up2_s
  generalize up2 iv9 102 1 (nI 0) = iv17_4 at hH hFr hU17_4 i102_1
  refine W.widen (k := 4) (n := 3011) (by show 0 + 1 + 3 ≤ 4; omega) (by show 0 + 8 + 3003 ≤ 3011; omega) ?_
  exact rg_vret hE hr hlk hH ⟨hEX, ⟨w102, hLx, q102_0⟩, hFr, hFj⟩ dX4_init_20
set_option maxRecDepth 100000 in
set_option maxHeartbeats 4000000 in
theorem c_Ou_init (l : Launch) (z : ZK) (G : GW) (iv : IV) (jv : JV) (w109 : 109 ∈ G.L ∧ G.kd 109 = 3) (f110 : 110 ∉ G.L) (hkd : ∀ i, i < 111 → G.kd i = kd0 i) : cV l z yX3_init cX3_init 1 none 1 20 1 2000 [.ref (G.ad 109)] G iv jv (fun G' iv' jv' => EX G G' 109 111 ∧ isOu G' ∧ cOu iv' [] ∧ Fr iv iv' (fun lb _ => 109 ≤ lb ∧ lb < 111) ∧ FrJ jv jv' (fun lb _ => 109 ≤ lb ∧ lb < 111)) := by
  intro sz
  refine rg_entry rfl (Nat.le_of_ble_eq_true rfl) ?_
  intro pq eq sq mq bq methq cq ls hE hr hlk hml hnm hl hsz hH
  have hl : lv_has ls 1 [(0, .ref (G.ad 109))] := hl
  have hEX : EX G G 109 111 := EX.rf
  have hFr : Fr iv iv (fun lb _ => 109 ≤ lb ∧ lb < 111) := Fr.rf
  have hFj : FrJ jv jv (fun lb _ => 109 ≤ lb ∧ lb < 111) := FrJ.rf
  refine lv_aload_n hE.1 hE.2.1 dX3_init_0 rfl (lv_at hl 0 rfl) ?_
  refine rg_obj (rest := []) hE ⟨(b1 195 rfl rfl), (b1 30 rfl rfl), (b1 31 rfl rfl)⟩ hml hl.1 rfl dX3_init_1 (Nat.le_of_ble_eq_true rfl) (Nat.le_of_ble_eq_true rfl) ?_
  refine lv_aload_n hE.1 hE.2.1 dX3_init_4 rfl (lv_at hl 0 rfl) ?_
  refine lv_sipush (v := nI 2000) hE.1 hE.2.1 dX3_init_5 (by decide) ?_
  refine rg_newI (ty := .byte) rfl hE hH (110) f110 (hkd 110 (by omega)) (Or.inl ⟨rfl, rfl⟩) (by omega) (by show 0 + 1 ≤ 1; omega) (by show 0 + 2000 ≤ 2000; omega) dX3_init_8 (fun G8_1 H hX8_1 hln8_1 hrv8_1 hH => ?_)
  have hS8_1 := hX8_1.ex1 f110
  have w110 : isA G8_1 (110) 12 2000 := ⟨hX8_1.new (List.mem_singleton_self _), hX8_1.kd (hkd 110 (by omega)), hln8_1⟩
  have hl : lv_has ls 1 [(0, .ref (G8_1.ad 109))] := by rw [hS8_1.adm (w109.1)]; exact hl
  refine rg_st (st' := [.ref (G8_1.ad 110), .ref (G8_1.ad 109)]) (by rw [hS8_1.adm (w109.1)]) ?_
  have w109 := And.intro (hS8_1.mem w109.1) (hS8_1.kd w109.2)
  have hkd : ∀ i, i < 111 → G8_1.kd i = kd0 i := by rw [EX_kd hS8_1]; exact hkd
  have hEX := hEX.tr (hS8_1.mono (c := 109) (d := 111) (by decide) (by decide))
  have hU8_1 : Fr iv (clr iv (110) 0) (fun b0 _ => b0 = 110) := Fr.clr Fr.rf (fun _ => rfl)
  have hJ8_1 : FrJ jv (clr jv (110) 0) (fun b0 _ => b0 = 110) := FrJ.clr FrJ.rf (fun _ => rfl)
  have hFr := hFr.tr (hU8_1.mono (P' := fun lb _ => 109 ≤ lb ∧ lb < 111) (fun lb j h => by rw [h]; exact ⟨by decide, by decide⟩))
  have hFj := hFj.tr (hJ8_1.mono (P' := fun lb _ => 109 ≤ lb ∧ lb < 111) (fun lb j h => by rw [h]; exact ⟨by decide, by decide⟩))
  generalize clr iv (110) 0 = iv8_1 at hH hFr hU8_1 
  generalize clr jv (110) 0 = jv8_1 at hH hFj hJ8_1 
  refine rg_putrF hE hH cf_X3 fl_X3_9 rfl fn_X3_0 fo_X3_0 hnm (w109.1) (w109.2) (v := 110) (w110.1) dX3_init_10 (fun H locs hH => ?_)
  have hX10_2 := GX.set (G := G8_1) (lb := 109) (k := 0) (v := some (110))
  have hS10_2 := EX.set (G := G8_1) (lb := 109) (k := 0) (v := some (110))
  have q109_0 := setR_s (G := G8_1) (lb := 109) (k := 0) (v := some (110))
  generalize (G8_1.setR (up2 G8_1.rv 109 0 (some 110))) = G10_2 at hH hX10_2 hS10_2 q109_0
  have hl : lv_has ls 1 [(0, .ref (G10_2.ad 109))] := by rw [hS10_2.adm (w109.1)]; exact hl
  have w109 := And.intro (hS10_2.mem w109.1) (hS10_2.kd w109.2)
  have hkd : ∀ i, i < 111 → G10_2.kd i = kd0 i := by rw [EX_kd hS10_2]; exact hkd
  have w110 := w110.em hS10_2
  have hEX := hEX.tr (hS10_2.mono (c := 109) (d := 111) (by decide) (by decide))
  refine lv_aload_n hE.1 hE.2.1 dX3_init_13 rfl (lv_at hl 0 rfl) ?_
  refine lv_iconst (v := nI 0) hE.1 hE.2.1 dX3_init_14 (by decide) ?_
  refine rg_puti hE hH cf_X3 fl_X3_15 rfl fn_X3_1 (w109.1) (w109.2) (v := nI 0) dX3_init_15 (fun H locs hH => ?_)
  have hU15_3 : Fr iv8_1 (up2 iv8_1 109 1 (nI 0)) (fun b0 j => b0 = 109 ∧ j = 1) := Fr.up Fr.rf ⟨rfl, rfl⟩
  have hJ15_3 : FrJ jv8_1 jv8_1 (fun b0 j => b0 = 109 ∧ j = 1) := FrJ.rf
  have hFr := hFr.tr (hU15_3.mono (P' := fun lb _ => 109 ≤ lb ∧ lb < 111) (fun lb j h => by rw [h.1]; exact ⟨by decide, by decide⟩))
  have hFj := hFj.tr (hJ15_3.mono (P' := fun lb _ => 109 ≤ lb ∧ lb < 111) (fun lb j h => by rw [h.1]; exact ⟨by decide, by decide⟩))
  have i109_1 : (up2 iv8_1 109 1 (nI 0)) (109) 1 = nI 0 := up2_s
  generalize up2 iv8_1 109 1 (nI 0) = iv15_3 at hH hFr hU15_3 i109_1
  refine W.widen (k := 1) (n := 2000) (by show 0 + 1 ≤ 1; omega) (by show 0 + 2000 ≤ 2000; omega) ?_
  exact rg_vret hE hr hlk hH ⟨hEX, ⟨w109, w110, q109_0⟩, ⟨i109_1, by decide, fun k hk => absurd hk (Nat.not_lt_zero k)⟩, hFr, hFj⟩ dX3_init_18
