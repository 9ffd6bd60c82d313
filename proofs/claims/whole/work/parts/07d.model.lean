set_option maxRecDepth 100000 in
set_option maxHeartbeats 4000000 in
theorem c_La_init (l : Launch) (z : ZK) (G : GW) (iv : IV) (jv : JV) (b : Nat) (wb : b ∈ G.L ∧ G.kd b = 1) (hfr : ∀ x, b + 1 ≤ x → x < b + 40 → x ∉ G.L) (hkd : ∀ i, i < 33 → G.kd (b + i) = kLa i) : cV l z yX1_init cX1_init 2 none 2 40 16 304 [.ref (G.ad b)] G iv jv (fun G' iv' jv' => EX G G' b (b + 40) ∧ isLa G' b ∧ Fr iv iv' (fun lb _ => b ≤ lb ∧ lb < b + 40) ∧ FrJ jv jv' (fun lb _ => b ≤ lb ∧ lb < b + 40)) := by
  intro sz
  refine rg_entry rfl (Nat.le_of_ble_eq_true rfl) ?_
  intro pq eq sq mq bq methq cq ls hE hr hlk hml hnm hl hsz hH
  have hl : lv_has ls 2 [(0, .ref (G.ad b))] := hl
  have hEX : EX G G b (b + 40) := EX.rf
  have hFr : Fr iv iv (fun lb _ => b ≤ lb ∧ lb < b + 40) := Fr.rf
  have hFj : FrJ jv jv (fun lb _ => b ≤ lb ∧ lb < b + 40) := FrJ.rf
  refine lv_aload_n hE.1 hE.2.1 dX1_init_0 rfl (lv_at hl 0 rfl) ?_
  refine rg_obj (rest := []) hE ⟨(b1 91 rfl rfl), (b1 30 rfl rfl), (b1 31 rfl rfl)⟩ hml hl.1 rfl dX1_init_1 (Nat.le_of_ble_eq_true rfl) (Nat.le_of_ble_eq_true rfl) ?_
  refine lv_aload_n hE.1 hE.2.1 dX1_init_4 rfl (lv_at hl 0 rfl) ?_
  refine lv_iconst (v := nI 0) hE.1 hE.2.1 dX1_init_5 (by decide) ?_
  refine rg_puti hE hH cf_X1 fl_X1_9 rfl fn_X1_0 (wb.1) (wb.2) (v := nI 0) dX1_init_6 (fun H locs hH => ?_)
  have hU6_1 : Fr iv (up2 iv b 0 (nI 0)) (fun b0 j => b0 = b ∧ j = 0) := Fr.up Fr.rf ⟨rfl, rfl⟩
  have hJ6_1 : FrJ jv jv (fun b0 j => b0 = b ∧ j = 0) := FrJ.rf
  have hFr := hFr.tr (hU6_1.mono (P' := fun lb _ => b ≤ lb ∧ lb < b + 40) (fun lb j h => by rw [h.1]; exact ⟨dle b (a := 0) (c := 0) (by decide), dl b (a := 0) (c := 40) (by decide)⟩))
  have hFj := hFj.tr (hJ6_1.mono (P' := fun lb _ => b ≤ lb ∧ lb < b + 40) (fun lb j h => by rw [h.1]; exact ⟨dle b (a := 0) (c := 0) (by decide), dl b (a := 0) (c := 40) (by decide)⟩))
  have ib_0 : (up2 iv b 0 (nI 0)) (b) 0 = nI 0 := up2_s
  generalize up2 iv b 0 (nI 0) = iv6_1 at hH hFr hU6_1 ib_0
  refine lv_aload_n hE.1 hE.2.1 dX1_init_9 rfl (lv_at hl 0 rfl) ?_
  refine lv_iconst (v := nI 1) hE.1 hE.2.1 dX1_init_10 (by decide) ?_
  refine rg_puti hE hH cf_X1 fl_X1_15 rfl fn_X1_1 (wb.1) (wb.2) (v := nI 1) dX1_init_11 (fun H locs hH => ?_)
  have hU11_2 : Fr iv6_1 (up2 iv6_1 b 1 (nI 1)) (fun b0 j => b0 = b ∧ j = 1) := Fr.up Fr.rf ⟨rfl, rfl⟩
  have hJ11_2 : FrJ jv jv (fun b0 j => b0 = b ∧ j = 1) := FrJ.rf
  have ib_0 := (hU11_2 _ _ (fun h => absurd h.2 (by decide))).trans ib_0
  have hFr := hFr.tr (hU11_2.mono (P' := fun lb _ => b ≤ lb ∧ lb < b + 40) (fun lb j h => by rw [h.1]; exact ⟨dle b (a := 0) (c := 0) (by decide), dl b (a := 0) (c := 40) (by decide)⟩))
  have hFj := hFj.tr (hJ11_2.mono (P' := fun lb _ => b ≤ lb ∧ lb < b + 40) (fun lb j h => by rw [h.1]; exact ⟨dle b (a := 0) (c := 0) (by decide), dl b (a := 0) (c := 40) (by decide)⟩))
  have ib_1 : (up2 iv6_1 b 1 (nI 1)) (b) 1 = nI 1 := up2_s
  generalize up2 iv6_1 b 1 (nI 1) = iv11_2 at hH hFr hU11_2 ib_0 ib_1
  refine lv_aload_n hE.1 hE.2.1 dX1_init_14 rfl (lv_at hl 0 rfl) ?_
  refine lv_iconst (v := nI 5) hE.1 hE.2.1 dX1_init_15 (by decide) ?_
  refine rg_newQ hE hH (b + 1) (hfr (b + 1) (by omega) (by omega)) (hkd 1 (by omega)) ⟨RX0, (b1 92 rfl rfl), nb1 93 rfl rfl, Or.inl ⟨rfl, rfl⟩⟩ (by omega) (by show 0 + 1 ≤ 16; omega) (by show 0 + 5 ≤ 304; omega) dX1_init_16 (fun G16_3 H hX16_3 hln16_3 hrv16_3 hH => ?_)
  have hS16_3 := hX16_3.ex1 (hfr (b + 1) (by omega) (by omega))
  have wb_1 : isA G16_3 (b + 1) 16 5 := ⟨hX16_3.new (List.mem_singleton_self _), hX16_3.kd (hkd 1 (by omega)), hln16_3⟩
  have hl : lv_has ls 2 [(0, .ref (G16_3.ad b))] := by rw [hS16_3.adm (wb.1)]; exact hl
  refine rg_st (st' := [.ref (G16_3.ad (b + 1)), .ref (G16_3.ad b)]) (by rw [hS16_3.adm (wb.1)]) ?_
  have wb := And.intro (hS16_3.mem wb.1) (hS16_3.kd wb.2)
  have hfr : ∀ x, b + 2 ≤ x → x < b + 40 → x ∉ G16_3.L := fun x h1 h2 => hS16_3.nin (hfr x (Nat.le_trans (dle b (a := 1) (c := 2) (by decide)) h1) h2) (Or.inr (Nat.le_trans (dle b (a := 2) (c := 2) (by decide)) h1))
  have hkd : ∀ i, i < 33 → G16_3.kd (b + i) = kLa i := by rw [EX_kd hS16_3]; exact hkd
  have hEX := hEX.tr (hS16_3.mono (c := b) (d := b + 40) (dle b (a := 0) (c := 1) (by decide)) (dle b (a := 2) (c := 40) (by decide)))
  have hU16_3 : Fr iv11_2 (clr iv11_2 (b + 1) 0) (fun b0 _ => b0 = b + 1) := Fr.clr Fr.rf (fun _ => rfl)
  have hJ16_3 : FrJ jv (clr jv (b + 1) 0) (fun b0 _ => b0 = b + 1) := FrJ.clr FrJ.rf (fun _ => rfl)
  have ib_0 := (hU16_3 _ _ (dn b (a := 0) (c := 1) (by decide))).trans ib_0
  have ib_1 := (hU16_3 _ _ (dn b (a := 0) (c := 1) (by decide))).trans ib_1
  have hFr := hFr.tr (hU16_3.mono (P' := fun lb _ => b ≤ lb ∧ lb < b + 40) (fun lb j h => by rw [h]; exact ⟨dle b (a := 0) (c := 1) (by decide), dl b (a := 1) (c := 40) (by decide)⟩))
  have hFj := hFj.tr (hJ16_3.mono (P' := fun lb _ => b ≤ lb ∧ lb < b + 40) (fun lb j h => by rw [h]; exact ⟨dle b (a := 0) (c := 1) (by decide), dl b (a := 1) (c := 40) (by decide)⟩))
  generalize clr iv11_2 (b + 1) 0 = iv16_3 at hH hFr hU16_3 ib_0 ib_1
  generalize clr jv (b + 1) 0 = jv16_3 at hH hFj hJ16_3 
  refine rg_putrF hE hH cf_X1 fl_X1_20 rfl fn_X1_2 fo_X1_2 hnm (wb.1) (wb.2) (v := b + 1) (wb_1.1) dX1_init_19 (fun H locs hH => ?_)
  have hX19_4 := GX.set (G := G16_3) (lb := b) (k := 2) (v := some (b + 1))
  have hS19_4 := EX.set (G := G16_3) (lb := b) (k := 2) (v := some (b + 1))
  have qb_2 := setR_s (G := G16_3) (lb := b) (k := 2) (v := some (b + 1))
  generalize (G16_3.setR (up2 G16_3.rv b 2 (some (b + 1)))) = G19_4 at hH hX19_4 hS19_4 qb_2
  have hl : lv_has ls 2 [(0, .ref (G19_4.ad b))] := by rw [hS19_4.adm (wb.1)]; exact hl
  have wb := And.intro (hS19_4.mem wb.1) (hS19_4.kd wb.2)
  have hfr : ∀ x, b + 2 ≤ x → x < b + 40 → x ∉ G19_4.L := fun x h1 h2 => hS19_4.nin (hfr x (Nat.le_trans (dle b (a := 2) (c := 2) (by decide)) h1) h2) (Or.inr (Nat.le_trans (dle b (a := 1) (c := 2) (by decide)) h1))
  have hkd : ∀ i, i < 33 → G19_4.kd (b + i) = kLa i := by rw [EX_kd hS19_4]; exact hkd
  have wb_1 := wb_1.em hS19_4
  have hEX := hEX.tr (hS19_4.mono (c := b) (d := b + 40) (dle b (a := 0) (c := 0) (by decide)) (dle b (a := 1) (c := 40) (by decide)))
  refine lv_iconst (v := nI 0) hE.1 hE.2.1 dX1_init_22 (by decide) ?_
  refine lv_istore_n (lv' := [(1, .int (nI 0)), (0, .ref (G19_4.ad b))]) hE.1 hE.2.1 dX1_init_23 rfl hl (by decide) rfl (fun ls hl => ?_)
  refine lv_iload_n hE.1 hE.2.1 dX1_init_24 rfl (lv_at hl 0 rfl) ?_
  refine lv_iconst (v := nI 5) hE.1 hE.2.1 dX1_init_25 (by decide) ?_
  refine rn_icmp_ge (tgt := 48) hE dX1_init_26 (by decide) (by omega) (by omega) (fun c26 => ?_) (fun c26 => ?_)
  · omega
  · refine lv_aload_n hE.1 hE.2.1 dX1_init_29 rfl (lv_at hl 1 rfl) ?_
    refine rg_getr hE hH cf_X1 fl_X1_20 rfl (wb.1) (wb.2) (v := b + 1) (qb_2) dX1_init_30 ?_
    refine lv_iload_n hE.1 hE.2.1 dX1_init_33 rfl (lv_at hl 0 rfl) ?_
    refine rg_newO (ci := 0) hE hH (b + 10) (hfr (b + 10) (by omega) (by omega)) (hkd 10 (by omega)) cf_X0 ⟨RX0, TX0, rfl, (b1 92 rfl rfl), (b1 94 rfl rfl), (b1 5 rfl rfl)⟩ (by show 0 + 1 + 1 ≤ 16; omega) (by show 0 + 5 + 3 ≤ 304; omega) dX1_init_34 (fun G34_5 H hX34_5 hln34_5 hrv34_5 hH => ?_)
    have hS34_5 := hX34_5.ex1 (hfr (b + 10) (by omega) (by omega))
    have wb_10 : (b + 10) ∈ G34_5.L ∧ G34_5.kd (b + 10) = 0 := ⟨hX34_5.new (List.mem_singleton_self _), hX34_5.kd (hkd 10 (by omega))⟩
    have hl : lv_has ls 2 [(1, .int (nI 0)), (0, .ref (G34_5.ad b))] := by rw [hS34_5.adm (wb.1)]; exact hl
    refine rg_st (st' := [.ref (G34_5.ad (b + 10)), .int (nI 0), .ref (G34_5.ad (b + 1))]) (by rw [hS34_5.adm (wb_1.1)]) ?_
    have wb := And.intro (hS34_5.mem wb.1) (hS34_5.kd wb.2)
    have hfr : ∀ x, b + 11 ≤ x → x < b + 40 → x ∉ G34_5.L := fun x h1 h2 => hS34_5.nin (hfr x (Nat.le_trans (dle b (a := 2) (c := 11) (by decide)) h1) h2) (Or.inr (Nat.le_trans (dle b (a := 11) (c := 11) (by decide)) h1))
    have hkd : ∀ i, i < 33 → G34_5.kd (b + i) = kLa i := by rw [EX_kd hS34_5]; exact hkd
    have wb_1 := wb_1.em hS34_5
    have qb_2 := hS34_5.rv (Or.inl (dl b (a := 0) (c := 10) (by decide))) qb_2
    have hEX := hEX.tr (hS34_5.mono (c := b) (d := b + 40) (dle b (a := 0) (c := 10) (by decide)) (dle b (a := 11) (c := 40) (by decide)))
    have hU34_5 : Fr iv16_3 (clr iv16_3 (b + 10) 0) (fun b0 _ => b0 = b + 10) := Fr.clr Fr.rf (fun _ => rfl)
    have hJ34_5 : FrJ jv16_3 (clr jv16_3 (b + 10) 0) (fun b0 _ => b0 = b + 10) := FrJ.clr FrJ.rf (fun _ => rfl)
    have ib_0 := (hU34_5 _ _ (dn b (a := 0) (c := 10) (by decide))).trans ib_0
    have ib_1 := (hU34_5 _ _ (dn b (a := 0) (c := 10) (by decide))).trans ib_1
    have hFr := hFr.tr (hU34_5.mono (P' := fun lb _ => b ≤ lb ∧ lb < b + 40) (fun lb j h => by rw [h]; exact ⟨dle b (a := 0) (c := 10) (by decide), dl b (a := 10) (c := 40) (by decide)⟩))
    have hFj := hFj.tr (hJ34_5.mono (P' := fun lb _ => b ≤ lb ∧ lb < b + 40) (fun lb j h => by rw [h]; exact ⟨dle b (a := 0) (c := 10) (by decide), dl b (a := 10) (c := 40) (by decide)⟩))
    generalize clr iv16_3 (b + 10) 0 = iv34_5 at hH hFr hU34_5 ib_0 ib_1
    generalize clr jv16_3 (b + 10) 0 = jv34_5 at hH hFj hJ34_5 
    refine lv_dup hE.1 hE.2.1 dX1_init_37 rfl ?_
    refine rg_IV (As := []) (rest := [.ref (G34_5.ad (b + 10)), .int (nI 0), .ref (G34_5.ad (b + 1))]) hE hml hH mc_X1_24 (c_Co_init l z G34_5 iv34_5 jv34_5 (b + 10) wb_10 (hfr (b + 10 + 1) (by omega) (by omega)) (hkd 11 (by omega))) rfl ⟨Nat.le_of_ble_eq_true rfl, Nat.le_of_ble_eq_true rfl⟩ rfl hl.1 (by simp [Value.category]) dX1_init_38 ⟨by show 0 + 1 + 1 + 1 ≤ 16; omega, by show 0 + 5 + 3 + 6 ≤ 304; omega⟩ (fun G38 iv38 jv38 H locs hp38 hH => ?_)
    obtain ⟨hS38_6, cob_10, -, hU38_6, hJ38_6⟩ := hp38
    have hl : lv_has ls 2 [(1, .int (nI 0)), (0, .ref (G38.ad b))] := by rw [hS38_6.adm (wb.1)]; exact hl
    refine rg_st (st' := [.ref (G38.ad (b + 10)), .int (nI 0), .ref (G38.ad (b + 1))]) (by rw [hS38_6.adm (wb_10.1), hS38_6.adm (wb_1.1)]) ?_
    have wb := And.intro (hS38_6.mem wb.1) (hS38_6.kd wb.2)
    have hfr : ∀ x, b + 12 ≤ x → x < b + 40 → x ∉ G38.L := fun x h1 h2 => hS38_6.nin (hfr x (by omega) h2) (by omega)
    have hkd : ∀ i, i < 33 → G38.kd (b + i) = kLa i := by rw [EX_kd hS38_6]; exact hkd
    have wb_1 := wb_1.em hS38_6
    have qb_2 := hS38_6.rv (by omega) qb_2
    have wb_10 := And.intro (hS38_6.mem wb_10.1) (hS38_6.kd wb_10.2)
    have hEX := hEX.tr (hS38_6.mono (c := b) (d := b + 40) (by omega) (by omega))
    have ib_0 := (hU38_6 _ _ (by omega)).trans ib_0
    have ib_1 := (hU38_6 _ _ (by omega)).trans ib_1
    have hFr := hFr.tr (hU38_6.mono (P' := fun lb _ => b ≤ lb ∧ lb < b + 40) (fun lb j h => by omega))
    have hFj := hFj.tr (hJ38_6.mono (P' := fun lb _ => b ≤ lb ∧ lb < b + 40) (fun lb j h => by omega))
    refine rg_astr hE hH (Or.inl ⟨rfl, rfl⟩) (wb_1.1) (wb_1.2.1) (by rw [wb_1.2.2]; omega) (v := b + 10) (wb_10.1) (wb_10.2) dX1_init_41 (fun H locs hH => ?_)
    have hX41_7 := GX.set (G := G38) (lb := b + 1) (k := 0) (v := some (b + 10))
    have hS41_7 := EX.set (G := G38) (lb := b + 1) (k := 0) (v := some (b + 10))
    have qb_1_0 := setR_s (G := G38) (lb := b + 1) (k := 0) (v := some (b + 10))
    generalize (G38.setR (up2 G38.rv (b + 1) 0 (some (b + 10)))) = G41_7 at hH hX41_7 hS41_7 qb_1_0
    have hl : lv_has ls 2 [(1, .int (nI 0)), (0, .ref (G41_7.ad b))] := by rw [hS41_7.adm (wb.1)]; exact hl
    have wb := And.intro (hS41_7.mem wb.1) (hS41_7.kd wb.2)
    have hfr : ∀ x, b + 12 ≤ x → x < b + 40 → x ∉ G41_7.L := fun x h1 h2 => hS41_7.nin (hfr x (Nat.le_trans (dle b (a := 12) (c := 12) (by decide)) h1) h2) (Or.inr (Nat.le_trans (dle b (a := 2) (c := 12) (by decide)) h1))
    have hkd : ∀ i, i < 33 → G41_7.kd (b + i) = kLa i := by rw [EX_kd hS41_7]; exact hkd
    have wb_1 := wb_1.em hS41_7
    have qb_2 := hX41_7.rv List.not_mem_nil (fun h => (dn b (a := 0) (c := 1) (by decide)) h.1) qb_2
    have wb_10 := And.intro (hS41_7.mem wb_10.1) (hS41_7.kd wb_10.2)
    have cob_10 := cob_10.e hS41_7 (by omega)
    have hEX := hEX.tr (hS41_7.mono (c := b) (d := b + 40) (dle b (a := 0) (c := 1) (by decide)) (dle b (a := 2) (c := 40) (by decide)))
    refine lv_iinc (v := nI (0 + 1)) (lv' := [(1, .int (nI (0 + 1))), (0, .ref (G41_7.ad b))]) hE.1 hE.2.1 dX1_init_42 hl (k := 0) rfl (nI_1 _) (by decide) rfl (fun ls hl => ?_)
    refine lv_goto (tgt := 24) hE.1 hE.2.1 dX1_init_45 (by decide) ?_
    refine lv_iload_n hE.1 hE.2.1 dX1_init_24 rfl (lv_at hl 0 rfl) ?_
    refine lv_iconst (v := nI 5) hE.1 hE.2.1 dX1_init_25 (by decide) ?_
    refine rn_icmp_ge (tgt := 48) hE dX1_init_26 (by decide) (by omega) (by omega) (fun c26 => ?_) (fun c26 => ?_)
    · omega
    · refine lv_aload_n hE.1 hE.2.1 dX1_init_29 rfl (lv_at hl 1 rfl) ?_
      refine rg_getr hE hH cf_X1 fl_X1_20 rfl (wb.1) (wb.2) (v := b + 1) (qb_2) dX1_init_30 ?_
      refine lv_iload_n hE.1 hE.2.1 dX1_init_33 rfl (lv_at hl 0 rfl) ?_
      refine rg_newO (ci := 0) hE hH (b + 12) (hfr (b + 12) (by omega) (by omega)) (hkd 12 (by omega)) cf_X0 ⟨RX0, TX0, rfl, (b1 92 rfl rfl), (b1 94 rfl rfl), (b1 5 rfl rfl)⟩ (by show 0 + 1 + 1 + 1 + 1 ≤ 16; omega) (by show 0 + 5 + 3 + 6 + 3 ≤ 304; omega) dX1_init_34 (fun G34_8 H hX34_8 hln34_8 hrv34_8 hH => ?_)
      have hS34_8 := hX34_8.ex1 (hfr (b + 12) (by omega) (by omega))
      have wb_12 : (b + 12) ∈ G34_8.L ∧ G34_8.kd (b + 12) = 0 := ⟨hX34_8.new (List.mem_singleton_self _), hX34_8.kd (hkd 12 (by omega))⟩
      have hl : lv_has ls 2 [(1, .int (nI (0 + 1))), (0, .ref (G34_8.ad b))] := by rw [hS34_8.adm (wb.1)]; exact hl
      refine rg_st (st' := [.ref (G34_8.ad (b + 12)), .int (nI (0 + 1)), .ref (G34_8.ad (b + 1))]) (by rw [hS34_8.adm (wb_1.1)]) ?_
      have wb := And.intro (hS34_8.mem wb.1) (hS34_8.kd wb.2)
      have hfr : ∀ x, b + 13 ≤ x → x < b + 40 → x ∉ G34_8.L := fun x h1 h2 => hS34_8.nin (hfr x (Nat.le_trans (dle b (a := 12) (c := 13) (by decide)) h1) h2) (Or.inr (Nat.le_trans (dle b (a := 13) (c := 13) (by decide)) h1))
      have hkd : ∀ i, i < 33 → G34_8.kd (b + i) = kLa i := by rw [EX_kd hS34_8]; exact hkd
      have wb_1 := wb_1.em hS34_8
      have qb_2 := hS34_8.rv (Or.inl (dl b (a := 0) (c := 12) (by decide))) qb_2
      have wb_10 := And.intro (hS34_8.mem wb_10.1) (hS34_8.kd wb_10.2)
      have cob_10 := cob_10.e hS34_8 (by omega)
      have qb_1_0 := hS34_8.rv (Or.inl (dl b (a := 1) (c := 12) (by decide))) qb_1_0
      have hEX := hEX.tr (hS34_8.mono (c := b) (d := b + 40) (dle b (a := 0) (c := 12) (by decide)) (dle b (a := 13) (c := 40) (by decide)))
      have hU34_8 : Fr iv38 (clr iv38 (b + 12) 0) (fun b0 _ => b0 = b + 12) := Fr.clr Fr.rf (fun _ => rfl)
      have hJ34_8 : FrJ jv38 (clr jv38 (b + 12) 0) (fun b0 _ => b0 = b + 12) := FrJ.clr FrJ.rf (fun _ => rfl)
      have ib_0 := (hU34_8 _ _ (dn b (a := 0) (c := 12) (by decide))).trans ib_0
      have ib_1 := (hU34_8 _ _ (dn b (a := 0) (c := 12) (by decide))).trans ib_1
      have hFr := hFr.tr (hU34_8.mono (P' := fun lb _ => b ≤ lb ∧ lb < b + 40) (fun lb j h => by rw [h]; exact ⟨dle b (a := 0) (c := 12) (by decide), dl b (a := 12) (c := 40) (by decide)⟩))
      have hFj := hFj.tr (hJ34_8.mono (P' := fun lb _ => b ≤ lb ∧ lb < b + 40) (fun lb j h => by rw [h]; exact ⟨dle b (a := 0) (c := 12) (by decide), dl b (a := 12) (c := 40) (by decide)⟩))
      generalize clr iv38 (b + 12) 0 = iv34_8 at hH hFr hU34_8 ib_0 ib_1
      generalize clr jv38 (b + 12) 0 = jv34_8 at hH hFj hJ34_8 
      refine lv_dup hE.1 hE.2.1 dX1_init_37 rfl ?_
      refine rg_IV (As := []) (rest := [.ref (G34_8.ad (b + 12)), .int (nI (0 + 1)), .ref (G34_8.ad (b + 1))]) hE hml hH mc_X1_24 (c_Co_init l z G34_8 iv34_8 jv34_8 (b + 12) wb_12 (hfr (b + 12 + 1) (by omega) (by omega)) (hkd 13 (by omega))) rfl ⟨Nat.le_of_ble_eq_true rfl, Nat.le_of_ble_eq_true rfl⟩ rfl hl.1 (by simp [Value.category]) dX1_init_38 ⟨by show 0 + 1 + 1 + 1 + 1 + 1 ≤ 16; omega, by show 0 + 5 + 3 + 6 + 3 + 6 ≤ 304; omega⟩ (fun G38 iv38 jv38 H locs hp38 hH => ?_)
      obtain ⟨hS38_9, cob_12, -, hU38_9, hJ38_9⟩ := hp38
      have hl : lv_has ls 2 [(1, .int (nI (0 + 1))), (0, .ref (G38.ad b))] := by rw [hS38_9.adm (wb.1)]; exact hl
      refine rg_st (st' := [.ref (G38.ad (b + 12)), .int (nI (0 + 1)), .ref (G38.ad (b + 1))]) (by rw [hS38_9.adm (wb_12.1), hS38_9.adm (wb_1.1)]) ?_
      have wb := And.intro (hS38_9.mem wb.1) (hS38_9.kd wb.2)
      have hfr : ∀ x, b + 14 ≤ x → x < b + 40 → x ∉ G38.L := fun x h1 h2 => hS38_9.nin (hfr x (by omega) h2) (by omega)
      have hkd : ∀ i, i < 33 → G38.kd (b + i) = kLa i := by rw [EX_kd hS38_9]; exact hkd
      have wb_1 := wb_1.em hS38_9
      have qb_2 := hS38_9.rv (by omega) qb_2
      have wb_10 := And.intro (hS38_9.mem wb_10.1) (hS38_9.kd wb_10.2)
      have cob_10 := cob_10.e hS38_9 (by omega)
      have qb_1_0 := hS38_9.rv (by omega) qb_1_0
      have wb_12 := And.intro (hS38_9.mem wb_12.1) (hS38_9.kd wb_12.2)
      have hEX := hEX.tr (hS38_9.mono (c := b) (d := b + 40) (by omega) (by omega))
      have ib_0 := (hU38_9 _ _ (by omega)).trans ib_0
      have ib_1 := (hU38_9 _ _ (by omega)).trans ib_1
      have hFr := hFr.tr (hU38_9.mono (P' := fun lb _ => b ≤ lb ∧ lb < b + 40) (fun lb j h => by omega))
      have hFj := hFj.tr (hJ38_9.mono (P' := fun lb _ => b ≤ lb ∧ lb < b + 40) (fun lb j h => by omega))
      refine rg_astr hE hH (Or.inl ⟨rfl, rfl⟩) (wb_1.1) (wb_1.2.1) (by rw [wb_1.2.2]; omega) (v := b + 12) (wb_12.1) (wb_12.2) dX1_init_41 (fun H locs hH => ?_)
      have hX41_10 := GX.set (G := G38) (lb := b + 1) (k := 0 + 1) (v := some (b + 12))
      have hS41_10 := EX.set (G := G38) (lb := b + 1) (k := 0 + 1) (v := some (b + 12))
      have qb_1_0_1 := setR_s (G := G38) (lb := b + 1) (k := 0 + 1) (v := some (b + 12))
      generalize (G38.setR (up2 G38.rv (b + 1) (0 + 1) (some (b + 12)))) = G41_10 at hH hX41_10 hS41_10 qb_1_0_1
      have hl : lv_has ls 2 [(1, .int (nI (0 + 1))), (0, .ref (G41_10.ad b))] := by rw [hS41_10.adm (wb.1)]; exact hl
      have wb := And.intro (hS41_10.mem wb.1) (hS41_10.kd wb.2)
      have hfr : ∀ x, b + 14 ≤ x → x < b + 40 → x ∉ G41_10.L := fun x h1 h2 => hS41_10.nin (hfr x (Nat.le_trans (dle b (a := 14) (c := 14) (by decide)) h1) h2) (Or.inr (Nat.le_trans (dle b (a := 2) (c := 14) (by decide)) h1))
      have hkd : ∀ i, i < 33 → G41_10.kd (b + i) = kLa i := by rw [EX_kd hS41_10]; exact hkd
      have wb_1 := wb_1.em hS41_10
      have qb_2 := hX41_10.rv List.not_mem_nil (fun h => (dn b (a := 0) (c := 1) (by decide)) h.1) qb_2
      have wb_10 := And.intro (hS41_10.mem wb_10.1) (hS41_10.kd wb_10.2)
      have cob_10 := cob_10.e hS41_10 (by omega)
      have qb_1_0 := hX41_10.rv List.not_mem_nil (by omega) qb_1_0
      have wb_12 := And.intro (hS41_10.mem wb_12.1) (hS41_10.kd wb_12.2)
      have cob_12 := cob_12.e hS41_10 (by omega)
      have hEX := hEX.tr (hS41_10.mono (c := b) (d := b + 40) (dle b (a := 0) (c := 1) (by decide)) (dle b (a := 2) (c := 40) (by decide)))
      refine lv_iinc (v := nI (0 + 1 + 1)) (lv' := [(1, .int (nI (0 + 1 + 1))), (0, .ref (G41_10.ad b))]) hE.1 hE.2.1 dX1_init_42 hl (k := 0) rfl (nI_1 _) (by decide) rfl (fun ls hl => ?_)
      refine lv_goto (tgt := 24) hE.1 hE.2.1 dX1_init_45 (by decide) ?_
      refine lv_iload_n hE.1 hE.2.1 dX1_init_24 rfl (lv_at hl 0 rfl) ?_
      refine lv_iconst (v := nI 5) hE.1 hE.2.1 dX1_init_25 (by decide) ?_
      refine rn_icmp_ge (tgt := 48) hE dX1_init_26 (by decide) (by omega) (by omega) (fun c26 => ?_) (fun c26 => ?_)
      · omega
      · refine lv_aload_n hE.1 hE.2.1 dX1_init_29 rfl (lv_at hl 1 rfl) ?_
        refine rg_getr hE hH cf_X1 fl_X1_20 rfl (wb.1) (wb.2) (v := b + 1) (qb_2) dX1_init_30 ?_
        refine lv_iload_n hE.1 hE.2.1 dX1_init_33 rfl (lv_at hl 0 rfl) ?_
        refine rg_newO (ci := 0) hE hH (b + 14) (hfr (b + 14) (by omega) (by omega)) (hkd 14 (by omega)) cf_X0 ⟨RX0, TX0, rfl, (b1 92 rfl rfl), (b1 94 rfl rfl), (b1 5 rfl rfl)⟩ (by show 0 + 1 + 1 + 1 + 1 + 1 + 1 ≤ 16; omega) (by show 0 + 5 + 3 + 6 + 3 + 6 + 3 ≤ 304; omega) dX1_init_34 (fun G34_11 H hX34_11 hln34_11 hrv34_11 hH => ?_)
        have hS34_11 := hX34_11.ex1 (hfr (b + 14) (by omega) (by omega))
        have wb_14 : (b + 14) ∈ G34_11.L ∧ G34_11.kd (b + 14) = 0 := ⟨hX34_11.new (List.mem_singleton_self _), hX34_11.kd (hkd 14 (by omega))⟩
        have hl : lv_has ls 2 [(1, .int (nI (0 + 1 + 1))), (0, .ref (G34_11.ad b))] := by rw [hS34_11.adm (wb.1)]; exact hl
        refine rg_st (st' := [.ref (G34_11.ad (b + 14)), .int (nI (0 + 1 + 1)), .ref (G34_11.ad (b + 1))]) (by rw [hS34_11.adm (wb_1.1)]) ?_
        have wb := And.intro (hS34_11.mem wb.1) (hS34_11.kd wb.2)
        have hfr : ∀ x, b + 15 ≤ x → x < b + 40 → x ∉ G34_11.L := fun x h1 h2 => hS34_11.nin (hfr x (Nat.le_trans (dle b (a := 14) (c := 15) (by decide)) h1) h2) (Or.inr (Nat.le_trans (dle b (a := 15) (c := 15) (by decide)) h1))
        have hkd : ∀ i, i < 33 → G34_11.kd (b + i) = kLa i := by rw [EX_kd hS34_11]; exact hkd
        have wb_1 := wb_1.em hS34_11
        have qb_2 := hS34_11.rv (Or.inl (dl b (a := 0) (c := 14) (by decide))) qb_2
        have wb_10 := And.intro (hS34_11.mem wb_10.1) (hS34_11.kd wb_10.2)
        have cob_10 := cob_10.e hS34_11 (by omega)
        have qb_1_0 := hS34_11.rv (Or.inl (dl b (a := 1) (c := 14) (by decide))) qb_1_0
        have wb_12 := And.intro (hS34_11.mem wb_12.1) (hS34_11.kd wb_12.2)
        have cob_12 := cob_12.e hS34_11 (by omega)
        have qb_1_0_1 := hS34_11.rv (Or.inl (dl b (a := 1) (c := 14) (by decide))) qb_1_0_1
        have hEX := hEX.tr (hS34_11.mono (c := b) (d := b + 40) (dle b (a := 0) (c := 14) (by decide)) (dle b (a := 15) (c := 40) (by decide)))
        have hU34_11 : Fr iv38 (clr iv38 (b + 14) 0) (fun b0 _ => b0 = b + 14) := Fr.clr Fr.rf (fun _ => rfl)
        have hJ34_11 : FrJ jv38 (clr jv38 (b + 14) 0) (fun b0 _ => b0 = b + 14) := FrJ.clr FrJ.rf (fun _ => rfl)
        have ib_0 := (hU34_11 _ _ (dn b (a := 0) (c := 14) (by decide))).trans ib_0
        have ib_1 := (hU34_11 _ _ (dn b (a := 0) (c := 14) (by decide))).trans ib_1
        have hFr := hFr.tr (hU34_11.mono (P' := fun lb _ => b ≤ lb ∧ lb < b + 40) (fun lb j h => by rw [h]; exact ⟨dle b (a := 0) (c := 14) (by decide), dl b (a := 14) (c := 40) (by decide)⟩))
        have hFj := hFj.tr (hJ34_11.mono (P' := fun lb _ => b ≤ lb ∧ lb < b + 40) (fun lb j h => by rw [h]; exact ⟨dle b (a := 0) (c := 14) (by decide), dl b (a := 14) (c := 40) (by decide)⟩))
        generalize clr iv38 (b + 14) 0 = iv34_11 at hH hFr hU34_11 ib_0 ib_1
        generalize clr jv38 (b + 14) 0 = jv34_11 at hH hFj hJ34_11 
        refine lv_dup hE.1 hE.2.1 dX1_init_37 rfl ?_
        refine rg_IV (As := []) (rest := [.ref (G34_11.ad (b + 14)), .int (nI (0 + 1 + 1)), .ref (G34_11.ad (b + 1))]) hE hml hH mc_X1_24 (c_Co_init l z G34_11 iv34_11 jv34_11 (b + 14) wb_14 (hfr (b + 14 + 1) (by omega) (by omega)) (hkd 15 (by omega))) rfl ⟨Nat.le_of_ble_eq_true rfl, Nat.le_of_ble_eq_true rfl⟩ rfl hl.1 (by simp [Value.category]) dX1_init_38 ⟨by show 0 + 1 + 1 + 1 + 1 + 1 + 1 + 1 ≤ 16; omega, by show 0 + 5 + 3 + 6 + 3 + 6 + 3 + 6 ≤ 304; omega⟩ (fun G38 iv38 jv38 H locs hp38 hH => ?_)
        obtain ⟨hS38_12, cob_14, -, hU38_12, hJ38_12⟩ := hp38
        have hl : lv_has ls 2 [(1, .int (nI (0 + 1 + 1))), (0, .ref (G38.ad b))] := by rw [hS38_12.adm (wb.1)]; exact hl
        refine rg_st (st' := [.ref (G38.ad (b + 14)), .int (nI (0 + 1 + 1)), .ref (G38.ad (b + 1))]) (by rw [hS38_12.adm (wb_14.1), hS38_12.adm (wb_1.1)]) ?_
        have wb := And.intro (hS38_12.mem wb.1) (hS38_12.kd wb.2)
        have hfr : ∀ x, b + 16 ≤ x → x < b + 40 → x ∉ G38.L := fun x h1 h2 => hS38_12.nin (hfr x (by omega) h2) (by omega)
        have hkd : ∀ i, i < 33 → G38.kd (b + i) = kLa i := by rw [EX_kd hS38_12]; exact hkd
        have wb_1 := wb_1.em hS38_12
        have qb_2 := hS38_12.rv (by omega) qb_2
        have wb_10 := And.intro (hS38_12.mem wb_10.1) (hS38_12.kd wb_10.2)
        have cob_10 := cob_10.e hS38_12 (by omega)
        have qb_1_0 := hS38_12.rv (by omega) qb_1_0
        have wb_12 := And.intro (hS38_12.mem wb_12.1) (hS38_12.kd wb_12.2)
        have cob_12 := cob_12.e hS38_12 (by omega)
        have qb_1_0_1 := hS38_12.rv (by omega) qb_1_0_1
        have wb_14 := And.intro (hS38_12.mem wb_14.1) (hS38_12.kd wb_14.2)
        have hEX := hEX.tr (hS38_12.mono (c := b) (d := b + 40) (by omega) (by omega))
        have ib_0 := (hU38_12 _ _ (by omega)).trans ib_0
        have ib_1 := (hU38_12 _ _ (by omega)).trans ib_1
        have hFr := hFr.tr (hU38_12.mono (P' := fun lb _ => b ≤ lb ∧ lb < b + 40) (fun lb j h => by omega))
        have hFj := hFj.tr (hJ38_12.mono (P' := fun lb _ => b ≤ lb ∧ lb < b + 40) (fun lb j h => by omega))
        refine rg_astr hE hH (Or.inl ⟨rfl, rfl⟩) (wb_1.1) (wb_1.2.1) (by rw [wb_1.2.2]; omega) (v := b + 14) (wb_14.1) (wb_14.2) dX1_init_41 (fun H locs hH => ?_)
        have hX41_13 := GX.set (G := G38) (lb := b + 1) (k := 0 + 1 + 1) (v := some (b + 14))
        have hS41_13 := EX.set (G := G38) (lb := b + 1) (k := 0 + 1 + 1) (v := some (b + 14))
        have qb_1_0_1_1 := setR_s (G := G38) (lb := b + 1) (k := 0 + 1 + 1) (v := some (b + 14))
        generalize (G38.setR (up2 G38.rv (b + 1) (0 + 1 + 1) (some (b + 14)))) = G41_13 at hH hX41_13 hS41_13 qb_1_0_1_1
        have hl : lv_has ls 2 [(1, .int (nI (0 + 1 + 1))), (0, .ref (G41_13.ad b))] := by rw [hS41_13.adm (wb.1)]; exact hl
        have wb := And.intro (hS41_13.mem wb.1) (hS41_13.kd wb.2)
        have hfr : ∀ x, b + 16 ≤ x → x < b + 40 → x ∉ G41_13.L := fun x h1 h2 => hS41_13.nin (hfr x (Nat.le_trans (dle b (a := 16) (c := 16) (by decide)) h1) h2) (Or.inr (Nat.le_trans (dle b (a := 2) (c := 16) (by decide)) h1))
        have hkd : ∀ i, i < 33 → G41_13.kd (b + i) = kLa i := by rw [EX_kd hS41_13]; exact hkd
        have wb_1 := wb_1.em hS41_13
        have qb_2 := hX41_13.rv List.not_mem_nil (fun h => (dn b (a := 0) (c := 1) (by decide)) h.1) qb_2
        have wb_10 := And.intro (hS41_13.mem wb_10.1) (hS41_13.kd wb_10.2)
        have cob_10 := cob_10.e hS41_13 (by omega)
        have qb_1_0 := hX41_13.rv List.not_mem_nil (by omega) qb_1_0
        have wb_12 := And.intro (hS41_13.mem wb_12.1) (hS41_13.kd wb_12.2)
        have cob_12 := cob_12.e hS41_13 (by omega)
        have qb_1_0_1 := hX41_13.rv List.not_mem_nil (by omega) qb_1_0_1
        have wb_14 := And.intro (hS41_13.mem wb_14.1) (hS41_13.kd wb_14.2)
        have cob_14 := cob_14.e hS41_13 (by omega)
        have hEX := hEX.tr (hS41_13.mono (c := b) (d := b + 40) (dle b (a := 0) (c := 1) (by decide)) (dle b (a := 2) (c := 40) (by decide)))
        refine lv_iinc (v := nI (0 + 1 + 1 + 1)) (lv' := [(1, .int (nI (0 + 1 + 1 + 1))), (0, .ref (G41_13.ad b))]) hE.1 hE.2.1 dX1_init_42 hl (k := 0) rfl (nI_1 _) (by decide) rfl (fun ls hl => ?_)
        refine lv_goto (tgt := 24) hE.1 hE.2.1 dX1_init_45 (by decide) ?_
        refine lv_iload_n hE.1 hE.2.1 dX1_init_24 rfl (lv_at hl 0 rfl) ?_
        refine lv_iconst (v := nI 5) hE.1 hE.2.1 dX1_init_25 (by decide) ?_
        refine rn_icmp_ge (tgt := 48) hE dX1_init_26 (by decide) (by omega) (by omega) (fun c26 => ?_) (fun c26 => ?_)
        · omega
        · refine lv_aload_n hE.1 hE.2.1 dX1_init_29 rfl (lv_at hl 1 rfl) ?_
          refine rg_getr hE hH cf_X1 fl_X1_20 rfl (wb.1) (wb.2) (v := b + 1) (qb_2) dX1_init_30 ?_
          refine lv_iload_n hE.1 hE.2.1 dX1_init_33 rfl (lv_at hl 0 rfl) ?_
          refine rg_newO (ci := 0) hE hH (b + 16) (hfr (b + 16) (by omega) (by omega)) (hkd 16 (by omega)) cf_X0 ⟨RX0, TX0, rfl, (b1 92 rfl rfl), (b1 94 rfl rfl), (b1 5 rfl rfl)⟩ (by show 0 + 1 + 1 + 1 + 1 + 1 + 1 + 1 + 1 ≤ 16; omega) (by show 0 + 5 + 3 + 6 + 3 + 6 + 3 + 6 + 3 ≤ 304; omega) dX1_init_34 (fun G34_14 H hX34_14 hln34_14 hrv34_14 hH => ?_)
          have hS34_14 := hX34_14.ex1 (hfr (b + 16) (by omega) (by omega))
          have wb_16 : (b + 16) ∈ G34_14.L ∧ G34_14.kd (b + 16) = 0 := ⟨hX34_14.new (List.mem_singleton_self _), hX34_14.kd (hkd 16 (by omega))⟩
          have hl : lv_has ls 2 [(1, .int (nI (0 + 1 + 1 + 1))), (0, .ref (G34_14.ad b))] := by rw [hS34_14.adm (wb.1)]; exact hl
          refine rg_st (st' := [.ref (G34_14.ad (b + 16)), .int (nI (0 + 1 + 1 + 1)), .ref (G34_14.ad (b + 1))]) (by rw [hS34_14.adm (wb_1.1)]) ?_
          have wb := And.intro (hS34_14.mem wb.1) (hS34_14.kd wb.2)
          have hfr : ∀ x, b + 17 ≤ x → x < b + 40 → x ∉ G34_14.L := fun x h1 h2 => hS34_14.nin (hfr x (Nat.le_trans (dle b (a := 16) (c := 17) (by decide)) h1) h2) (Or.inr (Nat.le_trans (dle b (a := 17) (c := 17) (by decide)) h1))
          have hkd : ∀ i, i < 33 → G34_14.kd (b + i) = kLa i := by rw [EX_kd hS34_14]; exact hkd
          have wb_1 := wb_1.em hS34_14
          have qb_2 := hS34_14.rv (Or.inl (dl b (a := 0) (c := 16) (by decide))) qb_2
          have wb_10 := And.intro (hS34_14.mem wb_10.1) (hS34_14.kd wb_10.2)
          have cob_10 := cob_10.e hS34_14 (by omega)
          have qb_1_0 := hS34_14.rv (Or.inl (dl b (a := 1) (c := 16) (by decide))) qb_1_0
          have wb_12 := And.intro (hS34_14.mem wb_12.1) (hS34_14.kd wb_12.2)
          have cob_12 := cob_12.e hS34_14 (by omega)
          have qb_1_0_1 := hS34_14.rv (Or.inl (dl b (a := 1) (c := 16) (by decide))) qb_1_0_1
          have wb_14 := And.intro (hS34_14.mem wb_14.1) (hS34_14.kd wb_14.2)
          have cob_14 := cob_14.e hS34_14 (by omega)
          have qb_1_0_1_1 := hS34_14.rv (Or.inl (dl b (a := 1) (c := 16) (by decide))) qb_1_0_1_1
          have hEX := hEX.tr (hS34_14.mono (c := b) (d := b + 40) (dle b (a := 0) (c := 16) (by decide)) (dle b (a := 17) (c := 40) (by decide)))
          have hU34_14 : Fr iv38 (clr iv38 (b + 16) 0) (fun b0 _ => b0 = b + 16) := Fr.clr Fr.rf (fun _ => rfl)
          have hJ34_14 : FrJ jv38 (clr jv38 (b + 16) 0) (fun b0 _ => b0 = b + 16) := FrJ.clr FrJ.rf (fun _ => rfl)
          have ib_0 := (hU34_14 _ _ (dn b (a := 0) (c := 16) (by decide))).trans ib_0
          have ib_1 := (hU34_14 _ _ (dn b (a := 0) (c := 16) (by decide))).trans ib_1
          have hFr := hFr.tr (hU34_14.mono (P' := fun lb _ => b ≤ lb ∧ lb < b + 40) (fun lb j h => by rw [h]; exact ⟨dle b (a := 0) (c := 16) (by decide), dl b (a := 16) (c := 40) (by decide)⟩))
          have hFj := hFj.tr (hJ34_14.mono (P' := fun lb _ => b ≤ lb ∧ lb < b + 40) (fun lb j h => by rw [h]; exact ⟨dle b (a := 0) (c := 16) (by decide), dl b (a := 16) (c := 40) (by decide)⟩))
          generalize clr iv38 (b + 16) 0 = iv34_14 at hH hFr hU34_14 ib_0 ib_1
          generalize clr jv38 (b + 16) 0 = jv34_14 at hH hFj hJ34_14 
          refine lv_dup hE.1 hE.2.1 dX1_init_37 rfl ?_
          refine rg_IV (As := []) (rest := [.ref (G34_14.ad (b + 16)), .int (nI (0 + 1 + 1 + 1)), .ref (G34_14.ad (b + 1))]) hE hml hH mc_X1_24 (c_Co_init l z G34_14 iv34_14 jv34_14 (b + 16) wb_16 (hfr (b + 16 + 1) (by omega) (by omega)) (hkd 17 (by omega))) rfl ⟨Nat.le_of_ble_eq_true rfl, Nat.le_of_ble_eq_true rfl⟩ rfl hl.1 (by simp [Value.category]) dX1_init_38 ⟨by show 0 + 1 + 1 + 1 + 1 + 1 + 1 + 1 + 1 + 1 ≤ 16; omega, by show 0 + 5 + 3 + 6 + 3 + 6 + 3 + 6 + 3 + 6 ≤ 304; omega⟩ (fun G38 iv38 jv38 H locs hp38 hH => ?_)
          obtain ⟨hS38_15, cob_16, -, hU38_15, hJ38_15⟩ := hp38
          have hl : lv_has ls 2 [(1, .int (nI (0 + 1 + 1 + 1))), (0, .ref (G38.ad b))] := by rw [hS38_15.adm (wb.1)]; exact hl
          refine rg_st (st' := [.ref (G38.ad (b + 16)), .int (nI (0 + 1 + 1 + 1)), .ref (G38.ad (b + 1))]) (by rw [hS38_15.adm (wb_16.1), hS38_15.adm (wb_1.1)]) ?_
          have wb := And.intro (hS38_15.mem wb.1) (hS38_15.kd wb.2)
          have hfr : ∀ x, b + 18 ≤ x → x < b + 40 → x ∉ G38.L := fun x h1 h2 => hS38_15.nin (hfr x (by omega) h2) (by omega)
          have hkd : ∀ i, i < 33 → G38.kd (b + i) = kLa i := by rw [EX_kd hS38_15]; exact hkd
          have wb_1 := wb_1.em hS38_15
          have qb_2 := hS38_15.rv (by omega) qb_2
          have wb_10 := And.intro (hS38_15.mem wb_10.1) (hS38_15.kd wb_10.2)
          have cob_10 := cob_10.e hS38_15 (by omega)
          have qb_1_0 := hS38_15.rv (by omega) qb_1_0
          have wb_12 := And.intro (hS38_15.mem wb_12.1) (hS38_15.kd wb_12.2)
          have cob_12 := cob_12.e hS38_15 (by omega)
          have qb_1_0_1 := hS38_15.rv (by omega) qb_1_0_1
          have wb_14 := And.intro (hS38_15.mem wb_14.1) (hS38_15.kd wb_14.2)
          have cob_14 := cob_14.e hS38_15 (by omega)
          have qb_1_0_1_1 := hS38_15.rv (by omega) qb_1_0_1_1
          have wb_16 := And.intro (hS38_15.mem wb_16.1) (hS38_15.kd wb_16.2)
          have hEX := hEX.tr (hS38_15.mono (c := b) (d := b + 40) (by omega) (by omega))
          have ib_0 := (hU38_15 _ _ (by omega)).trans ib_0
          have ib_1 := (hU38_15 _ _ (by omega)).trans ib_1
          have hFr := hFr.tr (hU38_15.mono (P' := fun lb _ => b ≤ lb ∧ lb < b + 40) (fun lb j h => by omega))
          have hFj := hFj.tr (hJ38_15.mono (P' := fun lb _ => b ≤ lb ∧ lb < b + 40) (fun lb j h => by omega))
          refine rg_astr hE hH (Or.inl ⟨rfl, rfl⟩) (wb_1.1) (wb_1.2.1) (by rw [wb_1.2.2]; omega) (v := b + 16) (wb_16.1) (wb_16.2) dX1_init_41 (fun H locs hH => ?_)
          have hX41_16 := GX.set (G := G38) (lb := b + 1) (k := 0 + 1 + 1 + 1) (v := some (b + 16))
          have hS41_16 := EX.set (G := G38) (lb := b + 1) (k := 0 + 1 + 1 + 1) (v := some (b + 16))
          have qb_1_0_1_1_1 := setR_s (G := G38) (lb := b + 1) (k := 0 + 1 + 1 + 1) (v := some (b + 16))
          generalize (G38.setR (up2 G38.rv (b + 1) (0 + 1 + 1 + 1) (some (b + 16)))) = G41_16 at hH hX41_16 hS41_16 qb_1_0_1_1_1
          have hl : lv_has ls 2 [(1, .int (nI (0 + 1 + 1 + 1))), (0, .ref (G41_16.ad b))] := by rw [hS41_16.adm (wb.1)]; exact hl
          have wb := And.intro (hS41_16.mem wb.1) (hS41_16.kd wb.2)
          have hfr : ∀ x, b + 18 ≤ x → x < b + 40 → x ∉ G41_16.L := fun x h1 h2 => hS41_16.nin (hfr x (Nat.le_trans (dle b (a := 18) (c := 18) (by decide)) h1) h2) (Or.inr (Nat.le_trans (dle b (a := 2) (c := 18) (by decide)) h1))
          have hkd : ∀ i, i < 33 → G41_16.kd (b + i) = kLa i := by rw [EX_kd hS41_16]; exact hkd
          have wb_1 := wb_1.em hS41_16
          have qb_2 := hX41_16.rv List.not_mem_nil (fun h => (dn b (a := 0) (c := 1) (by decide)) h.1) qb_2
          have wb_10 := And.intro (hS41_16.mem wb_10.1) (hS41_16.kd wb_10.2)
          have cob_10 := cob_10.e hS41_16 (by omega)
          have qb_1_0 := hX41_16.rv List.not_mem_nil (by omega) qb_1_0
          have wb_12 := And.intro (hS41_16.mem wb_12.1) (hS41_16.kd wb_12.2)
          have cob_12 := cob_12.e hS41_16 (by omega)
          have qb_1_0_1 := hX41_16.rv List.not_mem_nil (by omega) qb_1_0_1
          have wb_14 := And.intro (hS41_16.mem wb_14.1) (hS41_16.kd wb_14.2)
          have cob_14 := cob_14.e hS41_16 (by omega)
          have qb_1_0_1_1 := hX41_16.rv List.not_mem_nil (by omega) qb_1_0_1_1
          have wb_16 := And.intro (hS41_16.mem wb_16.1) (hS41_16.kd wb_16.2)
          have cob_16 := cob_16.e hS41_16 (by omega)
          have hEX := hEX.tr (hS41_16.mono (c := b) (d := b + 40) (dle b (a := 0) (c := 1) (by decide)) (dle b (a := 2) (c := 40) (by decide)))
          refine lv_iinc (v := nI (0 + 1 + 1 + 1 + 1)) (lv' := [(1, .int (nI (0 + 1 + 1 + 1 + 1))), (0, .ref (G41_16.ad b))]) hE.1 hE.2.1 dX1_init_42 hl (k := 0) rfl (nI_1 _) (by decide) rfl (fun ls hl => ?_)
          refine lv_goto (tgt := 24) hE.1 hE.2.1 dX1_init_45 (by decide) ?_
          refine lv_iload_n hE.1 hE.2.1 dX1_init_24 rfl (lv_at hl 0 rfl) ?_
          refine lv_iconst (v := nI 5) hE.1 hE.2.1 dX1_init_25 (by decide) ?_
          refine rn_icmp_ge (tgt := 48) hE dX1_init_26 (by decide) (by omega) (by omega) (fun c26 => ?_) (fun c26 => ?_)
          · omega
          · refine lv_aload_n hE.1 hE.2.1 dX1_init_29 rfl (lv_at hl 1 rfl) ?_
            refine rg_getr hE hH cf_X1 fl_X1_20 rfl (wb.1) (wb.2) (v := b + 1) (qb_2) dX1_init_30 ?_
            refine lv_iload_n hE.1 hE.2.1 dX1_init_33 rfl (lv_at hl 0 rfl) ?_
            refine rg_newO (ci := 0) hE hH (b + 18) (hfr (b + 18) (by omega) (by omega)) (hkd 18 (by omega)) cf_X0 ⟨RX0, TX0, rfl, (b1 92 rfl rfl), (b1 94 rfl rfl), (b1 5 rfl rfl)⟩ (by show 0 + 1 + 1 + 1 + 1 + 1 + 1 + 1 + 1 + 1 + 1 ≤ 16; omega) (by show 0 + 5 + 3 + 6 + 3 + 6 + 3 + 6 + 3 + 6 + 3 ≤ 304; omega) dX1_init_34 (fun G34_17 H hX34_17 hln34_17 hrv34_17 hH => ?_)
            have hS34_17 := hX34_17.ex1 (hfr (b + 18) (by omega) (by omega))
            have wb_18 : (b + 18) ∈ G34_17.L ∧ G34_17.kd (b + 18) = 0 := ⟨hX34_17.new (List.mem_singleton_self _), hX34_17.kd (hkd 18 (by omega))⟩
            have hl : lv_has ls 2 [(1, .int (nI (0 + 1 + 1 + 1 + 1))), (0, .ref (G34_17.ad b))] := by rw [hS34_17.adm (wb.1)]; exact hl
            refine rg_st (st' := [.ref (G34_17.ad (b + 18)), .int (nI (0 + 1 + 1 + 1 + 1)), .ref (G34_17.ad (b + 1))]) (by rw [hS34_17.adm (wb_1.1)]) ?_
            have wb := And.intro (hS34_17.mem wb.1) (hS34_17.kd wb.2)
            have hfr : ∀ x, b + 19 ≤ x → x < b + 40 → x ∉ G34_17.L := fun x h1 h2 => hS34_17.nin (hfr x (Nat.le_trans (dle b (a := 18) (c := 19) (by decide)) h1) h2) (Or.inr (Nat.le_trans (dle b (a := 19) (c := 19) (by decide)) h1))
            have hkd : ∀ i, i < 33 → G34_17.kd (b + i) = kLa i := by rw [EX_kd hS34_17]; exact hkd
            have wb_1 := wb_1.em hS34_17
            have qb_2 := hS34_17.rv (Or.inl (dl b (a := 0) (c := 18) (by decide))) qb_2
            have wb_10 := And.intro (hS34_17.mem wb_10.1) (hS34_17.kd wb_10.2)
            have cob_10 := cob_10.e hS34_17 (by omega)
            have qb_1_0 := hS34_17.rv (Or.inl (dl b (a := 1) (c := 18) (by decide))) qb_1_0
            have wb_12 := And.intro (hS34_17.mem wb_12.1) (hS34_17.kd wb_12.2)
            have cob_12 := cob_12.e hS34_17 (by omega)
            have qb_1_0_1 := hS34_17.rv (Or.inl (dl b (a := 1) (c := 18) (by decide))) qb_1_0_1
            have wb_14 := And.intro (hS34_17.mem wb_14.1) (hS34_17.kd wb_14.2)
            have cob_14 := cob_14.e hS34_17 (by omega)
            have qb_1_0_1_1 := hS34_17.rv (Or.inl (dl b (a := 1) (c := 18) (by decide))) qb_1_0_1_1
            have wb_16 := And.intro (hS34_17.mem wb_16.1) (hS34_17.kd wb_16.2)
            have cob_16 := cob_16.e hS34_17 (by omega)
            have qb_1_0_1_1_1 := hS34_17.rv (Or.inl (dl b (a := 1) (c := 18) (by decide))) qb_1_0_1_1_1
            have hEX := hEX.tr (hS34_17.mono (c := b) (d := b + 40) (dle b (a := 0) (c := 18) (by decide)) (dle b (a := 19) (c := 40) (by decide)))
            have hU34_17 : Fr iv38 (clr iv38 (b + 18) 0) (fun b0 _ => b0 = b + 18) := Fr.clr Fr.rf (fun _ => rfl)
            have hJ34_17 : FrJ jv38 (clr jv38 (b + 18) 0) (fun b0 _ => b0 = b + 18) := FrJ.clr FrJ.rf (fun _ => rfl)
            have ib_0 := (hU34_17 _ _ (dn b (a := 0) (c := 18) (by decide))).trans ib_0
            have ib_1 := (hU34_17 _ _ (dn b (a := 0) (c := 18) (by decide))).trans ib_1
            have hFr := hFr.tr (hU34_17.mono (P' := fun lb _ => b ≤ lb ∧ lb < b + 40) (fun lb j h => by rw [h]; exact ⟨dle b (a := 0) (c := 18) (by decide), dl b (a := 18) (c := 40) (by decide)⟩))
            have hFj := hFj.tr (hJ34_17.mono (P' := fun lb _ => b ≤ lb ∧ lb < b + 40) (fun lb j h => by rw [h]; exact ⟨dle b (a := 0) (c := 18) (by decide), dl b (a := 18) (c := 40) (by decide)⟩))
            generalize clr iv38 (b + 18) 0 = iv34_17 at hH hFr hU34_17 ib_0 ib_1
            generalize clr jv38 (b + 18) 0 = jv34_17 at hH hFj hJ34_17 
            refine lv_dup hE.1 hE.2.1 dX1_init_37 rfl ?_
            refine rg_IV (As := []) (rest := [.ref (G34_17.ad (b + 18)), .int (nI (0 + 1 + 1 + 1 + 1)), .ref (G34_17.ad (b + 1))]) hE hml hH mc_X1_24 (c_Co_init l z G34_17 iv34_17 jv34_17 (b + 18) wb_18 (hfr (b + 18 + 1) (by omega) (by omega)) (hkd 19 (by omega))) rfl ⟨Nat.le_of_ble_eq_true rfl, Nat.le_of_ble_eq_true rfl⟩ rfl hl.1 (by simp [Value.category]) dX1_init_38 ⟨by show 0 + 1 + 1 + 1 + 1 + 1 + 1 + 1 + 1 + 1 + 1 + 1 ≤ 16; omega, by show 0 + 5 + 3 + 6 + 3 + 6 + 3 + 6 + 3 + 6 + 3 + 6 ≤ 304; omega⟩ (fun G38 iv38 jv38 H locs hp38 hH => ?_)
            obtain ⟨hS38_18, cob_18, -, hU38_18, hJ38_18⟩ := hp38
            have hl : lv_has ls 2 [(1, .int (nI (0 + 1 + 1 + 1 + 1))), (0, .ref (G38.ad b))] := by rw [hS38_18.adm (wb.1)]; exact hl
            refine rg_st (st' := [.ref (G38.ad (b + 18)), .int (nI (0 + 1 + 1 + 1 + 1)), .ref (G38.ad (b + 1))]) (by rw [hS38_18.adm (wb_18.1), hS38_18.adm (wb_1.1)]) ?_
            have wb := And.intro (hS38_18.mem wb.1) (hS38_18.kd wb.2)
            have hfr : ∀ x, b + 20 ≤ x → x < b + 40 → x ∉ G38.L := fun x h1 h2 => hS38_18.nin (hfr x (by omega) h2) (by omega)
            have hkd : ∀ i, i < 33 → G38.kd (b + i) = kLa i := by rw [EX_kd hS38_18]; exact hkd
            have wb_1 := wb_1.em hS38_18
            have qb_2 := hS38_18.rv (by omega) qb_2
            have wb_10 := And.intro (hS38_18.mem wb_10.1) (hS38_18.kd wb_10.2)
            have cob_10 := cob_10.e hS38_18 (by omega)
            have qb_1_0 := hS38_18.rv (by omega) qb_1_0
            have wb_12 := And.intro (hS38_18.mem wb_12.1) (hS38_18.kd wb_12.2)
            have cob_12 := cob_12.e hS38_18 (by omega)
            have qb_1_0_1 := hS38_18.rv (by omega) qb_1_0_1
            have wb_14 := And.intro (hS38_18.mem wb_14.1) (hS38_18.kd wb_14.2)
            have cob_14 := cob_14.e hS38_18 (by omega)
            have qb_1_0_1_1 := hS38_18.rv (by omega) qb_1_0_1_1
            have wb_16 := And.intro (hS38_18.mem wb_16.1) (hS38_18.kd wb_16.2)
            have cob_16 := cob_16.e hS38_18 (by omega)
            have qb_1_0_1_1_1 := hS38_18.rv (by omega) qb_1_0_1_1_1
            have wb_18 := And.intro (hS38_18.mem wb_18.1) (hS38_18.kd wb_18.2)
            have hEX := hEX.tr (hS38_18.mono (c := b) (d := b + 40) (by omega) (by omega))
            have ib_0 := (hU38_18 _ _ (by omega)).trans ib_0
            have ib_1 := (hU38_18 _ _ (by omega)).trans ib_1
            have hFr := hFr.tr (hU38_18.mono (P' := fun lb _ => b ≤ lb ∧ lb < b + 40) (fun lb j h => by omega))
            have hFj := hFj.tr (hJ38_18.mono (P' := fun lb _ => b ≤ lb ∧ lb < b + 40) (fun lb j h => by omega))
            refine rg_astr hE hH (Or.inl ⟨rfl, rfl⟩) (wb_1.1) (wb_1.2.1) (by rw [wb_1.2.2]; omega) (v := b + 18) (wb_18.1) (wb_18.2) dX1_init_41 (fun H locs hH => ?_)
            have hX41_19 := GX.set (G := G38) (lb := b + 1) (k := 0 + 1 + 1 + 1 + 1) (v := some (b + 18))
            have hS41_19 := EX.set (G := G38) (lb := b + 1) (k := 0 + 1 + 1 + 1 + 1) (v := some (b + 18))
            have qb_1_0_1_1_1_1 := setR_s (G := G38) (lb := b + 1) (k := 0 + 1 + 1 + 1 + 1) (v := some (b + 18))
            generalize (G38.setR (up2 G38.rv (b + 1) (0 + 1 + 1 + 1 + 1) (some (b + 18)))) = G41_19 at hH hX41_19 hS41_19 qb_1_0_1_1_1_1
            have hl : lv_has ls 2 [(1, .int (nI (0 + 1 + 1 + 1 + 1))), (0, .ref (G41_19.ad b))] := by rw [hS41_19.adm (wb.1)]; exact hl
            have wb := And.intro (hS41_19.mem wb.1) (hS41_19.kd wb.2)
            have hfr : ∀ x, b + 20 ≤ x → x < b + 40 → x ∉ G41_19.L := fun x h1 h2 => hS41_19.nin (hfr x (Nat.le_trans (dle b (a := 20) (c := 20) (by decide)) h1) h2) (Or.inr (Nat.le_trans (dle b (a := 2) (c := 20) (by decide)) h1))
            have hkd : ∀ i, i < 33 → G41_19.kd (b + i) = kLa i := by rw [EX_kd hS41_19]; exact hkd
            have wb_1 := wb_1.em hS41_19
            have qb_2 := hX41_19.rv List.not_mem_nil (fun h => (dn b (a := 0) (c := 1) (by decide)) h.1) qb_2
            have wb_10 := And.intro (hS41_19.mem wb_10.1) (hS41_19.kd wb_10.2)
            have cob_10 := cob_10.e hS41_19 (by omega)
            have qb_1_0 := hX41_19.rv List.not_mem_nil (by omega) qb_1_0
            have wb_12 := And.intro (hS41_19.mem wb_12.1) (hS41_19.kd wb_12.2)
            have cob_12 := cob_12.e hS41_19 (by omega)
            have qb_1_0_1 := hX41_19.rv List.not_mem_nil (by omega) qb_1_0_1
            have wb_14 := And.intro (hS41_19.mem wb_14.1) (hS41_19.kd wb_14.2)
            have cob_14 := cob_14.e hS41_19 (by omega)
            have qb_1_0_1_1 := hX41_19.rv List.not_mem_nil (by omega) qb_1_0_1_1
            have wb_16 := And.intro (hS41_19.mem wb_16.1) (hS41_19.kd wb_16.2)
            have cob_16 := cob_16.e hS41_19 (by omega)
            have qb_1_0_1_1_1 := hX41_19.rv List.not_mem_nil (by omega) qb_1_0_1_1_1
            have wb_18 := And.intro (hS41_19.mem wb_18.1) (hS41_19.kd wb_18.2)
            have cob_18 := cob_18.e hS41_19 (by omega)
            have hEX := hEX.tr (hS41_19.mono (c := b) (d := b + 40) (dle b (a := 0) (c := 1) (by decide)) (dle b (a := 2) (c := 40) (by decide)))
            refine lv_iinc (v := nI (0 + 1 + 1 + 1 + 1 + 1)) (lv' := [(1, .int (nI (0 + 1 + 1 + 1 + 1 + 1))), (0, .ref (G41_19.ad b))]) hE.1 hE.2.1 dX1_init_42 hl (k := 0) rfl (nI_1 _) (by decide) rfl (fun ls hl => ?_)
            refine lv_goto (tgt := 24) hE.1 hE.2.1 dX1_init_45 (by decide) ?_
            refine lv_iload_n hE.1 hE.2.1 dX1_init_24 rfl (lv_at hl 0 rfl) ?_
            refine lv_iconst (v := nI 5) hE.1 hE.2.1 dX1_init_25 (by decide) ?_
            refine rn_icmp_ge (tgt := 48) hE dX1_init_26 (by decide) (by omega) (by omega) (fun c26 => ?_) (fun c26 => ?_)
            · refine lv_aload_n hE.1 hE.2.1 dX1_init_48 rfl (lv_at hl 1 rfl) ?_
              refine rg_newO (ci := 0) hE hH (b + 20) (hfr (b + 20) (by omega) (by omega)) (hkd 20 (by omega)) cf_X0 ⟨RX0, TX0, rfl, (b1 92 rfl rfl), (b1 94 rfl rfl), (b1 5 rfl rfl)⟩ (by show 0 + 1 + 1 + 1 + 1 + 1 + 1 + 1 + 1 + 1 + 1 + 1 + 1 ≤ 16; omega) (by show 0 + 5 + 3 + 6 + 3 + 6 + 3 + 6 + 3 + 6 + 3 + 6 + 3 ≤ 304; omega) dX1_init_49 (fun G49_20 H hX49_20 hln49_20 hrv49_20 hH => ?_)
              have hS49_20 := hX49_20.ex1 (hfr (b + 20) (by omega) (by omega))
              have wb_20 : (b + 20) ∈ G49_20.L ∧ G49_20.kd (b + 20) = 0 := ⟨hX49_20.new (List.mem_singleton_self _), hX49_20.kd (hkd 20 (by omega))⟩
              have hl : lv_has ls 2 [(1, .int (nI (0 + 1 + 1 + 1 + 1 + 1))), (0, .ref (G49_20.ad b))] := by rw [hS49_20.adm (wb.1)]; exact hl
              refine rg_st (st' := [.ref (G49_20.ad (b + 20)), .ref (G49_20.ad b)]) (by rw [hS49_20.adm (wb.1)]) ?_
              have wb := And.intro (hS49_20.mem wb.1) (hS49_20.kd wb.2)
              have hfr : ∀ x, b + 21 ≤ x → x < b + 40 → x ∉ G49_20.L := fun x h1 h2 => hS49_20.nin (hfr x (Nat.le_trans (dle b (a := 20) (c := 21) (by decide)) h1) h2) (Or.inr (Nat.le_trans (dle b (a := 21) (c := 21) (by decide)) h1))
              have hkd : ∀ i, i < 33 → G49_20.kd (b + i) = kLa i := by rw [EX_kd hS49_20]; exact hkd
              have wb_1 := wb_1.em hS49_20
              have qb_2 := hS49_20.rv (Or.inl (dl b (a := 0) (c := 20) (by decide))) qb_2
              have wb_10 := And.intro (hS49_20.mem wb_10.1) (hS49_20.kd wb_10.2)
              have cob_10 := cob_10.e hS49_20 (by omega)
              have qb_1_0 := hS49_20.rv (Or.inl (dl b (a := 1) (c := 20) (by decide))) qb_1_0
              have wb_12 := And.intro (hS49_20.mem wb_12.1) (hS49_20.kd wb_12.2)
              have cob_12 := cob_12.e hS49_20 (by omega)
              have qb_1_0_1 := hS49_20.rv (Or.inl (dl b (a := 1) (c := 20) (by decide))) qb_1_0_1
              have wb_14 := And.intro (hS49_20.mem wb_14.1) (hS49_20.kd wb_14.2)
              have cob_14 := cob_14.e hS49_20 (by omega)
              have qb_1_0_1_1 := hS49_20.rv (Or.inl (dl b (a := 1) (c := 20) (by decide))) qb_1_0_1_1
              have wb_16 := And.intro (hS49_20.mem wb_16.1) (hS49_20.kd wb_16.2)
              have cob_16 := cob_16.e hS49_20 (by omega)
              have qb_1_0_1_1_1 := hS49_20.rv (Or.inl (dl b (a := 1) (c := 20) (by decide))) qb_1_0_1_1_1
              have wb_18 := And.intro (hS49_20.mem wb_18.1) (hS49_20.kd wb_18.2)
              have cob_18 := cob_18.e hS49_20 (by omega)
              have qb_1_0_1_1_1_1 := hS49_20.rv (Or.inl (dl b (a := 1) (c := 20) (by decide))) qb_1_0_1_1_1_1
              have hEX := hEX.tr (hS49_20.mono (c := b) (d := b + 40) (dle b (a := 0) (c := 20) (by decide)) (dle b (a := 21) (c := 40) (by decide)))
              have hU49_20 : Fr iv38 (clr iv38 (b + 20) 0) (fun b0 _ => b0 = b + 20) := Fr.clr Fr.rf (fun _ => rfl)
              have hJ49_20 : FrJ jv38 (clr jv38 (b + 20) 0) (fun b0 _ => b0 = b + 20) := FrJ.clr FrJ.rf (fun _ => rfl)
              have ib_0 := (hU49_20 _ _ (dn b (a := 0) (c := 20) (by decide))).trans ib_0
              have ib_1 := (hU49_20 _ _ (dn b (a := 0) (c := 20) (by decide))).trans ib_1
              have hFr := hFr.tr (hU49_20.mono (P' := fun lb _ => b ≤ lb ∧ lb < b + 40) (fun lb j h => by rw [h]; exact ⟨dle b (a := 0) (c := 20) (by decide), dl b (a := 20) (c := 40) (by decide)⟩))
              have hFj := hFj.tr (hJ49_20.mono (P' := fun lb _ => b ≤ lb ∧ lb < b + 40) (fun lb j h => by rw [h]; exact ⟨dle b (a := 0) (c := 20) (by decide), dl b (a := 20) (c := 40) (by decide)⟩))
              generalize clr iv38 (b + 20) 0 = iv49_20 at hH hFr hU49_20 ib_0 ib_1
              generalize clr jv38 (b + 20) 0 = jv49_20 at hH hFj hJ49_20 
              refine lv_dup hE.1 hE.2.1 dX1_init_52 rfl ?_
              refine rg_IV (As := []) (rest := [.ref (G49_20.ad (b + 20)), .ref (G49_20.ad b)]) hE hml hH mc_X1_24 (c_Co_init l z G49_20 iv49_20 jv49_20 (b + 20) wb_20 (hfr (b + 20 + 1) (by omega) (by omega)) (hkd 21 (by omega))) rfl ⟨Nat.le_of_ble_eq_true rfl, Nat.le_of_ble_eq_true rfl⟩ rfl hl.1 (by simp [Value.category]) dX1_init_53 ⟨by show 0 + 1 + 1 + 1 + 1 + 1 + 1 + 1 + 1 + 1 + 1 + 1 + 1 + 1 ≤ 16; omega, by show 0 + 5 + 3 + 6 + 3 + 6 + 3 + 6 + 3 + 6 + 3 + 6 + 3 + 6 ≤ 304; omega⟩ (fun G53 iv53 jv53 H locs hp53 hH => ?_)
              obtain ⟨hS53_21, cob_20, -, hU53_21, hJ53_21⟩ := hp53
              have hl : lv_has ls 2 [(1, .int (nI (0 + 1 + 1 + 1 + 1 + 1))), (0, .ref (G53.ad b))] := by rw [hS53_21.adm (wb.1)]; exact hl
              refine rg_st (st' := [.ref (G53.ad (b + 20)), .ref (G53.ad b)]) (by rw [hS53_21.adm (wb_20.1), hS53_21.adm (wb.1)]) ?_
              have wb := And.intro (hS53_21.mem wb.1) (hS53_21.kd wb.2)
              have hfr : ∀ x, b + 22 ≤ x → x < b + 40 → x ∉ G53.L := fun x h1 h2 => hS53_21.nin (hfr x (by omega) h2) (by omega)
              have hkd : ∀ i, i < 33 → G53.kd (b + i) = kLa i := by rw [EX_kd hS53_21]; exact hkd
              have wb_1 := wb_1.em hS53_21
              have qb_2 := hS53_21.rv (by omega) qb_2
              have wb_10 := And.intro (hS53_21.mem wb_10.1) (hS53_21.kd wb_10.2)
              have cob_10 := cob_10.e hS53_21 (by omega)
              have qb_1_0 := hS53_21.rv (by omega) qb_1_0
              have wb_12 := And.intro (hS53_21.mem wb_12.1) (hS53_21.kd wb_12.2)
              have cob_12 := cob_12.e hS53_21 (by omega)
              have qb_1_0_1 := hS53_21.rv (by omega) qb_1_0_1
              have wb_14 := And.intro (hS53_21.mem wb_14.1) (hS53_21.kd wb_14.2)
              have cob_14 := cob_14.e hS53_21 (by omega)
              have qb_1_0_1_1 := hS53_21.rv (by omega) qb_1_0_1_1
              have wb_16 := And.intro (hS53_21.mem wb_16.1) (hS53_21.kd wb_16.2)
              have cob_16 := cob_16.e hS53_21 (by omega)
              have qb_1_0_1_1_1 := hS53_21.rv (by omega) qb_1_0_1_1_1
              have wb_18 := And.intro (hS53_21.mem wb_18.1) (hS53_21.kd wb_18.2)
              have cob_18 := cob_18.e hS53_21 (by omega)
              have qb_1_0_1_1_1_1 := hS53_21.rv (by omega) qb_1_0_1_1_1_1
              have wb_20 := And.intro (hS53_21.mem wb_20.1) (hS53_21.kd wb_20.2)
              have hEX := hEX.tr (hS53_21.mono (c := b) (d := b + 40) (by omega) (by omega))
              have ib_0 := (hU53_21 _ _ (by omega)).trans ib_0
              have ib_1 := (hU53_21 _ _ (by omega)).trans ib_1
              have hFr := hFr.tr (hU53_21.mono (P' := fun lb _ => b ≤ lb ∧ lb < b + 40) (fun lb j h => by omega))
              have hFj := hFj.tr (hJ53_21.mono (P' := fun lb _ => b ≤ lb ∧ lb < b + 40) (fun lb j h => by omega))
              refine rg_putrF hE hH cf_X1 fl_X1_25 rfl fn_X1_3 fo_X1_3 hnm (wb.1) (wb.2) (v := b + 20) (wb_20.1) dX1_init_56 (fun H locs hH => ?_)
              have hX56_22 := GX.set (G := G53) (lb := b) (k := 3) (v := some (b + 20))
              have hS56_22 := EX.set (G := G53) (lb := b) (k := 3) (v := some (b + 20))
              have qb_3 := setR_s (G := G53) (lb := b) (k := 3) (v := some (b + 20))
              generalize (G53.setR (up2 G53.rv b 3 (some (b + 20)))) = G56_22 at hH hX56_22 hS56_22 qb_3
              have hl : lv_has ls 2 [(1, .int (nI (0 + 1 + 1 + 1 + 1 + 1))), (0, .ref (G56_22.ad b))] := by rw [hS56_22.adm (wb.1)]; exact hl
              have wb := And.intro (hS56_22.mem wb.1) (hS56_22.kd wb.2)
              have hfr : ∀ x, b + 22 ≤ x → x < b + 40 → x ∉ G56_22.L := fun x h1 h2 => hS56_22.nin (hfr x (Nat.le_trans (dle b (a := 22) (c := 22) (by decide)) h1) h2) (Or.inr (Nat.le_trans (dle b (a := 1) (c := 22) (by decide)) h1))
              have hkd : ∀ i, i < 33 → G56_22.kd (b + i) = kLa i := by rw [EX_kd hS56_22]; exact hkd
              have wb_1 := wb_1.em hS56_22
              have qb_2 := hX56_22.rv List.not_mem_nil (fun h => absurd h.2 (by decide)) qb_2
              have wb_10 := And.intro (hS56_22.mem wb_10.1) (hS56_22.kd wb_10.2)
              have cob_10 := cob_10.e hS56_22 (by omega)
              have qb_1_0 := hX56_22.rv List.not_mem_nil (fun h => (dn b (a := 1) (c := 0) (by decide)) h.1) qb_1_0
              have wb_12 := And.intro (hS56_22.mem wb_12.1) (hS56_22.kd wb_12.2)
              have cob_12 := cob_12.e hS56_22 (by omega)
              have qb_1_0_1 := hX56_22.rv List.not_mem_nil (fun h => (dn b (a := 1) (c := 0) (by decide)) h.1) qb_1_0_1
              have wb_14 := And.intro (hS56_22.mem wb_14.1) (hS56_22.kd wb_14.2)
              have cob_14 := cob_14.e hS56_22 (by omega)
              have qb_1_0_1_1 := hX56_22.rv List.not_mem_nil (fun h => (dn b (a := 1) (c := 0) (by decide)) h.1) qb_1_0_1_1
              have wb_16 := And.intro (hS56_22.mem wb_16.1) (hS56_22.kd wb_16.2)
              have cob_16 := cob_16.e hS56_22 (by omega)
              have qb_1_0_1_1_1 := hX56_22.rv List.not_mem_nil (fun h => (dn b (a := 1) (c := 0) (by decide)) h.1) qb_1_0_1_1_1
              have wb_18 := And.intro (hS56_22.mem wb_18.1) (hS56_22.kd wb_18.2)
              have cob_18 := cob_18.e hS56_22 (by omega)
              have qb_1_0_1_1_1_1 := hX56_22.rv List.not_mem_nil (fun h => (dn b (a := 1) (c := 0) (by decide)) h.1) qb_1_0_1_1_1_1
              have wb_20 := And.intro (hS56_22.mem wb_20.1) (hS56_22.kd wb_20.2)
              have cob_20 := cob_20.e hS56_22 (by omega)
              have hEX := hEX.tr (hS56_22.mono (c := b) (d := b + 40) (dle b (a := 0) (c := 0) (by decide)) (dle b (a := 1) (c := 40) (by decide)))
              refine lv_aload_n hE.1 hE.2.1 dX1_init_59 rfl (lv_at hl 1 rfl) ?_
              refine rg_newO (ci := 6) hE hH (b + 30) (hfr (b + 30) (by omega) (by omega)) (hkd 30 (by omega)) cf_X6 ⟨RX6, TX6, rfl, (b1 116 rfl rfl), (b1 117 rfl rfl), (b1 6 rfl rfl)⟩ (by show 0 + 1 + 1 + 1 + 1 + 1 + 1 + 1 + 1 + 1 + 1 + 1 + 1 + 1 + 1 ≤ 16; omega) (by show 0 + 5 + 3 + 6 + 3 + 6 + 3 + 6 + 3 + 6 + 3 + 6 + 3 + 6 + 3 ≤ 304; omega) dX1_init_60 (fun G60_23 H hX60_23 hln60_23 hrv60_23 hH => ?_)
              have hS60_23 := hX60_23.ex1 (hfr (b + 30) (by omega) (by omega))
              have wb_30 : (b + 30) ∈ G60_23.L ∧ G60_23.kd (b + 30) = 6 := ⟨hX60_23.new (List.mem_singleton_self _), hX60_23.kd (hkd 30 (by omega))⟩
              have hl : lv_has ls 2 [(1, .int (nI (0 + 1 + 1 + 1 + 1 + 1))), (0, .ref (G60_23.ad b))] := by rw [hS60_23.adm (wb.1)]; exact hl
              refine rg_st (st' := [.ref (G60_23.ad (b + 30)), .ref (G60_23.ad b)]) (by rw [hS60_23.adm (wb.1)]) ?_
              have wb := And.intro (hS60_23.mem wb.1) (hS60_23.kd wb.2)
              have hfr : ∀ x, b + 31 ≤ x → x < b + 40 → x ∉ G60_23.L := fun x h1 h2 => hS60_23.nin (hfr x (Nat.le_trans (dle b (a := 22) (c := 31) (by decide)) h1) h2) (Or.inr (Nat.le_trans (dle b (a := 31) (c := 31) (by decide)) h1))
              have hkd : ∀ i, i < 33 → G60_23.kd (b + i) = kLa i := by rw [EX_kd hS60_23]; exact hkd
              have wb_1 := wb_1.em hS60_23
              have qb_2 := hS60_23.rv (Or.inl (dl b (a := 0) (c := 30) (by decide))) qb_2
              have wb_10 := And.intro (hS60_23.mem wb_10.1) (hS60_23.kd wb_10.2)
              have cob_10 := cob_10.e hS60_23 (by omega)
              have qb_1_0 := hS60_23.rv (Or.inl (dl b (a := 1) (c := 30) (by decide))) qb_1_0
              have wb_12 := And.intro (hS60_23.mem wb_12.1) (hS60_23.kd wb_12.2)
              have cob_12 := cob_12.e hS60_23 (by omega)
              have qb_1_0_1 := hS60_23.rv (Or.inl (dl b (a := 1) (c := 30) (by decide))) qb_1_0_1
              have wb_14 := And.intro (hS60_23.mem wb_14.1) (hS60_23.kd wb_14.2)
              have cob_14 := cob_14.e hS60_23 (by omega)
              have qb_1_0_1_1 := hS60_23.rv (Or.inl (dl b (a := 1) (c := 30) (by decide))) qb_1_0_1_1
              have wb_16 := And.intro (hS60_23.mem wb_16.1) (hS60_23.kd wb_16.2)
              have cob_16 := cob_16.e hS60_23 (by omega)
              have qb_1_0_1_1_1 := hS60_23.rv (Or.inl (dl b (a := 1) (c := 30) (by decide))) qb_1_0_1_1_1
              have wb_18 := And.intro (hS60_23.mem wb_18.1) (hS60_23.kd wb_18.2)
              have cob_18 := cob_18.e hS60_23 (by omega)
              have qb_1_0_1_1_1_1 := hS60_23.rv (Or.inl (dl b (a := 1) (c := 30) (by decide))) qb_1_0_1_1_1_1
              have wb_20 := And.intro (hS60_23.mem wb_20.1) (hS60_23.kd wb_20.2)
              have cob_20 := cob_20.e hS60_23 (by omega)
              have qb_3 := hS60_23.rv (Or.inl (dl b (a := 0) (c := 30) (by decide))) qb_3
              have hEX := hEX.tr (hS60_23.mono (c := b) (d := b + 40) (dle b (a := 0) (c := 30) (by decide)) (dle b (a := 31) (c := 40) (by decide)))
              have hU60_23 : Fr iv53 (clr iv53 (b + 30) 0) (fun b0 _ => b0 = b + 30) := Fr.clr Fr.rf (fun _ => rfl)
              have hJ60_23 : FrJ jv53 (clr jv53 (b + 30) 0) (fun b0 _ => b0 = b + 30) := FrJ.clr FrJ.rf (fun _ => rfl)
              have ib_0 := (hU60_23 _ _ (dn b (a := 0) (c := 30) (by decide))).trans ib_0
              have ib_1 := (hU60_23 _ _ (dn b (a := 0) (c := 30) (by decide))).trans ib_1
              have hFr := hFr.tr (hU60_23.mono (P' := fun lb _ => b ≤ lb ∧ lb < b + 40) (fun lb j h => by rw [h]; exact ⟨dle b (a := 0) (c := 30) (by decide), dl b (a := 30) (c := 40) (by decide)⟩))
              have hFj := hFj.tr (hJ60_23.mono (P' := fun lb _ => b ≤ lb ∧ lb < b + 40) (fun lb j h => by rw [h]; exact ⟨dle b (a := 0) (c := 30) (by decide), dl b (a := 30) (c := 40) (by decide)⟩))
              generalize clr iv53 (b + 30) 0 = iv60_23 at hH hFr hU60_23 ib_0 ib_1
              generalize clr jv53 (b + 30) 0 = jv60_23 at hH hFj hJ60_23 
              refine lv_dup hE.1 hE.2.1 dX1_init_63 rfl ?_
              refine rg_IV (As := []) (rest := [.ref (G60_23.ad (b + 30)), .ref (G60_23.ad b)]) hE hml hH mc_X1_31 (c_Ro_init l z G60_23 iv60_23 jv60_23 (b + 30) wb_30 (hfr (b + 30 + 1) (by omega) (by omega)) (hfr (b + 30 + 2) (by omega) (by omega)) (hkd 31 (by omega)) (hkd 32 (by omega))) rfl ⟨Nat.le_of_ble_eq_true rfl, Nat.le_of_ble_eq_true rfl⟩ rfl hl.1 (by simp [Value.category]) dX1_init_64 ⟨by show 0 + 1 + 1 + 1 + 1 + 1 + 1 + 1 + 1 + 1 + 1 + 1 + 1 + 1 + 1 + 2 ≤ 16; omega, by show 0 + 5 + 3 + 6 + 3 + 6 + 3 + 6 + 3 + 6 + 3 + 6 + 3 + 6 + 3 + 240 ≤ 304; omega⟩ (fun G64 iv64 jv64 H locs hp64 hH => ?_)
              obtain ⟨hS64_24, rob_30, -, hU64_24, hJ64_24⟩ := hp64
              have hl : lv_has ls 2 [(1, .int (nI (0 + 1 + 1 + 1 + 1 + 1))), (0, .ref (G64.ad b))] := by rw [hS64_24.adm (wb.1)]; exact hl
              refine rg_st (st' := [.ref (G64.ad (b + 30)), .ref (G64.ad b)]) (by rw [hS64_24.adm (wb_30.1), hS64_24.adm (wb.1)]) ?_
              have wb := And.intro (hS64_24.mem wb.1) (hS64_24.kd wb.2)
              have hfr : ∀ x, b + 33 ≤ x → x < b + 40 → x ∉ G64.L := fun x h1 h2 => hS64_24.nin (hfr x (by omega) h2) (by omega)
              have hkd : ∀ i, i < 33 → G64.kd (b + i) = kLa i := by rw [EX_kd hS64_24]; exact hkd
              have wb_1 := wb_1.em hS64_24
              have qb_2 := hS64_24.rv (by omega) qb_2
              have wb_10 := And.intro (hS64_24.mem wb_10.1) (hS64_24.kd wb_10.2)
              have cob_10 := cob_10.e hS64_24 (by omega)
              have qb_1_0 := hS64_24.rv (by omega) qb_1_0
              have wb_12 := And.intro (hS64_24.mem wb_12.1) (hS64_24.kd wb_12.2)
              have cob_12 := cob_12.e hS64_24 (by omega)
              have qb_1_0_1 := hS64_24.rv (by omega) qb_1_0_1
              have wb_14 := And.intro (hS64_24.mem wb_14.1) (hS64_24.kd wb_14.2)
              have cob_14 := cob_14.e hS64_24 (by omega)
              have qb_1_0_1_1 := hS64_24.rv (by omega) qb_1_0_1_1
              have wb_16 := And.intro (hS64_24.mem wb_16.1) (hS64_24.kd wb_16.2)
              have cob_16 := cob_16.e hS64_24 (by omega)
              have qb_1_0_1_1_1 := hS64_24.rv (by omega) qb_1_0_1_1_1
              have wb_18 := And.intro (hS64_24.mem wb_18.1) (hS64_24.kd wb_18.2)
              have cob_18 := cob_18.e hS64_24 (by omega)
              have qb_1_0_1_1_1_1 := hS64_24.rv (by omega) qb_1_0_1_1_1_1
              have wb_20 := And.intro (hS64_24.mem wb_20.1) (hS64_24.kd wb_20.2)
              have cob_20 := cob_20.e hS64_24 (by omega)
              have qb_3 := hS64_24.rv (by omega) qb_3
              have wb_30 := And.intro (hS64_24.mem wb_30.1) (hS64_24.kd wb_30.2)
              have hEX := hEX.tr (hS64_24.mono (c := b) (d := b + 40) (by omega) (by omega))
              have ib_0 := (hU64_24 _ _ (by omega)).trans ib_0
              have ib_1 := (hU64_24 _ _ (by omega)).trans ib_1
              have hFr := hFr.tr (hU64_24.mono (P' := fun lb _ => b ≤ lb ∧ lb < b + 40) (fun lb j h => by omega))
              have hFj := hFj.tr (hJ64_24.mono (P' := fun lb _ => b ≤ lb ∧ lb < b + 40) (fun lb j h => by omega))
              refine rg_putrF hE hH cf_X1 fl_X1_32 rfl fn_X1_4 fo_X1_4 hnm (wb.1) (wb.2) (v := b + 30) (wb_30.1) dX1_init_67 (fun H locs hH => ?_)
              have hX67_25 := GX.set (G := G64) (lb := b) (k := 4) (v := some (b + 30))
              have hS67_25 := EX.set (G := G64) (lb := b) (k := 4) (v := some (b + 30))
              have qb_4 := setR_s (G := G64) (lb := b) (k := 4) (v := some (b + 30))
              generalize (G64.setR (up2 G64.rv b 4 (some (b + 30)))) = G67_25 at hH hX67_25 hS67_25 qb_4
              have hl : lv_has ls 2 [(1, .int (nI (0 + 1 + 1 + 1 + 1 + 1))), (0, .ref (G67_25.ad b))] := by rw [hS67_25.adm (wb.1)]; exact hl
              have wb := And.intro (hS67_25.mem wb.1) (hS67_25.kd wb.2)
              have hfr : ∀ x, b + 33 ≤ x → x < b + 40 → x ∉ G67_25.L := fun x h1 h2 => hS67_25.nin (hfr x (Nat.le_trans (dle b (a := 33) (c := 33) (by decide)) h1) h2) (Or.inr (Nat.le_trans (dle b (a := 1) (c := 33) (by decide)) h1))
              have hkd : ∀ i, i < 33 → G67_25.kd (b + i) = kLa i := by rw [EX_kd hS67_25]; exact hkd
              have wb_1 := wb_1.em hS67_25
              have qb_2 := hX67_25.rv List.not_mem_nil (fun h => absurd h.2 (by decide)) qb_2
              have wb_10 := And.intro (hS67_25.mem wb_10.1) (hS67_25.kd wb_10.2)
              have cob_10 := cob_10.e hS67_25 (by omega)
              have qb_1_0 := hX67_25.rv List.not_mem_nil (fun h => (dn b (a := 1) (c := 0) (by decide)) h.1) qb_1_0
              have wb_12 := And.intro (hS67_25.mem wb_12.1) (hS67_25.kd wb_12.2)
              have cob_12 := cob_12.e hS67_25 (by omega)
              have qb_1_0_1 := hX67_25.rv List.not_mem_nil (fun h => (dn b (a := 1) (c := 0) (by decide)) h.1) qb_1_0_1
              have wb_14 := And.intro (hS67_25.mem wb_14.1) (hS67_25.kd wb_14.2)
              have cob_14 := cob_14.e hS67_25 (by omega)
              have qb_1_0_1_1 := hX67_25.rv List.not_mem_nil (fun h => (dn b (a := 1) (c := 0) (by decide)) h.1) qb_1_0_1_1
              have wb_16 := And.intro (hS67_25.mem wb_16.1) (hS67_25.kd wb_16.2)
              have cob_16 := cob_16.e hS67_25 (by omega)
              have qb_1_0_1_1_1 := hX67_25.rv List.not_mem_nil (fun h => (dn b (a := 1) (c := 0) (by decide)) h.1) qb_1_0_1_1_1
              have wb_18 := And.intro (hS67_25.mem wb_18.1) (hS67_25.kd wb_18.2)
              have cob_18 := cob_18.e hS67_25 (by omega)
              have qb_1_0_1_1_1_1 := hX67_25.rv List.not_mem_nil (fun h => (dn b (a := 1) (c := 0) (by decide)) h.1) qb_1_0_1_1_1_1
              have wb_20 := And.intro (hS67_25.mem wb_20.1) (hS67_25.kd wb_20.2)
              have cob_20 := cob_20.e hS67_25 (by omega)
              have qb_3 := hX67_25.rv List.not_mem_nil (fun h => absurd h.2 (by decide)) qb_3
              have wb_30 := And.intro (hS67_25.mem wb_30.1) (hS67_25.kd wb_30.2)
              have rob_30 := rob_30.e hS67_25 (by omega)
              have hEX := hEX.tr (hS67_25.mono (c := b) (d := b + 40) (dle b (a := 0) (c := 0) (by decide)) (dle b (a := 1) (c := 40) (by decide)))
              refine W.widen (k := 16) (n := 304) (by show 0 + 1 + 1 + 1 + 1 + 1 + 1 + 1 + 1 + 1 + 1 + 1 + 1 + 1 + 1 + 2 ≤ 16; omega) (by show 0 + 5 + 3 + 6 + 3 + 6 + 3 + 6 + 3 + 6 + 3 + 6 + 3 + 6 + 3 + 240 ≤ 304; omega) ?_
              exact rg_vret hE hr hlk hH ⟨hEX, ⟨wb, wb_1, fun i hi => by
                rcases (show i = 0 ∨ i = 1 ∨ i = 2 ∨ i = 3 ∨ i = 4 ∨ i = 5 by omega) with h | h | h | h | h | h <;> subst h <;> assumption, rob_30, qb_2, fun i hi => by
                rcases (show i = 0 ∨ i = 1 ∨ i = 2 ∨ i = 3 ∨ i = 4 by omega) with h | h | h | h | h <;> subst h <;> assumption, qb_3, qb_4⟩, hFr, hFj⟩ dX1_init_70
            · omega
