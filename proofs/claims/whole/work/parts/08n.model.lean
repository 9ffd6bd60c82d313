set_option maxRecDepth 100000 in
set_option maxHeartbeats 4000000 in
theorem c_x_put (l : Launch) (z : ZK) (G : GW) (iv : IV) (jv : JV) (wa : 100 ∈ G.L ∧ G.kd 100 = 10) (wb : isA G 101 12 1000) (q0 : G.rv 100 0 = some 101) (n : Nat) (hn : n + 4 ≤ 1000) (h1 : iv 100 1 = nI n) (x : Int32) : cV l z yX10_putNumber cX10_putNumber 3 none 0 0 0 0 [.ref (G.ad 100), .int (x)] G iv jv (fun G' iv' jv' => G = G' ∧ jv = jv' ∧ iv' 100 1 = nI (n + 4) ∧ (∀ j, j < 4 → iv' 101 (n + j) = sbI (bX x j)) ∧ Fr iv iv' (fun lb j => (lb = 100 ∧ j = 1) ∨ (lb = 101 ∧ n ≤ j))) := by
  intro sz
  refine rg_entry rfl (Nat.le_of_ble_eq_true rfl) ?_
  intro pq eq sq mq bq methq cq ls hE hr hlk hml hnm hl hsz hH
  have hl : lv_has ls 3 [(0, .ref (G.ad 100)), (1, .int (x))] := hl
  have l101 := wb.2.2
  refine lv_bipush (v := nI 24) hE.1 hE.2.1 dX10_putNumber_0 (by decide) ?_
  refine lv_istore_n (lv' := [(2, .int (nI 24)), (0, .ref (G.ad 100)), (1, .int (x))]) hE.1 hE.2.1 dX10_putNumber_2 rfl hl (by decide) rfl (fun ls hl => ?_)
  refine rg_loop (σ := IV × Nat) (nL := 3) (fun (u : IV × Nat) => match u with | (iv2, k) => 4 - k) (fun (u : IV × Nat) => match u with | (iv2, k) => [(0, .ref (G.ad 100)), (1, .int (x)), (2, .int (sK k))]) (fun (u : IV × Nat) => match u with | (iv2, k) => G) (fun (u : IV × Nat) => match u with | (iv2, k) => iv2) (fun (u : IV × Nat) => match u with | (iv2, k) => jv) (fun (u : IV × Nat) => match u with | (iv2, k) => k ≤ 4 ∧ iv2 100 1 = nI (n + k) ∧ (∀ j, j < k → iv2 101 (n + j) = sbI (bX x j)) ∧ Fr iv iv2 (fun lb j => (lb = 100 ∧ j = 1) ∨ (lb = 101 ∧ n ≤ j))) ?_ ((iv, 0)) ⟨Nat.zero_le _, h1, fun j hj => absurd hj (Nat.not_lt_zero j), Fr.rf⟩ (lv_sub hl [1, 2, 0] rfl) hH
  rintro ⟨iv2, k⟩ H locs ls ⟨hk4, hi1, hby, hFr⟩ hl hH ih3
  try dsimp only at hl hH ih3
  try dsimp only at hk4 hi1 hby hFr
  refine lv_iload_n hE.1 hE.2.1 dX10_putNumber_3 rfl (lv_at hl 2 rfl) ?_
  refine lv_if_lt (tgt := 48) hE.1 hE.2.1 dX10_putNumber_4 (by decide) (fun c4 => ?_) (fun c4 => ?_)
  · have hk5 : k = 4 := (sK_l k (by omega)).mp c4
    subst hk5
    exact rg_vret hE hr hlk hH ⟨rfl, rfl, hi1, hby, hFr⟩ dX10_putNumber_48
  · have hk5 : k < 4 := by
      have : k ≠ 4 := fun h => c4 ((sK_l k (by omega)).mpr h)
      omega
    refine lv_aload_n hE.1 hE.2.1 dX10_putNumber_7 rfl (lv_at hl 0 rfl) ?_
    refine rg_geti hE hH cf_X10 fl_X10_13 rfl (wa.1) (wa.2) (v := nI (n + k)) (hi1) dX10_putNumber_8 ?_
    refine lv_aload_n hE.1 hE.2.1 dX10_putNumber_11 rfl (lv_at hl 0 rfl) ?_
    refine rg_getr hE hH cf_X10 fl_X10_9 rfl (wa.1) (wa.2) (v := 101) (q0) dX10_putNumber_12 ?_
    refine rg_alen hE hH (wb.1) (wb.2.1) (by decide) (by decide) dX10_putNumber_15 ?_
    refine rn_icmp_ge (tgt := 48) hE dX10_putNumber_16 (by decide) (by omega) (by omega) (fun c16 => ?_) (fun c16 => ?_)
    · omega
    · refine lv_aload_n hE.1 hE.2.1 dX10_putNumber_19 rfl (lv_at hl 0 rfl) ?_
      refine rg_getr hE hH cf_X10 fl_X10_9 rfl (wa.1) (wa.2) (v := 101) (q0) dX10_putNumber_20 ?_
      refine lv_aload_n hE.1 hE.2.1 dX10_putNumber_23 rfl (lv_at hl 0 rfl) ?_
      refine rg_geti hE hH cf_X10 fl_X10_13 rfl (wa.1) (wa.2) (v := nI (n + k)) (hi1) dX10_putNumber_24 ?_
      refine lv_iload_n hE.1 hE.2.1 dX10_putNumber_27 rfl (lv_at hl 1 rfl) ?_
      refine lv_iload_n hE.1 hE.2.1 dX10_putNumber_28 rfl (lv_at hl 2 rfl) ?_
      refine lv_iushr (v := (x.toUInt32 >>> ((sK k).toUInt32 &&& Int32.toUInt32 31)).toInt32) hE.1 hE.2.1 dX10_putNumber_29 rfl ?_
      refine lv_i2b (v := ((x.toUInt32 >>> ((sK k).toUInt32 &&& Int32.toUInt32 31)).toInt32).toInt8.toInt32) hE.1 hE.2.1 dX10_putNumber_30 rfl ?_
      refine rn_as (v' := sbI (bX x k)) (bX_b x k hk5) ?_
      refine rg_bast hE hH (wb.1) (wb.2.1) (by rw [l101]; omega) (v := sbI (bX x k)) (w := sbI (bX x k)) ((sb_k _ bX_lt).2) dX10_putNumber_31 (fun H locs hH => ?_)
      have h3b : (up2 iv2 101 (n + k) (sbI (bX x k))) 100 1 = nI (n + k) := hi1
      refine lv_aload_n hE.1 hE.2.1 dX10_putNumber_32 rfl (lv_at hl 0 rfl) ?_
      refine lv_dup hE.1 hE.2.1 dX10_putNumber_33 rfl ?_
      refine rg_geti hE hH cf_X10 fl_X10_13 rfl (wa.1) (wa.2) (v := nI (n + k)) (h3b) dX10_putNumber_34 ?_
      refine lv_iconst (v := nI 1) hE.1 hE.2.1 dX10_putNumber_37 (by decide) ?_
      refine rn_iadd hE dX10_putNumber_38 ?_
      refine rg_puti hE hH cf_X10 fl_X10_13 rfl fn_X10_1 (wa.1) (wa.2) (v := nI (n + k + 1)) dX10_putNumber_39 (fun H locs hH => ?_)
      have hFr2 : Fr iv (up2 (up2 iv2 101 (n + k) (sbI (bX x k))) 100 1 (nI (n + k + 1))) (fun lb j => (lb = 100 ∧ j = 1) ∨ (lb = 101 ∧ n ≤ j)) := Fr.up (Fr.up hFr (Or.inr ⟨rfl, by omega⟩)) (Or.inl ⟨rfl, rfl⟩)
      have hi2 : (up2 (up2 iv2 101 (n + k) (sbI (bX x k))) 100 1 (nI (n + k + 1))) 100 1 = nI (n + (k + 1)) := rfl
      have hby2 : ∀ j, j < k + 1 → (up2 (up2 iv2 101 (n + k) (sbI (bX x k))) 100 1 (nI (n + k + 1))) 101 (n + j) = sbI (bX x j) := fun j hj => by
        rw [up2_l (by decide)]
        by_cases hjk : j = k
        · subst hjk; rw [up2_s]
        · rw [up2_k (by omega)]; exact hby j (by omega)
      refine lv_iinc (v := sK k + (-8)) (lv' := [(2, .int (sK k + (-8))), (0, .ref (G.ad 100)), (1, .int (x))]) hE.1 hE.2.1 dX10_putNumber_42 hl (k := 2) rfl (rfl) (by decide) rfl (fun ls hl => ?_)
      have hl : lv_has ls 3 [(2, .int (sK (k + 1))), (0, .ref (G.ad 100)), (1, .int (x))] := by rw [← sK_s k hk5]; exact hl
      refine lv_goto (tgt := 3) hE.1 hE.2.1 dX10_putNumber_45 (by decide) ?_
      exact ih3 (up2 (up2 iv2 101 (n + k) (sbI (bX x k))) 100 1 (nI (n + k + 1)), k + 1) _ _ _ (show 4 - (k + 1) < 4 - k by omega) ⟨by show k + 1 ≤ 4; omega, hi2, hby2, hFr2⟩ (lv_sub hl [1, 2, 0] rfl) hH
set_option maxRecDepth 100000 in
set_option maxHeartbeats 4000000 in
theorem c_x_feed (l : Launch) (z : ZK) (G : GW) (iv : IV) (jv : JV) (a : AS) (hX : CSt G iv jv a) (w0 w1 w2 w3 w4 : Int32) : cI l z yX10_feed cX10_feed 6 (some .int) 1 22 0 0 [.ref (G.ad 100), .int (w0), .int (w1), .int (w2), .int (w3), .int (w4)] G iv jv (fun r G' iv' jv' => G = G' ∧ jv = jv' ∧ ((spFeed a (fW w0 w1 w2 w3 w4)).1 = 0 ∧ r = (spFeed a (fW w0 w1 w2 w3 w4)).2.1 ∧ CSt G iv' jv (spFeed a (fW w0 w1 w2 w3 w4)).2.2) ∧ Fr iv iv' (fun lb j => (lb = 100 ∧ j = 1) ∨ (lb = 101 ∧ aN a ≤ j))) := by
  intro sz
  refine rg_entry rfl (Nat.le_of_ble_eq_true rfl) ?_
  intro pq eq sq mq bq methq cq ls hE hr hlk hml hnm hl hsz hH
  have hl : lv_has ls 6 [(0, .ref (G.ad 100)), (1, .int (w0)), (2, .int (w1)), (3, .int (w2)), (4, .int (w3)), (5, .int (w4))] := hl
  have hPx := hX.1.2.1
  have hi0 := hX.2.2.1.1
  have hn0 := hX.2.2.1.2.1
  have hB0 : ∀ i, i < 4 * 0 → iv 101 (aN a + i) = sbI (fby (fW w0 w1 w2 w3 w4) i) := fun i hi => absurd hi (by omega)
  have hFr : Fr iv iv (fun lb j => (lb = 100 ∧ j = 1) ∨ (lb = 101 ∧ aN a ≤ j)) := Fr.rf
  refine lv_aload_n hE.1 hE.2.1 dX10_feed_0 rfl (lv_at hl 0 rfl) ?_
  refine rg_geti hE hH cf_X10 fl_X10_13 rfl (hX.1.1.1) (hX.1.1.2) (v := nI (aN a)) (hi0) dX10_feed_1 ?_
  refine lv_bipush (v := nI 20) hE.1 hE.2.1 dX10_feed_4 (by decide) ?_
  refine rn_iadd hE dX10_feed_6 ?_
  refine lv_sipush (v := nI 1000) hE.1 hE.2.1 dX10_feed_7 (by decide) ?_
  refine rn_icmp_le (tgt := 15) hE dX10_feed_10 (by decide) (by omega) (by omega) (fun c10 => ?_) (fun c10 => ?_)
  · have hfl : ¬ 1000 < aN a + 20 := by omega
    refine lv_aload_n hE.1 hE.2.1 dX10_feed_15 rfl (lv_at hl 0 rfl) ?_
    refine lv_iload_n hE.1 hE.2.1 dX10_feed_16 rfl (lv_at hl 1 rfl) ?_
    refine rg_VV (As := [.int (w0)]) (rest := []) hE hml hH mc_X10_66 (c_x_put l z G iv jv hX.1.1 hPx.2.2.2.2.2.1 hX.1.2.2.2.2.2.1 (aN a + 4 * 0) (by omega) hi0 w0) (hX.1.1.1) (hX.1.1.2) (by decide) rfl ⟨Nat.le_of_ble_eq_true rfl, Nat.le_of_ble_eq_true rfl⟩ rfl hl.1 (by simp [Value.category]) dX10_feed_17 ⟨Nat.le_of_ble_eq_true rfl, Nat.le_of_ble_eq_true rfl⟩ (fun G17 iv17 jv17 H locs hp17 hH => ?_)
    obtain ⟨rfl, rfl, hi1, hb1, hU1⟩ := hp17
    have hB1 := fdStep (m := 0) (W := (fW w0 w1 w2 w3 w4)) hB0 hb1 hU1
    have hFr := hFr.tr (hU1.mono (P' := fun lb j => (lb = 100 ∧ j = 1) ∨ (lb = 101 ∧ aN a ≤ j)) (fun lb j h => by omega))
    refine lv_aload_n hE.1 hE.2.1 dX10_feed_20 rfl (lv_at hl 0 rfl) ?_
    refine lv_iload_n hE.1 hE.2.1 dX10_feed_21 rfl (lv_at hl 2 rfl) ?_
    refine rg_VV (As := [.int (w1)]) (rest := []) hE hml hH mc_X10_66 (c_x_put l z G iv17 jv hX.1.1 hPx.2.2.2.2.2.1 hX.1.2.2.2.2.2.1 (aN a + 4 * 1) (by omega) hi1 w1) (hX.1.1.1) (hX.1.1.2) (by decide) rfl ⟨Nat.le_of_ble_eq_true rfl, Nat.le_of_ble_eq_true rfl⟩ rfl hl.1 (by simp [Value.category]) dX10_feed_22 ⟨Nat.le_of_ble_eq_true rfl, Nat.le_of_ble_eq_true rfl⟩ (fun G22 iv22 jv22 H locs hp22 hH => ?_)
    obtain ⟨rfl, rfl, hi2, hb2, hU2⟩ := hp22
    have hB2 := fdStep (m := 1) (W := (fW w0 w1 w2 w3 w4)) hB1 hb2 hU2
    have hFr := hFr.tr (hU2.mono (P' := fun lb j => (lb = 100 ∧ j = 1) ∨ (lb = 101 ∧ aN a ≤ j)) (fun lb j h => by omega))
    refine lv_aload_n hE.1 hE.2.1 dX10_feed_25 rfl (lv_at hl 0 rfl) ?_
    refine lv_iload_n hE.1 hE.2.1 dX10_feed_26 rfl (lv_at hl 3 rfl) ?_
    refine rg_VV (As := [.int (w2)]) (rest := []) hE hml hH mc_X10_66 (c_x_put l z G iv22 jv hX.1.1 hPx.2.2.2.2.2.1 hX.1.2.2.2.2.2.1 (aN a + 4 * 2) (by omega) hi2 w2) (hX.1.1.1) (hX.1.1.2) (by decide) rfl ⟨Nat.le_of_ble_eq_true rfl, Nat.le_of_ble_eq_true rfl⟩ rfl hl.1 (by simp [Value.category]) dX10_feed_27 ⟨Nat.le_of_ble_eq_true rfl, Nat.le_of_ble_eq_true rfl⟩ (fun G27 iv27 jv27 H locs hp27 hH => ?_)
    obtain ⟨rfl, rfl, hi3, hb3, hU3⟩ := hp27
    have hB3 := fdStep (m := 2) (W := (fW w0 w1 w2 w3 w4)) hB2 hb3 hU3
    have hFr := hFr.tr (hU3.mono (P' := fun lb j => (lb = 100 ∧ j = 1) ∨ (lb = 101 ∧ aN a ≤ j)) (fun lb j h => by omega))
    refine lv_aload_n hE.1 hE.2.1 dX10_feed_30 rfl (lv_at hl 0 rfl) ?_
    refine lv_iload hE.1 hE.2.1 dX10_feed_31 (lv_at hl 4 rfl) ?_
    refine rg_VV (As := [.int (w3)]) (rest := []) hE hml hH mc_X10_66 (c_x_put l z G iv27 jv hX.1.1 hPx.2.2.2.2.2.1 hX.1.2.2.2.2.2.1 (aN a + 4 * 3) (by omega) hi3 w3) (hX.1.1.1) (hX.1.1.2) (by decide) rfl ⟨Nat.le_of_ble_eq_true rfl, Nat.le_of_ble_eq_true rfl⟩ rfl hl.1 (by simp [Value.category]) dX10_feed_33 ⟨Nat.le_of_ble_eq_true rfl, Nat.le_of_ble_eq_true rfl⟩ (fun G33 iv33 jv33 H locs hp33 hH => ?_)
    obtain ⟨rfl, rfl, hi4, hb4, hU4⟩ := hp33
    have hB4 := fdStep (m := 3) (W := (fW w0 w1 w2 w3 w4)) hB3 hb4 hU4
    have hFr := hFr.tr (hU4.mono (P' := fun lb j => (lb = 100 ∧ j = 1) ∨ (lb = 101 ∧ aN a ≤ j)) (fun lb j h => by omega))
    refine lv_aload_n hE.1 hE.2.1 dX10_feed_36 rfl (lv_at hl 0 rfl) ?_
    refine lv_iload hE.1 hE.2.1 dX10_feed_37 (lv_at hl 5 rfl) ?_
    refine rg_VV (As := [.int (w4)]) (rest := []) hE hml hH mc_X10_66 (c_x_put l z G iv33 jv hX.1.1 hPx.2.2.2.2.2.1 hX.1.2.2.2.2.2.1 (aN a + 4 * 4) (by omega) hi4 w4) (hX.1.1.1) (hX.1.1.2) (by decide) rfl ⟨Nat.le_of_ble_eq_true rfl, Nat.le_of_ble_eq_true rfl⟩ rfl hl.1 (by simp [Value.category]) dX10_feed_39 ⟨Nat.le_of_ble_eq_true rfl, Nat.le_of_ble_eq_true rfl⟩ (fun G39 iv39 jv39 H locs hp39 hH => ?_)
    obtain ⟨rfl, rfl, hi5, hb5, hU5⟩ := hp39
    have hB5 := fdStep (m := 4) (W := (fW w0 w1 w2 w3 w4)) hB4 hb5 hU5
    have hFr := hFr.tr (hU5.mono (P' := fun lb j => (lb = 100 ∧ j = 1) ∨ (lb = 101 ∧ aN a ≤ j)) (fun lb j h => by omega))
    refine lv_aload_n hE.1 hE.2.1 dX10_feed_42 rfl (lv_at hl 0 rfl) ?_
    refine rg_geti hE hH cf_X10 fl_X10_13 rfl (hX.1.1.1) (hX.1.1.2) (v := nI (aN a + 20)) (hi5) dX10_feed_43 ?_
    exact rg_iret hE hr rfl hlk hH ⟨rfl, rfl, by rw [spFeed, if_neg hfl]; exact ⟨rfl, rfl, hX.feed (by omega) hFr hi5 hB5⟩, hFr⟩ dX10_feed_46
  · have hfl : 1000 < aN a + 20 := by omega
    refine lv_iconst (v := -1) hE.1 hE.2.1 dX10_feed_13 (by decide) ?_
    exact rg_iret hE hr rfl hlk hH ⟨rfl, rfl, by rw [spFeed, if_pos hfl]; exact ⟨rfl, rfl, hX⟩, Fr.rf⟩ dX10_feed_14
