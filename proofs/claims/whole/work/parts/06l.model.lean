set_option maxRecDepth 100000 in
set_option maxHeartbeats 4000000 in
theorem c_Ou_clear (l : Launch) (z : ZK) (G : GW) (iv : IV) (jv : JV) (hOu : isOu G) : cV l z yX3_clear cX3_clear 1 none 0 0 0 0 [.ref (G.ad 109)] G iv jv (fun G' iv' jv' => G = G' ∧ jv = jv' ∧ cOu iv' [] ∧ Fr iv iv' pOt) := by
  intro sz
  refine rg_entry rfl (Nat.le_of_ble_eq_true rfl) ?_
  intro pq eq sq mq bq methq cq ls hE hr hlk hml hnm hl hsz hH
  have hl : lv_has ls 1 [(0, .ref (G.ad 109))] := hl
  refine lv_aload_n hE.1 hE.2.1 dX3_clear_0 rfl (lv_at hl 0 rfl) ?_
  refine lv_iconst (v := nI 0) hE.1 hE.2.1 dX3_clear_1 (by decide) ?_
  refine rg_puti hE hH cf_X3 fl_X3_15 rfl fn_X3_1 (hOu.1.1) (hOu.1.2) (v := nI 0) dX3_clear_2 (fun H locs hH => ?_)
  exact rg_vret hE hr hlk hH ⟨rfl, rfl, ⟨up2_s, by decide, fun k hk => absurd hk (Nat.not_lt_zero k)⟩, Fr.up Fr.rf (Or.inl ⟨rfl, rfl⟩)⟩ dX3_clear_5
set_option maxRecDepth 100000 in
set_option maxHeartbeats 4000000 in
theorem c_Ou_kept (l : Launch) (z : ZK) (G : GW) (iv : IV) (jv : JV) (hOu : isOu G) (o : List Nat) (hO : cOu iv o) : cI l z yX3_keptCount cX3_keptCount 1 (some .int) 1 21 0 0 [.ref (G.ad 109)] G iv jv (fun r' G' iv' jv' => G = G' ∧ iv = iv' ∧ jv = jv' ∧ r' = nI (min o.length 2000)) := by
  intro sz
  refine rg_entry rfl (Nat.le_of_ble_eq_true rfl) ?_
  intro pq eq sq mq bq methq cq ls hE hr hlk hml hnm hl hsz hH
  have hl : lv_has ls 1 [(0, .ref (G.ad 109))] := hl
  have l110 : G.ln 110 = 2000 := hOu.2.1.2.2
  have ho1 := hO.2.1
  refine lv_aload_n hE.1 hE.2.1 dX3_keptCount_0 rfl (lv_at hl 0 rfl) ?_
  refine rg_geti hE hH cf_X3 fl_X3_15 rfl (hOu.1.1) (hOu.1.2) (v := nI o.length) (hO.1) dX3_keptCount_1 ?_
  refine lv_sipush (v := nI 2000) hE.1 hE.2.1 dX3_keptCount_4 (by decide) ?_
  refine rg_min (x := o.length) (y := 2000) (rest := []) hE hml hl.1 mc_X3_19 ⟨Nat.le_of_ble_eq_true rfl, Nat.le_of_ble_eq_true rfl⟩ ⟨Nat.le_of_ble_eq_true rfl, Nat.le_of_ble_eq_true rfl⟩ (by simp [Value.category]) (by omega) (by omega) dX3_keptCount_7 ?_
  exact rg_iret hE hr rfl hlk hH ⟨rfl, rfl, rfl, rfl⟩ dX3_keptCount_10
set_option maxRecDepth 100000 in
set_option maxHeartbeats 4000000 in
theorem c_Ou_sign (l : Launch) (z : ZK) (G : GW) (iv : IV) (jv : JV) (hOu : isOu G) (o : List Nat) (hO : cOu iv o) (c : Nat) (hc : c < 128) (hl1 : o.length + 1 < 1000000) : cV l z yX3_putSign cX3_putSign 2 none 0 0 0 0 [.ref (G.ad 109), .int (nI c)] G iv jv (fun G' iv' jv' => G = G' ∧ jv = jv' ∧ cOu iv' (o ++ [c]) ∧ Fr iv iv' pOt) := by
  intro sz
  refine rg_entry rfl (Nat.le_of_ble_eq_true rfl) ?_
  intro pq eq sq mq bq methq cq ls hE hr hlk hml hnm hl hsz hH
  have hl : lv_has ls 2 [(0, .ref (G.ad 109)), (1, .int (nI c))] := hl
  have l110 : G.ln 110 = 2000 := hOu.2.1.2.2
  have ho1 := hO.2.1
  refine lv_aload_n hE.1 hE.2.1 dX3_putSign_0 rfl (lv_at hl 0 rfl) ?_
  refine rg_geti hE hH cf_X3 fl_X3_15 rfl (hOu.1.1) (hOu.1.2) (v := nI o.length) (hO.1) dX3_putSign_1 ?_
  refine lv_aload_n hE.1 hE.2.1 dX3_putSign_4 rfl (lv_at hl 0 rfl) ?_
  refine rg_getr hE hH cf_X3 fl_X3_9 rfl (hOu.1.1) (hOu.1.2) (v := 110) (hOu.2.2) dX3_putSign_5 ?_
  refine rg_alen hE hH (hOu.2.1.1) (hOu.2.1.2.1) (by decide) (by decide) dX3_putSign_8 ?_
  rw [l110]
  refine rn_icmp_ge (tgt := 23) hE dX3_putSign_9 (by decide) (by omega) (by omega) (fun c9 => ?_) (fun c9 => ?_)
  · refine lv_aload_n hE.1 hE.2.1 dX3_putSign_23 rfl (lv_at hl 0 rfl) ?_
    refine lv_dup hE.1 hE.2.1 dX3_putSign_24 rfl ?_
    refine rg_geti hE hH cf_X3 fl_X3_15 rfl (hOu.1.1) (hOu.1.2) (v := nI o.length) (hO.1) dX3_putSign_25 ?_
    refine lv_iconst (v := nI 1) hE.1 hE.2.1 dX3_putSign_28 (by decide) ?_
    refine rn_iadd hE dX3_putSign_29 ?_
    refine rg_puti hE hH cf_X3 fl_X3_15 rfl fn_X3_1 (hOu.1.1) (hOu.1.2) (v := nI (o.length + 1)) dX3_putSign_30 (fun H locs hH => ?_)
    exact rg_vret hE hr hlk hH ⟨rfl, rfl, hO.add hl1 hc up2_s (fun k hk => by rw [up2_l (by decide)]) (fun h => by omega), Fr.up Fr.rf (Or.inl ⟨rfl, rfl⟩)⟩ dX3_putSign_33
  · refine lv_aload_n hE.1 hE.2.1 dX3_putSign_12 rfl (lv_at hl 0 rfl) ?_
    refine rg_getr hE hH cf_X3 fl_X3_9 rfl (hOu.1.1) (hOu.1.2) (v := 110) (hOu.2.2) dX3_putSign_13 ?_
    refine lv_aload_n hE.1 hE.2.1 dX3_putSign_16 rfl (lv_at hl 0 rfl) ?_
    refine rg_geti hE hH cf_X3 fl_X3_15 rfl (hOu.1.1) (hOu.1.2) (v := nI o.length) (hO.1) dX3_putSign_17 ?_
    refine lv_iload_n hE.1 hE.2.1 dX3_putSign_20 rfl (lv_at hl 1 rfl) ?_
    refine lv_i2b (v := (nI c).toInt8.toInt32) hE.1 hE.2.1 dX3_putSign_21 rfl ?_
    refine rg_bast hE hH (hOu.2.1.1) (hOu.2.1.2.1) (by omega) (v := (nI c).toInt8.toInt32) (w := nI c) (b128 c hc) dX3_putSign_22 (fun H locs hH => ?_)
    refine lv_aload_n hE.1 hE.2.1 dX3_putSign_23 rfl (lv_at hl 0 rfl) ?_
    refine lv_dup hE.1 hE.2.1 dX3_putSign_24 rfl ?_
    refine rg_geti hE hH cf_X3 fl_X3_15 rfl (hOu.1.1) (hOu.1.2) (v := nI o.length) ((by rw [up2_l (by decide)]; exact hO.1)) dX3_putSign_25 ?_
    refine lv_iconst (v := nI 1) hE.1 hE.2.1 dX3_putSign_28 (by decide) ?_
    refine rn_iadd hE dX3_putSign_29 ?_
    refine rg_puti hE hH cf_X3 fl_X3_15 rfl fn_X3_1 (hOu.1.1) (hOu.1.2) (v := nI (o.length + 1)) dX3_putSign_30 (fun H locs hH => ?_)
    exact rg_vret hE hr hlk hH ⟨rfl, rfl, hO.add hl1 hc up2_s (fun k hk => by rw [up2_l (by decide), up2_k hk]) (fun h => by rw [up2_l (by decide)]; exact up2_s), Fr.up (Fr.up Fr.rf (Or.inr rfl)) (Or.inl ⟨rfl, rfl⟩)⟩ dX3_putSign_33
set_option maxRecDepth 100000 in
set_option maxHeartbeats 4000000 in
theorem c_Ou_text (l : Launch) (z : ZK) (G : GW) (iv : IV) (jv : JV) (hOu : isOu G) (o : List Nat) (hO : cOu iv o) (i : Nat) (hi : i < 30) (hl1 : o.length + (sW i).length + 1 < 1000000) : cV l z yX3_putText cX3_putText 3 none 4 85 0 0 [.ref (G.ad 109), .ref (z.1 i)] G iv jv (fun G' iv' jv' => G = G' ∧ jv = jv' ∧ cOu iv' (o ++ sW i) ∧ Fr iv iv' pOt) := by
  intro sz
  refine rg_entry rfl (Nat.le_of_ble_eq_true rfl) ?_
  intro pq eq sq mq bq methq cq ls hE hr hlk hml hnm hl hsz hH
  have hl : lv_has ls 3 [(0, .ref (G.ad 109)), (1, .ref (z.1 i))] := hl
  have l110 : G.ln 110 = 2000 := hOu.2.1.2.2
  have ho1 := hO.2.1
  have hsl := sLen_W i hi
  have hs2 := sLen_lt i
  refine lv_iconst (v := nI 0) hE.1 hE.2.1 dX3_putText_0 (by decide) ?_
  refine lv_istore_n (lv' := [(2, .int (nI 0)), (0, .ref (G.ad 109)), (1, .ref (z.1 i))]) hE.1 hE.2.1 dX3_putText_1 rfl hl (by decide) rfl (fun ls hl => ?_)
  refine rg_loop (σ := IV × Nat) (nL := 3) (fun (u : IV × Nat) => match u with | (iv2, j) => sLen i - j) (fun (u : IV × Nat) => match u with | (iv2, j) => [(0, .ref (G.ad 109)), (1, .ref (z.1 i)), (2, .int (nI j))]) (fun (u : IV × Nat) => match u with | (iv2, j) => G) (fun (u : IV × Nat) => match u with | (iv2, j) => iv2) (fun (u : IV × Nat) => match u with | (iv2, j) => jv) (fun (u : IV × Nat) => match u with | (iv2, j) => j ≤ sLen i ∧ cOu iv2 (o ++ (sW i).take j) ∧ Fr iv iv2 pOt) ?_ ((iv, 0)) ⟨Nat.zero_le _, by rw [List.take_zero, List.append_nil]; exact hO, Fr.rf⟩ (lv_sub hl [1, 2, 0] rfl) hH
  rintro ⟨iv2, j⟩ H locs ls ⟨hjl, hO, hFr⟩ hl hH ih2
  try dsimp only at hl hH ih2
  try dsimp only at hjl hO hFr
  have hll : (o ++ (sW i).take j).length ≤ o.length + (sW i).length := by rw [List.length_append, List.length_take]; omega
  refine lv_iload_n hE.1 hE.2.1 dX3_putText_2 rfl (lv_at hl 2 rfl) ?_
  refine lv_aload_n hE.1 hE.2.1 dX3_putText_3 rfl (lv_at hl 1 rfl) ?_
  refine rg_XI (As := []) (rest := [.int (nI j)]) hE hml hH mc_X3_91 (c_slen l z G iv2 jv i hi) (rs_recv hE hH hi) rfl ⟨Nat.le_of_ble_eq_true rfl, Nat.le_of_ble_eq_true rfl⟩ rfl hl.1 (by simp [Value.category]) dX3_putText_4 ⟨Nat.le_of_ble_eq_true rfl, Nat.le_of_ble_eq_true rfl⟩ (fun rs Gs ivs jvs H locs hps hH => ?_)
  obtain ⟨rfl, rfl, rfl, rfl⟩ := hps
  refine rn_icmp_ge (tgt := 25) hE dX3_putText_7 (by decide) (by omega) (by omega) (fun c7 => ?_) (fun c7 => ?_)
  · have hje : j = (sW i).length := by omega
    rw [hje, List.take_length] at hO
    exact rg_vret hE hr hlk hH ⟨rfl, rfl, hO, hFr⟩ dX3_putText_25
  · have hsb := sB_W i hi j c7
    refine lv_aload_n hE.1 hE.2.1 dX3_putText_10 rfl (lv_at hl 0 rfl) ?_
    refine lv_aload_n hE.1 hE.2.1 dX3_putText_11 rfl (lv_at hl 1 rfl) ?_
    refine lv_iload_n hE.1 hE.2.1 dX3_putText_12 rfl (lv_at hl 2 rfl) ?_
    refine rg_XI (As := [.int (nI j)]) (rest := [.ref (G.ad 109)]) hE hml hH mc_X3_96 (c_scharAt l z G iv2 jv i j hi (c7)) (rs_recv hE hH hi) rfl ⟨Nat.le_of_ble_eq_true rfl, Nat.le_of_ble_eq_true rfl⟩ rfl hl.1 (by simp [Value.category]) dX3_putText_13 ⟨Nat.le_of_ble_eq_true rfl, Nat.le_of_ble_eq_true rfl⟩ (fun rs Gs ivs jvs H locs hps hH => ?_)
    obtain ⟨rfl, rfl, rfl, rfl⟩ := hps
    refine rg_VV (As := [.int (nI (sB i j))]) (rest := []) hE hml hH mc_X3_87 (c_Ou_sign l z G iv2 jv hOu (o ++ (sW i).take j) hO (sB i j) hsb.2 (by omega)) (hOu.1.1) (hOu.1.2) (by decide) rfl ⟨Nat.le_of_ble_eq_true rfl, Nat.le_of_ble_eq_true rfl⟩ rfl hl.1 (by simp [Value.category]) dX3_putText_16 ⟨Nat.le_of_ble_eq_true rfl, Nat.le_of_ble_eq_true rfl⟩ (fun G16 iv16 jv16 H locs hp16 hH => ?_)
    obtain ⟨rfl, rfl, hO16, hF16⟩ := hp16
    refine lv_iinc (v := nI (j + 1)) (lv' := [(2, .int (nI (j + 1))), (0, .ref (G.ad 109)), (1, .ref (z.1 i))]) hE.1 hE.2.1 dX3_putText_19 hl (k := 2) rfl (nI_1 _) (by decide) rfl (fun ls hl => ?_)
    refine lv_goto (tgt := 2) hE.1 hE.2.1 dX3_putText_22 (by decide) ?_
    exact ih2 (iv16, j + 1) _ _ _ (show sLen i - (j + 1) < sLen i - j by omega) ⟨by show j + 1 ≤ sLen i; omega, by rw [take_s (by omega), ← List.append_assoc, ← hsb.1]; exact hO16, hFr.tr hF16⟩ (lv_sub hl [1, 2, 0] rfl) hH
set_option maxRecDepth 100000 in
set_option maxHeartbeats 4000000 in
theorem c_Ou_word (l : Launch) (z : ZK) (G : GW) (iv : IV) (jv : JV) (hOu : isOu G) (o : List Nat) (hO : cOu iv o) (w : Wd) (hw : wOK w) (hl1 : o.length + 9 < 1000000) : cV l z yX3_putWord cX3_putWord 5 none 1 21 0 0 [.ref (G.ad 109), .long (enc w)] G iv jv (fun G' iv' jv' => G = G' ∧ jv = jv' ∧ cOu iv' (o ++ w) ∧ Fr iv iv' pOt) := by
  intro sz
  refine rg_entry rfl (Nat.le_of_ble_eq_true rfl) ?_
  intro pq eq sq mq bq methq cq ls hE hr hlk hml hnm hl hsz hH
  have hl : lv_has ls 5 [(0, .ref (G.ad 109)), (1, .long (enc w))] := hl
  have l110 : G.ln 110 = 2000 := hOu.2.1.2.2
  have ho1 := hO.2.1
  have hw8 := hw.1
  refine lv_bipush (v := nI 56) hE.1 hE.2.1 dX3_putWord_0 (by decide) ?_
  refine lv_istore_n (lv' := [(3, .int (nI 56)), (0, .ref (G.ad 109)), (1, .long (enc w))]) hE.1 hE.2.1 dX3_putWord_2 rfl hl (by decide) rfl (fun ls hl => ?_)
  refine rg_loop (σ := IV × Nat) (nL := 5) (fun (u : IV × Nat) => match u with | (iv2, k) => 8 - k) (fun (u : IV × Nat) => match u with | (iv2, k) => [(0, .ref (G.ad 109)), (1, .long (enc w)), (3, .int (shI k))]) (fun (u : IV × Nat) => match u with | (iv2, k) => G) (fun (u : IV × Nat) => match u with | (iv2, k) => iv2) (fun (u : IV × Nat) => match u with | (iv2, k) => jv) (fun (u : IV × Nat) => match u with | (iv2, k) => k ≤ 8 ∧ cOu iv2 (o ++ w.take (k - (8 - w.length))) ∧ Fr iv iv2 pOt) ?_ ((iv, 0)) ⟨Nat.zero_le _, by rw [Nat.zero_sub, List.take_zero, List.append_nil]; exact hO, Fr.rf⟩ (lv_sub hl [1, 2, 0] rfl) hH
  rintro ⟨iv2, k⟩ H locs ls ⟨hk8, hO, hFr⟩ hl hH ih3
  try dsimp only at hl hH ih3
  try dsimp only at hk8 hO hFr
  have hll : (o ++ w.take (k - (8 - w.length))).length ≤ o.length + 8 := by rw [List.length_append, List.length_take]; omega
  refine lv_iload_n hE.1 hE.2.1 dX3_putWord_3 rfl (lv_at hl 2 rfl) ?_
  refine lv_if_lt (tgt := 34) hE.1 hE.2.1 dX3_putWord_4 (by decide) (fun c4 => ?_) (fun c4 => ?_)
  · have hke : k = 8 := (shI_n k (by omega)).mp c4
    subst hke
    rw [show 8 - (8 - w.length) = w.length by omega, List.take_length] at hO
    exact rg_vret hE hr hlk hH ⟨rfl, rfl, hO, hFr⟩ dX3_putWord_34
  · have hk7 : k < 8 := Nat.lt_of_le_of_ne hk8 (fun h => c4 ((shI_n k (by omega)).mpr h))
    have hr7 := rev_7 hw (m := 7 - k)
    have hl : lv_has ls 5 [(0, .ref (G.ad 109)), (1, .long (enc w)), (3, .int (nI (56 - 8 * k)))] := by rw [shI_k hk7] at hl; exact hl
    refine lv_lload_n hE.1 hE.2.1 dX3_putWord_7 rfl (lv_at hl 1 rfl) ?_
    refine lv_iload_n hE.1 hE.2.1 dX3_putWord_8 rfl (lv_at hl 2 rfl) ?_
    refine lv_lushr (v := ((enc w).toUInt64 >>> ((nI (56 - 8 * k)).toInt64.toUInt64 &&& Int64.toUInt64 63)).toInt64) hE.1 hE.2.1 dX3_putWord_9 rfl ?_
    refine lv_l2i (v := (((enc w).toUInt64 >>> ((nI (56 - 8 * k)).toInt64.toUInt64 &&& Int64.toUInt64 63)).toInt64).toInt32) hE.1 hE.2.1 dX3_putWord_10 rfl ?_
    refine lv_sipush (v := nI 255) hE.1 hE.2.1 dX3_putWord_11 (by decide) ?_
    refine lv_iand hE.1 hE.2.1 dX3_putWord_14 ?_
    refine rn_as (v' := nI (w.reverse.getD (7 - k) 0)) (word_sg hw hk7) ?_
    refine lv_istore (lv' := [(4, .int (nI (w.reverse.getD (7 - k) 0))), (0, .ref (G.ad 109)), (1, .long (enc w)), (3, .int (nI (56 - 8 * k)))]) hE.1 hE.2.1 dX3_putWord_15 hl (by decide) rfl (fun ls hl => ?_)
    refine lv_iload hE.1 hE.2.1 dX3_putWord_17 (lv_at hl 0 rfl) ?_
    refine rn_if_eq (tgt := 28) hE dX3_putWord_19 (by decide) (by omega) (fun c19 => ?_) (fun c19 => ?_)
    · refine lv_iinc (v := shI (k + 1)) (lv' := [(3, .int (shI (k + 1))), (4, .int (nI (w.reverse.getD (7 - k) 0))), (0, .ref (G.ad 109)), (1, .long (enc w))]) hE.1 hE.2.1 dX3_putWord_28 hl (k := 3) rfl (by rw [← shI_s k hk7, shI_k hk7]; rfl) (by decide) rfl (fun ls hl => ?_)
      refine lv_goto (tgt := 3) hE.1 hE.2.1 dX3_putWord_31 (by decide) ?_
      exact ih3 (iv2, k + 1) _ _ _ (show 8 - (k + 1) < 8 - k by omega) ⟨by show k + 1 ≤ 8; omega, by rw [wtk_0 hw hk7 c19]; exact hO, hFr⟩ (lv_sub hl [2, 3, 0] rfl) hH
    · refine lv_aload_n hE.1 hE.2.1 dX3_putWord_22 rfl (lv_at hl 1 rfl) ?_
      refine lv_iload hE.1 hE.2.1 dX3_putWord_23 (lv_at hl 0 rfl) ?_
      refine rg_VV (As := [.int (nI (w.reverse.getD (7 - k) 0))]) (rest := []) hE hml hH mc_X3_87 (c_Ou_sign l z G iv2 jv hOu (o ++ w.take (k - (8 - w.length))) hO _ hr7 (by omega)) (hOu.1.1) (hOu.1.2) (by decide) rfl ⟨Nat.le_of_ble_eq_true rfl, Nat.le_of_ble_eq_true rfl⟩ rfl hl.1 (by simp [Value.category]) dX3_putWord_25 ⟨Nat.le_of_ble_eq_true rfl, Nat.le_of_ble_eq_true rfl⟩ (fun G25 iv25 jv25 H locs hp25 hH => ?_)
      obtain ⟨rfl, rfl, hO25, hF25⟩ := hp25
      refine lv_iinc (v := shI (k + 1)) (lv' := [(3, .int (shI (k + 1))), (4, .int (nI (w.reverse.getD (7 - k) 0))), (0, .ref (G.ad 109)), (1, .long (enc w))]) hE.1 hE.2.1 dX3_putWord_28 hl (k := 3) rfl (by rw [← shI_s k hk7, shI_k hk7]; rfl) (by decide) rfl (fun ls hl => ?_)
      refine lv_goto (tgt := 3) hE.1 hE.2.1 dX3_putWord_31 (by decide) ?_
      exact ih3 (iv25, k + 1) _ _ _ (show 8 - (k + 1) < 8 - k by omega) ⟨by show k + 1 ≤ 8; omega, by rw [wtk_s hw hk7 c19, ← List.append_assoc]; exact hO25, hFr.tr hF25⟩ (lv_sub hl [2, 3, 0] rfl) hH
