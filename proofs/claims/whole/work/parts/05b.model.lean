set_option maxRecDepth 100000 in
set_option maxHeartbeats 4000000 in
theorem c_Co_add (l : Launch) (z : ZK) (G : GW) (iv : IV) (jv : JV) (c : Nat) (hC : isCo G c) (vs : List Wd) (hV : CV iv jv c vs) (h6 : vs.length < 6) (w : Wd) (hw : wOK w) : cV l z yX0_add cX0_add 3 none 0 0 0 0 [.ref (G.ad c), .long (enc w)] G iv jv (fun G' iv' jv' => G = G' ∧ CV iv' jv' c (vs ++ [w]) ∧ Fr iv iv' (fun lb j => lb = c ∧ j = 1) ∧ FrJ jv jv' (fun lb _ => lb = c + 1)) := by
  intro sz
  refine rg_entry rfl (Nat.le_of_ble_eq_true rfl) ?_
  intro pq eq sq mq bq methq cq ls hE hr hlk hml hnm hl hsz hH
  have hl : lv_has ls 3 [(0, .ref (G.ad c)), (1, .long (enc w))] := hl
  have hl1 : G.ln (c + 1) = 6 := hC.2.1.2.2
  refine lv_aload_n hE.1 hE.2.1 dX0_add_0 rfl (lv_at hl 0 rfl) ?_
  refine rg_geti hE hH cf_X0 fl_X0_15 rfl (hC.1.1) (hC.1.2) (v := nI vs.length) (hV.1) dX0_add_1 ?_
  refine lv_aload_n hE.1 hE.2.1 dX0_add_4 rfl (lv_at hl 0 rfl) ?_
  refine rg_getr hE hH cf_X0 fl_X0_19 rfl (hC.1.1) (hC.1.2) (v := c + 1) (hC.2.2) dX0_add_5 ?_
  refine rg_alen hE hH (hC.2.1.1) (hC.2.1.2.1) (by decide) (by decide) dX0_add_8 ?_
  rw [hl1]
  refine rn_icmp_ge (tgt := 32) hE dX0_add_9 (by decide) (by omega) (by omega) (fun c9 => ?_) (fun c9 => ?_)
  · omega
  · refine lv_aload_n hE.1 hE.2.1 dX0_add_12 rfl (lv_at hl 0 rfl) ?_
    refine rg_getr hE hH cf_X0 fl_X0_19 rfl (hC.1.1) (hC.1.2) (v := c + 1) (hC.2.2) dX0_add_13 ?_
    refine lv_aload_n hE.1 hE.2.1 dX0_add_16 rfl (lv_at hl 0 rfl) ?_
    refine rg_geti hE hH cf_X0 fl_X0_15 rfl (hC.1.1) (hC.1.2) (v := nI vs.length) (hV.1) dX0_add_17 ?_
    refine lv_lload_n hE.1 hE.2.1 dX0_add_20 rfl (lv_at hl 1 rfl) ?_
    refine rg_last hE hH (hC.2.1.1) (hC.2.1.2.1) (by omega) (v := enc w) dX0_add_21 (fun H locs hH => ?_)
    refine lv_aload_n hE.1 hE.2.1 dX0_add_22 rfl (lv_at hl 0 rfl) ?_
    refine lv_dup hE.1 hE.2.1 dX0_add_23 rfl ?_
    refine rg_geti hE hH cf_X0 fl_X0_15 rfl (hC.1.1) (hC.1.2) (v := nI vs.length) (hV.1) dX0_add_24 ?_
    refine lv_iconst (v := nI 1) hE.1 hE.2.1 dX0_add_27 (by decide) ?_
    refine rn_iadd hE dX0_add_28 ?_
    refine rg_puti hE hH cf_X0 fl_X0_15 rfl fn_X0_1 (hC.1.1) (hC.1.2) (v := nI (vs.length + 1)) dX0_add_29 (fun H locs hH => ?_)
    exact rg_vret hE hr hlk hH ⟨rfl, ⟨by rw [List.length_append]; exact up2_s, by rw [List.length_append, List.length_singleton]; omega, fun v hv => by
      by_cases hvl : v < vs.length
      · rw [up2_k (by omega), getD_app_lt hvl]; exact hV.2.2.1 v hvl
      · have : v = vs.length := by rw [List.length_append, List.length_singleton] at hv; omega
        subst this
        rw [up2_s, getD_app_eq], fun x hx => by
      rcases List.mem_append.mp hx with h | h
      · exact hV.2.2.2 x h
      · rw [List.mem_singleton] at h; subst h; exact hw⟩, Fr.up Fr.rf ⟨rfl, rfl⟩, FrJ.up FrJ.rf rfl⟩ dX0_add_32
set_option maxRecDepth 100000 in
set_option maxHeartbeats 4000000 in
theorem c_Co_ix (l : Launch) (z : ZK) (G : GW) (iv : IV) (jv : JV) (c : Nat) (hC : isCo G c) (vs : List Wd) (hV : CV iv jv c vs) (w : Wd) (hw : wOK w) : cI l z yX0_indexOf cX0_indexOf 4 (some .int) 0 0 0 0 [.ref (G.ad c), .long (enc w)] G iv jv (fun r G' iv' jv' => G = G' ∧ iv = iv' ∧ jv = jv' ∧ r = oI (ixW vs w)) := by
  intro sz
  refine rg_entry rfl (Nat.le_of_ble_eq_true rfl) ?_
  intro pq eq sq mq bq methq cq ls hE hr hlk hml hnm hl hsz hH
  have hl : lv_has ls 4 [(0, .ref (G.ad c)), (1, .long (enc w))] := hl
  have hl1 : G.ln (c + 1) = 6 := hC.2.1.2.2
  have h6 := hV.2.1
  refine lv_iconst (v := nI 0) hE.1 hE.2.1 dX0_indexOf_0 (by decide) ?_
  refine lv_istore_n (lv' := [(3, .int (nI 0)), (0, .ref (G.ad c)), (1, .long (enc w))]) hE.1 hE.2.1 dX0_indexOf_1 rfl hl (by decide) rfl (fun ls hl => ?_)
  refine rg_loop (σ := Nat) (nL := 4) (fun (k : Nat) => vs.length - k) (fun (k : Nat) => [(0, .ref (G.ad c)), (1, .long (enc w)), (3, .int (nI k))]) (fun (k : Nat) => G) (fun (k : Nat) => iv) (fun (k : Nat) => jv) (fun (k : Nat) => k ≤ vs.length ∧ ∀ u, u < k → vs.getD u [] ≠ w) ?_ (0) ⟨Nat.zero_le _, fun u hu => absurd hu (Nat.not_lt_zero u)⟩ (lv_sub hl [1, 2, 0] rfl) hH
  rintro k H locs ls ⟨hkv, hne⟩ hl hH ih2
  try dsimp only at hl hH ih2
  refine lv_iload_n hE.1 hE.2.1 dX0_indexOf_2 rfl (lv_at hl 2 rfl) ?_
  refine lv_aload_n hE.1 hE.2.1 dX0_indexOf_3 rfl (lv_at hl 0 rfl) ?_
  refine rg_geti hE hH cf_X0 fl_X0_15 rfl (hC.1.1) (hC.1.2) (v := nI vs.length) (hV.1) dX0_indexOf_4 ?_
  refine rn_icmp_ge (tgt := 29) hE dX0_indexOf_7 (by decide) (by omega) (by omega) (fun c7 => ?_) (fun c7 => ?_)
  · refine lv_iconst (v := -1) hE.1 hE.2.1 dX0_indexOf_29 (by decide) ?_
    exact rg_iret hE hr rfl hlk hH ⟨rfl, rfl, rfl, by rw [ixW_none (fun u hu => hne u (by omega))]; rfl⟩ dX0_indexOf_30
  · refine lv_aload_n hE.1 hE.2.1 dX0_indexOf_10 rfl (lv_at hl 0 rfl) ?_
    refine rg_getr hE hH cf_X0 fl_X0_19 rfl (hC.1.1) (hC.1.2) (v := c + 1) (hC.2.2) dX0_indexOf_11 ?_
    refine lv_iload_n hE.1 hE.2.1 dX0_indexOf_14 rfl (lv_at hl 2 rfl) ?_
    refine rg_lald hE hH (hC.2.1.1) (hC.2.1.2.1) (by omega) (v := enc (vs.getD k [])) (hV.2.2.1 k (by omega)) dX0_indexOf_15 ?_
    refine lv_lload_n hE.1 hE.2.1 dX0_indexOf_16 rfl (lv_at hl 1 rfl) ?_
    refine lv_lcmp hE.1 hE.2.1 dX0_indexOf_17 ?_
    refine lv_if_ne (tgt := 23) hE.1 hE.2.1 dX0_indexOf_18 (by decide) (fun c18 => ?_) (fun c18 => ?_)
    · rw [lc_0] at c18
      refine lv_iinc (v := nI (k + 1)) (lv' := [(3, .int (nI (k + 1))), (0, .ref (G.ad c)), (1, .long (enc w))]) hE.1 hE.2.1 dX0_indexOf_23 hl (k := 2) rfl (nI_1 _) (by decide) rfl (fun ls hl => ?_)
      refine lv_goto (tgt := 2) hE.1 hE.2.1 dX0_indexOf_26 (by decide) ?_
      exact ih2 (k + 1) _ _ _ (by omega) ⟨by omega, fun u hu => by
        by_cases huk : u = k
        · rw [huk]; exact fun h => c18 (by rw [h])
        · exact hne u (by omega)⟩ (lv_sub hl [1, 2, 0] rfl) hH
    · rw [lc_0, enc_inj (wOK_e (hV.2.2.2 _ (mem_getD' (by omega)))) (wOK_e hw)] at c18
      refine lv_iload_n hE.1 hE.2.1 dX0_indexOf_21 rfl (lv_at hl 2 rfl) ?_
      exact rg_iret hE hr rfl hlk hH ⟨rfl, rfl, rfl, by rw [ixW_some (v := k) (by omega) c18 hne]; rfl⟩ dX0_indexOf_22
set_option maxRecDepth 100000 in
set_option maxHeartbeats 4000000 in
theorem c_Co_w (l : Launch) (z : ZK) (G : GW) (iv : IV) (jv : JV) (c : Nat) (hC : isCo G c) (vs : List Wd) (hV : CV iv jv c vs) (v : Nat) (hv : v < vs.length) : cJ l z yX0_wordAt cX0_wordAt 2 (some .long) 0 0 0 0 [.ref (G.ad c), .int (nI v)] G iv jv (fun r G' iv' jv' => G = G' ∧ iv = iv' ∧ jv = jv' ∧ r = enc (vs.getD v [])) := by
  intro sz
  refine rg_entry rfl (Nat.le_of_ble_eq_true rfl) ?_
  intro pq eq sq mq bq methq cq ls hE hr hlk hml hnm hl hsz hH
  have hl : lv_has ls 2 [(0, .ref (G.ad c)), (1, .int (nI v))] := hl
  have hl1 : G.ln (c + 1) = 6 := hC.2.1.2.2
  have h6 := hV.2.1
  refine lv_iload_n hE.1 hE.2.1 dX0_wordAt_0 rfl (lv_at hl 1 rfl) ?_
  refine rn_if_lt (tgt := 21) hE dX0_wordAt_1 (by decide) (by omega) (fun c1 => ?_) (fun c1 => ?_)
  · exact c1.elim
  · refine lv_iload_n hE.1 hE.2.1 dX0_wordAt_4 rfl (lv_at hl 1 rfl) ?_
    refine lv_aload_n hE.1 hE.2.1 dX0_wordAt_5 rfl (lv_at hl 0 rfl) ?_
    refine rg_geti hE hH cf_X0 fl_X0_15 rfl (hC.1.1) (hC.1.2) (v := nI vs.length) (hV.1) dX0_wordAt_6 ?_
    refine rn_icmp_ge (tgt := 21) hE dX0_wordAt_9 (by decide) (by omega) (by omega) (fun c9 => ?_) (fun c9 => ?_)
    · omega
    · refine lv_aload_n hE.1 hE.2.1 dX0_wordAt_12 rfl (lv_at hl 0 rfl) ?_
      refine rg_getr hE hH cf_X0 fl_X0_19 rfl (hC.1.1) (hC.1.2) (v := c + 1) (hC.2.2) dX0_wordAt_13 ?_
      refine lv_iload_n hE.1 hE.2.1 dX0_wordAt_16 rfl (lv_at hl 1 rfl) ?_
      refine rg_lald hE hH (hC.2.1.1) (hC.2.1.2.1) (by omega) (v := enc (vs.getD v [])) (hV.2.2.1 v (by omega)) dX0_wordAt_17 ?_
      refine lv_goto (tgt := 22) hE.1 hE.2.1 dX0_wordAt_18 (by decide) ?_
      exact rg_lret hE hr hlk hH ⟨rfl, rfl, rfl, rfl⟩ dX0_wordAt_22
set_option maxRecDepth 100000 in
set_option maxHeartbeats 4000000 in
theorem c_Ro_cell (l : Launch) (z : ZK) (G : GW) (iv : IV) (jv : JV) (r : Nat) (hR : isRo G r) (k i : Nat) (hk : k < 40) (hi : i < 5) : cI l z yX6_cell cX6_cell 4 (some .int) 0 0 0 0 [.ref (G.ad r), .int (nI k), .int (nI i)] G iv jv (fun x G' iv' jv' => G = G' ∧ iv = iv' ∧ jv = jv' ∧ x = iv (r + 1) (k * 5 + i)) := by
  intro sz
  refine rg_entry rfl (Nat.le_of_ble_eq_true rfl) ?_
  intro pq eq sq mq bq methq cq ls hE hr hlk hml hnm hl hsz hH
  have hl : lv_has ls 4 [(0, .ref (G.ad r)), (1, .int (nI k)), (2, .int (nI i))] := hl
  have hl1 : G.ln (r + 1) = 200 := hR.2.1.2.2
  have hl2 : G.ln (r + 2) = 40 := hR.2.2.1.2.2
  refine lv_iload_n hE.1 hE.2.1 dX6_cell_0 rfl (lv_at hl 1 rfl) ?_
  refine lv_iconst (v := nI 5) hE.1 hE.2.1 dX6_cell_1 (by decide) ?_
  refine rn_imul hE dX6_cell_2 ?_
  refine lv_iload_n hE.1 hE.2.1 dX6_cell_3 rfl (lv_at hl 2 rfl) ?_
  refine rn_iadd hE dX6_cell_4 ?_
  refine lv_istore_n (lv' := [(3, .int (nI (k * 5 + i))), (0, .ref (G.ad r)), (1, .int (nI k)), (2, .int (nI i))]) hE.1 hE.2.1 dX6_cell_5 rfl hl (by decide) rfl (fun ls hl => ?_)
  refine lv_iload_n hE.1 hE.2.1 dX6_cell_6 rfl (lv_at hl 0 rfl) ?_
  refine rn_if_lt (tgt := 28) hE dX6_cell_7 (by decide) (by omega) (fun c7 => ?_) (fun c7 => ?_)
  · exact c7.elim
  · refine lv_iload_n hE.1 hE.2.1 dX6_cell_10 rfl (lv_at hl 0 rfl) ?_
    refine lv_aload_n hE.1 hE.2.1 dX6_cell_11 rfl (lv_at hl 1 rfl) ?_
    refine rg_getr hE hH cf_X6 fl_X6_15 rfl (hR.1.1) (hR.1.2) (v := r + 1) (hR.2.2.2.1) dX6_cell_12 ?_
    refine rg_alen hE hH (hR.2.1.1) (hR.2.1.2.1) (by decide) (by decide) dX6_cell_15 ?_
    rw [hl1]
    refine rn_icmp_ge (tgt := 28) hE dX6_cell_16 (by decide) (by omega) (by omega) (fun c16 => ?_) (fun c16 => ?_)
    · omega
    · refine lv_aload_n hE.1 hE.2.1 dX6_cell_19 rfl (lv_at hl 1 rfl) ?_
      refine rg_getr hE hH cf_X6 fl_X6_15 rfl (hR.1.1) (hR.1.2) (v := r + 1) (hR.2.2.2.1) dX6_cell_20 ?_
      refine lv_iload_n hE.1 hE.2.1 dX6_cell_23 rfl (lv_at hl 0 rfl) ?_
      refine rg_iald hE hH (hR.2.1.1) (hR.2.1.2.1) (by omega) (v := iv (r + 1) (k * 5 + i)) (rfl) dX6_cell_24 ?_
      refine lv_goto (tgt := 29) hE.1 hE.2.1 dX6_cell_25 (by decide) ?_
      exact rg_iret hE hr rfl hlk hH ⟨rfl, rfl, rfl, rfl⟩ dX6_cell_29
set_option maxRecDepth 100000 in
set_option maxHeartbeats 4000000 in
theorem c_Ro_close (l : Launch) (z : ZK) (G : GW) (iv : IV) (jv : JV) (r : Nat) (hR : isRo G r) (k v : Nat) (hk : k < 40) (h0 : iv r 0 = nI k) : cV l z yX6_close cX6_close 2 none 0 0 0 0 [.ref (G.ad r), .int (nI v)] G iv jv (fun G' iv' jv' => G = G' ∧ iv' = up2 (up2 iv (r + 2) k (nI v)) r 0 (nI (k + 1)) ∧ jv = jv') := by
  intro sz
  refine rg_entry rfl (Nat.le_of_ble_eq_true rfl) ?_
  intro pq eq sq mq bq methq cq ls hE hr hlk hml hnm hl hsz hH
  have hl : lv_has ls 2 [(0, .ref (G.ad r)), (1, .int (nI v))] := hl
  have hl1 : G.ln (r + 1) = 200 := hR.2.1.2.2
  have hl2 : G.ln (r + 2) = 40 := hR.2.2.1.2.2
  refine lv_aload_n hE.1 hE.2.1 dX6_close_0 rfl (lv_at hl 0 rfl) ?_
  refine rg_geti hE hH cf_X6 fl_X6_9 rfl (hR.1.1) (hR.1.2) (v := nI k) (h0) dX6_close_1 ?_
  refine lv_bipush (v := nI 40) hE.1 hE.2.1 dX6_close_4 (by decide) ?_
  refine rn_icmp_ge (tgt := 29) hE dX6_close_6 (by decide) (by omega) (by omega) (fun c6 => ?_) (fun c6 => ?_)
  · omega
  · refine lv_aload_n hE.1 hE.2.1 dX6_close_9 rfl (lv_at hl 0 rfl) ?_
    refine rg_getr hE hH cf_X6 fl_X6_19 rfl (hR.1.1) (hR.1.2) (v := r + 2) (hR.2.2.2.2) dX6_close_10 ?_
    refine lv_aload_n hE.1 hE.2.1 dX6_close_13 rfl (lv_at hl 0 rfl) ?_
    refine rg_geti hE hH cf_X6 fl_X6_9 rfl (hR.1.1) (hR.1.2) (v := nI k) (h0) dX6_close_14 ?_
    refine lv_iload_n hE.1 hE.2.1 dX6_close_17 rfl (lv_at hl 1 rfl) ?_
    refine rg_iast hE hH (hR.2.2.1.1) (hR.2.2.1.2.1) (by omega) (v := nI v) dX6_close_18 (fun H locs hH => ?_)
    refine lv_aload_n hE.1 hE.2.1 dX6_close_19 rfl (lv_at hl 0 rfl) ?_
    refine lv_dup hE.1 hE.2.1 dX6_close_20 rfl ?_
    refine rg_geti hE hH cf_X6 fl_X6_9 rfl (hR.1.1) (hR.1.2) (v := nI k) (by rw [up2_l (by omega)]; exact h0) dX6_close_21 ?_
    refine lv_iconst (v := nI 1) hE.1 hE.2.1 dX6_close_24 (by decide) ?_
    refine rn_iadd hE dX6_close_25 ?_
    refine rg_puti hE hH cf_X6 fl_X6_9 rfl fn_X6_0 (hR.1.1) (hR.1.2) (v := nI (k + 1)) dX6_close_26 (fun H locs hH => ?_)
    exact rg_vret hE hr hlk hH ⟨rfl, rfl, rfl⟩ dX6_close_29
set_option maxRecDepth 100000 in
set_option maxHeartbeats 4000000 in
theorem c_Ro_narrow (l : Launch) (z : ZK) (G : GW) (iv : IV) (jv : JV) (r : Nat) (hR : isRo G r) (k i : Nat) (x : Int32) (hk : k < 40) (hi : i < 5) (h0 : iv r 0 = nI k) : cV l z yX6_narrow cX6_narrow 3 none 0 0 0 0 [.ref (G.ad r), .int (nI i), .int (x)] G iv jv (fun G' iv' jv' => G = G' ∧ iv' = up2 iv (r + 1) (k * 5 + i) (iv (r + 1) (k * 5 + i) &&& x) ∧ jv = jv') := by
  intro sz
  refine rg_entry rfl (Nat.le_of_ble_eq_true rfl) ?_
  intro pq eq sq mq bq methq cq ls hE hr hlk hml hnm hl hsz hH
  have hl : lv_has ls 3 [(0, .ref (G.ad r)), (1, .int (nI i)), (2, .int (x))] := hl
  have hl1 : G.ln (r + 1) = 200 := hR.2.1.2.2
  have hl2 : G.ln (r + 2) = 40 := hR.2.2.1.2.2
  refine lv_aload_n hE.1 hE.2.1 dX6_narrow_0 rfl (lv_at hl 0 rfl) ?_
  refine rg_geti hE hH cf_X6 fl_X6_9 rfl (hR.1.1) (hR.1.2) (v := nI k) (h0) dX6_narrow_1 ?_
  refine lv_bipush (v := nI 40) hE.1 hE.2.1 dX6_narrow_4 (by decide) ?_
  refine rn_icmp_ge (tgt := 35) hE dX6_narrow_6 (by decide) (by omega) (by omega) (fun c6 => ?_) (fun c6 => ?_)
  · omega
  · refine lv_iload_n hE.1 hE.2.1 dX6_narrow_9 rfl (lv_at hl 1 rfl) ?_
    refine rn_if_lt (tgt := 35) hE dX6_narrow_10 (by decide) (by omega) (fun c10 => ?_) (fun c10 => ?_)
    · exact c10.elim
    · refine lv_iload_n hE.1 hE.2.1 dX6_narrow_13 rfl (lv_at hl 1 rfl) ?_
      refine lv_iconst (v := nI 5) hE.1 hE.2.1 dX6_narrow_14 (by decide) ?_
      refine rn_icmp_ge (tgt := 35) hE dX6_narrow_15 (by decide) (by omega) (by omega) (fun c15 => ?_) (fun c15 => ?_)
      · omega
      · refine lv_aload_n hE.1 hE.2.1 dX6_narrow_18 rfl (lv_at hl 0 rfl) ?_
        refine rg_getr hE hH cf_X6 fl_X6_15 rfl (hR.1.1) (hR.1.2) (v := r + 1) (hR.2.2.2.1) dX6_narrow_19 ?_
        refine lv_aload_n hE.1 hE.2.1 dX6_narrow_22 rfl (lv_at hl 0 rfl) ?_
        refine rg_geti hE hH cf_X6 fl_X6_9 rfl (hR.1.1) (hR.1.2) (v := nI k) (h0) dX6_narrow_23 ?_
        refine lv_iconst (v := nI 5) hE.1 hE.2.1 dX6_narrow_26 (by decide) ?_
        refine rn_imul hE dX6_narrow_27 ?_
        refine lv_iload_n hE.1 hE.2.1 dX6_narrow_28 rfl (lv_at hl 1 rfl) ?_
        refine rn_iadd hE dX6_narrow_29 ?_
        refine lv_dup2_11 hE.1 hE.2.1 dX6_narrow_30 rfl rfl ?_
        refine rg_iald hE hH (hR.2.1.1) (hR.2.1.2.1) (by omega) (v := iv (r + 1) (k * 5 + i)) (rfl) dX6_narrow_31 ?_
        refine lv_iload_n hE.1 hE.2.1 dX6_narrow_32 rfl (lv_at hl 2 rfl) ?_
        refine lv_iand hE.1 hE.2.1 dX6_narrow_33 ?_
        refine rg_iast hE hH (hR.2.1.1) (hR.2.1.2.1) (by omega) (v := (iv (r + 1) (k * 5 + i)) &&& x) dX6_narrow_34 (fun H locs hH => ?_)
        exact rg_vret hE hr hlk hH ⟨rfl, rfl, rfl⟩ dX6_narrow_35
set_option maxRecDepth 100000 in
set_option maxHeartbeats 4000000 in
theorem c_Ro_open (l : Launch) (z : ZK) (G : GW) (iv : IV) (jv : JV) (r : Nat) (hR : isRo G r) (k : Nat) (hk : k < 40) (h0 : iv r 0 = nI k) : cV l z yX6_open cX6_open 2 none 0 0 0 0 [.ref (G.ad r)] G iv jv (fun G' iv' jv' => G = G' ∧ jv = jv' ∧ (∀ j, j < 5 → iv' (r + 1) (k * 5 + j) = nI 63) ∧ Fr iv iv' (fun lb j => lb = r + 1 ∧ k * 5 ≤ j ∧ j < k * 5 + 5)) := by
  intro sz
  refine rg_entry rfl (Nat.le_of_ble_eq_true rfl) ?_
  intro pq eq sq mq bq methq cq ls hE hr hlk hml hnm hl hsz hH
  have hl : lv_has ls 2 [(0, .ref (G.ad r))] := hl
  have hl1 : G.ln (r + 1) = 200 := hR.2.1.2.2
  have hl2 : G.ln (r + 2) = 40 := hR.2.2.1.2.2
  refine lv_iconst (v := nI 0) hE.1 hE.2.1 dX6_open_0 (by decide) ?_
  refine lv_istore_n (lv' := [(1, .int (nI 0)), (0, .ref (G.ad r))]) hE.1 hE.2.1 dX6_open_1 rfl hl (by decide) rfl (fun ls hl => ?_)
  refine rg_loop (σ := IV × Nat) (nL := 2) (fun (u : IV × Nat) => match u with | (iv2, i) => 5 - i) (fun (u : IV × Nat) => match u with | (iv2, i) => [(0, .ref (G.ad r)), (1, .int (nI i))]) (fun (u : IV × Nat) => match u with | (iv2, i) => G) (fun (u : IV × Nat) => match u with | (iv2, i) => iv2) (fun (u : IV × Nat) => match u with | (iv2, i) => jv) (fun (u : IV × Nat) => match u with | (iv2, i) => i ≤ 5 ∧ iv2 r 0 = nI k ∧ (∀ j, j < i → iv2 (r + 1) (k * 5 + j) = nI 63) ∧ Fr iv iv2 (fun lb j => lb = r + 1 ∧ k * 5 ≤ j ∧ j < k * 5 + 5)) ?_ ((iv, 0)) ⟨Nat.zero_le _, h0, fun j hj => absurd hj (Nat.not_lt_zero j), Fr.rf⟩ (lv_sub hl [1, 0] rfl) hH
  rintro ⟨iv2, i⟩ H locs ls ⟨hi5, h0, hce, hFr⟩ hl hH ih2
  try dsimp only at hl hH ih2
  try dsimp only at hi5 h0 hce hFr
  refine lv_iload_n hE.1 hE.2.1 dX6_open_2 rfl (lv_at hl 1 rfl) ?_
  refine lv_iconst (v := nI 5) hE.1 hE.2.1 dX6_open_3 (by decide) ?_
  refine rn_icmp_ge (tgt := 37) hE dX6_open_4 (by decide) (by omega) (by omega) (fun c4 => ?_) (fun c4 => ?_)
  · exact rg_vret hE hr hlk hH ⟨rfl, rfl, fun j hj => hce j (by omega), hFr⟩ dX6_open_37
  · refine lv_aload_n hE.1 hE.2.1 dX6_open_7 rfl (lv_at hl 0 rfl) ?_
    refine rg_geti hE hH cf_X6 fl_X6_9 rfl (hR.1.1) (hR.1.2) (v := nI k) (h0) dX6_open_8 ?_
    refine lv_bipush (v := nI 40) hE.1 hE.2.1 dX6_open_11 (by decide) ?_
    refine rn_icmp_ge (tgt := 37) hE dX6_open_13 (by decide) (by omega) (by omega) (fun c13 => ?_) (fun c13 => ?_)
    · omega
    · refine lv_aload_n hE.1 hE.2.1 dX6_open_16 rfl (lv_at hl 0 rfl) ?_
      refine rg_getr hE hH cf_X6 fl_X6_15 rfl (hR.1.1) (hR.1.2) (v := r + 1) (hR.2.2.2.1) dX6_open_17 ?_
      refine lv_aload_n hE.1 hE.2.1 dX6_open_20 rfl (lv_at hl 0 rfl) ?_
      refine rg_geti hE hH cf_X6 fl_X6_9 rfl (hR.1.1) (hR.1.2) (v := nI k) (h0) dX6_open_21 ?_
      refine lv_iconst (v := nI 5) hE.1 hE.2.1 dX6_open_24 (by decide) ?_
      refine rn_imul hE dX6_open_25 ?_
      refine lv_iload_n hE.1 hE.2.1 dX6_open_26 rfl (lv_at hl 1 rfl) ?_
      refine rn_iadd hE dX6_open_27 ?_
      refine lv_bipush (v := nI 63) hE.1 hE.2.1 dX6_open_28 (by decide) ?_
      refine rg_iast hE hH (hR.2.1.1) (hR.2.1.2.1) (by omega) (v := nI 63) dX6_open_30 (fun H locs hH => ?_)
      refine lv_iinc (v := nI (i + 1)) (lv' := [(1, .int (nI (i + 1))), (0, .ref (G.ad r))]) hE.1 hE.2.1 dX6_open_31 hl (k := 1) rfl (nI_1 _) (by decide) rfl (fun ls hl => ?_)
      refine lv_goto (tgt := 2) hE.1 hE.2.1 dX6_open_34 (by decide) ?_
      exact ih2 (up2 iv2 (r + 1) (k * 5 + i) (nI 63), i + 1) _ _ _ (show 5 - (i + 1) < 5 - i by omega) ⟨by show i + 1 ≤ 5; omega, by dsimp only; rw [up2_l (by omega)]; exact h0, fun j hj => by
        dsimp only at hj ⊢
        by_cases hji : j = i
        · subst hji; exact up2_s
        · rw [up2_k (by omega)]; exact hce j (by omega), Fr.up hFr ⟨rfl, by omega, by omega⟩⟩ (lv_sub hl [1, 0] rfl) hH
set_option maxRecDepth 100000 in
set_option maxHeartbeats 4000000 in
theorem c_Lx_ws (l : Launch) (z : ZK) (G : GW) (iv : IV) (jv : JV) (x : Int32) : cI l z yX2_isWordSign cX2_isWordSign 1 (some .boolean) 0 0 0 0 [.int (x)] G iv jv (fun r G' iv' jv' => G = G' ∧ iv = iv' ∧ jv = jv' ∧ r = bI (wsI x)) := by
  intro sz
  refine rg_entry rfl (Nat.le_of_ble_eq_true rfl) ?_
  intro pq eq sq mq bq methq cq ls hE hr hlk hml hnm hl hsz hH
  have hl : lv_has ls 1 [(0, .int (x))] := hl
  refine lv_iload_n hE.1 hE.2.1 dX2_isWordSign_0 rfl (lv_at hl 0 rfl) ?_
  refine lv_bipush (v := nI 97) hE.1 hE.2.1 dX2_isWordSign_1 (by decide) ?_
  refine lv_icmp_lt (tgt := 12) hE.1 hE.2.1 dX2_isWordSign_3 (by decide) (fun c3 => ?_) (fun c3 => ?_)
  · refine lv_iload_n hE.1 hE.2.1 dX2_isWordSign_12 rfl (lv_at hl 0 rfl) ?_
    refine lv_bipush (v := nI 48) hE.1 hE.2.1 dX2_isWordSign_13 (by decide) ?_
    refine lv_icmp_lt (tgt := 28) hE.1 hE.2.1 dX2_isWordSign_15 (by decide) (fun c15 => ?_) (fun c15 => ?_)
    · refine lv_iconst (v := nI 0) hE.1 hE.2.1 dX2_isWordSign_28 (by decide) ?_
      exact rg_iret hE hr (nz_0) hlk hH ⟨rfl, rfl, rfl, zero_bI (by simp [wsI, c3, c15])⟩ dX2_isWordSign_29
    · refine lv_iload_n hE.1 hE.2.1 dX2_isWordSign_18 rfl (lv_at hl 0 rfl) ?_
      refine lv_bipush (v := nI 57) hE.1 hE.2.1 dX2_isWordSign_19 (by decide) ?_
      refine lv_icmp_gt (tgt := 28) hE.1 hE.2.1 dX2_isWordSign_21 (by decide) (fun c21 => ?_) (fun c21 => ?_)
      · refine lv_iconst (v := nI 0) hE.1 hE.2.1 dX2_isWordSign_28 (by decide) ?_
        exact rg_iret hE hr (nz_0) hlk hH ⟨rfl, rfl, rfl, zero_bI (by simp [wsI, c3, c15, c21])⟩ dX2_isWordSign_29
      · refine lv_iconst (v := nI 1) hE.1 hE.2.1 dX2_isWordSign_24 (by decide) ?_
        refine lv_goto (tgt := 29) hE.1 hE.2.1 dX2_isWordSign_25 (by decide) ?_
        exact rg_iret hE hr (nz_1) hlk hH ⟨rfl, rfl, rfl, one_bI (by simp [wsI, c3, c15, c21])⟩ dX2_isWordSign_29
  · refine lv_iload_n hE.1 hE.2.1 dX2_isWordSign_6 rfl (lv_at hl 0 rfl) ?_
    refine lv_bipush (v := nI 122) hE.1 hE.2.1 dX2_isWordSign_7 (by decide) ?_
    refine lv_icmp_le (tgt := 24) hE.1 hE.2.1 dX2_isWordSign_9 (by decide) (fun c9 => ?_) (fun c9 => ?_)
    · refine lv_iconst (v := nI 1) hE.1 hE.2.1 dX2_isWordSign_24 (by decide) ?_
      refine lv_goto (tgt := 29) hE.1 hE.2.1 dX2_isWordSign_25 (by decide) ?_
      exact rg_iret hE hr (nz_1) hlk hH ⟨rfl, rfl, rfl, one_bI (by simp [wsI, c3, c9])⟩ dX2_isWordSign_29
    · refine lv_iload_n hE.1 hE.2.1 dX2_isWordSign_12 rfl (lv_at hl 0 rfl) ?_
      refine lv_bipush (v := nI 48) hE.1 hE.2.1 dX2_isWordSign_13 (by decide) ?_
      refine lv_icmp_lt (tgt := 28) hE.1 hE.2.1 dX2_isWordSign_15 (by decide) (fun c15 => ?_) (fun c15 => ?_)
      · refine lv_iconst (v := nI 0) hE.1 hE.2.1 dX2_isWordSign_28 (by decide) ?_
        exact rg_iret hE hr (nz_0) hlk hH ⟨rfl, rfl, rfl, zero_bI (by simp [wsI, c3, c9, c15])⟩ dX2_isWordSign_29
      · refine lv_iload_n hE.1 hE.2.1 dX2_isWordSign_18 rfl (lv_at hl 0 rfl) ?_
        refine lv_bipush (v := nI 57) hE.1 hE.2.1 dX2_isWordSign_19 (by decide) ?_
        refine lv_icmp_gt (tgt := 28) hE.1 hE.2.1 dX2_isWordSign_21 (by decide) (fun c21 => ?_) (fun c21 => ?_)
        · refine lv_iconst (v := nI 0) hE.1 hE.2.1 dX2_isWordSign_28 (by decide) ?_
          exact rg_iret hE hr (nz_0) hlk hH ⟨rfl, rfl, rfl, zero_bI (by simp [wsI, c3, c9, c15, c21])⟩ dX2_isWordSign_29
        · refine lv_iconst (v := nI 1) hE.1 hE.2.1 dX2_isWordSign_24 (by decide) ?_
          refine lv_goto (tgt := 29) hE.1 hE.2.1 dX2_isWordSign_25 (by decide) ?_
          exact rg_iret hE hr (nz_1) hlk hH ⟨rfl, rfl, rfl, one_bI (by simp [wsI, c3, c9, c15, c21])⟩ dX2_isWordSign_29
