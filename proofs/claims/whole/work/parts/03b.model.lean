set_option maxRecDepth 100000 in
set_option maxHeartbeats 4000000 in
theorem c_thrown (l : Launch) (z : ZK) (G : GW) (hG : isM G) (iv : IV) (jv : JV) : cI l z yX11_thrown cX11_thrown 1 (some .int) 0 0 0 0 [.ref (G.ad 0)] G iv jv (fun r G' iv' jv' => G = G' ∧ iv = iv' ∧ jv = jv' ∧ r = iv 0 0) := by
  intro sz
  refine rg_entry rfl (Nat.le_of_ble_eq_true rfl) ?_
  intro pq eq sq mq bq methq cq ls hE hr hlk hml hnm hl hsz hH
  have hl : lv_has ls 1 [(0, .ref (G.ad 0))] := hl
  refine lv_aload_n hE.1 hE.2.1 dX11_thrown_0 rfl (lv_at hl 0 rfl) ?_
  refine rm_geti hE hH hG fl_X11_96 rfl (v := iv 0 0) (rfl) dX11_thrown_1 ?_
  exact rg_iret hE hr rfl hlk hH ⟨rfl, rfl, rfl, rfl⟩ dX11_thrown_4
set_option maxRecDepth 100000 in
set_option maxHeartbeats 4000000 in
theorem c_fail (l : Launch) (z : ZK) (G : GW) (hG : isM G) (iv : IV) (jv : JV) : cI l z yX11_fail cX11_fail 1 (some .int) 0 0 0 0 [.ref (G.ad 0)] G iv jv (fun r G' iv' jv' => G = G' ∧ iv' = up2 iv 0 0 1 ∧ jv = jv' ∧ r = 0) := by
  intro sz
  refine rg_entry rfl (Nat.le_of_ble_eq_true rfl) ?_
  intro pq eq sq mq bq methq cq ls hE hr hlk hml hnm hl hsz hH
  have hl : lv_has ls 1 [(0, .ref (G.ad 0))] := hl
  refine lv_aload_n hE.1 hE.2.1 dX11_fail_0 rfl (lv_at hl 0 rfl) ?_
  refine lv_iconst (v := (1 : Int32)) hE.1 hE.2.1 dX11_fail_1 (by decide) ?_
  refine rm_puti hE hH hG fl_X11_96 rfl fn_X11_0 (v := (1 : Int32)) dX11_fail_2 (fun H locs hH => ?_)
  refine lv_iconst (v := nI 0) hE.1 hE.2.1 dX11_fail_5 (by decide) ?_
  exact rg_iret hE hr rfl hlk hH ⟨rfl, rfl, rfl, rfl⟩ dX11_fail_6
set_option maxRecDepth 100000 in
set_option maxHeartbeats 4000000 in
theorem c_isTable (l : Launch) (z : ZK) (G : GW) (hG : isM G) (iv : IV) (jv : JV) (t : Int32) (n : Nat) (h6 : iv 0 6 = nI n) : cI l z yX11_isTable cX11_isTable 2 (some .boolean) 0 0 0 0 [.ref (G.ad 0), .int (t)] G iv jv (fun r G' iv' jv' => G = G' ∧ iv = iv' ∧ jv = jv' ∧ r = bI (inI t n)) := by
  intro sz
  refine rg_entry rfl (Nat.le_of_ble_eq_true rfl) ?_
  intro pq eq sq mq bq methq cq ls hE hr hlk hml hnm hl hsz hH
  have hl : lv_has ls 2 [(0, .ref (G.ad 0)), (1, .int (t))] := hl
  refine lv_iload_n hE.1 hE.2.1 dX11_isTable_0 rfl (lv_at hl 1 rfl) ?_
  refine lv_if_lt (tgt := 16) hE.1 hE.2.1 dX11_isTable_1 (by decide) (fun c1 => ?_) (fun c1 => ?_)
  · refine lv_iconst (v := nI 0) hE.1 hE.2.1 dX11_isTable_16 (by decide) ?_
    exact rg_iret hE hr (nz_0) hlk hH ⟨rfl, rfl, rfl, zero_bI (by simp [inI, c1])⟩ dX11_isTable_17
  · refine lv_iload_n hE.1 hE.2.1 dX11_isTable_4 rfl (lv_at hl 1 rfl) ?_
    refine lv_aload_n hE.1 hE.2.1 dX11_isTable_5 rfl (lv_at hl 0 rfl) ?_
    refine rm_geti hE hH hG fl_X11_99 rfl (v := nI n) (h6) dX11_isTable_6 ?_
    refine lv_icmp_ge (tgt := 16) hE.1 hE.2.1 dX11_isTable_9 (by decide) (fun c9 => ?_) (fun c9 => ?_)
    · refine lv_iconst (v := nI 0) hE.1 hE.2.1 dX11_isTable_16 (by decide) ?_
      exact rg_iret hE hr (nz_0) hlk hH ⟨rfl, rfl, rfl, zero_bI (by simp [inI, c1, c9])⟩ dX11_isTable_17
    · refine lv_iconst (v := nI 1) hE.1 hE.2.1 dX11_isTable_12 (by decide) ?_
      refine lv_goto (tgt := 17) hE.1 hE.2.1 dX11_isTable_13 (by decide) ?_
      exact rg_iret hE hr (nz_1) hlk hH ⟨rfl, rfl, rfl, one_bI (by simp [inI, c1, c9])⟩ dX11_isTable_17
set_option maxRecDepth 100000 in
set_option maxHeartbeats 4000000 in
theorem c_isWordSign (l : Launch) (z : ZK) (G : GW) (hG : isM G) (iv : IV) (jv : JV) (x : Int32) : cI l z yX11_isWordSign cX11_isWordSign 1 (some .boolean) 0 0 0 0 [.int (x)] G iv jv (fun r G' iv' jv' => G = G' ∧ iv = iv' ∧ jv = jv' ∧ r = bI (wsI x)) := by
  intro sz
  refine rg_entry rfl (Nat.le_of_ble_eq_true rfl) ?_
  intro pq eq sq mq bq methq cq ls hE hr hlk hml hnm hl hsz hH
  have hl : lv_has ls 1 [(0, .int (x))] := hl
  refine lv_iload_n hE.1 hE.2.1 dX11_isWordSign_0 rfl (lv_at hl 0 rfl) ?_
  refine lv_bipush (v := nI 97) hE.1 hE.2.1 dX11_isWordSign_1 (by decide) ?_
  refine lv_icmp_lt (tgt := 12) hE.1 hE.2.1 dX11_isWordSign_3 (by decide) (fun c3 => ?_) (fun c3 => ?_)
  · refine lv_iload_n hE.1 hE.2.1 dX11_isWordSign_12 rfl (lv_at hl 0 rfl) ?_
    refine lv_bipush (v := nI 48) hE.1 hE.2.1 dX11_isWordSign_13 (by decide) ?_
    refine lv_icmp_lt (tgt := 28) hE.1 hE.2.1 dX11_isWordSign_15 (by decide) (fun c15 => ?_) (fun c15 => ?_)
    · refine lv_iconst (v := nI 0) hE.1 hE.2.1 dX11_isWordSign_28 (by decide) ?_
      exact rg_iret hE hr (nz_0) hlk hH ⟨rfl, rfl, rfl, zero_bI (by simp [wsI, c3, c15])⟩ dX11_isWordSign_29
    · refine lv_iload_n hE.1 hE.2.1 dX11_isWordSign_18 rfl (lv_at hl 0 rfl) ?_
      refine lv_bipush (v := nI 57) hE.1 hE.2.1 dX11_isWordSign_19 (by decide) ?_
      refine lv_icmp_gt (tgt := 28) hE.1 hE.2.1 dX11_isWordSign_21 (by decide) (fun c21 => ?_) (fun c21 => ?_)
      · refine lv_iconst (v := nI 0) hE.1 hE.2.1 dX11_isWordSign_28 (by decide) ?_
        exact rg_iret hE hr (nz_0) hlk hH ⟨rfl, rfl, rfl, zero_bI (by simp [wsI, c3, c15, c21])⟩ dX11_isWordSign_29
      · refine lv_iconst (v := nI 1) hE.1 hE.2.1 dX11_isWordSign_24 (by decide) ?_
        refine lv_goto (tgt := 29) hE.1 hE.2.1 dX11_isWordSign_25 (by decide) ?_
        exact rg_iret hE hr (nz_1) hlk hH ⟨rfl, rfl, rfl, one_bI (by simp [wsI, c3, c15, c21])⟩ dX11_isWordSign_29
  · refine lv_iload_n hE.1 hE.2.1 dX11_isWordSign_6 rfl (lv_at hl 0 rfl) ?_
    refine lv_bipush (v := nI 122) hE.1 hE.2.1 dX11_isWordSign_7 (by decide) ?_
    refine lv_icmp_le (tgt := 24) hE.1 hE.2.1 dX11_isWordSign_9 (by decide) (fun c9 => ?_) (fun c9 => ?_)
    · refine lv_iconst (v := nI 1) hE.1 hE.2.1 dX11_isWordSign_24 (by decide) ?_
      refine lv_goto (tgt := 29) hE.1 hE.2.1 dX11_isWordSign_25 (by decide) ?_
      exact rg_iret hE hr (nz_1) hlk hH ⟨rfl, rfl, rfl, one_bI (by simp [wsI, c3, c9])⟩ dX11_isWordSign_29
    · refine lv_iload_n hE.1 hE.2.1 dX11_isWordSign_12 rfl (lv_at hl 0 rfl) ?_
      refine lv_bipush (v := nI 48) hE.1 hE.2.1 dX11_isWordSign_13 (by decide) ?_
      refine lv_icmp_lt (tgt := 28) hE.1 hE.2.1 dX11_isWordSign_15 (by decide) (fun c15 => ?_) (fun c15 => ?_)
      · refine lv_iconst (v := nI 0) hE.1 hE.2.1 dX11_isWordSign_28 (by decide) ?_
        exact rg_iret hE hr (nz_0) hlk hH ⟨rfl, rfl, rfl, zero_bI (by simp [wsI, c3, c9, c15])⟩ dX11_isWordSign_29
      · refine lv_iload_n hE.1 hE.2.1 dX11_isWordSign_18 rfl (lv_at hl 0 rfl) ?_
        refine lv_bipush (v := nI 57) hE.1 hE.2.1 dX11_isWordSign_19 (by decide) ?_
        refine lv_icmp_gt (tgt := 28) hE.1 hE.2.1 dX11_isWordSign_21 (by decide) (fun c21 => ?_) (fun c21 => ?_)
        · refine lv_iconst (v := nI 0) hE.1 hE.2.1 dX11_isWordSign_28 (by decide) ?_
          exact rg_iret hE hr (nz_0) hlk hH ⟨rfl, rfl, rfl, zero_bI (by simp [wsI, c3, c9, c15, c21])⟩ dX11_isWordSign_29
        · refine lv_iconst (v := nI 1) hE.1 hE.2.1 dX11_isWordSign_24 (by decide) ?_
          refine lv_goto (tgt := 29) hE.1 hE.2.1 dX11_isWordSign_25 (by decide) ?_
          exact rg_iret hE hr (nz_1) hlk hH ⟨rfl, rfl, rfl, one_bI (by simp [wsI, c3, c9, c15, c21])⟩ dX11_isWordSign_29
set_option maxRecDepth 100000 in
set_option maxHeartbeats 4000000 in
theorem c_byteAt (l : Launch) (z : ZK) (G : GW) (hG : isM G) (iv : IV) (jv : JV) (B : Nat → Nat) (k n : Nat) (hX : TX iv B n) (hk : k < 2147483648) : cI l z yX11_byteAt cX11_byteAt 2 (some .int) 0 0 0 0 [.ref (G.ad 0), .int (nI k)] G iv jv (fun r G' iv' jv' => G = G' ∧ iv = iv' ∧ jv = jv' ∧ r = bAt B n k) := by
  intro sz
  refine rg_entry rfl (Nat.le_of_ble_eq_true rfl) ?_
  intro pq eq sq mq bq methq cq ls hE hr hlk hml hnm hl hsz hH
  have hl : lv_has ls 2 [(0, .ref (G.ad 0)), (1, .int (nI k))] := hl
  have hn := hX.1
  refine lv_iload_n hE.1 hE.2.1 dX11_byteAt_0 rfl (lv_at hl 1 rfl) ?_
  refine lv_aload_n hE.1 hE.2.1 dX11_byteAt_1 rfl (lv_at hl 0 rfl) ?_
  refine rm_geti hE hH hG fl_X11_105 rfl (v := nI n) (hX.2.1) dX11_byteAt_2 ?_
  refine rn_icmp_ge (tgt := 17) hE dX11_byteAt_5 (by decide) (by omega) (by omega) (fun c5 => ?_) (fun c5 => ?_)
  · refine lv_iconst (v := -1) hE.1 hE.2.1 dX11_byteAt_17 (by decide) ?_
    exact rg_iret hE hr rfl hlk hH ⟨rfl, rfl, rfl, by unfold bAt; first | rw [if_pos (by omega)] | rw [if_neg (by omega)]⟩ dX11_byteAt_18
  · refine lv_aload_n hE.1 hE.2.1 dX11_byteAt_8 rfl (lv_at hl 0 rfl) ?_
    refine rm_getr hE hH hG fl_X11_9 rfl (by decide) dX11_byteAt_9 ?_
    refine lv_iload_n hE.1 hE.2.1 dX11_byteAt_12 rfl (lv_at hl 1 rfl) ?_
    refine rm_iald hE hH hG (k := 1) (by decide) rfl (N := 1000) rfl (n := k) (by omega) (v := nI (B k)) (hX.2.2.1 k (by omega)) dX11_byteAt_13 ?_
    refine lv_goto (tgt := 18) hE.1 hE.2.1 dX11_byteAt_14 (by decide) ?_
    exact rg_iret hE hr rfl hlk hH ⟨rfl, rfl, rfl, by unfold bAt; first | rw [if_pos (by omega)] | rw [if_neg (by omega)]⟩ dX11_byteAt_18
