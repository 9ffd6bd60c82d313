set_option maxRecDepth 100000 in
set_option maxHeartbeats 4000000 in
theorem c_x_below (l : Launch) (z : ZK) (hlt : l.stackTraces = false) (G : GW) (iv : IV) (jv : JV) (x : Int32) (n : Nat) : cXV l z yX10_requireBelow cX10_requireBelow 2 none 6 82 1 6 [.int (x), .int (nI n)] G iv jv (fun G' iv' jv' => G = G' ∧ iv = iv' ∧ jv = jv' ∧ inI x n = true) (fun E G' iv' jv' => G = G' ∧ iv = iv' ∧ jv = jv' ∧ E = nNSE ∧ inI x n = false) := by
  intro sz
  refine rx_entry rfl (Nat.le_of_ble_eq_true rfl) ?_
  intro pq eq sq mq bq methq cq ls hE hr hlk hml hnm hl hsz hxt hH
  have hl : lv_has ls 2 [(0, .int (x)), (1, .int (nI n))] := hl
  refine lv_iload_n hE.1 hE.2.1 dX10_requireBelow_0 rfl (lv_at hl 0 rfl) ?_
  refine lv_if_lt (tgt := 9) hE.1 hE.2.1 dX10_requireBelow_1 (by decide) (fun c1 => ?_) (fun c1 => ?_)
  · exact rx_throw (i := 10) hlt hE hH xw_N (by decide) rfl hml hl.1 dX10_requireBelow_9 dX10_requireBelow_12 dX10_requireBelow_13 dX10_requireBelow_15 dX10_requireBelow_18 hxt (Nat.le_of_ble_eq_true rfl) (by first | exact Nat.le_of_ble_eq_true rfl | (simp [Value.category])) (Nat.le_of_ble_eq_true rfl) (Nat.le_of_ble_eq_true rfl) hlk (Nat.le_of_ble_eq_true rfl) (Nat.le_of_ble_eq_true rfl) ⟨rfl, rfl, rfl, rfl, inI_lt c1⟩
  · refine lv_iload_n hE.1 hE.2.1 dX10_requireBelow_4 rfl (lv_at hl 0 rfl) ?_
    refine lv_iload_n hE.1 hE.2.1 dX10_requireBelow_5 rfl (lv_at hl 1 rfl) ?_
    refine lv_icmp_lt (tgt := 19) hE.1 hE.2.1 dX10_requireBelow_6 (by decide) (fun c6 => ?_) (fun c6 => ?_)
    · refine W.widen (k := 1) (n := 6) (Nat.le_of_ble_eq_true rfl) (Nat.le_of_ble_eq_true rfl) ?_
      exact vx_ret (rg_vret hE hr hlk hH ⟨rfl, rfl, rfl, inI_t c1 (lt_nle c6)⟩ dX10_requireBelow_19)
    · exact rx_throw (i := 10) hlt hE hH xw_N (by decide) rfl hml hl.1 dX10_requireBelow_9 dX10_requireBelow_12 dX10_requireBelow_13 dX10_requireBelow_15 dX10_requireBelow_18 hxt (Nat.le_of_ble_eq_true rfl) (by first | exact Nat.le_of_ble_eq_true rfl | (simp [Value.category])) (Nat.le_of_ble_eq_true rfl) (Nat.le_of_ble_eq_true rfl) hlk (Nat.le_of_ble_eq_true rfl) (Nat.le_of_ble_eq_true rfl) ⟨rfl, rfl, rfl, rfl, inI_ge (nlt_le c6)⟩
set_option maxRecDepth 100000 in
set_option maxHeartbeats 4000000 in
theorem c_x_bytes (l : Launch) (z : ZK) (hlt : l.stackTraces = false) (G : GW) (iv : IV) (jv : JV) (a : AS) (hX : CSt G iv jv a) (x : Int32) : cXV l z yX10_requireBytes cX10_requireBytes 2 none 6 82 1 6 [.ref (G.ad 100), .int (x)] G iv jv (fun G' iv' jv' => G = G' ∧ iv = iv' ∧ jv = jv' ∧ inI x (aN a + 1) = true) (fun E G' iv' jv' => G = G' ∧ iv = iv' ∧ jv = jv' ∧ E = nIAE ∧ inI x (aN a + 1) = false) := by
  intro sz
  refine rx_entry rfl (Nat.le_of_ble_eq_true rfl) ?_
  intro pq eq sq mq bq methq cq ls hE hr hlk hml hnm hl hsz hxt hH
  have hl : lv_has ls 2 [(0, .ref (G.ad 100)), (1, .int (x))] := hl
  have hN := hX.2.2.1.2.1
  refine lv_iload_n hE.1 hE.2.1 dX10_requireBytes_0 rfl (lv_at hl 1 rfl) ?_
  refine lv_if_lt (tgt := 12) hE.1 hE.2.1 dX10_requireBytes_1 (by decide) (fun c1 => ?_) (fun c1 => ?_)
  · exact rx_throw (i := 0) hlt hE hH xw_I (by decide) rfl hml hl.1 dX10_requireBytes_12 dX10_requireBytes_15 dX10_requireBytes_16 dX10_requireBytes_18 dX10_requireBytes_21 hxt (Nat.le_of_ble_eq_true rfl) (by first | exact Nat.le_of_ble_eq_true rfl | (simp [Value.category])) (Nat.le_of_ble_eq_true rfl) (Nat.le_of_ble_eq_true rfl) hlk (Nat.le_of_ble_eq_true rfl) (Nat.le_of_ble_eq_true rfl) ⟨rfl, rfl, rfl, rfl, inI_lt c1⟩
  · refine lv_iload_n hE.1 hE.2.1 dX10_requireBytes_4 rfl (lv_at hl 1 rfl) ?_
    refine lv_aload_n hE.1 hE.2.1 dX10_requireBytes_5 rfl (lv_at hl 0 rfl) ?_
    refine rg_geti hE hH cf_X10 fl_X10_13 rfl (hX.1.1.1) (hX.1.1.2) (v := nI (aN a)) (hX.2.2.1.1) dX10_requireBytes_6 ?_
    refine lv_icmp_le (tgt := 22) hE.1 hE.2.1 dX10_requireBytes_9 (by decide) (fun c9 => ?_) (fun c9 => ?_)
    · refine W.widen (k := 1) (n := 6) (Nat.le_of_ble_eq_true rfl) (Nat.le_of_ble_eq_true rfl) ?_
      exact vx_ret (rg_vret hE hr hlk hH ⟨rfl, rfl, rfl, inI_le (by omega) c1 c9⟩ dX10_requireBytes_22)
    · exact rx_throw (i := 0) hlt hE hH xw_I (by decide) rfl hml hl.1 dX10_requireBytes_12 dX10_requireBytes_15 dX10_requireBytes_16 dX10_requireBytes_18 dX10_requireBytes_21 hxt (Nat.le_of_ble_eq_true rfl) (by first | exact Nat.le_of_ble_eq_true rfl | (simp [Value.category])) (Nat.le_of_ble_eq_true rfl) (Nat.le_of_ble_eq_true rfl) hlk (Nat.le_of_ble_eq_true rfl) (Nat.le_of_ble_eq_true rfl) ⟨rfl, rfl, rfl, rfl, inI_gt (by omega) c9⟩
set_option maxRecDepth 100000 in
set_option maxHeartbeats 4000000 in
theorem c_x_tab (l : Launch) (z : ZK) (hlt : l.stackTraces = false) (G : GW) (iv : IV) (jv : JV) (a : AS) (hX : CSt G iv jv a) (x : Int32) : cXR l z yX10_tableAt cX10_tableAt 3 (some (.object "ExampleTables$Table")) 6 82 1 6 [.ref (G.ad 100), .int (x)] G iv jv (fun r G' iv' jv' => G = G' ∧ iv = iv' ∧ jv = jv' ∧ inI x ((aT a).length) = true ∧ r = tL (cl x)) (fun E G' iv' jv' => G = G' ∧ iv = iv' ∧ jv = jv' ∧ E = nNSE ∧ inI x ((aT a).length) = false) := by
  intro sz
  refine rx_entry rfl (Nat.le_of_ble_eq_true rfl) ?_
  intro pq eq sq mq bq methq cq ls hE hr hlk hml hnm hl hsz hxt hH
  have hl : lv_has ls 3 [(0, .ref (G.ad 100)), (1, .int (x))] := hl
  have h6 := hX.2.2.2.2.1.2.1
  refine lv_iload_n hE.1 hE.2.1 dX10_tableAt_0 rfl (lv_at hl 1 rfl) ?_
  refine lv_if_lt (tgt := 21) hE.1 hE.2.1 dX10_tableAt_1 (by decide) (fun c1 => ?_) (fun c1 => ?_)
  · refine lv_null hE.1 hE.2.1 dX10_tableAt_21 ?_
    refine lv_astore_nN (lv' := [(2, .null), (0, .ref (G.ad 100)), (1, .int (x))]) hE.1 hE.2.1 dX10_tableAt_22 rfl hl (by decide) rfl (fun ls hl => ?_)
    refine lv_aload_nN hE.1 hE.2.1 dX10_tableAt_23 rfl (lv_at hl 0 rfl) ?_
    refine lv_ifnonnullN hE.1 hE.2.1 dX10_tableAt_24 ?_
    exact rx_throw (i := 8) hlt hE hH xw_N (by decide) rfl hml hl.1 dX10_tableAt_27 dX10_tableAt_30 dX10_tableAt_31 dX10_tableAt_33 dX10_tableAt_36 hxt (Nat.le_of_ble_eq_true rfl) (by first | exact Nat.le_of_ble_eq_true rfl | (simp [Value.category])) (Nat.le_of_ble_eq_true rfl) (Nat.le_of_ble_eq_true rfl) hlk (Nat.le_of_ble_eq_true rfl) (Nat.le_of_ble_eq_true rfl) ⟨rfl, rfl, rfl, rfl, inI_lt c1⟩
  · refine lv_iload_n hE.1 hE.2.1 dX10_tableAt_4 rfl (lv_at hl 1 rfl) ?_
    refine lv_aload_n hE.1 hE.2.1 dX10_tableAt_5 rfl (lv_at hl 0 rfl) ?_
    refine rg_geti hE hH cf_X10 fl_X10_30 rfl (hX.1.1.1) (hX.1.1.2) (v := nI ((aT a).length)) (hX.2.2.2.2.1.1) dX10_tableAt_6 ?_
    refine lv_icmp_ge (tgt := 21) hE.1 hE.2.1 dX10_tableAt_9 (by decide) (fun c9 => ?_) (fun c9 => ?_)
    · refine lv_null hE.1 hE.2.1 dX10_tableAt_21 ?_
      refine lv_astore_nN (lv' := [(2, .null), (0, .ref (G.ad 100)), (1, .int (x))]) hE.1 hE.2.1 dX10_tableAt_22 rfl hl (by decide) rfl (fun ls hl => ?_)
      refine lv_aload_nN hE.1 hE.2.1 dX10_tableAt_23 rfl (lv_at hl 0 rfl) ?_
      refine lv_ifnonnullN hE.1 hE.2.1 dX10_tableAt_24 ?_
      exact rx_throw (i := 8) hlt hE hH xw_N (by decide) rfl hml hl.1 dX10_tableAt_27 dX10_tableAt_30 dX10_tableAt_31 dX10_tableAt_33 dX10_tableAt_36 hxt (Nat.le_of_ble_eq_true rfl) (by first | exact Nat.le_of_ble_eq_true rfl | (simp [Value.category])) (Nat.le_of_ble_eq_true rfl) (Nat.le_of_ble_eq_true rfl) hlk (Nat.le_of_ble_eq_true rfl) (Nat.le_of_ble_eq_true rfl) ⟨rfl, rfl, rfl, rfl, inI_ge c9⟩
    · have hin : inI x ((aT a).length) = true := inI_t c1 (lt_nle (Int32.not_le.mp c9))
      obtain ⟨k, hk, rfl⟩ := inI_of (by omega) hin
      refine lv_aload_n hE.1 hE.2.1 dX10_tableAt_12 rfl (lv_at hl 0 rfl) ?_
      refine rg_getr hE hH cf_X10 fl_X10_26 rfl (hX.1.1.1) (hX.1.1.2) (v := 107) (hX.1.2.2.2.2.2.2.2.1) dX10_tableAt_13 ?_
      refine lv_iload_n hE.1 hE.2.1 dX10_tableAt_16 rfl (lv_at hl 1 rfl) ?_
      refine rg_aldr hE hH (hX.1.2.2.1.1) (hX.1.2.2.1.2.1) (by decide) (by decide) (by rw [hX.1.2.2.1.2.2]; omega) (v := tL k) ((hX.2.2.2.2.1.2.2 k hk).1) dX10_tableAt_17 ?_
      refine lv_goto (tgt := 22) hE.1 hE.2.1 dX10_tableAt_18 (by decide) ?_
      refine lv_astore_n (lv' := [(2, .ref (G.ad (tL k))), (0, .ref (G.ad 100)), (1, .int (nI k))]) hE.1 hE.2.1 dX10_tableAt_22 rfl hl (by decide) rfl (fun ls hl => ?_)
      refine lv_aload_n hE.1 hE.2.1 dX10_tableAt_23 rfl (lv_at hl 0 rfl) ?_
      refine lv_ifnonnull (tgt := 37) hE.1 hE.2.1 dX10_tableAt_24 (by decide) ?_
      refine lv_aload_n hE.1 hE.2.1 dX10_tableAt_37 rfl (lv_at hl 0 rfl) ?_
      refine W.widen (k := 1) (n := 6) (Nat.le_of_ble_eq_true rfl) (Nat.le_of_ble_eq_true rfl) ?_
      exact vx_ret (rg_aret hE hr (Or.inl ⟨_, rfl⟩) hlk hH ⟨rfl, rfl, rfl, hin, by rw [cl_nI (by omega)]⟩ dX10_tableAt_38)
set_option maxRecDepth 100000 in
set_option maxHeartbeats 4000000 in
theorem c_x_prg (l : Launch) (z : ZK) (hlt : l.stackTraces = false) (G : GW) (iv : IV) (jv : JV) (a : AS) (hX : CSt G iv jv a) (x : Int32) : cXR l z yX10_programAt cX10_programAt 3 (some (.object "ExampleTables$Program")) 6 82 1 6 [.ref (G.ad 100), .int (x)] G iv jv (fun r G' iv' jv' => G = G' ∧ iv = iv' ∧ jv = jv' ∧ inI x ((aP a).length) = true ∧ r = gL (cl x)) (fun E G' iv' jv' => G = G' ∧ iv = iv' ∧ jv = jv' ∧ E = nNSE ∧ inI x ((aP a).length) = false) := by
  intro sz
  refine rx_entry rfl (Nat.le_of_ble_eq_true rfl) ?_
  intro pq eq sq mq bq methq cq ls hE hr hlk hml hnm hl hsz hxt hH
  have hl : lv_has ls 3 [(0, .ref (G.ad 100)), (1, .int (x))] := hl
  have h6 := hX.2.2.2.2.2.1.2.1
  refine lv_iload_n hE.1 hE.2.1 dX10_programAt_0 rfl (lv_at hl 1 rfl) ?_
  refine lv_if_lt (tgt := 21) hE.1 hE.2.1 dX10_programAt_1 (by decide) (fun c1 => ?_) (fun c1 => ?_)
  · refine lv_null hE.1 hE.2.1 dX10_programAt_21 ?_
    refine lv_astore_nN (lv' := [(2, .null), (0, .ref (G.ad 100)), (1, .int (x))]) hE.1 hE.2.1 dX10_programAt_22 rfl hl (by decide) rfl (fun ls hl => ?_)
    refine lv_aload_nN hE.1 hE.2.1 dX10_programAt_23 rfl (lv_at hl 0 rfl) ?_
    refine lv_ifnonnullN hE.1 hE.2.1 dX10_programAt_24 ?_
    exact rx_throw (i := 17) hlt hE hH xw_N (by decide) rfl hml hl.1 dX10_programAt_27 dX10_programAt_30 dX10_programAt_31 dX10_programAt_33 dX10_programAt_36 hxt (Nat.le_of_ble_eq_true rfl) (by first | exact Nat.le_of_ble_eq_true rfl | (simp [Value.category])) (Nat.le_of_ble_eq_true rfl) (Nat.le_of_ble_eq_true rfl) hlk (Nat.le_of_ble_eq_true rfl) (Nat.le_of_ble_eq_true rfl) ⟨rfl, rfl, rfl, rfl, inI_lt c1⟩
  · refine lv_iload_n hE.1 hE.2.1 dX10_programAt_4 rfl (lv_at hl 1 rfl) ?_
    refine lv_aload_n hE.1 hE.2.1 dX10_programAt_5 rfl (lv_at hl 0 rfl) ?_
    refine rg_geti hE hH cf_X10 fl_X10_39 rfl (hX.1.1.1) (hX.1.1.2) (v := nI ((aP a).length)) (hX.2.2.2.2.2.1.1) dX10_programAt_6 ?_
    refine lv_icmp_ge (tgt := 21) hE.1 hE.2.1 dX10_programAt_9 (by decide) (fun c9 => ?_) (fun c9 => ?_)
    · refine lv_null hE.1 hE.2.1 dX10_programAt_21 ?_
      refine lv_astore_nN (lv' := [(2, .null), (0, .ref (G.ad 100)), (1, .int (x))]) hE.1 hE.2.1 dX10_programAt_22 rfl hl (by decide) rfl (fun ls hl => ?_)
      refine lv_aload_nN hE.1 hE.2.1 dX10_programAt_23 rfl (lv_at hl 0 rfl) ?_
      refine lv_ifnonnullN hE.1 hE.2.1 dX10_programAt_24 ?_
      exact rx_throw (i := 17) hlt hE hH xw_N (by decide) rfl hml hl.1 dX10_programAt_27 dX10_programAt_30 dX10_programAt_31 dX10_programAt_33 dX10_programAt_36 hxt (Nat.le_of_ble_eq_true rfl) (by first | exact Nat.le_of_ble_eq_true rfl | (simp [Value.category])) (Nat.le_of_ble_eq_true rfl) (Nat.le_of_ble_eq_true rfl) hlk (Nat.le_of_ble_eq_true rfl) (Nat.le_of_ble_eq_true rfl) ⟨rfl, rfl, rfl, rfl, inI_ge c9⟩
    · have hin : inI x ((aP a).length) = true := inI_t c1 (lt_nle (Int32.not_le.mp c9))
      obtain ⟨k, hk, rfl⟩ := inI_of (by omega) hin
      refine lv_aload_n hE.1 hE.2.1 dX10_programAt_12 rfl (lv_at hl 0 rfl) ?_
      refine rg_getr hE hH cf_X10 fl_X10_35 rfl (hX.1.1.1) (hX.1.1.2) (v := 108) (hX.1.2.2.2.2.2.2.2.2.1) dX10_programAt_13 ?_
      refine lv_iload_n hE.1 hE.2.1 dX10_programAt_16 rfl (lv_at hl 1 rfl) ?_
      refine rg_aldr hE hH (hX.1.2.2.2.1.1) (hX.1.2.2.2.1.2.1) (by decide) (by decide) (by rw [hX.1.2.2.2.1.2.2]; omega) (v := gL k) ((hX.2.2.2.2.2.1.2.2 k hk).1) dX10_programAt_17 ?_
      refine lv_goto (tgt := 22) hE.1 hE.2.1 dX10_programAt_18 (by decide) ?_
      refine lv_astore_n (lv' := [(2, .ref (G.ad (gL k))), (0, .ref (G.ad 100)), (1, .int (nI k))]) hE.1 hE.2.1 dX10_programAt_22 rfl hl (by decide) rfl (fun ls hl => ?_)
      refine lv_aload_n hE.1 hE.2.1 dX10_programAt_23 rfl (lv_at hl 0 rfl) ?_
      refine lv_ifnonnull (tgt := 37) hE.1 hE.2.1 dX10_programAt_24 (by decide) ?_
      refine lv_aload_n hE.1 hE.2.1 dX10_programAt_37 rfl (lv_at hl 0 rfl) ?_
      refine W.widen (k := 1) (n := 6) (Nat.le_of_ble_eq_true rfl) (Nat.le_of_ble_eq_true rfl) ?_
      exact vx_ret (rg_aret hE hr (Or.inl ⟨_, rfl⟩) hlk hH ⟨rfl, rfl, rfl, hin, by rw [cl_nI (by omega)]⟩ dX10_programAt_38)
