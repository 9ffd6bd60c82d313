set_option maxRecDepth 100000 in
set_option maxHeartbeats 4000000 in
theorem c_L_table (l : Launch) (z : ZK) (hlt : l.stackTraces = false) (G : GW) (iv : IV) (jv : JV) (a : AS) (hX : CSt G iv jv a) (hO : isA G 50 14 1) (x : Int32) (mc ms : Nat) (hmc : 1 + 60 * tNew a x ≤ mc) (hms : 6 + 83000 * tNew a x ≤ ms) : cH l z yL_table cL_table 4 (some .int) [(0, 9, 12, 13)] 10 263 mc ms [.ref (G.ad 100), .int (x), .ref (G.ad 50)] G iv jv (wP a G iv jv (spTable a x)) := by
  intro sz
  refine rh_entry rfl (Nat.le_of_ble_eq_true rfl) ?_
  intro pq eq sq mq bq methq cq ls hE hr hlk hml hnm hl hsz hxt hH
  have hl : lv_has ls 4 [(0, .ref (G.ad 100)), (1, .int (x)), (2, .ref (G.ad 50))] := hl
  refine lv_aload_n hE.1 hE.2.1 dL_table_0 rfl (lv_at hl 2 rfl) ?_
  refine lv_iconst (v := nI 0) hE.1 hE.2.1 dL_table_1 (by decide) ?_
  refine lv_aload_n hE.1 hE.2.1 dL_table_2 rfl (lv_at hl 0 rfl) ?_
  refine lv_iload_n hE.1 hE.2.1 dL_table_3 rfl (lv_at hl 1 rfl) ?_
  refine rx_VI (As := [.int (x)]) (rest := [.int (nI 0), .ref (G.ad 50)]) hE hml hH mc_L_7 (c_x_table l z hlt G iv jv a hX x mc ms hmc hms) (hX.1.1.1) (hX.1.1.2) (by decide) rfl ⟨Nat.le_of_ble_eq_true rfl, Nat.le_of_ble_eq_true rfl⟩ rfl hl.1 (by simp [Value.category]) dL_table_4 ⟨Nat.le_of_eq (Nat.zero_add _), Nat.le_of_eq (Nat.zero_add _)⟩ (fun E ce q G' iv' jv' H locs hpx hH hce hcv hcl => by
    obtain ⟨rfl, rfl, rfl, rfl, hsp⟩ := hpx
    exact vx_catch (own := RL) (name := nIAE) hE.2.2.1 [] ⟨0, 9, 12, 13⟩ [] hxt (fun z hz => nomatch hz) (by decide) (by decide) (hE.2.2.2.1 _ (b2 14 rfl rfl)) (nw_use rfl (NWU hE.2.2.2.2.2 _ (nb2 25 rfl rfl))) hce hcv hcl (lv_astore_n hE.1 hE.2.1 dL_table_12 rfl hl (by decide) rfl (fun ls hl => lv_iconst (v := nI 1) hE.1 hE.2.1 dL_table_13 (by decide) (W.widen (k := mc) (n := ms) (by omega) (by omega) (rg_iret hE hr rfl hlk hH (wP_no hsp hX (by decide)) dL_table_14))))) (fun r4 G4 iv4 jv4 H locs hp4 hH => ?_)
  obtain ⟨hEX, ⟨hs0, hsr, hXn⟩, hFr, hFj⟩ := hp4
  refine rg_st (st' := [.int r4, .int (nI 0), .ref (G4.ad 50)]) (by rw [hEX.adm hO.1]) ?_
  have hO := hO.em hEX
  refine lv_i2l (v := r4.toInt64) hE.1 hE.2.1 dL_table_7 rfl ?_
  refine rg_last hE hH (hO.1) (hO.2.1) (by rw [hO.2.2]; decide) (v := r4.toInt64) dL_table_8 (fun H locs hH => ?_)
  refine lv_goto (tgt := 15) hE.1 hE.2.1 dL_table_9 (by decide) ?_
  refine lv_iconst (v := nI 0) hE.1 hE.2.1 dL_table_15 (by decide) ?_
  refine W.widen (k := mc) (n := ms) (by omega) (by omega) ?_
  exact rg_iret hE hr rfl hlk hH (wP_ok lnK_table hEX hs0 hsr hXn hFr hFj) dL_table_16
set_option maxRecDepth 100000 in
set_option maxHeartbeats 4000000 in
theorem c_L_program (l : Launch) (z : ZK) (hlt : l.stackTraces = false) (G : GW) (iv : IV) (jv : JV) (a : AS) (hX : CSt G iv jv a) (hO : isA G 50 14 1) (y x : Int32) (mc ms : Nat) (hmc : 2 + 10 * gNew a y x ≤ mc) (hms : 12 + 700 * gNew a y x ≤ ms) : cH l z yL_program cL_program 5 (some .int) [(0, 10, 13, 19), (0, 10, 17, 13)] 10 265 mc ms [.ref (G.ad 100), .int (y), .int (x), .ref (G.ad 50)] G iv jv (wP a G iv jv (spProgram a y x)) := by
  intro sz
  refine rh_entry rfl (Nat.le_of_ble_eq_true rfl) ?_
  intro pq eq sq mq bq methq cq ls hE hr hlk hml hnm hl hsz hxt hH
  have hl : lv_has ls 5 [(0, .ref (G.ad 100)), (1, .int (y)), (2, .int (x)), (3, .ref (G.ad 50))] := hl
  refine lv_aload_n hE.1 hE.2.1 dL_program_0 rfl (lv_at hl 3 rfl) ?_
  refine lv_iconst (v := nI 0) hE.1 hE.2.1 dL_program_1 (by decide) ?_
  refine lv_aload_n hE.1 hE.2.1 dL_program_2 rfl (lv_at hl 0 rfl) ?_
  refine lv_iload_n hE.1 hE.2.1 dL_program_3 rfl (lv_at hl 1 rfl) ?_
  refine lv_iload_n hE.1 hE.2.1 dL_program_4 rfl (lv_at hl 2 rfl) ?_
  refine rx_VI (As := [.int (y), .int (x)]) (rest := [.int (nI 0), .ref (G.ad 50)]) hE hml hH mc_L_15 (c_x_program l z hlt G iv jv a hX y x mc ms hmc hms) (hX.1.1.1) (hX.1.1.2) (by decide) rfl ⟨Nat.le_of_ble_eq_true rfl, Nat.le_of_ble_eq_true rfl⟩ rfl hl.1 (by simp [Value.category]) dL_program_5 ⟨Nat.le_of_eq (Nat.zero_add _), Nat.le_of_eq (Nat.zero_add _)⟩ (fun E ce q G' iv' jv' H locs hpx hH hce hcv hcl => by
    obtain ⟨rfl, rfl, rfl, ⟨rfl, hsp⟩ | ⟨rfl, hsp⟩⟩ := hpx
    · exact vx_catch (own := RL) (name := nNSE) hE.2.2.1 [] ⟨0, 10, 13, 19⟩ [⟨0, 10, 17, 13⟩] hxt (fun z hz => nomatch hz) (by decide) (by decide) (hE.2.2.2.1 _ (b4 13 rfl rfl)) (nw_use rfl (NWU hE.2.2.2.2.2 _ (nb4 24 rfl rfl))) hce hcv hcl (lv_astore hE.1 hE.2.1 dL_program_13 hl (by decide) rfl (fun ls hl => lv_iconst (v := nI 1) hE.1 hE.2.1 dL_program_15 (by decide) (W.widen (k := mc) (n := ms) (by omega) (by omega) (rg_iret hE hr rfl hlk hH (wP_no hsp hX (by decide)) dL_program_16))))
    · exact vx_catch (own := RL) (name := nIAE) hE.2.2.1 [⟨0, 10, 13, 19⟩] ⟨0, 10, 17, 13⟩ [] hxt (fun z hz => by rcases List.mem_singleton.mp hz with rfl; exact Or.inr ⟨by decide, nNSE, hE.2.2.2.1 _ (b4 13 rfl rfl), hE.2.2.2.2.2.2.2.2.2.2.2.2⟩) (by decide) (by decide) (hE.2.2.2.1 _ (b2 14 rfl rfl)) (nw_use rfl (NWU hE.2.2.2.2.2 _ (nb2 25 rfl rfl))) hce hcv hcl (lv_astore hE.1 hE.2.1 dL_program_17 hl (by decide) rfl (fun ls hl => lv_iconst (v := nI 2) hE.1 hE.2.1 dL_program_19 (by decide) (W.widen (k := mc) (n := ms) (by omega) (by omega) (rg_iret hE hr rfl hlk hH (wP_no hsp hX (by decide)) dL_program_20))))) (fun r5 G5 iv5 jv5 H locs hp5 hH => ?_)
  obtain ⟨hEX, ⟨hs0, hsr, hXn⟩, hFr, hFj⟩ := hp5
  refine rg_st (st' := [.int r5, .int (nI 0), .ref (G5.ad 50)]) (by rw [hEX.adm hO.1]) ?_
  have hO := hO.em hEX
  refine lv_i2l (v := r5.toInt64) hE.1 hE.2.1 dL_program_8 rfl ?_
  refine rg_last hE hH (hO.1) (hO.2.1) (by rw [hO.2.2]; decide) (v := r5.toInt64) dL_program_9 (fun H locs hH => ?_)
  refine lv_goto (tgt := 21) hE.1 hE.2.1 dL_program_10 (by decide) ?_
  refine lv_iconst (v := nI 0) hE.1 hE.2.1 dL_program_21 (by decide) ?_
  refine W.widen (k := mc) (n := ms) (by omega) (by omega) ?_
  exact rg_iret hE hr rfl hlk hH (wP_ok lnK_program hEX hs0 hsr hXn hFr hFj) dL_program_22
set_option maxRecDepth 100000 in
set_option maxHeartbeats 4000000 in
theorem c_L_about (l : Launch) (z : ZK) (hlt : l.stackTraces = false) (G : GW) (iv : IV) (jv : JV) (a : AS) (hX : CSt G iv jv a) (hO : isA G 50 14 1) (x w : Int32) : cH l z yL_about cL_about 5 (some .int) [(0, 10, 13, 19)] 9 153 4 24 [.ref (G.ad 100), .int (x), .int (w), .ref (G.ad 50)] G iv jv (wP a G iv jv (spAbout a x w)) := by
  intro sz
  refine rh_entry rfl (Nat.le_of_ble_eq_true rfl) ?_
  intro pq eq sq mq bq methq cq ls hE hr hlk hml hnm hl hsz hxt hH
  have hl : lv_has ls 5 [(0, .ref (G.ad 100)), (1, .int (x)), (2, .int (w)), (3, .ref (G.ad 50))] := hl
  refine lv_aload_n hE.1 hE.2.1 dL_about_0 rfl (lv_at hl 3 rfl) ?_
  refine lv_iconst (v := nI 0) hE.1 hE.2.1 dL_about_1 (by decide) ?_
  refine lv_aload_n hE.1 hE.2.1 dL_about_2 rfl (lv_at hl 0 rfl) ?_
  refine lv_iload_n hE.1 hE.2.1 dL_about_3 rfl (lv_at hl 1 rfl) ?_
  refine lv_iload_n hE.1 hE.2.1 dL_about_4 rfl (lv_at hl 2 rfl) ?_
  refine rx_VI (As := [.int (x), .int (w)]) (rest := [.int (nI 0), .ref (G.ad 50)]) hE hml hH mc_L_21 (c_x_about l z hlt G iv jv a hX x w) (hX.1.1.1) (hX.1.1.2) (by decide) rfl ⟨Nat.le_of_ble_eq_true rfl, Nat.le_of_ble_eq_true rfl⟩ rfl hl.1 (by simp [Value.category]) dL_about_5 ⟨Nat.le_of_ble_eq_true rfl, Nat.le_of_ble_eq_true rfl⟩ (fun E ce q G' iv' jv' H locs hpx hH hce hcv hcl => by
    obtain ⟨rfl, rfl, rfl, rfl, hsp⟩ := hpx
    exact vx_catch (own := RL) (name := nNSE) hE.2.2.1 [] ⟨0, 10, 13, 19⟩ [] hxt (fun z hz => nomatch hz) (by decide) (by decide) (hE.2.2.2.1 _ (b4 13 rfl rfl)) (nw_use rfl (NWU hE.2.2.2.2.2 _ (nb4 24 rfl rfl))) hce hcv hcl (lv_astore hE.1 hE.2.1 dL_about_13 hl (by decide) rfl (fun ls hl => lv_iconst (v := nI 1) hE.1 hE.2.1 dL_about_15 (by decide) (W.widen (k := 4) (n := 24) (by omega) (by omega) (rg_iret hE hr rfl hlk hH (wP_no hsp hX (by decide)) dL_about_16))))) (fun r5 G5 iv5 jv5 H locs hp5 hH => ?_)
  obtain ⟨rfl, rfl, rfl, hsp⟩ := hp5
  refine lv_i2l (v := r5.toInt64) hE.1 hE.2.1 dL_about_8 rfl ?_
  refine rg_last hE hH (hO.1) (hO.2.1) (by rw [hO.2.2]; decide) (v := r5.toInt64) dL_about_9 (fun H locs hH => ?_)
  refine lv_goto (tgt := 17) hE.1 hE.2.1 dL_about_10 (by decide) ?_
  refine lv_iconst (v := nI 0) hE.1 hE.2.1 dL_about_17 (by decide) ?_
  refine W.widen (k := 4) (n := 24) (by omega) (by omega) ?_
  exact rg_iret hE hr rfl hlk hH (wP_rd hsp hX) dL_about_18
set_option maxRecDepth 100000 in
set_option maxHeartbeats 4000000 in
theorem c_L_answer (l : Launch) (z : ZK) (hlt : l.stackTraces = false) (G : GW) (iv : IV) (jv : JV) (a : AS) (hX : CSt G iv jv a) (hO : isA G 50 14 1) (x y w : Int32) : cH l z yL_answer cL_answer 6 (some .int) [(0, 12, 15, 19)] 9 154 4 24 [.ref (G.ad 100), .int (x), .int (y), .int (w), .ref (G.ad 50)] G iv jv (wP a G iv jv (spAnswer a x y w)) := by
  intro sz
  refine rh_entry rfl (Nat.le_of_ble_eq_true rfl) ?_
  intro pq eq sq mq bq methq cq ls hE hr hlk hml hnm hl hsz hxt hH
  have hl : lv_has ls 6 [(0, .ref (G.ad 100)), (1, .int (x)), (2, .int (y)), (3, .int (w)), (4, .ref (G.ad 50))] := hl
  refine lv_aload hE.1 hE.2.1 dL_answer_0 (lv_at hl 4 rfl) ?_
  refine lv_iconst (v := nI 0) hE.1 hE.2.1 dL_answer_2 (by decide) ?_
  refine lv_aload_n hE.1 hE.2.1 dL_answer_3 rfl (lv_at hl 0 rfl) ?_
  refine lv_iload_n hE.1 hE.2.1 dL_answer_4 rfl (lv_at hl 1 rfl) ?_
  refine lv_iload_n hE.1 hE.2.1 dL_answer_5 rfl (lv_at hl 2 rfl) ?_
  refine lv_iload_n hE.1 hE.2.1 dL_answer_6 rfl (lv_at hl 3 rfl) ?_
  refine rx_VI (As := [.int (x), .int (y), .int (w)]) (rest := [.int (nI 0), .ref (G.ad 50)]) hE hml hH mc_L_24 (c_x_answer l z hlt G iv jv a hX x y w) (hX.1.1.1) (hX.1.1.2) (by decide) rfl ⟨Nat.le_of_ble_eq_true rfl, Nat.le_of_ble_eq_true rfl⟩ rfl hl.1 (by simp [Value.category]) dL_answer_7 ⟨Nat.le_of_ble_eq_true rfl, Nat.le_of_ble_eq_true rfl⟩ (fun E ce q G' iv' jv' H locs hpx hH hce hcv hcl => by
    obtain ⟨rfl, rfl, rfl, rfl, hsp⟩ := hpx
    exact vx_catch (own := RL) (name := nNSE) hE.2.2.1 [] ⟨0, 12, 15, 19⟩ [] hxt (fun z hz => nomatch hz) (by decide) (by decide) (hE.2.2.2.1 _ (b4 13 rfl rfl)) (nw_use rfl (NWU hE.2.2.2.2.2 _ (nb4 24 rfl rfl))) hce hcv hcl (lv_astore hE.1 hE.2.1 dL_answer_15 hl (by decide) rfl (fun ls hl => lv_iconst (v := nI 1) hE.1 hE.2.1 dL_answer_17 (by decide) (W.widen (k := 4) (n := 24) (by omega) (by omega) (rg_iret hE hr rfl hlk hH (wP_no hsp hX (by decide)) dL_answer_18))))) (fun r7 G7 iv7 jv7 H locs hp7 hH => ?_)
  obtain ⟨rfl, rfl, rfl, hsp⟩ := hp7
  refine lv_i2l (v := r7.toInt64) hE.1 hE.2.1 dL_answer_10 rfl ?_
  refine rg_last hE hH (hO.1) (hO.2.1) (by rw [hO.2.2]; decide) (v := r7.toInt64) dL_answer_11 (fun H locs hH => ?_)
  refine lv_goto (tgt := 19) hE.1 hE.2.1 dL_answer_12 (by decide) ?_
  refine lv_iconst (v := nI 0) hE.1 hE.2.1 dL_answer_19 (by decide) ?_
  refine W.widen (k := 4) (n := 24) (by omega) (by omega) ?_
  exact rg_iret hE hr rfl hlk hH (wP_rd hsp hX) dL_answer_20
set_option maxRecDepth 100000 in
set_option maxHeartbeats 4000000 in
theorem c_L_value (l : Launch) (z : ZK) (hlt : l.stackTraces = false) (G : GW) (iv : IV) (jv : JV) (a : AS) (hX : CSt G iv jv a) (hO : isA G 50 14 1) (x y w : Int32) : cH l z yL_value cL_value 6 (some .int) [(0, 12, 15, 19)] 9 154 4 24 [.ref (G.ad 100), .int (x), .int (y), .int (w), .ref (G.ad 50)] G iv jv (wP a G iv jv (spValue a x y w)) := by
  intro sz
  refine rh_entry rfl (Nat.le_of_ble_eq_true rfl) ?_
  intro pq eq sq mq bq methq cq ls hE hr hlk hml hnm hl hsz hxt hH
  have hl : lv_has ls 6 [(0, .ref (G.ad 100)), (1, .int (x)), (2, .int (y)), (3, .int (w)), (4, .ref (G.ad 50))] := hl
  refine lv_aload hE.1 hE.2.1 dL_value_0 (lv_at hl 4 rfl) ?_
  refine lv_iconst (v := nI 0) hE.1 hE.2.1 dL_value_2 (by decide) ?_
  refine lv_aload_n hE.1 hE.2.1 dL_value_3 rfl (lv_at hl 0 rfl) ?_
  refine lv_iload_n hE.1 hE.2.1 dL_value_4 rfl (lv_at hl 1 rfl) ?_
  refine lv_iload_n hE.1 hE.2.1 dL_value_5 rfl (lv_at hl 2 rfl) ?_
  refine lv_iload_n hE.1 hE.2.1 dL_value_6 rfl (lv_at hl 3 rfl) ?_
  refine rx_VI (As := [.int (x), .int (y), .int (w)]) (rest := [.int (nI 0), .ref (G.ad 50)]) hE hml hH mc_L_28 (c_x_value l z hlt G iv jv a hX x y w) (hX.1.1.1) (hX.1.1.2) (by decide) rfl ⟨Nat.le_of_ble_eq_true rfl, Nat.le_of_ble_eq_true rfl⟩ rfl hl.1 (by simp [Value.category]) dL_value_7 ⟨Nat.le_of_ble_eq_true rfl, Nat.le_of_ble_eq_true rfl⟩ (fun E ce q G' iv' jv' H locs hpx hH hce hcv hcl => by
    obtain ⟨rfl, rfl, rfl, rfl, hsp⟩ := hpx
    exact vx_catch (own := RL) (name := nNSE) hE.2.2.1 [] ⟨0, 12, 15, 19⟩ [] hxt (fun z hz => nomatch hz) (by decide) (by decide) (hE.2.2.2.1 _ (b4 13 rfl rfl)) (nw_use rfl (NWU hE.2.2.2.2.2 _ (nb4 24 rfl rfl))) hce hcv hcl (lv_astore hE.1 hE.2.1 dL_value_15 hl (by decide) rfl (fun ls hl => lv_iconst (v := nI 1) hE.1 hE.2.1 dL_value_17 (by decide) (W.widen (k := 4) (n := 24) (by omega) (by omega) (rg_iret hE hr rfl hlk hH (wP_no hsp hX (by decide)) dL_value_18))))) (fun r7 G7 iv7 jv7 H locs hp7 hH => ?_)
  obtain ⟨rfl, rfl, rfl, hsp⟩ := hp7
  refine lv_i2l (v := r7.toInt64) hE.1 hE.2.1 dL_value_10 rfl ?_
  refine rg_last hE hH (hO.1) (hO.2.1) (by rw [hO.2.2]; decide) (v := r7.toInt64) dL_value_11 (fun H locs hH => ?_)
  refine lv_goto (tgt := 19) hE.1 hE.2.1 dL_value_12 (by decide) ?_
  refine lv_iconst (v := nI 0) hE.1 hE.2.1 dL_value_19 (by decide) ?_
  refine W.widen (k := 4) (n := 24) (by omega) (by omega) ?_
  exact rg_iret hE hr rfl hlk hH (wP_rd hsp hX) dL_value_20
set_option maxRecDepth 100000 in
set_option maxHeartbeats 4000000 in
theorem c_L_hole (l : Launch) (z : ZK) (hlt : l.stackTraces = false) (G : GW) (iv : IV) (jv : JV) (a : AS) (hX : CSt G iv jv a) (hO : isA G 50 14 1) (x y : Int32) : cH l z yL_hole cL_hole 5 (some .int) [(0, 10, 13, 19)] 9 153 4 24 [.ref (G.ad 100), .int (x), .int (y), .ref (G.ad 50)] G iv jv (wP a G iv jv (spHole a x y)) := by
  intro sz
  refine rh_entry rfl (Nat.le_of_ble_eq_true rfl) ?_
  intro pq eq sq mq bq methq cq ls hE hr hlk hml hnm hl hsz hxt hH
  have hl : lv_has ls 5 [(0, .ref (G.ad 100)), (1, .int (x)), (2, .int (y)), (3, .ref (G.ad 50))] := hl
  refine lv_aload_n hE.1 hE.2.1 dL_hole_0 rfl (lv_at hl 3 rfl) ?_
  refine lv_iconst (v := nI 0) hE.1 hE.2.1 dL_hole_1 (by decide) ?_
  refine lv_aload_n hE.1 hE.2.1 dL_hole_2 rfl (lv_at hl 0 rfl) ?_
  refine lv_iload_n hE.1 hE.2.1 dL_hole_3 rfl (lv_at hl 1 rfl) ?_
  refine lv_iload_n hE.1 hE.2.1 dL_hole_4 rfl (lv_at hl 2 rfl) ?_
  refine rx_VI (As := [.int (x), .int (y)]) (rest := [.int (nI 0), .ref (G.ad 50)]) hE hml hH mc_L_31 (c_x_hole l z hlt G iv jv a hX x y) (hX.1.1.1) (hX.1.1.2) (by decide) rfl ⟨Nat.le_of_ble_eq_true rfl, Nat.le_of_ble_eq_true rfl⟩ rfl hl.1 (by simp [Value.category]) dL_hole_5 ⟨Nat.le_of_ble_eq_true rfl, Nat.le_of_ble_eq_true rfl⟩ (fun E ce q G' iv' jv' H locs hpx hH hce hcv hcl => by
    obtain ⟨rfl, rfl, rfl, rfl, hsp⟩ := hpx
    exact vx_catch (own := RL) (name := nNSE) hE.2.2.1 [] ⟨0, 10, 13, 19⟩ [] hxt (fun z hz => nomatch hz) (by decide) (by decide) (hE.2.2.2.1 _ (b4 13 rfl rfl)) (nw_use rfl (NWU hE.2.2.2.2.2 _ (nb4 24 rfl rfl))) hce hcv hcl (lv_astore hE.1 hE.2.1 dL_hole_13 hl (by decide) rfl (fun ls hl => lv_iconst (v := nI 1) hE.1 hE.2.1 dL_hole_15 (by decide) (W.widen (k := 4) (n := 24) (by omega) (by omega) (rg_iret hE hr rfl hlk hH (wP_no hsp hX (by decide)) dL_hole_16))))) (fun r5 G5 iv5 jv5 H locs hp5 hH => ?_)
  obtain ⟨rfl, rfl, rfl, hsp⟩ := hp5
  refine lv_i2l (v := r5.toInt64) hE.1 hE.2.1 dL_hole_8 rfl ?_
  refine rg_last hE hH (hO.1) (hO.2.1) (by rw [hO.2.2]; decide) (v := r5.toInt64) dL_hole_9 (fun H locs hH => ?_)
  refine lv_goto (tgt := 17) hE.1 hE.2.1 dL_hole_10 (by decide) ?_
  refine lv_iconst (v := nI 0) hE.1 hE.2.1 dL_hole_17 (by decide) ?_
  refine W.widen (k := 4) (n := 24) (by omega) (by omega) ?_
  exact rg_iret hE hr rfl hlk hH (wP_rd hsp hX) dL_hole_18
set_option maxRecDepth 100000 in
set_option maxHeartbeats 4000000 in
theorem c_L_quarrel (l : Launch) (z : ZK) (hlt : l.stackTraces = false) (G : GW) (iv : IV) (jv : JV) (a : AS) (hX : CSt G iv jv a) (hO : isA G 50 14 1) (x y w : Int32) : cH l z yL_quarrel cL_quarrel 6 (some .int) [(0, 12, 15, 19)] 9 154 4 24 [.ref (G.ad 100), .int (x), .int (y), .int (w), .ref (G.ad 50)] G iv jv (wP a G iv jv (spQuarrel a x y w)) := by
  intro sz
  refine rh_entry rfl (Nat.le_of_ble_eq_true rfl) ?_
  intro pq eq sq mq bq methq cq ls hE hr hlk hml hnm hl hsz hxt hH
  have hl : lv_has ls 6 [(0, .ref (G.ad 100)), (1, .int (x)), (2, .int (y)), (3, .int (w)), (4, .ref (G.ad 50))] := hl
  refine lv_aload hE.1 hE.2.1 dL_quarrel_0 (lv_at hl 4 rfl) ?_
  refine lv_iconst (v := nI 0) hE.1 hE.2.1 dL_quarrel_2 (by decide) ?_
  refine lv_aload_n hE.1 hE.2.1 dL_quarrel_3 rfl (lv_at hl 0 rfl) ?_
  refine lv_iload_n hE.1 hE.2.1 dL_quarrel_4 rfl (lv_at hl 1 rfl) ?_
  refine lv_iload_n hE.1 hE.2.1 dL_quarrel_5 rfl (lv_at hl 2 rfl) ?_
  refine lv_iload_n hE.1 hE.2.1 dL_quarrel_6 rfl (lv_at hl 3 rfl) ?_
  refine rx_VI (As := [.int (x), .int (y), .int (w)]) (rest := [.int (nI 0), .ref (G.ad 50)]) hE hml hH mc_L_34 (c_x_quarrel l z hlt G iv jv a hX x y w) (hX.1.1.1) (hX.1.1.2) (by decide) rfl ⟨Nat.le_of_ble_eq_true rfl, Nat.le_of_ble_eq_true rfl⟩ rfl hl.1 (by simp [Value.category]) dL_quarrel_7 ⟨Nat.le_of_ble_eq_true rfl, Nat.le_of_ble_eq_true rfl⟩ (fun E ce q G' iv' jv' H locs hpx hH hce hcv hcl => by
    obtain ⟨rfl, rfl, rfl, rfl, hsp⟩ := hpx
    exact vx_catch (own := RL) (name := nNSE) hE.2.2.1 [] ⟨0, 12, 15, 19⟩ [] hxt (fun z hz => nomatch hz) (by decide) (by decide) (hE.2.2.2.1 _ (b4 13 rfl rfl)) (nw_use rfl (NWU hE.2.2.2.2.2 _ (nb4 24 rfl rfl))) hce hcv hcl (lv_astore hE.1 hE.2.1 dL_quarrel_15 hl (by decide) rfl (fun ls hl => lv_iconst (v := nI 1) hE.1 hE.2.1 dL_quarrel_17 (by decide) (W.widen (k := 4) (n := 24) (by omega) (by omega) (rg_iret hE hr rfl hlk hH (wP_no hsp hX (by decide)) dL_quarrel_18))))) (fun r7 G7 iv7 jv7 H locs hp7 hH => ?_)
  obtain ⟨rfl, rfl, rfl, hsp⟩ := hp7
  refine lv_i2l (v := r7.toInt64) hE.1 hE.2.1 dL_quarrel_10 rfl ?_
  refine rg_last hE hH (hO.1) (hO.2.1) (by rw [hO.2.2]; decide) (v := r7.toInt64) dL_quarrel_11 (fun H locs hH => ?_)
  refine lv_goto (tgt := 19) hE.1 hE.2.1 dL_quarrel_12 (by decide) ?_
  refine lv_iconst (v := nI 0) hE.1 hE.2.1 dL_quarrel_19 (by decide) ?_
  refine W.widen (k := 4) (n := 24) (by omega) (by omega) ?_
  exact rg_iret hE hr rfl hlk hH (wP_rd hsp hX) dL_quarrel_20
set_option maxRecDepth 100000 in
set_option maxHeartbeats 4000000 in
theorem c_L_idle (l : Launch) (z : ZK) (hlt : l.stackTraces = false) (G : GW) (iv : IV) (jv : JV) (a : AS) (hX : CSt G iv jv a) (hO : isA G 50 14 1) (x y : Int32) : cH l z yL_idle cL_idle 5 (some .int) [(0, 17, 20, 19)] 9 153 4 24 [.ref (G.ad 100), .int (x), .int (y), .ref (G.ad 50)] G iv jv (wP a G iv jv (spIdle a x y)) := by
  intro sz
  refine rh_entry rfl (Nat.le_of_ble_eq_true rfl) ?_
  intro pq eq sq mq bq methq cq ls hE hr hlk hml hnm hl hsz hxt hH
  have hl : lv_has ls 5 [(0, .ref (G.ad 100)), (1, .int (x)), (2, .int (y)), (3, .ref (G.ad 50))] := hl
  refine lv_aload_n hE.1 hE.2.1 dL_idle_0 rfl (lv_at hl 3 rfl) ?_
  refine lv_iconst (v := nI 0) hE.1 hE.2.1 dL_idle_1 (by decide) ?_
  refine lv_aload_n hE.1 hE.2.1 dL_idle_2 rfl (lv_at hl 0 rfl) ?_
  refine lv_iload_n hE.1 hE.2.1 dL_idle_3 rfl (lv_at hl 1 rfl) ?_
  refine lv_iload_n hE.1 hE.2.1 dL_idle_4 rfl (lv_at hl 2 rfl) ?_
  refine rx_VI (As := [.int (x), .int (y)]) (rest := [.int (nI 0), .ref (G.ad 50)]) hE hml hH mc_L_37 (c_x_idle l z hlt G iv jv a hX x y) (hX.1.1.1) (hX.1.1.2) (by decide) rfl ⟨Nat.le_of_ble_eq_true rfl, Nat.le_of_ble_eq_true rfl⟩ rfl hl.1 (by simp [Value.category]) dL_idle_5 ⟨Nat.le_of_ble_eq_true rfl, Nat.le_of_ble_eq_true rfl⟩ (fun E ce q G' iv' jv' H locs hpx hH hce hcv hcl => by
    obtain ⟨rfl, rfl, rfl, rfl, hsp⟩ := hpx
    exact vx_catch (own := RL) (name := nNSE) hE.2.2.1 [] ⟨0, 17, 20, 19⟩ [] hxt (fun z hz => nomatch hz) (by decide) (by decide) (hE.2.2.2.1 _ (b4 13 rfl rfl)) (nw_use rfl (NWU hE.2.2.2.2.2 _ (nb4 24 rfl rfl))) hce hcv hcl (lv_astore hE.1 hE.2.1 dL_idle_20 hl (by decide) rfl (fun ls hl => lv_iconst (v := nI 1) hE.1 hE.2.1 dL_idle_22 (by decide) (W.widen (k := 4) (n := 24) (by omega) (by omega) (rg_iret hE hr rfl hlk hH (wP_no hsp hX (by decide)) dL_idle_23))))) (fun r5 G5 iv5 jv5 H locs hp5 hH => ?_)
  obtain ⟨rfl, rfl, rfl, hsp⟩ := hp5
  refine lv_if_eq (tgt := 15) hE.1 hE.2.1 dL_idle_8 (by decide) (fun c8 => ?_) (fun c8 => ?_)
  · subst c8
    refine lv_lconst (v := 0) hE.1 hE.2.1 dL_idle_15 (by decide) ?_
    refine rn_asj (v' := (0 : Int32).toInt64) (rfl) ?_
    refine rg_last hE hH (hO.1) (hO.2.1) (by rw [hO.2.2]; decide) (v := (0 : Int32).toInt64) dL_idle_16 (fun H locs hH => ?_)
    refine lv_goto (tgt := 24) hE.1 hE.2.1 dL_idle_17 (by decide) ?_
    refine lv_iconst (v := nI 0) hE.1 hE.2.1 dL_idle_24 (by decide) ?_
    refine W.widen (k := 4) (n := 24) (by omega) (by omega) ?_
    exact rg_iret hE hr rfl hlk hH (wP_rd hsp hX) dL_idle_25
  · have h1 := (spIdle_r hsp).resolve_left c8
    subst h1
    refine lv_lconst (v := 1) hE.1 hE.2.1 dL_idle_11 (by decide) ?_
    refine rn_asj (v' := (1 : Int32).toInt64) (rfl) ?_
    refine lv_goto (tgt := 16) hE.1 hE.2.1 dL_idle_12 (by decide) ?_
    refine rg_last hE hH (hO.1) (hO.2.1) (by rw [hO.2.2]; decide) (v := (1 : Int32).toInt64) dL_idle_16 (fun H locs hH => ?_)
    refine lv_goto (tgt := 24) hE.1 hE.2.1 dL_idle_17 (by decide) ?_
    refine lv_iconst (v := nI 0) hE.1 hE.2.1 dL_idle_24 (by decide) ?_
    refine W.widen (k := 4) (n := 24) (by omega) (by omega) ?_
    exact rg_iret hE hr rfl hlk hH (wP_rd hsp hX) dL_idle_25
set_option maxRecDepth 100000 in
set_option maxHeartbeats 4000000 in
theorem c_L_term (l : Launch) (z : ZK) (hlt : l.stackTraces = false) (G : GW) (iv : IV) (jv : JV) (a : AS) (hX : CSt G iv jv a) (hO : isA G 50 14 1) (x y w : Int32) : cH l z yL_term cL_term 6 (some .int) [(0, 12, 15, 19)] 9 154 4 24 [.ref (G.ad 100), .int (x), .int (y), .int (w), .ref (G.ad 50)] G iv jv (wP a G iv jv (spTerm a x y w)) := by
  intro sz
  refine rh_entry rfl (Nat.le_of_ble_eq_true rfl) ?_
  intro pq eq sq mq bq methq cq ls hE hr hlk hml hnm hl hsz hxt hH
  have hl : lv_has ls 6 [(0, .ref (G.ad 100)), (1, .int (x)), (2, .int (y)), (3, .int (w)), (4, .ref (G.ad 50))] := hl
  refine lv_aload hE.1 hE.2.1 dL_term_0 (lv_at hl 4 rfl) ?_
  refine lv_iconst (v := nI 0) hE.1 hE.2.1 dL_term_2 (by decide) ?_
  refine lv_aload_n hE.1 hE.2.1 dL_term_3 rfl (lv_at hl 0 rfl) ?_
  refine lv_iload_n hE.1 hE.2.1 dL_term_4 rfl (lv_at hl 1 rfl) ?_
  refine lv_iload_n hE.1 hE.2.1 dL_term_5 rfl (lv_at hl 2 rfl) ?_
  refine lv_iload_n hE.1 hE.2.1 dL_term_6 rfl (lv_at hl 3 rfl) ?_
  refine rx_VI (As := [.int (x), .int (y), .int (w)]) (rest := [.int (nI 0), .ref (G.ad 50)]) hE hml hH mc_L_41 (c_x_term l z hlt G iv jv a hX x y w) (hX.1.1.1) (hX.1.1.2) (by decide) rfl ⟨Nat.le_of_ble_eq_true rfl, Nat.le_of_ble_eq_true rfl⟩ rfl hl.1 (by simp [Value.category]) dL_term_7 ⟨Nat.le_of_ble_eq_true rfl, Nat.le_of_ble_eq_true rfl⟩ (fun E ce q G' iv' jv' H locs hpx hH hce hcv hcl => by
    obtain ⟨rfl, rfl, rfl, rfl, hsp⟩ := hpx
    exact vx_catch (own := RL) (name := nNSE) hE.2.2.1 [] ⟨0, 12, 15, 19⟩ [] hxt (fun z hz => nomatch hz) (by decide) (by decide) (hE.2.2.2.1 _ (b4 13 rfl rfl)) (nw_use rfl (NWU hE.2.2.2.2.2 _ (nb4 24 rfl rfl))) hce hcv hcl (lv_astore hE.1 hE.2.1 dL_term_15 hl (by decide) rfl (fun ls hl => lv_iconst (v := nI 1) hE.1 hE.2.1 dL_term_17 (by decide) (W.widen (k := 4) (n := 24) (by omega) (by omega) (rg_iret hE hr rfl hlk hH (wP_no hsp hX (by decide)) dL_term_18))))) (fun r7 G7 iv7 jv7 H locs hp7 hH => ?_)
  obtain ⟨rfl, rfl, rfl, hsp⟩ := hp7
  refine lv_i2l (v := r7.toInt64) hE.1 hE.2.1 dL_term_10 rfl ?_
  refine rg_last hE hH (hO.1) (hO.2.1) (by rw [hO.2.2]; decide) (v := r7.toInt64) dL_term_11 (fun H locs hH => ?_)
  refine lv_goto (tgt := 19) hE.1 hE.2.1 dL_term_12 (by decide) ?_
  refine lv_iconst (v := nI 0) hE.1 hE.2.1 dL_term_19 (by decide) ?_
  refine W.widen (k := 4) (n := 24) (by omega) (by omega) ?_
  exact rg_iret hE hr rfl hlk hH (wP_rd hsp hX) dL_term_20
set_option maxRecDepth 100000 in
set_option maxHeartbeats 4000000 in
theorem c_L_offered (l : Launch) (z : ZK) (hlt : l.stackTraces = false) (G : GW) (iv : IV) (jv : JV) (a : AS) (hX : CSt G iv jv a) (hO : isA G 50 14 1) (x y w : Int32) : cH l z yL_offered cL_offered 6 (some .int) [(0, 12, 15, 19)] 9 155 4 24 [.ref (G.ad 100), .int (x), .int (y), .int (w), .ref (G.ad 50)] G iv jv (wP a G iv jv (spOffered a x y w)) := by
  intro sz
  refine rh_entry rfl (Nat.le_of_ble_eq_true rfl) ?_
  intro pq eq sq mq bq methq cq ls hE hr hlk hml hnm hl hsz hxt hH
  have hl : lv_has ls 6 [(0, .ref (G.ad 100)), (1, .int (x)), (2, .int (y)), (3, .int (w)), (4, .ref (G.ad 50))] := hl
  refine lv_aload hE.1 hE.2.1 dL_offered_0 (lv_at hl 4 rfl) ?_
  refine lv_iconst (v := nI 0) hE.1 hE.2.1 dL_offered_2 (by decide) ?_
  refine lv_aload_n hE.1 hE.2.1 dL_offered_3 rfl (lv_at hl 0 rfl) ?_
  refine lv_iload_n hE.1 hE.2.1 dL_offered_4 rfl (lv_at hl 1 rfl) ?_
  refine lv_iload_n hE.1 hE.2.1 dL_offered_5 rfl (lv_at hl 2 rfl) ?_
  refine lv_iload_n hE.1 hE.2.1 dL_offered_6 rfl (lv_at hl 3 rfl) ?_
  refine rx_VI (As := [.int (x), .int (y), .int (w)]) (rest := [.int (nI 0), .ref (G.ad 50)]) hE hml hH mc_L_44 (c_x_offered l z hlt G iv jv a hX x y w) (hX.1.1.1) (hX.1.1.2) (by decide) rfl ⟨Nat.le_of_ble_eq_true rfl, Nat.le_of_ble_eq_true rfl⟩ rfl hl.1 (by simp [Value.category]) dL_offered_7 ⟨Nat.le_of_ble_eq_true rfl, Nat.le_of_ble_eq_true rfl⟩ (fun E ce q G' iv' jv' H locs hpx hH hce hcv hcl => by
    obtain ⟨rfl, rfl, rfl, rfl, hsp⟩ := hpx
    exact vx_catch (own := RL) (name := nNSE) hE.2.2.1 [] ⟨0, 12, 15, 19⟩ [] hxt (fun z hz => nomatch hz) (by decide) (by decide) (hE.2.2.2.1 _ (b4 13 rfl rfl)) (nw_use rfl (NWU hE.2.2.2.2.2 _ (nb4 24 rfl rfl))) hce hcv hcl (lv_astore hE.1 hE.2.1 dL_offered_15 hl (by decide) rfl (fun ls hl => lv_iconst (v := nI 1) hE.1 hE.2.1 dL_offered_17 (by decide) (W.widen (k := 4) (n := 24) (by omega) (by omega) (rg_iret hE hr rfl hlk hH (wP_no hsp hX (by decide)) dL_offered_18))))) (fun r7 G7 iv7 jv7 H locs hp7 hH => ?_)
  obtain ⟨rfl, rfl, rfl, hsp⟩ := hp7
  refine lv_i2l (v := r7.toInt64) hE.1 hE.2.1 dL_offered_10 rfl ?_
  refine rg_last hE hH (hO.1) (hO.2.1) (by rw [hO.2.2]; decide) (v := r7.toInt64) dL_offered_11 (fun H locs hH => ?_)
  refine lv_goto (tgt := 19) hE.1 hE.2.1 dL_offered_12 (by decide) ?_
  refine lv_iconst (v := nI 0) hE.1 hE.2.1 dL_offered_19 (by decide) ?_
  refine W.widen (k := 4) (n := 24) (by omega) (by omega) ?_
  exact rg_iret hE hr rfl hlk hH (wP_rd hsp hX) dL_offered_20
set_option maxRecDepth 100000 in
set_option maxHeartbeats 4000000 in
theorem c_L_tell (l : Launch) (z : ZK) (hlt : l.stackTraces = false) (G : GW) (iv : IV) (jv : JV) (a : AS) (hX : CSt G iv jv a) (hO : isA G 50 14 1) (x : Int32) : cH l z yL_tell cL_tell 4 (some .int) [(0, 9, 12, 19)] 9 173 4 24 [.ref (G.ad 100), .int (x), .ref (G.ad 50)] G iv jv (wP a G iv jv (spTell a x)) := by
  intro sz
  refine rh_entry rfl (Nat.le_of_ble_eq_true rfl) ?_
  intro pq eq sq mq bq methq cq ls hE hr hlk hml hnm hl hsz hxt hH
  have hl : lv_has ls 4 [(0, .ref (G.ad 100)), (1, .int (x)), (2, .ref (G.ad 50))] := hl
  refine lv_aload_n hE.1 hE.2.1 dL_tell_0 rfl (lv_at hl 2 rfl) ?_
  refine lv_iconst (v := nI 0) hE.1 hE.2.1 dL_tell_1 (by decide) ?_
  refine lv_aload_n hE.1 hE.2.1 dL_tell_2 rfl (lv_at hl 0 rfl) ?_
  refine lv_iload_n hE.1 hE.2.1 dL_tell_3 rfl (lv_at hl 1 rfl) ?_
  refine rx_VI (As := [.int (x)]) (rest := [.int (nI 0), .ref (G.ad 50)]) hE hml hH mc_L_47 (c_x_tell l z hlt G iv jv a hX x) (hX.1.1.1) (hX.1.1.2) (by decide) rfl ⟨Nat.le_of_ble_eq_true rfl, Nat.le_of_ble_eq_true rfl⟩ rfl hl.1 (by simp [Value.category]) dL_tell_4 ⟨Nat.le_of_ble_eq_true rfl, Nat.le_of_ble_eq_true rfl⟩ (fun E ce q G' iv' jv' H locs hpx hH hce hcv hcl => by
    obtain ⟨rfl, rfl, rfl, rfl, hsp⟩ := hpx
    exact vx_catch (own := RL) (name := nNSE) hE.2.2.1 [] ⟨0, 9, 12, 19⟩ [] hxt (fun z hz => nomatch hz) (by decide) (by decide) (hE.2.2.2.1 _ (b4 13 rfl rfl)) (nw_use rfl (NWU hE.2.2.2.2.2 _ (nb4 24 rfl rfl))) hce hcv hcl (lv_astore_n hE.1 hE.2.1 dL_tell_12 rfl hl (by decide) rfl (fun ls hl => lv_iconst (v := nI 1) hE.1 hE.2.1 dL_tell_13 (by decide) (W.widen (k := 4) (n := 24) (by omega) (by omega) (rg_iret hE hr rfl hlk hH (wP_no hsp hX (by decide)) dL_tell_14))))) (fun r4 G4 iv4 jv4 H locs hp4 hH => ?_)
  obtain ⟨rfl, rfl, ⟨hs0, hsr, hXn⟩, hFr⟩ := hp4
  refine lv_i2l (v := r4.toInt64) hE.1 hE.2.1 dL_tell_7 rfl ?_
  refine rg_last hE hH (hO.1) (hO.2.1) (by rw [hO.2.2]; decide) (v := r4.toInt64) dL_tell_8 (fun H locs hH => ?_)
  refine lv_goto (tgt := 15) hE.1 hE.2.1 dL_tell_9 (by decide) ?_
  refine lv_iconst (v := nI 0) hE.1 hE.2.1 dL_tell_15 (by decide) ?_
  refine W.widen (k := 4) (n := 24) (by omega) (by omega) ?_
  exact rg_iret hE hr rfl hlk hH (wP_ok lnK_tell EX.rf hs0 hsr hXn (hFr.mono (fun lb j h => by simp only [pOt] at h; omega)) FrJ.rf) dL_tell_16
set_option maxRecDepth 100000 in
set_option maxHeartbeats 4000000 in
theorem c_L_told (l : Launch) (z : ZK) (hlt : l.stackTraces = false) (G : GW) (iv : IV) (jv : JV) (a : AS) (hX : CSt G iv jv a) (hO : isA G 50 14 1) (x : Int32) : cH l z yL_told cL_told 4 (some .int) [(0, 9, 12, 19)] 9 151 4 24 [.ref (G.ad 100), .int (x), .ref (G.ad 50)] G iv jv (wP a G iv jv (spTold a x)) := by
  intro sz
  refine rh_entry rfl (Nat.le_of_ble_eq_true rfl) ?_
  intro pq eq sq mq bq methq cq ls hE hr hlk hml hnm hl hsz hxt hH
  have hl : lv_has ls 4 [(0, .ref (G.ad 100)), (1, .int (x)), (2, .ref (G.ad 50))] := hl
  refine lv_aload_n hE.1 hE.2.1 dL_told_0 rfl (lv_at hl 2 rfl) ?_
  refine lv_iconst (v := nI 0) hE.1 hE.2.1 dL_told_1 (by decide) ?_
  refine lv_aload_n hE.1 hE.2.1 dL_told_2 rfl (lv_at hl 0 rfl) ?_
  refine lv_iload_n hE.1 hE.2.1 dL_told_3 rfl (lv_at hl 1 rfl) ?_
  refine rx_VI (As := [.int (x)]) (rest := [.int (nI 0), .ref (G.ad 50)]) hE hml hH mc_L_50 (c_x_told l z hlt G iv jv a hX x) (hX.1.1.1) (hX.1.1.2) (by decide) rfl ⟨Nat.le_of_ble_eq_true rfl, Nat.le_of_ble_eq_true rfl⟩ rfl hl.1 (by simp [Value.category]) dL_told_4 ⟨Nat.le_of_ble_eq_true rfl, Nat.le_of_ble_eq_true rfl⟩ (fun E ce q G' iv' jv' H locs hpx hH hce hcv hcl => by
    obtain ⟨rfl, rfl, rfl, rfl, hsp⟩ := hpx
    exact vx_catch (own := RL) (name := nNSE) hE.2.2.1 [] ⟨0, 9, 12, 19⟩ [] hxt (fun z hz => nomatch hz) (by decide) (by decide) (hE.2.2.2.1 _ (b4 13 rfl rfl)) (nw_use rfl (NWU hE.2.2.2.2.2 _ (nb4 24 rfl rfl))) hce hcv hcl (lv_astore_n hE.1 hE.2.1 dL_told_12 rfl hl (by decide) rfl (fun ls hl => lv_iconst (v := nI 1) hE.1 hE.2.1 dL_told_13 (by decide) (W.widen (k := 4) (n := 24) (by omega) (by omega) (rg_iret hE hr rfl hlk hH (wP_no hsp hX (by decide)) dL_told_14))))) (fun r4 G4 iv4 jv4 H locs hp4 hH => ?_)
  obtain ⟨rfl, rfl, rfl, hsp⟩ := hp4
  refine lv_i2l (v := r4.toInt64) hE.1 hE.2.1 dL_told_7 rfl ?_
  refine rg_last hE hH (hO.1) (hO.2.1) (by rw [hO.2.2]; decide) (v := r4.toInt64) dL_told_8 (fun H locs hH => ?_)
  refine lv_goto (tgt := 15) hE.1 hE.2.1 dL_told_9 (by decide) ?_
  refine lv_iconst (v := nI 0) hE.1 hE.2.1 dL_told_15 (by decide) ?_
  refine W.widen (k := 4) (n := 24) (by omega) (by omega) ?_
  exact rg_iret hE hr rfl hlk hH (wP_rd hsp hX) dL_told_16
set_option maxRecDepth 100000 in
set_option maxHeartbeats 4000000 in
theorem c_L_run (l : Launch) (z : ZK) (hlt : l.stackTraces = false) (G : GW) (iv : IV) (jv : JV) (a : AS) (hX : CSt G iv jv a) (hO : isA G 50 14 1) (x y : Int32) : cH l z yL_run cL_run 5 (some .int) [(0, 10, 13, 19)] 9 153 4 24 [.ref (G.ad 100), .int (x), .int (y), .ref (G.ad 50)] G iv jv (wP a G iv jv (spRun a x y)) := by
  intro sz
  refine rh_entry rfl (Nat.le_of_ble_eq_true rfl) ?_
  intro pq eq sq mq bq methq cq ls hE hr hlk hml hnm hl hsz hxt hH
  have hl : lv_has ls 5 [(0, .ref (G.ad 100)), (1, .int (x)), (2, .int (y)), (3, .ref (G.ad 50))] := hl
  refine lv_aload_n hE.1 hE.2.1 dL_run_0 rfl (lv_at hl 3 rfl) ?_
  refine lv_iconst (v := nI 0) hE.1 hE.2.1 dL_run_1 (by decide) ?_
  refine lv_aload_n hE.1 hE.2.1 dL_run_2 rfl (lv_at hl 0 rfl) ?_
  refine lv_iload_n hE.1 hE.2.1 dL_run_3 rfl (lv_at hl 1 rfl) ?_
  refine lv_iload_n hE.1 hE.2.1 dL_run_4 rfl (lv_at hl 2 rfl) ?_
  refine rx_VI (As := [.int (x), .int (y)]) (rest := [.int (nI 0), .ref (G.ad 50)]) hE hml hH mc_L_53 (c_x_run l z hlt G iv jv a hX x y) (hX.1.1.1) (hX.1.1.2) (by decide) rfl ⟨Nat.le_of_ble_eq_true rfl, Nat.le_of_ble_eq_true rfl⟩ rfl hl.1 (by simp [Value.category]) dL_run_5 ⟨Nat.le_of_ble_eq_true rfl, Nat.le_of_ble_eq_true rfl⟩ (fun E ce q G' iv' jv' H locs hpx hH hce hcv hcl => by
    obtain ⟨rfl, rfl, rfl, rfl, hsp⟩ := hpx
    exact vx_catch (own := RL) (name := nNSE) hE.2.2.1 [] ⟨0, 10, 13, 19⟩ [] hxt (fun z hz => nomatch hz) (by decide) (by decide) (hE.2.2.2.1 _ (b4 13 rfl rfl)) (nw_use rfl (NWU hE.2.2.2.2.2 _ (nb4 24 rfl rfl))) hce hcv hcl (lv_astore hE.1 hE.2.1 dL_run_13 hl (by decide) rfl (fun ls hl => lv_iconst (v := nI 1) hE.1 hE.2.1 dL_run_15 (by decide) (W.widen (k := 4) (n := 24) (by omega) (by omega) (rg_iret hE hr rfl hlk hH (wP_no hsp hX (by decide)) dL_run_16))))) (fun r5 G5 iv5 jv5 H locs hp5 hH => ?_)
  obtain ⟨rfl, rfl, rfl, hsp⟩ := hp5
  refine lv_i2l (v := r5.toInt64) hE.1 hE.2.1 dL_run_8 rfl ?_
  refine rg_last hE hH (hO.1) (hO.2.1) (by rw [hO.2.2]; decide) (v := r5.toInt64) dL_run_9 (fun H locs hH => ?_)
  refine lv_goto (tgt := 17) hE.1 hE.2.1 dL_run_10 (by decide) ?_
  refine lv_iconst (v := nI 0) hE.1 hE.2.1 dL_run_17 (by decide) ?_
  refine W.widen (k := 4) (n := 24) (by omega) (by omega) ?_
  exact rg_iret hE hr rfl hlk hH (wP_rd hsp hX) dL_run_18
set_option maxRecDepth 100000 in
set_option maxHeartbeats 4000000 in
theorem c_L_fails (l : Launch) (z : ZK) (hlt : l.stackTraces = false) (G : GW) (iv : IV) (jv : JV) (a : AS) (hX : CSt G iv jv a) (hO : isA G 50 14 1) (x y : Int32) : cH l z yL_fails cL_fails 5 (some .int) [(0, 10, 13, 19)] 9 155 4 24 [.ref (G.ad 100), .int (x), .int (y), .ref (G.ad 50)] G iv jv (wP a G iv jv (spFails a x y)) := by
  intro sz
  refine rh_entry rfl (Nat.le_of_ble_eq_true rfl) ?_
  intro pq eq sq mq bq methq cq ls hE hr hlk hml hnm hl hsz hxt hH
  have hl : lv_has ls 5 [(0, .ref (G.ad 100)), (1, .int (x)), (2, .int (y)), (3, .ref (G.ad 50))] := hl
  refine lv_aload_n hE.1 hE.2.1 dL_fails_0 rfl (lv_at hl 3 rfl) ?_
  refine lv_iconst (v := nI 0) hE.1 hE.2.1 dL_fails_1 (by decide) ?_
  refine lv_aload_n hE.1 hE.2.1 dL_fails_2 rfl (lv_at hl 0 rfl) ?_
  refine lv_iload_n hE.1 hE.2.1 dL_fails_3 rfl (lv_at hl 1 rfl) ?_
  refine lv_iload_n hE.1 hE.2.1 dL_fails_4 rfl (lv_at hl 2 rfl) ?_
  refine rx_VI (As := [.int (x), .int (y)]) (rest := [.int (nI 0), .ref (G.ad 50)]) hE hml hH mc_L_56 (c_x_fails l z hlt G iv jv a hX x y) (hX.1.1.1) (hX.1.1.2) (by decide) rfl ⟨Nat.le_of_ble_eq_true rfl, Nat.le_of_ble_eq_true rfl⟩ rfl hl.1 (by simp [Value.category]) dL_fails_5 ⟨Nat.le_of_ble_eq_true rfl, Nat.le_of_ble_eq_true rfl⟩ (fun E ce q G' iv' jv' H locs hpx hH hce hcv hcl => by
    obtain ⟨rfl, rfl, rfl, rfl, hsp⟩ := hpx
    exact vx_catch (own := RL) (name := nNSE) hE.2.2.1 [] ⟨0, 10, 13, 19⟩ [] hxt (fun z hz => nomatch hz) (by decide) (by decide) (hE.2.2.2.1 _ (b4 13 rfl rfl)) (nw_use rfl (NWU hE.2.2.2.2.2 _ (nb4 24 rfl rfl))) hce hcv hcl (lv_astore hE.1 hE.2.1 dL_fails_13 hl (by decide) rfl (fun ls hl => lv_iconst (v := nI 1) hE.1 hE.2.1 dL_fails_15 (by decide) (W.widen (k := 4) (n := 24) (by omega) (by omega) (rg_iret hE hr rfl hlk hH (wP_no hsp hX (by decide)) dL_fails_16))))) (fun r5 G5 iv5 jv5 H locs hp5 hH => ?_)
  obtain ⟨rfl, rfl, rfl, hsp⟩ := hp5
  refine lv_i2l (v := r5.toInt64) hE.1 hE.2.1 dL_fails_8 rfl ?_
  refine rg_last hE hH (hO.1) (hO.2.1) (by rw [hO.2.2]; decide) (v := r5.toInt64) dL_fails_9 (fun H locs hH => ?_)
  refine lv_goto (tgt := 17) hE.1 hE.2.1 dL_fails_10 (by decide) ?_
  refine lv_iconst (v := nI 0) hE.1 hE.2.1 dL_fails_17 (by decide) ?_
  refine W.widen (k := 4) (n := 24) (by omega) (by omega) ?_
  exact rg_iret hE hr rfl hlk hH (wP_rd hsp hX) dL_fails_18
set_option maxRecDepth 100000 in
set_option maxHeartbeats 4000000 in
theorem c_L_failing (l : Launch) (z : ZK) (hlt : l.stackTraces = false) (G : GW) (iv : IV) (jv : JV) (a : AS) (hX : CSt G iv jv a) (hO : isA G 50 14 1) (x y : Int32) : cH l z yL_failing cL_failing 5 (some .int) [(0, 10, 13, 19)] 9 154 4 24 [.ref (G.ad 100), .int (x), .int (y), .ref (G.ad 50)] G iv jv (wP a G iv jv (spFailing a x y)) := by
  intro sz
  refine rh_entry rfl (Nat.le_of_ble_eq_true rfl) ?_
  intro pq eq sq mq bq methq cq ls hE hr hlk hml hnm hl hsz hxt hH
  have hl : lv_has ls 5 [(0, .ref (G.ad 100)), (1, .int (x)), (2, .int (y)), (3, .ref (G.ad 50))] := hl
  refine lv_aload_n hE.1 hE.2.1 dL_failing_0 rfl (lv_at hl 3 rfl) ?_
  refine lv_iconst (v := nI 0) hE.1 hE.2.1 dL_failing_1 (by decide) ?_
  refine lv_aload_n hE.1 hE.2.1 dL_failing_2 rfl (lv_at hl 0 rfl) ?_
  refine lv_iload_n hE.1 hE.2.1 dL_failing_3 rfl (lv_at hl 1 rfl) ?_
  refine lv_iload_n hE.1 hE.2.1 dL_failing_4 rfl (lv_at hl 2 rfl) ?_
  refine rx_VI (As := [.int (x), .int (y)]) (rest := [.int (nI 0), .ref (G.ad 50)]) hE hml hH mc_L_59 (c_x_failing l z hlt G iv jv a hX x y) (hX.1.1.1) (hX.1.1.2) (by decide) rfl ⟨Nat.le_of_ble_eq_true rfl, Nat.le_of_ble_eq_true rfl⟩ rfl hl.1 (by simp [Value.category]) dL_failing_5 ⟨Nat.le_of_ble_eq_true rfl, Nat.le_of_ble_eq_true rfl⟩ (fun E ce q G' iv' jv' H locs hpx hH hce hcv hcl => by
    obtain ⟨rfl, rfl, rfl, rfl, hsp⟩ := hpx
    exact vx_catch (own := RL) (name := nNSE) hE.2.2.1 [] ⟨0, 10, 13, 19⟩ [] hxt (fun z hz => nomatch hz) (by decide) (by decide) (hE.2.2.2.1 _ (b4 13 rfl rfl)) (nw_use rfl (NWU hE.2.2.2.2.2 _ (nb4 24 rfl rfl))) hce hcv hcl (lv_astore hE.1 hE.2.1 dL_failing_13 hl (by decide) rfl (fun ls hl => lv_iconst (v := nI 1) hE.1 hE.2.1 dL_failing_15 (by decide) (W.widen (k := 4) (n := 24) (by omega) (by omega) (rg_iret hE hr rfl hlk hH (wP_no hsp hX (by decide)) dL_failing_16))))) (fun r5 G5 iv5 jv5 H locs hp5 hH => ?_)
  obtain ⟨rfl, rfl, rfl, hsp⟩ := hp5
  refine lv_i2l (v := r5.toInt64) hE.1 hE.2.1 dL_failing_8 rfl ?_
  refine rg_last hE hH (hO.1) (hO.2.1) (by rw [hO.2.2]; decide) (v := r5.toInt64) dL_failing_9 (fun H locs hH => ?_)
  refine lv_goto (tgt := 17) hE.1 hE.2.1 dL_failing_10 (by decide) ?_
  refine lv_iconst (v := nI 0) hE.1 hE.2.1 dL_failing_17 (by decide) ?_
  refine W.widen (k := 4) (n := 24) (by omega) (by omega) ?_
  exact rg_iret hE hr rfl hlk hH (wP_rd hsp hX) dL_failing_18
set_option maxRecDepth 100000 in
set_option maxHeartbeats 4000000 in
theorem c_L_changed (l : Launch) (z : ZK) (hlt : l.stackTraces = false) (G : GW) (iv : IV) (jv : JV) (a : AS) (hX : CSt G iv jv a) (hO : isA G 50 14 1) (x y w : Int32) : cH l z yL_changed cL_changed 6 (some .int) [(0, 12, 15, 19), (0, 12, 19, 13)] 9 155 4 24 [.ref (G.ad 100), .int (x), .int (y), .int (w), .ref (G.ad 50)] G iv jv (wP a G iv jv (spChanged a x y w)) := by
  intro sz
  refine rh_entry rfl (Nat.le_of_ble_eq_true rfl) ?_
  intro pq eq sq mq bq methq cq ls hE hr hlk hml hnm hl hsz hxt hH
  have hl : lv_has ls 6 [(0, .ref (G.ad 100)), (1, .int (x)), (2, .int (y)), (3, .int (w)), (4, .ref (G.ad 50))] := hl
  refine lv_aload hE.1 hE.2.1 dL_changed_0 (lv_at hl 4 rfl) ?_
  refine lv_iconst (v := nI 0) hE.1 hE.2.1 dL_changed_2 (by decide) ?_
  refine lv_aload_n hE.1 hE.2.1 dL_changed_3 rfl (lv_at hl 0 rfl) ?_
  refine lv_iload_n hE.1 hE.2.1 dL_changed_4 rfl (lv_at hl 1 rfl) ?_
  refine lv_iload_n hE.1 hE.2.1 dL_changed_5 rfl (lv_at hl 2 rfl) ?_
  refine lv_iload_n hE.1 hE.2.1 dL_changed_6 rfl (lv_at hl 3 rfl) ?_
  refine rx_VI (As := [.int (x), .int (y), .int (w)]) (rest := [.int (nI 0), .ref (G.ad 50)]) hE hml hH mc_L_62 (c_x_changed l z hlt G iv jv a hX x y w) (hX.1.1.1) (hX.1.1.2) (by decide) rfl ⟨Nat.le_of_ble_eq_true rfl, Nat.le_of_ble_eq_true rfl⟩ rfl hl.1 (by simp [Value.category]) dL_changed_7 ⟨Nat.le_of_ble_eq_true rfl, Nat.le_of_ble_eq_true rfl⟩ (fun E ce q G' iv' jv' H locs hpx hH hce hcv hcl => by
    obtain ⟨rfl, rfl, rfl, ⟨rfl, hsp⟩ | ⟨rfl, hsp⟩⟩ := hpx
    · exact vx_catch (own := RL) (name := nNSE) hE.2.2.1 [] ⟨0, 12, 15, 19⟩ [⟨0, 12, 19, 13⟩] hxt (fun z hz => nomatch hz) (by decide) (by decide) (hE.2.2.2.1 _ (b4 13 rfl rfl)) (nw_use rfl (NWU hE.2.2.2.2.2 _ (nb4 24 rfl rfl))) hce hcv hcl (lv_astore hE.1 hE.2.1 dL_changed_15 hl (by decide) rfl (fun ls hl => lv_iconst (v := nI 1) hE.1 hE.2.1 dL_changed_17 (by decide) (W.widen (k := 4) (n := 24) (by omega) (by omega) (rg_iret hE hr rfl hlk hH (wP_no hsp hX (by decide)) dL_changed_18))))
    · exact vx_catch (own := RL) (name := nIAE) hE.2.2.1 [⟨0, 12, 15, 19⟩] ⟨0, 12, 19, 13⟩ [] hxt (fun z hz => by rcases List.mem_singleton.mp hz with rfl; exact Or.inr ⟨by decide, nNSE, hE.2.2.2.1 _ (b4 13 rfl rfl), hE.2.2.2.2.2.2.2.2.2.2.2.2⟩) (by decide) (by decide) (hE.2.2.2.1 _ (b2 14 rfl rfl)) (nw_use rfl (NWU hE.2.2.2.2.2 _ (nb2 25 rfl rfl))) hce hcv hcl (lv_astore hE.1 hE.2.1 dL_changed_19 hl (by decide) rfl (fun ls hl => lv_iconst (v := nI 2) hE.1 hE.2.1 dL_changed_21 (by decide) (W.widen (k := 4) (n := 24) (by omega) (by omega) (rg_iret hE hr rfl hlk hH (wP_no hsp hX (by decide)) dL_changed_22))))) (fun r7 G7 iv7 jv7 H locs hp7 hH => ?_)
  obtain ⟨rfl, rfl, rfl, hsp⟩ := hp7
  refine lv_i2l (v := r7.toInt64) hE.1 hE.2.1 dL_changed_10 rfl ?_
  refine rg_last hE hH (hO.1) (hO.2.1) (by rw [hO.2.2]; decide) (v := r7.toInt64) dL_changed_11 (fun H locs hH => ?_)
  refine lv_goto (tgt := 23) hE.1 hE.2.1 dL_changed_12 (by decide) ?_
  refine lv_iconst (v := nI 0) hE.1 hE.2.1 dL_changed_23 (by decide) ?_
  refine W.widen (k := 4) (n := 24) (by omega) (by omega) ?_
  exact rg_iret hE hr rfl hlk hH (wP_rd hsp hX) dL_changed_24
set_option maxRecDepth 100000 in
set_option maxHeartbeats 4000000 in
theorem c_L_count (l : Launch) (z : ZK) (hlt : l.stackTraces = false) (G : GW) (iv : IV) (jv : JV) (a : AS) (hX : CSt G iv jv a) (hO : isA G 50 14 1) (x : Int32) : cH l z yL_count cL_count 4 (some .int) [(0, 9, 12, 19)] 9 151 4 24 [.ref (G.ad 100), .int (x), .ref (G.ad 50)] G iv jv (wP a G iv jv (spCount a x)) := by
  intro sz
  refine rh_entry rfl (Nat.le_of_ble_eq_true rfl) ?_
  intro pq eq sq mq bq methq cq ls hE hr hlk hml hnm hl hsz hxt hH
  have hl : lv_has ls 4 [(0, .ref (G.ad 100)), (1, .int (x)), (2, .ref (G.ad 50))] := hl
  refine lv_aload_n hE.1 hE.2.1 dL_count_0 rfl (lv_at hl 2 rfl) ?_
  refine lv_iconst (v := nI 0) hE.1 hE.2.1 dL_count_1 (by decide) ?_
  refine lv_aload_n hE.1 hE.2.1 dL_count_2 rfl (lv_at hl 0 rfl) ?_
  refine lv_iload_n hE.1 hE.2.1 dL_count_3 rfl (lv_at hl 1 rfl) ?_
  refine rx_VI (As := [.int (x)]) (rest := [.int (nI 0), .ref (G.ad 50)]) hE hml hH mc_L_65 (c_x_count l z hlt G iv jv a hX x) (hX.1.1.1) (hX.1.1.2) (by decide) rfl ⟨Nat.le_of_ble_eq_true rfl, Nat.le_of_ble_eq_true rfl⟩ rfl hl.1 (by simp [Value.category]) dL_count_4 ⟨Nat.le_of_ble_eq_true rfl, Nat.le_of_ble_eq_true rfl⟩ (fun E ce q G' iv' jv' H locs hpx hH hce hcv hcl => by
    obtain ⟨rfl, rfl, rfl, rfl, hsp⟩ := hpx
    exact vx_catch (own := RL) (name := nNSE) hE.2.2.1 [] ⟨0, 9, 12, 19⟩ [] hxt (fun z hz => nomatch hz) (by decide) (by decide) (hE.2.2.2.1 _ (b4 13 rfl rfl)) (nw_use rfl (NWU hE.2.2.2.2.2 _ (nb4 24 rfl rfl))) hce hcv hcl (lv_astore_n hE.1 hE.2.1 dL_count_12 rfl hl (by decide) rfl (fun ls hl => lv_iconst (v := nI 1) hE.1 hE.2.1 dL_count_13 (by decide) (W.widen (k := 4) (n := 24) (by omega) (by omega) (rg_iret hE hr rfl hlk hH (wP_no hsp hX (by decide)) dL_count_14))))) (fun r4 G4 iv4 jv4 H locs hp4 hH => ?_)
  obtain ⟨rfl, rfl, rfl, hsp⟩ := hp4
  refine lv_i2l (v := r4.toInt64) hE.1 hE.2.1 dL_count_7 rfl ?_
  refine rg_last hE hH (hO.1) (hO.2.1) (by rw [hO.2.2]; decide) (v := r4.toInt64) dL_count_8 (fun H locs hH => ?_)
  refine lv_goto (tgt := 15) hE.1 hE.2.1 dL_count_9 (by decide) ?_
  refine lv_iconst (v := nI 0) hE.1 hE.2.1 dL_count_15 (by decide) ?_
  refine W.widen (k := 4) (n := 24) (by omega) (by omega) ?_
  exact rg_iret hE hr rfl hlk hH (wP_rd hsp hX) dL_count_16
