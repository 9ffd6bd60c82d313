set_option maxRecDepth 100000 in
set_option maxHeartbeats 4000000 in
theorem c_x_run (l : Launch) (z : ZK) (hlt : l.stackTraces = false) (G : GW) (iv : IV) (jv : JV) (a : AS) (hX : CSt G iv jv a) (x y : Int32) : cXI l z yX10_run cX10_run 4 (some .int) 8 130 4 24 [.ref (G.ad 100), .int (x), .int (y)] G iv jv (fun r G' iv' jv' => G = G' ∧ iv = iv' ∧ jv = jv' ∧ spRun a x y = ok r a) (fun E G' iv' jv' => G = G' ∧ iv = iv' ∧ jv = jv' ∧ E = nNSE ∧ spRun a x y = no 1 a) := by
  intro sz
  refine rx_entry rfl (Nat.le_of_ble_eq_true rfl) ?_
  intro pq eq sq mq bq methq cq ls hE hr hlk hml hnm hl hsz hxt hH
  have hl : lv_has ls 4 [(0, .ref (G.ad 100)), (1, .int (x)), (2, .int (y))] := hl
  refine lv_aload_n hE.1 hE.2.1 dX10_run_0 rfl (lv_at hl 0 rfl) ?_
  refine lv_iload_n hE.1 hE.2.1 dX10_run_1 rfl (lv_at hl 1 rfl) ?_
  refine rx_VR (As := [.int (x)]) (rest := []) hE hml hH mc_X10_217 (c_x_prg l z hlt G iv jv a hX x) (hX.1.1.1) (hX.1.1.2) (by decide) rfl ⟨Nat.le_of_ble_eq_true rfl, Nat.le_of_ble_eq_true rfl⟩ rfl hl.1 (by simp [Value.category]) dX10_run_2 ⟨Nat.le_of_ble_eq_true rfl, Nat.le_of_ble_eq_true rfl⟩ (fun E ce q G' iv' jv' H locs hpx hH hce hcv hcl => rx_out hE hH hxt hlk hce hcv hcl (Nat.le_of_ble_eq_true rfl) (Nat.le_of_ble_eq_true rfl) (by obtain ⟨rfl, rfl, rfl, rfl, hcx⟩ := hpx; exact ⟨rfl, rfl, rfl, rfl, by rw [spRun, onK_f hcx]⟩)) (fun r2 G2 iv2 jv2 H locs hp2 hH => ?_)
  obtain ⟨rfl, rfl, rfl, hin2, rfl⟩ := hp2
  obtain ⟨P, hP, rfl⟩ := inI_of (n := (aP a).length) (by have := hX.2.2.2.2.1.2.1; have := hX.2.2.2.2.2.1.2.1; omega) hin2
  rw [cl_nI (by have := hX.2.2.2.2.1.2.1; have := hX.2.2.2.2.2.1.2.1; omega)]
  have hPr := hX.2.2.2.2.2.1.2.2 P hP
  obtain ⟨-, hT, hPg0, hg, hpa⟩ := hPr
  have hPg1 := hPg0
  obtain ⟨⟨mp, kp⟩, hP1, q0, q1⟩ := hPg1
  obtain ⟨-, hTb0, hLy, hTd, hk, hW⟩ := hX.2.2.2.2.1.2.2 (aPg a P).1 hT
  have hTb1 := hTb0
  obtain ⟨⟨mt, kt⟩, hL, hCa, hA10, hA11, hA12, hA13, hA14, hA15, hA16, hA17, hTm0, r0, r2, r3, r4, r5, r6, r8, r9, r11, r13, r14⟩ := hTb1
  obtain ⟨h1, hCV, ⟨h7, hdn, hho⟩, hQL, ⟨hid, h12⟩, hV, hon, hTK, h15⟩ := hTd
  have hTm1 := hTm0
  obtain ⟨⟨mu, ku⟩, hB1, hB2, hB3, hBi, hB10, hB11, hB12, hB13, hB14, s0, s1, s3, s4, s5, s6, s7, s8⟩ := hTm1
  have hm5 := hk.2.1
  have hm1 := hk.1
  have hC4 := hk.2.2.2.1
  have hR40 := hk.2.2.2.2.2.2.1
  have hT8 := tT_le hk
  have hnh := nHo_le hk
  have hql := qL_len hk
  have hrl := rule_len hk
  have hol := offers_len hk
  have hT6 : (aT a).length < 2147483648 := by have := hX.2.2.2.2.1.2.1; omega
  have l10 := hA10.2.2
  have l11 := hA11.2.2
  have l12 := hA12.2.2
  have l13 := hA13.2.2
  have l14 := hA14.2.2
  have l15 := hA15.2.2
  have l16 := hA16.2.2
  have l17 := hA17.2.2
  have l32b := hB12.2.2
  have lP1 := hP1.2.2
  have hP6 : (aP a).length < 2147483648 := by have := hX.2.2.2.2.2.1.2.1; omega
  have hO6 := hk.2.2.2.2.2.1
  refine lv_astore_n (lv' := [(3, .ref (G.ad (gL P))), (0, .ref (G.ad 100)), (1, .int (nI P)), (2, .int (y))]) hE.1 hE.2.1 dX10_run_5 rfl hl (by decide) rfl (fun ls hl => ?_)
  refine lv_iload_n hE.1 hE.2.1 dX10_run_6 rfl (lv_at hl 3 rfl) ?_
  refine lv_aload_n hE.1 hE.2.1 dX10_run_7 rfl (lv_at hl 0 rfl) ?_
  refine rg_getr hE hH cf_X5 fl_X10_221 rfl (mp) (kp) (v := tL (aPg a P).1) (q0) dX10_run_8 ?_
  refine rg_geti hE hH cf_X7 fl_X10_106 rfl (mt) (kt) (v := nI (tC (aTb a (aPg a P).1))) (h1) dX10_run_11 ?_
  refine rx_SV (As := [.int (y), .int (nI (tC (aTb a (aPg a P).1)))]) (rest := []) hE hml hH mc_X10_147 (c_x_below l z hlt G iv jv y (tC (aTb a (aPg a P).1))) rfl ⟨Nat.le_of_ble_eq_true rfl, Nat.le_of_ble_eq_true rfl⟩ rfl hl.1 (by simp [Value.category]) dX10_run_14 ⟨Nat.le_of_ble_eq_true rfl, Nat.le_of_ble_eq_true rfl⟩ (fun E ce q G' iv' jv' H locs hpx hH hce hcv hcl => rx_out hE hH hxt hlk hce hcv hcl (Nat.le_of_ble_eq_true rfl) (Nat.le_of_ble_eq_true rfl) (by obtain ⟨rfl, rfl, rfl, rfl, hcx⟩ := hpx; exact ⟨rfl, rfl, rfl, rfl, by rw [spRun, onK_t hP hP6, onK_f hcx]⟩)) (fun G14 iv14 jv14 H locs hp14 hH => ?_)
  obtain ⟨rfl, rfl, rfl, hq14⟩ := hp14
  obtain ⟨c, hc, rfl⟩ := inI_of (n := tC (aTb a (aPg a P).1)) (by omega) hq14
  refine lv_aload_n hE.1 hE.2.1 dX10_run_17 rfl (lv_at hl 0 rfl) ?_
  refine rg_getr hE hH cf_X5 fl_X10_225 rfl (mp) (kp) (v := gL P + 1) (q1) dX10_run_18 ?_
  refine lv_iload_n hE.1 hE.2.1 dX10_run_21 rfl (lv_at hl 3 rfl) ?_
  refine rg_iald hE hH (hP1.1) (hP1.2.1) (by rw [lP1]; exact hc) (v := nI (pAns (aTb a (aPg a P).1) (aPg a P).2 c)) (hpa c hc) dX10_run_22 ?_
  refine W.widen (k := 4) (n := 24) (Nat.le_of_ble_eq_true rfl) (Nat.le_of_ble_eq_true rfl) ?_
  exact vx_ret (rg_iret hE hr rfl hlk hH ⟨rfl, rfl, rfl, by rw [spRun, onK_t hP hP6, onK_t hc (by omega)]⟩ dX10_run_23)
set_option maxRecDepth 100000 in
set_option maxHeartbeats 4000000 in
theorem c_x_fails (l : Launch) (z : ZK) (hlt : l.stackTraces = false) (G : GW) (iv : IV) (jv : JV) (a : AS) (hX : CSt G iv jv a) (x y : Int32) : cXI l z yX10_fails cX10_fails 6 (some .int) 8 130 4 24 [.ref (G.ad 100), .int (x), .int (y)] G iv jv (fun r G' iv' jv' => G = G' ∧ iv = iv' ∧ jv = jv' ∧ spFails a x y = ok r a) (fun E G' iv' jv' => G = G' ∧ iv = iv' ∧ jv = jv' ∧ E = nNSE ∧ spFails a x y = no 1 a) := by
  intro sz
  refine rx_entry rfl (Nat.le_of_ble_eq_true rfl) ?_
  intro pq eq sq mq bq methq cq ls hE hr hlk hml hnm hl hsz hxt hH
  have hl : lv_has ls 6 [(0, .ref (G.ad 100)), (1, .int (x)), (2, .int (y))] := hl
  refine lv_aload_n hE.1 hE.2.1 dX10_fails_0 rfl (lv_at hl 0 rfl) ?_
  refine lv_iload_n hE.1 hE.2.1 dX10_fails_1 rfl (lv_at hl 1 rfl) ?_
  refine rx_VR (As := [.int (x)]) (rest := []) hE hml hH mc_X10_217 (c_x_prg l z hlt G iv jv a hX x) (hX.1.1.1) (hX.1.1.2) (by decide) rfl ⟨Nat.le_of_ble_eq_true rfl, Nat.le_of_ble_eq_true rfl⟩ rfl hl.1 (by simp [Value.category]) dX10_fails_2 ⟨Nat.le_of_ble_eq_true rfl, Nat.le_of_ble_eq_true rfl⟩ (fun E ce q G' iv' jv' H locs hpx hH hce hcv hcl => rx_out hE hH hxt hlk hce hcv hcl (Nat.le_of_ble_eq_true rfl) (Nat.le_of_ble_eq_true rfl) (by obtain ⟨rfl, rfl, rfl, rfl, hcx⟩ := hpx; exact ⟨rfl, rfl, rfl, rfl, by rw [spFails, onK_f hcx]⟩)) (fun r2 G2 iv2 jv2 H locs hp2 hH => ?_)
  obtain ⟨rfl, rfl, rfl, hin2, rfl⟩ := hp2
  obtain ⟨P, hP, rfl⟩ := inI_of (n := (aP a).length) (by have := hX.2.2.2.2.1.2.1; have := hX.2.2.2.2.2.1.2.1; omega) hin2
  rw [cl_nI (by have := hX.2.2.2.2.1.2.1; have := hX.2.2.2.2.2.1.2.1; omega)]
  have hPr := hX.2.2.2.2.2.1.2.2 P hP
  obtain ⟨-, hT, hPg0, hg, hpa⟩ := hPr
  have hPg1 := hPg0
  obtain ⟨⟨mp, kp⟩, hP1, q0, q1⟩ := hPg1
  obtain ⟨-, hTb0, hLy, hTd, hk, hW⟩ := hX.2.2.2.2.1.2.2 (aPg a P).1 hT
  have hTb1 := hTb0
  obtain ⟨⟨mt, kt⟩, hL, hCa, hA10, hA11, hA12, hA13, hA14, hA15, hA16, hA17, hTm0, r0, r2, r3, r4, r5, r6, r8, r9, r11, r13, r14⟩ := hTb1
  obtain ⟨h1, hCV, ⟨h7, hdn, hho⟩, hQL, ⟨hid, h12⟩, hV, hon, hTK, h15⟩ := hTd
  have hTm1 := hTm0
  obtain ⟨⟨mu, ku⟩, hB1, hB2, hB3, hBi, hB10, hB11, hB12, hB13, hB14, s0, s1, s3, s4, s5, s6, s7, s8⟩ := hTm1
  have hm5 := hk.2.1
  have hm1 := hk.1
  have hC4 := hk.2.2.2.1
  have hR40 := hk.2.2.2.2.2.2.1
  have hT8 := tT_le hk
  have hnh := nHo_le hk
  have hql := qL_len hk
  have hrl := rule_len hk
  have hol := offers_len hk
  have hT6 : (aT a).length < 2147483648 := by have := hX.2.2.2.2.1.2.1; omega
  have l10 := hA10.2.2
  have l11 := hA11.2.2
  have l12 := hA12.2.2
  have l13 := hA13.2.2
  have l14 := hA14.2.2
  have l15 := hA15.2.2
  have l16 := hA16.2.2
  have l17 := hA17.2.2
  have l32b := hB12.2.2
  have lP1 := hP1.2.2
  have hP6 : (aP a).length < 2147483648 := by have := hX.2.2.2.2.2.1.2.1; omega
  have hO6 := hk.2.2.2.2.2.1
  refine lv_astore_n (lv' := [(3, .ref (G.ad (gL P))), (0, .ref (G.ad 100)), (1, .int (nI P)), (2, .int (y))]) hE.1 hE.2.1 dX10_fails_5 rfl hl (by decide) rfl (fun ls hl => ?_)
  refine lv_aload_n hE.1 hE.2.1 dX10_fails_6 rfl (lv_at hl 0 rfl) ?_
  refine rg_getr hE hH cf_X5 fl_X10_221 rfl (mp) (kp) (v := tL (aPg a P).1) (q0) dX10_fails_7 ?_
  refine lv_iload_n hE.1 hE.2.1 dX10_fails_10 rfl (lv_at hl 3 rfl) ?_
  refine rx_SV (As := [.ref (G.ad (tL (aPg a P).1)), .int (y)]) (rest := []) hE hml hH mc_X10_226 (c_x_row l z hlt G iv jv (tL (aPg a P).1) (bL (aPg a P).1) (aTb a (aPg a P).1) hTb0 hLy.2.2.1 y) rfl ⟨Nat.le_of_ble_eq_true rfl, Nat.le_of_ble_eq_true rfl⟩ rfl hl.1 (by simp [Value.category]) dX10_fails_11 ⟨Nat.le_of_ble_eq_true rfl, Nat.le_of_ble_eq_true rfl⟩ (fun E ce q G' iv' jv' H locs hpx hH hce hcv hcl => rx_out hE hH hxt hlk hce hcv hcl (Nat.le_of_ble_eq_true rfl) (Nat.le_of_ble_eq_true rfl) (by obtain ⟨rfl, rfl, rfl, rfl, hcy, hcx⟩ := hpx; exact ⟨rfl, rfl, rfl, rfl, by rw [spFails, onK_t hP hP6, onM_f hcy hcx]⟩)) (fun G11 iv11 jv11 H locs hp11 hH => ?_)
  obtain ⟨rfl, rfl, rfl, hq11⟩ := hp11
  obtain ⟨o, rfl, hor⟩ : ∃ o : Option Nat, y = oI o ∧ ∀ f : Option Nat → RS, onM a y (tR (aTb a (aPg a P).1)) f = f o := by
    rcases hq11 with h | h
    · exact ⟨none, h, fun f => onM_n h⟩
    · obtain ⟨j, hj, rfl⟩ := inI_of (by omega) h
      exact ⟨some j, rfl, fun f => onM_s hj (by omega)⟩
  refine lv_iconst (v := nI 0) hE.1 hE.2.1 dX10_fails_14 (by decide) ?_
  refine lv_istore (lv' := [(4, .int (nI 0)), (3, .ref (G.ad (gL P))), (0, .ref (G.ad 100)), (1, .int (nI P)), (2, .int (oI o))]) hE.1 hE.2.1 dX10_fails_15 hl (by decide) rfl (fun ls hl => ?_)
  refine lv_iconst (v := nI 0) hE.1 hE.2.1 dX10_fails_17 (by decide) ?_
  refine lv_istore (lv' := [(5, .int (nI 0)), (4, .int (nI 0)), (3, .ref (G.ad (gL P))), (0, .ref (G.ad 100)), (1, .int (nI P)), (2, .int (oI o))]) hE.1 hE.2.1 dX10_fails_18 hl (by decide) rfl (fun ls hl => ?_)
  refine rg_loop (σ := Nat) (nL := 6) (fun (c : Nat) => tC (aTb a (aPg a P).1) - c) (fun (c : Nat) => [(0, .ref (G.ad 100)), (2, .int (oI o)), (3, .ref (G.ad (gL P))), (4, .int (nI (cntN (fun c => pFail (aTb a (aPg a P).1) (aPg a P).2 (oI o) c) c))), (5, .int (nI c))]) (fun (c : Nat) => G) (fun (c : Nat) => iv) (fun (c : Nat) => jv) (fun (c : Nat) => c ≤ tC (aTb a (aPg a P).1)) ?_ (0) (Nat.zero_le _) (lv_sub hl [3, 5, 2, 1, 0] rfl) hH
  rintro c H locs ls hcC hl hH ih20
  try dsimp only at hl hH ih20
  refine lv_iload hE.1 hE.2.1 dX10_fails_20 (lv_at hl 4 rfl) ?_
  refine lv_aload_n hE.1 hE.2.1 dX10_fails_22 rfl (lv_at hl 2 rfl) ?_
  refine rg_getr hE hH cf_X5 fl_X10_221 rfl (mp) (kp) (v := tL (aPg a P).1) (q0) dX10_fails_23 ?_
  refine rg_geti hE hH cf_X7 fl_X10_106 rfl (mt) (kt) (v := nI (tC (aTb a (aPg a P).1))) (h1) dX10_fails_26 ?_
  refine rn_icmp_ge (tgt := 51) hE dX10_fails_29 (by decide) (by omega) (by omega) (fun c29 => ?_) (fun c29 => ?_)
  · have hce : c = tC (aTb a (aPg a P).1) := by omega
    subst hce
    refine lv_iload hE.1 hE.2.1 dX10_fails_51 (lv_at hl 3 rfl) ?_
    refine W.widen (k := 4) (n := 24) (Nat.le_of_ble_eq_true rfl) (Nat.le_of_ble_eq_true rfl) ?_
    exact vx_ret (rg_iret hE hr rfl hlk hH ⟨rfl, rfl, rfl, by rw [spFails, onK_t hP hP6, hor]⟩ dX10_fails_53)
  · refine lv_aload_n hE.1 hE.2.1 dX10_fails_32 rfl (lv_at hl 2 rfl) ?_
    refine lv_iload hE.1 hE.2.1 dX10_fails_33 (lv_at hl 4 rfl) ?_
    refine lv_iload_n hE.1 hE.2.1 dX10_fails_35 rfl (lv_at hl 1 rfl) ?_
    refine rg_VI (As := [.int (nI c), .int (oI o)]) (rest := []) hE hml hH mc_X10_229 (c_Pg_fail l z G iv jv (gL P) (tL (aPg a P).1) (bL (aPg a P).1) (aTb a (aPg a P).1) hk hTb0 hPg0 (aPg a P).2 hg c (by omega) (oI o) ⟨(hdn c (by omega)).1, (hdn c (by omega)).2.1⟩ (hpa c (show c < tC (aTb a (aPg a P).1) by omega))) (mp) (kp) (by decide) rfl ⟨Nat.le_of_ble_eq_true rfl, Nat.le_of_ble_eq_true rfl⟩ rfl hl.1 (by simp [Value.category]) dX10_fails_36 ⟨Nat.le_of_ble_eq_true rfl, Nat.le_of_ble_eq_true rfl⟩ (fun r36 G36 iv36 jv36 H locs hp36 hH => ?_)
    obtain ⟨rfl, rfl, rfl, rfl⟩ := hp36
    refine rn_ifb_eq (tgt := 45) hE dX10_fails_39 (by decide) (fun c39 => ?_) (fun c39 => ?_)
    · have hl : lv_has ls 6 [(0, .ref (G.ad 100)), (2, .int (oI o)), (3, .ref (G.ad (gL P))), (4, .int (nI (cntN (fun c => pFail (aTb a (aPg a P).1) (aPg a P).2 (oI o) c) (c + 1)))), (5, .int (nI c))] := by rw [cntN, if_neg (by rw [c39]; decide)]; exact hl
      refine lv_iinc (v := nI (c + 1)) (lv' := [(5, .int (nI (c + 1))), (0, .ref (G.ad 100)), (2, .int (oI o)), (3, .ref (G.ad (gL P))), (4, .int (nI (cntN (fun c => pFail (aTb a (aPg a P).1) (aPg a P).2 (oI o) c) (c + 1))))]) hE.1 hE.2.1 dX10_fails_45 hl (k := 4) rfl (nI_1 _) (by decide) rfl (fun ls hl => ?_)
      refine lv_goto (tgt := 20) hE.1 hE.2.1 dX10_fails_48 (by decide) ?_
      exact ih20 (c + 1) _ _ _ (by omega) (by omega) (lv_sub hl [1, 2, 3, 4, 0] rfl) hH
    · refine lv_iinc (v := nI (cntN (fun c => pFail (aTb a (aPg a P).1) (aPg a P).2 (oI o) c) c + 1)) (lv' := [(4, .int (nI (cntN (fun c => pFail (aTb a (aPg a P).1) (aPg a P).2 (oI o) c) c + 1))), (0, .ref (G.ad 100)), (2, .int (oI o)), (3, .ref (G.ad (gL P))), (5, .int (nI c))]) hE.1 hE.2.1 dX10_fails_42 hl (k := 3) rfl (nI_1 _) (by decide) rfl (fun ls hl => ?_)
      have hl : lv_has ls 6 [(4, .int (nI (cntN (fun c => pFail (aTb a (aPg a P).1) (aPg a P).2 (oI o) c) (c + 1)))), (0, .ref (G.ad 100)), (2, .int (oI o)), (3, .ref (G.ad (gL P))), (5, .int (nI c))] := by rw [cntN, if_pos c39]; exact hl
      refine lv_iinc (v := nI (c + 1)) (lv' := [(5, .int (nI (c + 1))), (4, .int (nI (cntN (fun c => pFail (aTb a (aPg a P).1) (aPg a P).2 (oI o) c) (c + 1)))), (0, .ref (G.ad 100)), (2, .int (oI o)), (3, .ref (G.ad (gL P)))]) hE.1 hE.2.1 dX10_fails_45 hl (k := 4) rfl (nI_1 _) (by decide) rfl (fun ls hl => ?_)
      refine lv_goto (tgt := 20) hE.1 hE.2.1 dX10_fails_48 (by decide) ?_
      exact ih20 (c + 1) _ _ _ (by omega) (by omega) (lv_sub hl [2, 3, 4, 1, 0] rfl) hH
set_option maxRecDepth 100000 in
set_option maxHeartbeats 4000000 in
theorem c_x_failing (l : Launch) (z : ZK) (hlt : l.stackTraces = false) (G : GW) (iv : IV) (jv : JV) (a : AS) (hX : CSt G iv jv a) (x y : Int32) : cXI l z yX10_failing cX10_failing 5 (some .int) 8 130 4 24 [.ref (G.ad 100), .int (x), .int (y)] G iv jv (fun r G' iv' jv' => G = G' ∧ iv = iv' ∧ jv = jv' ∧ spFailing a x y = ok r a) (fun E G' iv' jv' => G = G' ∧ iv = iv' ∧ jv = jv' ∧ E = nNSE ∧ spFailing a x y = no 1 a) := by
  intro sz
  refine rx_entry rfl (Nat.le_of_ble_eq_true rfl) ?_
  intro pq eq sq mq bq methq cq ls hE hr hlk hml hnm hl hsz hxt hH
  have hl : lv_has ls 5 [(0, .ref (G.ad 100)), (1, .int (x)), (2, .int (y))] := hl
  refine lv_aload_n hE.1 hE.2.1 dX10_failing_0 rfl (lv_at hl 0 rfl) ?_
  refine lv_iload_n hE.1 hE.2.1 dX10_failing_1 rfl (lv_at hl 1 rfl) ?_
  refine rx_VR (As := [.int (x)]) (rest := []) hE hml hH mc_X10_217 (c_x_prg l z hlt G iv jv a hX x) (hX.1.1.1) (hX.1.1.2) (by decide) rfl ⟨Nat.le_of_ble_eq_true rfl, Nat.le_of_ble_eq_true rfl⟩ rfl hl.1 (by simp [Value.category]) dX10_failing_2 ⟨Nat.le_of_ble_eq_true rfl, Nat.le_of_ble_eq_true rfl⟩ (fun E ce q G' iv' jv' H locs hpx hH hce hcv hcl => rx_out hE hH hxt hlk hce hcv hcl (Nat.le_of_ble_eq_true rfl) (Nat.le_of_ble_eq_true rfl) (by obtain ⟨rfl, rfl, rfl, rfl, hcx⟩ := hpx; exact ⟨rfl, rfl, rfl, rfl, by rw [spFailing, onK_f hcx]⟩)) (fun r2 G2 iv2 jv2 H locs hp2 hH => ?_)
  obtain ⟨rfl, rfl, rfl, hin2, rfl⟩ := hp2
  obtain ⟨P, hP, rfl⟩ := inI_of (n := (aP a).length) (by have := hX.2.2.2.2.1.2.1; have := hX.2.2.2.2.2.1.2.1; omega) hin2
  rw [cl_nI (by have := hX.2.2.2.2.1.2.1; have := hX.2.2.2.2.2.1.2.1; omega)]
  have hPr := hX.2.2.2.2.2.1.2.2 P hP
  obtain ⟨-, hT, hPg0, hg, hpa⟩ := hPr
  have hPg1 := hPg0
  obtain ⟨⟨mp, kp⟩, hP1, q0, q1⟩ := hPg1
  obtain ⟨-, hTb0, hLy, hTd, hk, hW⟩ := hX.2.2.2.2.1.2.2 (aPg a P).1 hT
  have hTb1 := hTb0
  obtain ⟨⟨mt, kt⟩, hL, hCa, hA10, hA11, hA12, hA13, hA14, hA15, hA16, hA17, hTm0, r0, r2, r3, r4, r5, r6, r8, r9, r11, r13, r14⟩ := hTb1
  obtain ⟨h1, hCV, ⟨h7, hdn, hho⟩, hQL, ⟨hid, h12⟩, hV, hon, hTK, h15⟩ := hTd
  have hTm1 := hTm0
  obtain ⟨⟨mu, ku⟩, hB1, hB2, hB3, hBi, hB10, hB11, hB12, hB13, hB14, s0, s1, s3, s4, s5, s6, s7, s8⟩ := hTm1
  have hm5 := hk.2.1
  have hm1 := hk.1
  have hC4 := hk.2.2.2.1
  have hR40 := hk.2.2.2.2.2.2.1
  have hT8 := tT_le hk
  have hnh := nHo_le hk
  have hql := qL_len hk
  have hrl := rule_len hk
  have hol := offers_len hk
  have hT6 : (aT a).length < 2147483648 := by have := hX.2.2.2.2.1.2.1; omega
  have l10 := hA10.2.2
  have l11 := hA11.2.2
  have l12 := hA12.2.2
  have l13 := hA13.2.2
  have l14 := hA14.2.2
  have l15 := hA15.2.2
  have l16 := hA16.2.2
  have l17 := hA17.2.2
  have l32b := hB12.2.2
  have lP1 := hP1.2.2
  have hP6 : (aP a).length < 2147483648 := by have := hX.2.2.2.2.2.1.2.1; omega
  have hO6 := hk.2.2.2.2.2.1
  refine lv_astore_n (lv' := [(3, .ref (G.ad (gL P))), (0, .ref (G.ad 100)), (1, .int (nI P)), (2, .int (y))]) hE.1 hE.2.1 dX10_failing_5 rfl hl (by decide) rfl (fun ls hl => ?_)
  refine lv_aload_n hE.1 hE.2.1 dX10_failing_6 rfl (lv_at hl 0 rfl) ?_
  refine rg_getr hE hH cf_X5 fl_X10_221 rfl (mp) (kp) (v := tL (aPg a P).1) (q0) dX10_failing_7 ?_
  refine lv_iload_n hE.1 hE.2.1 dX10_failing_10 rfl (lv_at hl 3 rfl) ?_
  refine rx_SV (As := [.ref (G.ad (tL (aPg a P).1)), .int (y)]) (rest := []) hE hml hH mc_X10_226 (c_x_row l z hlt G iv jv (tL (aPg a P).1) (bL (aPg a P).1) (aTb a (aPg a P).1) hTb0 hLy.2.2.1 y) rfl ⟨Nat.le_of_ble_eq_true rfl, Nat.le_of_ble_eq_true rfl⟩ rfl hl.1 (by simp [Value.category]) dX10_failing_11 ⟨Nat.le_of_ble_eq_true rfl, Nat.le_of_ble_eq_true rfl⟩ (fun E ce q G' iv' jv' H locs hpx hH hce hcv hcl => rx_out hE hH hxt hlk hce hcv hcl (Nat.le_of_ble_eq_true rfl) (Nat.le_of_ble_eq_true rfl) (by obtain ⟨rfl, rfl, rfl, rfl, hcy, hcx⟩ := hpx; exact ⟨rfl, rfl, rfl, rfl, by rw [spFailing, onK_t hP hP6, onM_f hcy hcx]⟩)) (fun G11 iv11 jv11 H locs hp11 hH => ?_)
  obtain ⟨rfl, rfl, rfl, hq11⟩ := hp11
  obtain ⟨o, rfl, hor⟩ : ∃ o : Option Nat, y = oI o ∧ ∀ f : Option Nat → RS, onM a y (tR (aTb a (aPg a P).1)) f = f o := by
    rcases hq11 with h | h
    · exact ⟨none, h, fun f => onM_n h⟩
    · obtain ⟨j, hj, rfl⟩ := inI_of (by omega) h
      exact ⟨some j, rfl, fun f => onM_s hj (by omega)⟩
  refine lv_iconst (v := nI 0) hE.1 hE.2.1 dX10_failing_14 (by decide) ?_
  refine lv_istore (lv' := [(4, .int (nI 0)), (3, .ref (G.ad (gL P))), (0, .ref (G.ad 100)), (1, .int (nI P)), (2, .int (oI o))]) hE.1 hE.2.1 dX10_failing_15 hl (by decide) rfl (fun ls hl => ?_)
  refine rg_loop (σ := Nat) (nL := 5) (fun (c : Nat) => tC (aTb a (aPg a P).1) - c) (fun (c : Nat) => [(0, .ref (G.ad 100)), (2, .int (oI o)), (3, .ref (G.ad (gL P))), (4, .int (nI c))]) (fun (c : Nat) => G) (fun (c : Nat) => iv) (fun (c : Nat) => jv) (fun (c : Nat) => c ≤ tC (aTb a (aPg a P).1) ∧ ∀ d, d < c → (fun c => pFail (aTb a (aPg a P).1) (aPg a P).2 (oI o) c) d = false) ?_ (0) ⟨Nat.zero_le _, fun d hd => absurd hd (Nat.not_lt_zero d)⟩ (lv_sub hl [2, 4, 1, 0] rfl) hH
  rintro c H locs ls ⟨hcC, hno⟩ hl hH ih17
  try dsimp only at hl hH ih17
  refine lv_iload hE.1 hE.2.1 dX10_failing_17 (lv_at hl 3 rfl) ?_
  refine lv_aload_n hE.1 hE.2.1 dX10_failing_19 rfl (lv_at hl 2 rfl) ?_
  refine rg_getr hE hH cf_X5 fl_X10_221 rfl (mp) (kp) (v := tL (aPg a P).1) (q0) dX10_failing_20 ?_
  refine rg_geti hE hH cf_X7 fl_X10_106 rfl (mt) (kt) (v := nI (tC (aTb a (aPg a P).1))) (h1) dX10_failing_23 ?_
  refine rn_icmp_ge (tgt := 48) hE dX10_failing_26 (by decide) (by omega) (by omega) (fun c26 => ?_) (fun c26 => ?_)
  · refine lv_iconst (v := -1) hE.1 hE.2.1 dX10_failing_48 (by decide) ?_
    refine W.widen (k := 4) (n := 24) (Nat.le_of_ble_eq_true rfl) (Nat.le_of_ble_eq_true rfl) ?_
    exact vx_ret (rg_iret hE hr rfl hlk hH ⟨rfl, rfl, rfl, by rw [spFailing, onK_t hP hP6, hor, fnd_none (p := (fun c => pFail (aTb a (aPg a P).1) (aPg a P).2 (oI o) c)) (fun d hd => hno d (by omega))]; rfl⟩ dX10_failing_49)
  · refine lv_aload_n hE.1 hE.2.1 dX10_failing_29 rfl (lv_at hl 2 rfl) ?_
    refine lv_iload hE.1 hE.2.1 dX10_failing_30 (lv_at hl 3 rfl) ?_
    refine lv_iload_n hE.1 hE.2.1 dX10_failing_32 rfl (lv_at hl 1 rfl) ?_
    refine rg_VI (As := [.int (nI c), .int (oI o)]) (rest := []) hE hml hH mc_X10_229 (c_Pg_fail l z G iv jv (gL P) (tL (aPg a P).1) (bL (aPg a P).1) (aTb a (aPg a P).1) hk hTb0 hPg0 (aPg a P).2 hg c (by omega) (oI o) ⟨(hdn c (by omega)).1, (hdn c (by omega)).2.1⟩ (hpa c (show c < tC (aTb a (aPg a P).1) by omega))) (mp) (kp) (by decide) rfl ⟨Nat.le_of_ble_eq_true rfl, Nat.le_of_ble_eq_true rfl⟩ rfl hl.1 (by simp [Value.category]) dX10_failing_33 ⟨Nat.le_of_ble_eq_true rfl, Nat.le_of_ble_eq_true rfl⟩ (fun r33 G33 iv33 jv33 H locs hp33 hH => ?_)
    obtain ⟨rfl, rfl, rfl, rfl⟩ := hp33
    refine rn_ifb_eq (tgt := 42) hE dX10_failing_36 (by decide) (fun c36 => ?_) (fun c36 => ?_)
    · refine lv_iinc (v := nI (c + 1)) (lv' := [(4, .int (nI (c + 1))), (0, .ref (G.ad 100)), (2, .int (oI o)), (3, .ref (G.ad (gL P)))]) hE.1 hE.2.1 dX10_failing_42 hl (k := 3) rfl (nI_1 _) (by decide) rfl (fun ls hl => ?_)
      refine lv_goto (tgt := 17) hE.1 hE.2.1 dX10_failing_45 (by decide) ?_
      exact ih17 (c + 1) _ _ _ (by omega) ⟨by omega, fun d hd => by
        by_cases hdc : d = c
        · subst hdc; exact c36
        · exact hno d (by omega)⟩ (lv_sub hl [1, 2, 3, 0] rfl) hH
    · refine lv_iload hE.1 hE.2.1 dX10_failing_39 (lv_at hl 3 rfl) ?_
      refine W.widen (k := 4) (n := 24) (Nat.le_of_ble_eq_true rfl) (Nat.le_of_ble_eq_true rfl) ?_
      exact vx_ret (rg_iret hE hr rfl hlk hH ⟨rfl, rfl, rfl, by rw [spFailing, onK_t hP hP6, hor, fnd_some (p := (fun c => pFail (aTb a (aPg a P).1) (aPg a P).2 (oI o) c)) (k := c) (by omega) c36 hno]; rfl⟩ dX10_failing_41)
