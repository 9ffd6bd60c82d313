set_option maxRecDepth 100000 in
set_option maxHeartbeats 4000000 in
theorem c_x_about (l : Launch) (z : ZK) (hlt : l.stackTraces = false) (G : GW) (iv : IV) (jv : JV) (a : AS) (hX : CSt G iv jv a) (x w : Int32) : cXI l z yX10_about cX10_about 4 (some .int) 8 130 4 24 [.ref (G.ad 100), .int (x), .int (w)] G iv jv (fun r G' iv' jv' => G = G' ∧ iv = iv' ∧ jv = jv' ∧ spAbout a x w = ok r a) (fun E G' iv' jv' => G = G' ∧ iv = iv' ∧ jv = jv' ∧ E = nNSE ∧ spAbout a x w = no 1 a) := by
  intro sz
  refine rx_entry rfl (Nat.le_of_ble_eq_true rfl) ?_
  intro pq eq sq mq bq methq cq ls hE hr hlk hml hnm hl hsz hxt hH
  have hl : lv_has ls 4 [(0, .ref (G.ad 100)), (1, .int (x)), (2, .int (w))] := hl
  refine lv_aload_n hE.1 hE.2.1 dX10_about_0 rfl (lv_at hl 0 rfl) ?_
  refine lv_iload_n hE.1 hE.2.1 dX10_about_1 rfl (lv_at hl 1 rfl) ?_
  refine rx_VR (As := [.int (x)]) (rest := []) hE hml hH mc_X10_87 (c_x_tab l z hlt G iv jv a hX x) (hX.1.1.1) (hX.1.1.2) (by decide) rfl ⟨Nat.le_of_ble_eq_true rfl, Nat.le_of_ble_eq_true rfl⟩ rfl hl.1 (by simp [Value.category]) dX10_about_2 ⟨Nat.le_of_ble_eq_true rfl, Nat.le_of_ble_eq_true rfl⟩ (fun E ce q G' iv' jv' H locs hpx hH hce hcv hcl => rx_out hE hH hxt hlk hce hcv hcl (Nat.le_of_ble_eq_true rfl) (Nat.le_of_ble_eq_true rfl) (by obtain ⟨rfl, rfl, rfl, rfl, hcx⟩ := hpx; exact ⟨rfl, rfl, rfl, rfl, by rw [spAbout, onK_f hcx]⟩)) (fun r2 G2 iv2 jv2 H locs hp2 hH => ?_)
  obtain ⟨rfl, rfl, rfl, hin2, rfl⟩ := hp2
  obtain ⟨T, hT, rfl⟩ := inI_of (n := (aT a).length) (by have := hX.2.2.2.2.1.2.1; have := hX.2.2.2.2.2.1.2.1; omega) hin2
  rw [cl_nI (by have := hX.2.2.2.2.1.2.1; have := hX.2.2.2.2.2.1.2.1; omega)]
  obtain ⟨-, hTb0, hLy, hTd, hk, hW⟩ := hX.2.2.2.2.1.2.2 T hT
  have hTb1 := hTb0
  obtain ⟨⟨mt, kt⟩, hL, hCa, hA10, hA11, hA12, hA13, hA14, hA15, hA16, hA17, hTm0, r0, r2, r3, r4, r5, r6, r8, r9, r11, r13, r14⟩ := hTb1
  obtain ⟨h1, hCV, ⟨h7, hdn, hho⟩, hQL, ⟨hid, h12⟩, hV, hon, hTK, h15⟩ := hTd
  have hTm1 := hTm0
  obtain ⟨⟨mu, ku⟩, hB1, hB2, hB3, hBi, hB10, hB11, hB12, hB13, hB14, s0, s1, s3, s4, s5, s6, s7, s8⟩ := hTm1
  have hm5 := hk.2.1
  have hm1 := hk.1
  have hC4 := hk.2.2.2.1
  have hR40 := hk.2.2.2.2.2.2.1
  have hT8 := tT_le hk
  have hnh := nHo_le hk
  have hql := qL_len hk
  have hrl := rule_len hk
  have hol := offers_len hk
  have hT6 : (aT a).length < 2147483648 := by have := hX.2.2.2.2.1.2.1; omega
  have l10 := hA10.2.2
  have l11 := hA11.2.2
  have l12 := hA12.2.2
  have l13 := hA13.2.2
  have l14 := hA14.2.2
  have l15 := hA15.2.2
  have l16 := hA16.2.2
  have l17 := hA17.2.2
  have l32b := hB12.2.2
  refine lv_astore_n (lv' := [(3, .ref (G.ad (tL T))), (0, .ref (G.ad 100)), (1, .int (nI T)), (2, .int (w))]) hE.1 hE.2.1 dX10_about_5 rfl hl (by decide) rfl (fun ls hl => ?_)
  refine lv_iload_n hE.1 hE.2.1 dX10_about_6 rfl (lv_at hl 3 rfl) ?_
  by_cases hw7 : inI w 9 = true
  · obtain ⟨kw, hkl, hkw⟩ := inI_of (by decide) hw7
    rcases (show kw = 0 ∨ kw = 1 ∨ kw = 2 ∨ kw = 3 ∨ kw = 4 ∨ kw = 5 ∨ kw = 6 ∨ kw = 7 ∨ kw = 8 by omega) with rfl | rfl | rfl | rfl | rfl | rfl | rfl | rfl | rfl
    · subst hkw
      refine lv_tableIn (x := nI 0) (off := 49) (tgt := 56) hE.1 hE.2.1 dX10_about_7 (by decide) (by decide) rfl (by decide) ?_
      refine lv_aload_n hE.1 hE.2.1 dX10_about_56 rfl (lv_at hl 0 rfl) ?_
      refine rg_getr hE hH cf_X7 fl_X10_91 rfl (mt) (kt) (v := bL T) (r0) dX10_about_57 ?_
      refine rg_geti hE hH cf_X1 fl_X10_103 rfl (hL.1.1) (hL.1.2) (v := nI (tm (aTb a T))) (hLy.1.1) dX10_about_60 ?_
      refine W.widen (k := 4) (n := 24) (Nat.le_of_ble_eq_true rfl) (Nat.le_of_ble_eq_true rfl) ?_
      exact vx_ret (rg_iret hE hr rfl hlk hH ⟨rfl, rfl, rfl, by rw [spAbout, onK_t hT hT6, onK_t (show 0 < 9 by decide) (by decide)]; rfl⟩ dX10_about_63)
    · subst hkw
      refine lv_tableIn (x := nI 1) (off := 57) (tgt := 64) hE.1 hE.2.1 dX10_about_7 (by decide) (by decide) rfl (by decide) ?_
      refine lv_aload_n hE.1 hE.2.1 dX10_about_64 rfl (lv_at hl 0 rfl) ?_
      refine rg_geti hE hH cf_X7 fl_X10_106 rfl (mt) (kt) (v := nI (tC (aTb a T))) (h1) dX10_about_65 ?_
      refine W.widen (k := 4) (n := 24) (Nat.le_of_ble_eq_true rfl) (Nat.le_of_ble_eq_true rfl) ?_
      exact vx_ret (rg_iret hE hr rfl hlk hH ⟨rfl, rfl, rfl, by rw [spAbout, onK_t hT hT6, onK_t (show 1 < 9 by decide) (by decide)]; rfl⟩ dX10_about_68)
    · subst hkw
      refine lv_tableIn (x := nI 2) (off := 62) (tgt := 69) hE.1 hE.2.1 dX10_about_7 (by decide) (by decide) rfl (by decide) ?_
      refine lv_aload_n hE.1 hE.2.1 dX10_about_69 rfl (lv_at hl 0 rfl) ?_
      refine rg_getr hE hH cf_X7 fl_X10_91 rfl (mt) (kt) (v := bL T) (r0) dX10_about_70 ?_
      refine rg_getr hE hH cf_X1 fl_X10_109 rfl (hL.1.1) (hL.1.2) (v := bL T + 20) (hL.2.2.2.2.2.2.1) dX10_about_73 ?_
      refine rg_geti hE hH cf_X0 fl_X10_113 rfl ((hL.2.2.1 5 (by decide)).1.1) ((hL.2.2.1 5 (by decide)).1.2) (v := nI (tO (aTb a T))) (hLy.2.1.1) dX10_about_76 ?_
      refine W.widen (k := 4) (n := 24) (Nat.le_of_ble_eq_true rfl) (Nat.le_of_ble_eq_true rfl) ?_
      exact vx_ret (rg_iret hE hr rfl hlk hH ⟨rfl, rfl, rfl, by rw [spAbout, onK_t hT hT6, onK_t (show 2 < 9 by decide) (by decide)]; rfl⟩ dX10_about_79)
    · subst hkw
      refine lv_tableIn (x := nI 3) (off := 73) (tgt := 80) hE.1 hE.2.1 dX10_about_7 (by decide) (by decide) rfl (by decide) ?_
      refine lv_aload_n hE.1 hE.2.1 dX10_about_80 rfl (lv_at hl 0 rfl) ?_
      refine rg_getr hE hH cf_X7 fl_X10_91 rfl (mt) (kt) (v := bL T) (r0) dX10_about_81 ?_
      refine rg_getr hE hH cf_X1 fl_X10_118 rfl (hL.1.1) (hL.1.2) (v := bL T + 30) (hL.2.2.2.2.2.2.2) dX10_about_84 ?_
      refine rg_geti hE hH cf_X6 fl_X10_122 rfl (hL.2.2.2.1.1.1) (hL.2.2.2.1.1.2) (v := nI (tR (aTb a T))) (hLy.2.2.1) dX10_about_87 ?_
      refine W.widen (k := 4) (n := 24) (Nat.le_of_ble_eq_true rfl) (Nat.le_of_ble_eq_true rfl) ?_
      exact vx_ret (rg_iret hE hr rfl hlk hH ⟨rfl, rfl, rfl, by rw [spAbout, onK_t hT hT6, onK_t (show 3 < 9 by decide) (by decide)]; rfl⟩ dX10_about_90)
    · subst hkw
      refine lv_tableIn (x := nI 4) (off := 84) (tgt := 91) hE.1 hE.2.1 dX10_about_7 (by decide) (by decide) rfl (by decide) ?_
      refine lv_aload_n hE.1 hE.2.1 dX10_about_91 rfl (lv_at hl 0 rfl) ?_
      refine rg_geti hE hH cf_X7 fl_X10_125 rfl (mt) (kt) (v := nI (nHo (aTb a T))) (h7) dX10_about_92 ?_
      refine W.widen (k := 4) (n := 24) (Nat.le_of_ble_eq_true rfl) (Nat.le_of_ble_eq_true rfl) ?_
      exact vx_ret (rg_iret hE hr rfl hlk hH ⟨rfl, rfl, rfl, by rw [spAbout, onK_t hT hT6, onK_t (show 4 < 9 by decide) (by decide)]; rfl⟩ dX10_about_95)
    · subst hkw
      refine lv_tableIn (x := nI 5) (off := 89) (tgt := 96) hE.1 hE.2.1 dX10_about_7 (by decide) (by decide) rfl (by decide) ?_
      refine lv_aload_n hE.1 hE.2.1 dX10_about_96 rfl (lv_at hl 0 rfl) ?_
      refine rg_geti hE hH cf_X7 fl_X10_128 rfl (mt) (kt) (v := nI ((qL (aTb a T)).length)) (hQL.1) dX10_about_97 ?_
      refine W.widen (k := 4) (n := 24) (Nat.le_of_ble_eq_true rfl) (Nat.le_of_ble_eq_true rfl) ?_
      exact vx_ret (rg_iret hE hr rfl hlk hH ⟨rfl, rfl, rfl, by rw [spAbout, onK_t hT hT6, onK_t (show 5 < 9 by decide) (by decide)]; rfl⟩ dX10_about_100)
    · subst hkw
      refine lv_tableIn (x := nI 6) (off := 94) (tgt := 101) hE.1 hE.2.1 dX10_about_7 (by decide) (by decide) rfl (by decide) ?_
      refine lv_aload_n hE.1 hE.2.1 dX10_about_101 rfl (lv_at hl 0 rfl) ?_
      refine rg_geti hE hH cf_X7 fl_X10_131 rfl (mt) (kt) (v := nI (cntN (fun r => idl (aTb a T) r) (tR (aTb a T)))) (h12) dX10_about_102 ?_
      refine W.widen (k := 4) (n := 24) (Nat.le_of_ble_eq_true rfl) (Nat.le_of_ble_eq_true rfl) ?_
      exact vx_ret (rg_iret hE hr rfl hlk hH ⟨rfl, rfl, rfl, by rw [spAbout, onK_t hT hT6, onK_t (show 6 < 9 by decide) (by decide)]; rfl⟩ dX10_about_105)
    · subst hkw
      refine lv_tableIn (x := nI 7) (off := 99) (tgt := 106) hE.1 hE.2.1 dX10_about_7 (by decide) (by decide) rfl (by decide) ?_
      refine lv_aload_n hE.1 hE.2.1 dX10_about_106 rfl (lv_at hl 0 rfl) ?_
      refine rg_geti hE hH cf_X7 fl_X10_134 rfl (mt) (kt) (v := nI ((rule (aTb a T)).length)) (h15) dX10_about_107 ?_
      refine W.widen (k := 4) (n := 24) (Nat.le_of_ble_eq_true rfl) (Nat.le_of_ble_eq_true rfl) ?_
      exact vx_ret (rg_iret hE hr rfl hlk hH ⟨rfl, rfl, rfl, by rw [spAbout, onK_t hT hT6, onK_t (show 7 < 9 by decide) (by decide)]; rfl⟩ dX10_about_110)
    · subst hkw
      refine lv_tableIn (x := nI 8) (off := 104) (tgt := 111) hE.1 hE.2.1 dX10_about_7 (by decide) (by decide) rfl (by decide) ?_
      refine lv_aload_n hE.1 hE.2.1 dX10_about_111 rfl (lv_at hl 0 rfl) ?_
      refine rg_geti hE hH cf_X7 fl_X10_137 rfl (mt) (kt) (v := nI ((rule (aTb a T)).length + (offers (aTb a T)).length)) (hTK.1.trans (by rw [List.length_append, List.length_map])) dX10_about_112 ?_
      refine lv_aload_n hE.1 hE.2.1 dX10_about_115 rfl (lv_at hl 0 rfl) ?_
      refine rg_geti hE hH cf_X7 fl_X10_134 rfl (mt) (kt) (v := nI ((rule (aTb a T)).length)) (h15) dX10_about_116 ?_
      refine rn_isub hE dX10_about_119 (by omega) ?_
      refine rn_as (v' := nI ((offers (aTb a T)).length)) (by rw [Nat.add_sub_cancel_left]) ?_
      refine W.widen (k := 4) (n := 24) (Nat.le_of_ble_eq_true rfl) (Nat.le_of_ble_eq_true rfl) ?_
      exact vx_ret (rg_iret hE hr rfl hlk hH ⟨rfl, rfl, rfl, by rw [spAbout, onK_t hT hT6, onK_t (show 8 < 9 by decide) (by decide)]; rfl⟩ dX10_about_120)
  · refine lv_tableOut (tgt := 121) hE.1 hE.2.1 dX10_about_7 (by have := inI_out (by decide) hw7; omega) (by decide) ?_
    exact rx_throw (i := 9) hlt hE hH xw_N (by decide) rfl hml hl.1 dX10_about_121 dX10_about_124 dX10_about_125 dX10_about_127 dX10_about_130 hxt (Nat.le_of_ble_eq_true rfl) (by first | exact Nat.le_of_ble_eq_true rfl | (simp [Value.category])) (Nat.le_of_ble_eq_true rfl) (Nat.le_of_ble_eq_true rfl) hlk (Nat.le_of_ble_eq_true rfl) (Nat.le_of_ble_eq_true rfl) ⟨rfl, rfl, rfl, rfl, by rw [spAbout, onK_t hT hT6, onK_f (by simpa using hw7)]⟩
set_option maxRecDepth 100000 in
set_option maxHeartbeats 4000000 in
theorem c_x_answer (l : Launch) (z : ZK) (hlt : l.stackTraces = false) (G : GW) (iv : IV) (jv : JV) (a : AS) (hX : CSt G iv jv a) (x y w : Int32) : cXI l z yX10_answer cX10_answer 5 (some .int) 8 130 4 24 [.ref (G.ad 100), .int (x), .int (y), .int (w)] G iv jv (fun r G' iv' jv' => G = G' ∧ iv = iv' ∧ jv = jv' ∧ spAnswer a x y w = ok r a) (fun E G' iv' jv' => G = G' ∧ iv = iv' ∧ jv = jv' ∧ E = nNSE ∧ spAnswer a x y w = no 1 a) := by
  intro sz
  refine rx_entry rfl (Nat.le_of_ble_eq_true rfl) ?_
  intro pq eq sq mq bq methq cq ls hE hr hlk hml hnm hl hsz hxt hH
  have hl : lv_has ls 5 [(0, .ref (G.ad 100)), (1, .int (x)), (2, .int (y)), (3, .int (w))] := hl
  refine lv_aload_n hE.1 hE.2.1 dX10_answer_0 rfl (lv_at hl 0 rfl) ?_
  refine lv_iload_n hE.1 hE.2.1 dX10_answer_1 rfl (lv_at hl 1 rfl) ?_
  refine rx_VR (As := [.int (x)]) (rest := []) hE hml hH mc_X10_87 (c_x_tab l z hlt G iv jv a hX x) (hX.1.1.1) (hX.1.1.2) (by decide) rfl ⟨Nat.le_of_ble_eq_true rfl, Nat.le_of_ble_eq_true rfl⟩ rfl hl.1 (by simp [Value.category]) dX10_answer_2 ⟨Nat.le_of_ble_eq_true rfl, Nat.le_of_ble_eq_true rfl⟩ (fun E ce q G' iv' jv' H locs hpx hH hce hcv hcl => rx_out hE hH hxt hlk hce hcv hcl (Nat.le_of_ble_eq_true rfl) (Nat.le_of_ble_eq_true rfl) (by obtain ⟨rfl, rfl, rfl, rfl, hcx⟩ := hpx; exact ⟨rfl, rfl, rfl, rfl, by rw [spAnswer, onK_f hcx]⟩)) (fun r2 G2 iv2 jv2 H locs hp2 hH => ?_)
  obtain ⟨rfl, rfl, rfl, hin2, rfl⟩ := hp2
  obtain ⟨T, hT, rfl⟩ := inI_of (n := (aT a).length) (by have := hX.2.2.2.2.1.2.1; have := hX.2.2.2.2.2.1.2.1; omega) hin2
  rw [cl_nI (by have := hX.2.2.2.2.1.2.1; have := hX.2.2.2.2.2.1.2.1; omega)]
  obtain ⟨-, hTb0, hLy, hTd, hk, hW⟩ := hX.2.2.2.2.1.2.2 T hT
  have hTb1 := hTb0
  obtain ⟨⟨mt, kt⟩, hL, hCa, hA10, hA11, hA12, hA13, hA14, hA15, hA16, hA17, hTm0, r0, r2, r3, r4, r5, r6, r8, r9, r11, r13, r14⟩ := hTb1
  obtain ⟨h1, hCV, ⟨h7, hdn, hho⟩, hQL, ⟨hid, h12⟩, hV, hon, hTK, h15⟩ := hTd
  have hTm1 := hTm0
  obtain ⟨⟨mu, ku⟩, hB1, hB2, hB3, hBi, hB10, hB11, hB12, hB13, hB14, s0, s1, s3, s4, s5, s6, s7, s8⟩ := hTm1
  have hm5 := hk.2.1
  have hm1 := hk.1
  have hC4 := hk.2.2.2.1
  have hR40 := hk.2.2.2.2.2.2.1
  have hT8 := tT_le hk
  have hnh := nHo_le hk
  have hql := qL_len hk
  have hrl := rule_len hk
  have hol := offers_len hk
  have hT6 : (aT a).length < 2147483648 := by have := hX.2.2.2.2.1.2.1; omega
  have l10 := hA10.2.2
  have l11 := hA11.2.2
  have l12 := hA12.2.2
  have l13 := hA13.2.2
  have l14 := hA14.2.2
  have l15 := hA15.2.2
  have l16 := hA16.2.2
  have l17 := hA17.2.2
  have l32b := hB12.2.2
  refine lv_astore (lv' := [(4, .ref (G.ad (tL T))), (0, .ref (G.ad 100)), (1, .int (nI T)), (2, .int (y)), (3, .int (w))]) hE.1 hE.2.1 dX10_answer_5 hl (by decide) rfl (fun ls hl => ?_)
  refine lv_iload_n hE.1 hE.2.1 dX10_answer_7 rfl (lv_at hl 3 rfl) ?_
  refine lv_aload hE.1 hE.2.1 dX10_answer_8 (lv_at hl 0 rfl) ?_
  refine rg_geti hE hH cf_X7 fl_X10_106 rfl (mt) (kt) (v := nI (tC (aTb a T))) (h1) dX10_answer_10 ?_
  refine rx_SV (As := [.int (y), .int (nI (tC (aTb a T)))]) (rest := []) hE hml hH mc_X10_147 (c_x_below l z hlt G iv jv y (tC (aTb a T))) rfl ⟨Nat.le_of_ble_eq_true rfl, Nat.le_of_ble_eq_true rfl⟩ rfl hl.1 (by simp [Value.category]) dX10_answer_13 ⟨Nat.le_of_ble_eq_true rfl, Nat.le_of_ble_eq_true rfl⟩ (fun E ce q G' iv' jv' H locs hpx hH hce hcv hcl => rx_out hE hH hxt hlk hce hcv hcl (Nat.le_of_ble_eq_true rfl) (Nat.le_of_ble_eq_true rfl) (by obtain ⟨rfl, rfl, rfl, rfl, hcx⟩ := hpx; exact ⟨rfl, rfl, rfl, rfl, by rw [spAnswer, onK_t hT hT6, onK_f hcx]⟩)) (fun G13 iv13 jv13 H locs hp13 hH => ?_)
  obtain ⟨rfl, rfl, rfl, hq13⟩ := hp13
  obtain ⟨c, hc, rfl⟩ := inI_of (n := tC (aTb a T)) (by omega) hq13
  have hc4 : tC (aTb a T) < 2147483648 := by omega
  refine lv_iload_n hE.1 hE.2.1 dX10_answer_16 rfl (lv_at hl 4 rfl) ?_
  by_cases hw17 : inI w 3 = true
  · obtain ⟨kw, hkl, hkw⟩ := inI_of (by decide) hw17
    rcases (show kw = 0 ∨ kw = 1 ∨ kw = 2 by omega) with rfl | rfl | rfl
    · subst hkw
      refine lv_tableIn (x := nI 0) (off := 27) (tgt := 44) hE.1 hE.2.1 dX10_answer_17 (by decide) (by decide) rfl (by decide) ?_
      refine lv_aload hE.1 hE.2.1 dX10_answer_44 (lv_at hl 0 rfl) ?_
      refine rg_getr hE hH cf_X7 fl_X10_151 rfl (mt) (kt) (v := tL T + 10) (r3) dX10_answer_46 ?_
      refine lv_iload_n hE.1 hE.2.1 dX10_answer_49 rfl (lv_at hl 3 rfl) ?_
      refine rg_iald hE hH (hA10.1) (hA10.2.1) (by omega) (v := oI (ans (aTb a T) c)) ((hdn c hc).1) dX10_answer_50 ?_
      refine W.widen (k := 4) (n := 24) (Nat.le_of_ble_eq_true rfl) (Nat.le_of_ble_eq_true rfl) ?_
      exact vx_ret (rg_iret hE hr rfl hlk hH ⟨rfl, rfl, rfl, by rw [spAnswer, onK_t hT hT6, onK_t hc hc4, onK_t (show 0 < 3 by decide) (by decide)]; rfl⟩ dX10_answer_51)
    · subst hkw
      refine lv_tableIn (x := nI 1) (off := 35) (tgt := 52) hE.1 hE.2.1 dX10_answer_17 (by decide) (by decide) rfl (by decide) ?_
      refine lv_aload hE.1 hE.2.1 dX10_answer_52 (lv_at hl 0 rfl) ?_
      refine rg_getr hE hH cf_X7 fl_X10_155 rfl (mt) (kt) (v := tL T + 11) (r4) dX10_answer_54 ?_
      refine lv_iload_n hE.1 hE.2.1 dX10_answer_57 rfl (lv_at hl 3 rfl) ?_
      refine rg_iald hE hH (hA11.1) (hA11.2.1) (by omega) (v := oI (frow (aTb a T) c)) ((hdn c hc).2.1) dX10_answer_58 ?_
      refine W.widen (k := 4) (n := 24) (Nat.le_of_ble_eq_true rfl) (Nat.le_of_ble_eq_true rfl) ?_
      exact vx_ret (rg_iret hE hr rfl hlk hH ⟨rfl, rfl, rfl, by rw [spAnswer, onK_t hT hT6, onK_t hc hc4, onK_t (show 1 < 3 by decide) (by decide)]; rfl⟩ dX10_answer_59)
    · subst hkw
      refine lv_tableIn (x := nI 2) (off := 43) (tgt := 60) hE.1 hE.2.1 dX10_answer_17 (by decide) (by decide) rfl (by decide) ?_
      refine lv_aload hE.1 hE.2.1 dX10_answer_60 (lv_at hl 0 rfl) ?_
      refine rg_getr hE hH cf_X7 fl_X10_158 rfl (mt) (kt) (v := tL T + 12) (r5) dX10_answer_62 ?_
      refine lv_iload_n hE.1 hE.2.1 dX10_answer_65 rfl (lv_at hl 3 rfl) ?_
      refine rg_iald hE hH (hA12.1) (hA12.2.1) (by omega) (v := nI (cntN (fun r => fit (aTb a T) r c) (tR (aTb a T)))) ((hdn c hc).2.2) dX10_answer_66 ?_
      refine W.widen (k := 4) (n := 24) (Nat.le_of_ble_eq_true rfl) (Nat.le_of_ble_eq_true rfl) ?_
      exact vx_ret (rg_iret hE hr rfl hlk hH ⟨rfl, rfl, rfl, by rw [spAnswer, onK_t hT hT6, onK_t hc hc4, onK_t (show 2 < 3 by decide) (by decide)]; rfl⟩ dX10_answer_67)
  · refine lv_tableOut (tgt := 68) hE.1 hE.2.1 dX10_answer_17 (by have := inI_out (by decide) hw17; omega) (by decide) ?_
    exact rx_throw (i := 9) hlt hE hH xw_N (by decide) rfl hml hl.1 dX10_answer_68 dX10_answer_71 dX10_answer_72 dX10_answer_74 dX10_answer_77 hxt (Nat.le_of_ble_eq_true rfl) (by first | exact Nat.le_of_ble_eq_true rfl | (simp [Value.category])) (Nat.le_of_ble_eq_true rfl) (Nat.le_of_ble_eq_true rfl) hlk (Nat.le_of_ble_eq_true rfl) (Nat.le_of_ble_eq_true rfl) ⟨rfl, rfl, rfl, rfl, by rw [spAnswer, onK_t hT hT6, onK_t hc hc4, onK_f (by simpa using hw17)]⟩
set_option maxRecDepth 100000 in
set_option maxHeartbeats 4000000 in
theorem c_x_value (l : Launch) (z : ZK) (hlt : l.stackTraces = false) (G : GW) (iv : IV) (jv : JV) (a : AS) (hX : CSt G iv jv a) (x y w : Int32) : cXI l z yX10_value cX10_value 5 (some .int) 8 130 4 24 [.ref (G.ad 100), .int (x), .int (y), .int (w)] G iv jv (fun r G' iv' jv' => G = G' ∧ iv = iv' ∧ jv = jv' ∧ spValue a x y w = ok r a) (fun E G' iv' jv' => G = G' ∧ iv = iv' ∧ jv = jv' ∧ E = nNSE ∧ spValue a x y w = no 1 a) := by
  intro sz
  refine rx_entry rfl (Nat.le_of_ble_eq_true rfl) ?_
  intro pq eq sq mq bq methq cq ls hE hr hlk hml hnm hl hsz hxt hH
  have hl : lv_has ls 5 [(0, .ref (G.ad 100)), (1, .int (x)), (2, .int (y)), (3, .int (w))] := hl
  refine lv_aload_n hE.1 hE.2.1 dX10_value_0 rfl (lv_at hl 0 rfl) ?_
  refine lv_iload_n hE.1 hE.2.1 dX10_value_1 rfl (lv_at hl 1 rfl) ?_
  refine rx_VR (As := [.int (x)]) (rest := []) hE hml hH mc_X10_87 (c_x_tab l z hlt G iv jv a hX x) (hX.1.1.1) (hX.1.1.2) (by decide) rfl ⟨Nat.le_of_ble_eq_true rfl, Nat.le_of_ble_eq_true rfl⟩ rfl hl.1 (by simp [Value.category]) dX10_value_2 ⟨Nat.le_of_ble_eq_true rfl, Nat.le_of_ble_eq_true rfl⟩ (fun E ce q G' iv' jv' H locs hpx hH hce hcv hcl => rx_out hE hH hxt hlk hce hcv hcl (Nat.le_of_ble_eq_true rfl) (Nat.le_of_ble_eq_true rfl) (by obtain ⟨rfl, rfl, rfl, rfl, hcx⟩ := hpx; exact ⟨rfl, rfl, rfl, rfl, by rw [spValue, onK_f hcx]⟩)) (fun r2 G2 iv2 jv2 H locs hp2 hH => ?_)
  obtain ⟨rfl, rfl, rfl, hin2, rfl⟩ := hp2
  obtain ⟨T, hT, rfl⟩ := inI_of (n := (aT a).length) (by have := hX.2.2.2.2.1.2.1; have := hX.2.2.2.2.2.1.2.1; omega) hin2
  rw [cl_nI (by have := hX.2.2.2.2.1.2.1; have := hX.2.2.2.2.2.1.2.1; omega)]
  obtain ⟨-, hTb0, hLy, hTd, hk, hW⟩ := hX.2.2.2.2.1.2.2 T hT
  have hTb1 := hTb0
  obtain ⟨⟨mt, kt⟩, hL, hCa, hA10, hA11, hA12, hA13, hA14, hA15, hA16, hA17, hTm0, r0, r2, r3, r4, r5, r6, r8, r9, r11, r13, r14⟩ := hTb1
  obtain ⟨h1, hCV, ⟨h7, hdn, hho⟩, hQL, ⟨hid, h12⟩, hV, hon, hTK, h15⟩ := hTd
  have hTm1 := hTm0
  obtain ⟨⟨mu, ku⟩, hB1, hB2, hB3, hBi, hB10, hB11, hB12, hB13, hB14, s0, s1, s3, s4, s5, s6, s7, s8⟩ := hTm1
  have hm5 := hk.2.1
  have hm1 := hk.1
  have hC4 := hk.2.2.2.1
  have hR40 := hk.2.2.2.2.2.2.1
  have hT8 := tT_le hk
  have hnh := nHo_le hk
  have hql := qL_len hk
  have hrl := rule_len hk
  have hol := offers_len hk
  have hT6 : (aT a).length < 2147483648 := by have := hX.2.2.2.2.1.2.1; omega
  have l10 := hA10.2.2
  have l11 := hA11.2.2
  have l12 := hA12.2.2
  have l13 := hA13.2.2
  have l14 := hA14.2.2
  have l15 := hA15.2.2
  have l16 := hA16.2.2
  have l17 := hA17.2.2
  have l32b := hB12.2.2
  refine lv_astore (lv' := [(4, .ref (G.ad (tL T))), (0, .ref (G.ad 100)), (1, .int (nI T)), (2, .int (y)), (3, .int (w))]) hE.1 hE.2.1 dX10_value_5 hl (by decide) rfl (fun ls hl => ?_)
  refine lv_iload_n hE.1 hE.2.1 dX10_value_7 rfl (lv_at hl 3 rfl) ?_
  refine lv_aload hE.1 hE.2.1 dX10_value_8 (lv_at hl 0 rfl) ?_
  refine rg_geti hE hH cf_X7 fl_X10_106 rfl (mt) (kt) (v := nI (tC (aTb a T))) (h1) dX10_value_10 ?_
  refine rx_SV (As := [.int (y), .int (nI (tC (aTb a T)))]) (rest := []) hE hml hH mc_X10_147 (c_x_below l z hlt G iv jv y (tC (aTb a T))) rfl ⟨Nat.le_of_ble_eq_true rfl, Nat.le_of_ble_eq_true rfl⟩ rfl hl.1 (by simp [Value.category]) dX10_value_13 ⟨Nat.le_of_ble_eq_true rfl, Nat.le_of_ble_eq_true rfl⟩ (fun E ce q G' iv' jv' H locs hpx hH hce hcv hcl => rx_out hE hH hxt hlk hce hcv hcl (Nat.le_of_ble_eq_true rfl) (Nat.le_of_ble_eq_true rfl) (by obtain ⟨rfl, rfl, rfl, rfl, hcx⟩ := hpx; exact ⟨rfl, rfl, rfl, rfl, by rw [spValue, onK_t hT hT6, onK_f hcx]⟩)) (fun G13 iv13 jv13 H locs hp13 hH => ?_)
  obtain ⟨rfl, rfl, rfl, hq13⟩ := hp13
  obtain ⟨c, hc, rfl⟩ := inI_of (n := tC (aTb a T)) (by omega) hq13
  have hc4 : tC (aTb a T) < 2147483648 := by omega
  refine lv_iload_n hE.1 hE.2.1 dX10_value_16 rfl (lv_at hl 4 rfl) ?_
  refine lv_aload hE.1 hE.2.1 dX10_value_17 (lv_at hl 0 rfl) ?_
  refine rg_getr hE hH cf_X7 fl_X10_91 rfl (mt) (kt) (v := bL T) (r0) dX10_value_19 ?_
  refine rg_geti hE hH cf_X1 fl_X10_103 rfl (hL.1.1) (hL.1.2) (v := nI (tm (aTb a T))) (hLy.1.1) dX10_value_22 ?_
  refine rx_SV (As := [.int (w), .int (nI (tm (aTb a T)))]) (rest := []) hE hml hH mc_X10_147 (c_x_below l z hlt G iv jv w (tm (aTb a T))) rfl ⟨Nat.le_of_ble_eq_true rfl, Nat.le_of_ble_eq_true rfl⟩ rfl hl.1 (by simp [Value.category]) dX10_value_25 ⟨Nat.le_of_ble_eq_true rfl, Nat.le_of_ble_eq_true rfl⟩ (fun E ce q G' iv' jv' H locs hpx hH hce hcv hcl => rx_out hE hH hxt hlk hce hcv hcl (Nat.le_of_ble_eq_true rfl) (Nat.le_of_ble_eq_true rfl) (by obtain ⟨rfl, rfl, rfl, rfl, hcx⟩ := hpx; exact ⟨rfl, rfl, rfl, rfl, by rw [spValue, onK_t hT hT6, onK_t hc hc4, onK_f hcx]⟩)) (fun G25 iv25 jv25 H locs hp25 hH => ?_)
  obtain ⟨rfl, rfl, rfl, hq25⟩ := hp25
  obtain ⟨i, hi, rfl⟩ := inI_of (n := tm (aTb a T)) (by omega) hq25
  have hi4 : tm (aTb a T) < 2147483648 := by omega
  have lCi := (hCa.2 i hi).1.2.2
  have lCa := hCa.1.2.2
  refine lv_aload hE.1 hE.2.1 dX10_value_28 (lv_at hl 0 rfl) ?_
  refine rg_getr hE hH cf_X7 fl_X10_161 rfl (mt) (kt) (v := tL T + 1) (r2) dX10_value_30 ?_
  refine lv_iload_n hE.1 hE.2.1 dX10_value_33 rfl (lv_at hl 4 rfl) ?_
  refine rg_aldr hE hH (hCa.1.1) (hCa.1.2.1) (by decide) (by decide) (by omega) (v := tL T + 2 + i) ((hCa.2 i (by omega)).2) dX10_value_34 ?_
  refine lv_iload_n hE.1 hE.2.1 dX10_value_35 rfl (lv_at hl 3 rfl) ?_
  refine rg_iald hE hH ((hCa.2 i (by omega)).1.1) ((hCa.2 i (by omega)).1.2.1) (by omega) (v := nI (vOf (tf (aTb a T)) (tm (aTb a T)) c i)) (hCV i hi c hc) dX10_value_36 ?_
  refine W.widen (k := 4) (n := 24) (Nat.le_of_ble_eq_true rfl) (Nat.le_of_ble_eq_true rfl) ?_
  exact vx_ret (rg_iret hE hr rfl hlk hH ⟨rfl, rfl, rfl, by rw [spValue, onK_t hT hT6, onK_t hc hc4, onK_t hi hi4]⟩ dX10_value_37)
set_option maxRecDepth 100000 in
set_option maxHeartbeats 4000000 in
theorem c_x_hole (l : Launch) (z : ZK) (hlt : l.stackTraces = false) (G : GW) (iv : IV) (jv : JV) (a : AS) (hX : CSt G iv jv a) (x y : Int32) : cXI l z yX10_hole cX10_hole 4 (some .int) 8 130 4 24 [.ref (G.ad 100), .int (x), .int (y)] G iv jv (fun r G' iv' jv' => G = G' ∧ iv = iv' ∧ jv = jv' ∧ spHole a x y = ok r a) (fun E G' iv' jv' => G = G' ∧ iv = iv' ∧ jv = jv' ∧ E = nNSE ∧ spHole a x y = no 1 a) := by
  intro sz
  refine rx_entry rfl (Nat.le_of_ble_eq_true rfl) ?_
  intro pq eq sq mq bq methq cq ls hE hr hlk hml hnm hl hsz hxt hH
  have hl : lv_has ls 4 [(0, .ref (G.ad 100)), (1, .int (x)), (2, .int (y))] := hl
  refine lv_aload_n hE.1 hE.2.1 dX10_hole_0 rfl (lv_at hl 0 rfl) ?_
  refine lv_iload_n hE.1 hE.2.1 dX10_hole_1 rfl (lv_at hl 1 rfl) ?_
  refine rx_VR (As := [.int (x)]) (rest := []) hE hml hH mc_X10_87 (c_x_tab l z hlt G iv jv a hX x) (hX.1.1.1) (hX.1.1.2) (by decide) rfl ⟨Nat.le_of_ble_eq_true rfl, Nat.le_of_ble_eq_true rfl⟩ rfl hl.1 (by simp [Value.category]) dX10_hole_2 ⟨Nat.le_of_ble_eq_true rfl, Nat.le_of_ble_eq_true rfl⟩ (fun E ce q G' iv' jv' H locs hpx hH hce hcv hcl => rx_out hE hH hxt hlk hce hcv hcl (Nat.le_of_ble_eq_true rfl) (Nat.le_of_ble_eq_true rfl) (by obtain ⟨rfl, rfl, rfl, rfl, hcx⟩ := hpx; exact ⟨rfl, rfl, rfl, rfl, by rw [spHole, onK_f hcx]⟩)) (fun r2 G2 iv2 jv2 H locs hp2 hH => ?_)
  obtain ⟨rfl, rfl, rfl, hin2, rfl⟩ := hp2
  obtain ⟨T, hT, rfl⟩ := inI_of (n := (aT a).length) (by have := hX.2.2.2.2.1.2.1; have := hX.2.2.2.2.2.1.2.1; omega) hin2
  rw [cl_nI (by have := hX.2.2.2.2.1.2.1; have := hX.2.2.2.2.2.1.2.1; omega)]
  obtain ⟨-, hTb0, hLy, hTd, hk, hW⟩ := hX.2.2.2.2.1.2.2 T hT
  have hTb1 := hTb0
  obtain ⟨⟨mt, kt⟩, hL, hCa, hA10, hA11, hA12, hA13, hA14, hA15, hA16, hA17, hTm0, r0, r2, r3, r4, r5, r6, r8, r9, r11, r13, r14⟩ := hTb1
  obtain ⟨h1, hCV, ⟨h7, hdn, hho⟩, hQL, ⟨hid, h12⟩, hV, hon, hTK, h15⟩ := hTd
  have hTm1 := hTm0
  obtain ⟨⟨mu, ku⟩, hB1, hB2, hB3, hBi, hB10, hB11, hB12, hB13, hB14, s0, s1, s3, s4, s5, s6, s7, s8⟩ := hTm1
  have hm5 := hk.2.1
  have hm1 := hk.1
  have hC4 := hk.2.2.2.1
  have hR40 := hk.2.2.2.2.2.2.1
  have hT8 := tT_le hk
  have hnh := nHo_le hk
  have hql := qL_len hk
  have hrl := rule_len hk
  have hol := offers_len hk
  have hT6 : (aT a).length < 2147483648 := by have := hX.2.2.2.2.1.2.1; omega
  have l10 := hA10.2.2
  have l11 := hA11.2.2
  have l12 := hA12.2.2
  have l13 := hA13.2.2
  have l14 := hA14.2.2
  have l15 := hA15.2.2
  have l16 := hA16.2.2
  have l17 := hA17.2.2
  have l32b := hB12.2.2
  refine lv_astore_n (lv' := [(3, .ref (G.ad (tL T))), (0, .ref (G.ad 100)), (1, .int (nI T)), (2, .int (y))]) hE.1 hE.2.1 dX10_hole_5 rfl hl (by decide) rfl (fun ls hl => ?_)
  refine lv_iload_n hE.1 hE.2.1 dX10_hole_6 rfl (lv_at hl 3 rfl) ?_
  refine lv_aload_n hE.1 hE.2.1 dX10_hole_7 rfl (lv_at hl 0 rfl) ?_
  refine rg_geti hE hH cf_X7 fl_X10_125 rfl (mt) (kt) (v := nI (nHo (aTb a T))) (h7) dX10_hole_8 ?_
  refine rx_SV (As := [.int (y), .int (nI (nHo (aTb a T)))]) (rest := []) hE hml hH mc_X10_147 (c_x_below l z hlt G iv jv y (nHo (aTb a T))) rfl ⟨Nat.le_of_ble_eq_true rfl, Nat.le_of_ble_eq_true rfl⟩ rfl hl.1 (by simp [Value.category]) dX10_hole_11 ⟨Nat.le_of_ble_eq_true rfl, Nat.le_of_ble_eq_true rfl⟩ (fun E ce q G' iv' jv' H locs hpx hH hce hcv hcl => rx_out hE hH hxt hlk hce hcv hcl (Nat.le_of_ble_eq_true rfl) (Nat.le_of_ble_eq_true rfl) (by obtain ⟨rfl, rfl, rfl, rfl, hcx⟩ := hpx; exact ⟨rfl, rfl, rfl, rfl, by rw [spHole, onK_t hT hT6, onK_f hcx]⟩)) (fun G11 iv11 jv11 H locs hp11 hH => ?_)
  obtain ⟨rfl, rfl, rfl, hq11⟩ := hp11
  obtain ⟨i, hi, rfl⟩ := inI_of (n := nHo (aTb a T)) (by omega) hq11
  have hi4 : nHo (aTb a T) < 2147483648 := by omega
  obtain ⟨d, hd, hd2, hd3, hd4⟩ := hole_ex hi
  have hnc : nHo (aTb a T) ≤ tC (aTb a T) := cntN_le _
  refine lv_aload_n hE.1 hE.2.1 dX10_hole_14 rfl (lv_at hl 0 rfl) ?_
  refine rg_getr hE hH cf_X7 fl_X10_165 rfl (mt) (kt) (v := tL T + 13) (r6) dX10_hole_15 ?_
  refine lv_iload_n hE.1 hE.2.1 dX10_hole_18 rfl (lv_at hl 3 rfl) ?_
  refine rg_iald hE hH (hA13.1) (hA13.2.1) (by omega) (v := nI d) ((by rw [← hd3]; exact hho d hd hd2)) dX10_hole_19 ?_
  refine W.widen (k := 4) (n := 24) (Nat.le_of_ble_eq_true rfl) (Nat.le_of_ble_eq_true rfl) ?_
  exact vx_ret (rg_iret hE hr rfl hlk hH ⟨rfl, rfl, rfl, by rw [spHole, onK_t hT hT6, onK_t hi hi4, hd4]; rfl⟩ dX10_hole_20)
set_option maxRecDepth 100000 in
set_option maxHeartbeats 4000000 in
theorem c_x_quarrel (l : Launch) (z : ZK) (hlt : l.stackTraces = false) (G : GW) (iv : IV) (jv : JV) (a : AS) (hX : CSt G iv jv a) (x y w : Int32) : cXI l z yX10_quarrel cX10_quarrel 5 (some .int) 8 130 4 24 [.ref (G.ad 100), .int (x), .int (y), .int (w)] G iv jv (fun r G' iv' jv' => G = G' ∧ iv = iv' ∧ jv = jv' ∧ spQuarrel a x y w = ok r a) (fun E G' iv' jv' => G = G' ∧ iv = iv' ∧ jv = jv' ∧ E = nNSE ∧ spQuarrel a x y w = no 1 a) := by
  intro sz
  refine rx_entry rfl (Nat.le_of_ble_eq_true rfl) ?_
  intro pq eq sq mq bq methq cq ls hE hr hlk hml hnm hl hsz hxt hH
  have hl : lv_has ls 5 [(0, .ref (G.ad 100)), (1, .int (x)), (2, .int (y)), (3, .int (w))] := hl
  refine lv_aload_n hE.1 hE.2.1 dX10_quarrel_0 rfl (lv_at hl 0 rfl) ?_
  refine lv_iload_n hE.1 hE.2.1 dX10_quarrel_1 rfl (lv_at hl 1 rfl) ?_
  refine rx_VR (As := [.int (x)]) (rest := []) hE hml hH mc_X10_87 (c_x_tab l z hlt G iv jv a hX x) (hX.1.1.1) (hX.1.1.2) (by decide) rfl ⟨Nat.le_of_ble_eq_true rfl, Nat.le_of_ble_eq_true rfl⟩ rfl hl.1 (by simp [Value.category]) dX10_quarrel_2 ⟨Nat.le_of_ble_eq_true rfl, Nat.le_of_ble_eq_true rfl⟩ (fun E ce q G' iv' jv' H locs hpx hH hce hcv hcl => rx_out hE hH hxt hlk hce hcv hcl (Nat.le_of_ble_eq_true rfl) (Nat.le_of_ble_eq_true rfl) (by obtain ⟨rfl, rfl, rfl, rfl, hcx⟩ := hpx; exact ⟨rfl, rfl, rfl, rfl, by rw [spQuarrel, onK_f hcx]⟩)) (fun r2 G2 iv2 jv2 H locs hp2 hH => ?_)
  obtain ⟨rfl, rfl, rfl, hin2, rfl⟩ := hp2
  obtain ⟨T, hT, rfl⟩ := inI_of (n := (aT a).length) (by have := hX.2.2.2.2.1.2.1; have := hX.2.2.2.2.2.1.2.1; omega) hin2
  rw [cl_nI (by have := hX.2.2.2.2.1.2.1; have := hX.2.2.2.2.2.1.2.1; omega)]
  obtain ⟨-, hTb0, hLy, hTd, hk, hW⟩ := hX.2.2.2.2.1.2.2 T hT
  have hTb1 := hTb0
  obtain ⟨⟨mt, kt⟩, hL, hCa, hA10, hA11, hA12, hA13, hA14, hA15, hA16, hA17, hTm0, r0, r2, r3, r4, r5, r6, r8, r9, r11, r13, r14⟩ := hTb1
  obtain ⟨h1, hCV, ⟨h7, hdn, hho⟩, hQL, ⟨hid, h12⟩, hV, hon, hTK, h15⟩ := hTd
  have hTm1 := hTm0
  obtain ⟨⟨mu, ku⟩, hB1, hB2, hB3, hBi, hB10, hB11, hB12, hB13, hB14, s0, s1, s3, s4, s5, s6, s7, s8⟩ := hTm1
  have hm5 := hk.2.1
  have hm1 := hk.1
  have hC4 := hk.2.2.2.1
  have hR40 := hk.2.2.2.2.2.2.1
  have hT8 := tT_le hk
  have hnh := nHo_le hk
  have hql := qL_len hk
  have hrl := rule_len hk
  have hol := offers_len hk
  have hT6 : (aT a).length < 2147483648 := by have := hX.2.2.2.2.1.2.1; omega
  have l10 := hA10.2.2
  have l11 := hA11.2.2
  have l12 := hA12.2.2
  have l13 := hA13.2.2
  have l14 := hA14.2.2
  have l15 := hA15.2.2
  have l16 := hA16.2.2
  have l17 := hA17.2.2
  have l32b := hB12.2.2
  refine lv_astore (lv' := [(4, .ref (G.ad (tL T))), (0, .ref (G.ad 100)), (1, .int (nI T)), (2, .int (y)), (3, .int (w))]) hE.1 hE.2.1 dX10_quarrel_5 hl (by decide) rfl (fun ls hl => ?_)
  refine lv_iload_n hE.1 hE.2.1 dX10_quarrel_7 rfl (lv_at hl 3 rfl) ?_
  refine lv_aload hE.1 hE.2.1 dX10_quarrel_8 (lv_at hl 0 rfl) ?_
  refine rg_geti hE hH cf_X7 fl_X10_128 rfl (mt) (kt) (v := nI ((qL (aTb a T)).length)) (hQL.1) dX10_quarrel_10 ?_
  refine rx_SV (As := [.int (y), .int (nI ((qL (aTb a T)).length))]) (rest := []) hE hml hH mc_X10_147 (c_x_below l z hlt G iv jv y ((qL (aTb a T)).length)) rfl ⟨Nat.le_of_ble_eq_true rfl, Nat.le_of_ble_eq_true rfl⟩ rfl hl.1 (by simp [Value.category]) dX10_quarrel_13 ⟨Nat.le_of_ble_eq_true rfl, Nat.le_of_ble_eq_true rfl⟩ (fun E ce q G' iv' jv' H locs hpx hH hce hcv hcl => rx_out hE hH hxt hlk hce hcv hcl (Nat.le_of_ble_eq_true rfl) (Nat.le_of_ble_eq_true rfl) (by obtain ⟨rfl, rfl, rfl, rfl, hcx⟩ := hpx; exact ⟨rfl, rfl, rfl, rfl, by rw [spQuarrel, onK_t hT hT6, onK_f hcx]⟩)) (fun G13 iv13 jv13 H locs hp13 hH => ?_)
  obtain ⟨rfl, rfl, rfl, hq13⟩ := hp13
  obtain ⟨i, hi, rfl⟩ := inI_of (n := (qL (aTb a T)).length) (by omega) hq13
  have hi4 : (qL (aTb a T)).length < 2147483648 := by omega
  have hqm := qL_mem hi
  have hq3 := qL_l3 hk
  have hqi := hQL.2 i hi
  refine lv_iload_n hE.1 hE.2.1 dX10_quarrel_16 rfl (lv_at hl 4 rfl) ?_
  by_cases hw17 : inI w 3 = true
  · obtain ⟨kw, hkl, hkw⟩ := inI_of (by decide) hw17
    rcases (show kw = 0 ∨ kw = 1 ∨ kw = 2 by omega) with rfl | rfl | rfl
    · subst hkw
      refine lv_tableIn (x := nI 0) (off := 27) (tgt := 44) hE.1 hE.2.1 dX10_quarrel_17 (by decide) (by decide) rfl (by decide) ?_
      refine lv_aload hE.1 hE.2.1 dX10_quarrel_44 (lv_at hl 0 rfl) ?_
      refine rg_getr hE hH cf_X7 fl_X10_168 rfl (mt) (kt) (v := tL T + 14) (r8) dX10_quarrel_46 ?_
      refine lv_iload_n hE.1 hE.2.1 dX10_quarrel_49 rfl (lv_at hl 3 rfl) ?_
      refine rg_iald hE hH (hA14.1) (hA14.2.1) (by omega) (v := nI (((qL (aTb a T)).getD i (0, 0, 0)).1)) (hqi.1) dX10_quarrel_50 ?_
      refine W.widen (k := 4) (n := 24) (Nat.le_of_ble_eq_true rfl) (Nat.le_of_ble_eq_true rfl) ?_
      exact vx_ret (rg_iret hE hr rfl hlk hH ⟨rfl, rfl, rfl, by rw [spQuarrel, onK_t hT hT6, onK_t hi hi4, onK_t (show 0 < 3 by decide) (by decide)]; rfl⟩ dX10_quarrel_51)
    · subst hkw
      refine lv_tableIn (x := nI 1) (off := 35) (tgt := 52) hE.1 hE.2.1 dX10_quarrel_17 (by decide) (by decide) rfl (by decide) ?_
      refine lv_aload hE.1 hE.2.1 dX10_quarrel_52 (lv_at hl 0 rfl) ?_
      refine rg_getr hE hH cf_X7 fl_X10_171 rfl (mt) (kt) (v := tL T + 15) (r9) dX10_quarrel_54 ?_
      refine lv_iload_n hE.1 hE.2.1 dX10_quarrel_57 rfl (lv_at hl 3 rfl) ?_
      refine rg_iald hE hH (hA15.1) (hA15.2.1) (by omega) (v := nI (((qL (aTb a T)).getD i (0, 0, 0)).2.1)) (hqi.2) dX10_quarrel_58 ?_
      refine W.widen (k := 4) (n := 24) (Nat.le_of_ble_eq_true rfl) (Nat.le_of_ble_eq_true rfl) ?_
      exact vx_ret (rg_iret hE hr rfl hlk hH ⟨rfl, rfl, rfl, by rw [spQuarrel, onK_t hT hT6, onK_t hi hi4, onK_t (show 1 < 3 by decide) (by decide)]; rfl⟩ dX10_quarrel_59)
    · subst hkw
      refine lv_tableIn (x := nI 2) (off := 43) (tgt := 60) hE.1 hE.2.1 dX10_quarrel_17 (by decide) (by decide) rfl (by decide) ?_
      refine lv_aload hE.1 hE.2.1 dX10_quarrel_60 (lv_at hl 0 rfl) ?_
      refine lv_aload hE.1 hE.2.1 dX10_quarrel_62 (lv_at hl 0 rfl) ?_
      refine rg_getr hE hH cf_X7 fl_X10_168 rfl (mt) (kt) (v := tL T + 14) (r8) dX10_quarrel_64 ?_
      refine lv_iload_n hE.1 hE.2.1 dX10_quarrel_67 rfl (lv_at hl 3 rfl) ?_
      refine rg_iald hE hH (hA14.1) (hA14.2.1) (by omega) (v := nI (((qL (aTb a T)).getD i (0, 0, 0)).1)) (hqi.1) dX10_quarrel_68 ?_
      refine lv_aload hE.1 hE.2.1 dX10_quarrel_69 (lv_at hl 0 rfl) ?_
      refine rg_getr hE hH cf_X7 fl_X10_171 rfl (mt) (kt) (v := tL T + 15) (r9) dX10_quarrel_71 ?_
      refine lv_iload_n hE.1 hE.2.1 dX10_quarrel_74 rfl (lv_at hl 3 rfl) ?_
      refine rg_iald hE hH (hA15.1) (hA15.2.1) (by omega) (v := nI (((qL (aTb a T)).getD i (0, 0, 0)).2.1)) (hqi.2) dX10_quarrel_75 ?_
      refine rg_VI (As := [.int (nI (((qL (aTb a T)).getD i (0, 0, 0)).1)), .int (nI (((qL (aTb a T)).getD i (0, 0, 0)).2.1))]) (rest := []) hE hml hH mc_X10_174 (c_Tb_both l z G iv jv (tL T) (bL T) (aTb a T) hk hTb0 (by unfold tL; omega) (by unfold bL; omega) (by unfold bL tL; omega) hLy ((qL (aTb a T)).getD i (0, 0, 0)).1 ((qL (aTb a T)).getD i (0, 0, 0)).2.1 (by omega) hqm.2.1) (mt) (kt) (by decide) rfl ⟨Nat.le_of_ble_eq_true rfl, Nat.le_of_ble_eq_true rfl⟩ rfl hl.1 (by simp [Value.category]) dX10_quarrel_76 ⟨Nat.le_of_ble_eq_true rfl, Nat.le_of_ble_eq_true rfl⟩ (fun r76 G76 iv76 jv76 H locs hp76 hH => ?_)
      obtain ⟨rfl, rfl, rfl, hb76⟩ := hp76
      rw [hqm.2.2] at hb76
      subst hb76
      refine W.widen (k := 4) (n := 24) (Nat.le_of_ble_eq_true rfl) (Nat.le_of_ble_eq_true rfl) ?_
      exact vx_ret (rg_iret hE hr rfl hlk hH ⟨rfl, rfl, rfl, by rw [spQuarrel, onK_t hT hT6, onK_t hi hi4, onK_t (show 2 < 3 by decide) (by decide)]; rfl⟩ dX10_quarrel_79)
  · refine lv_tableOut (tgt := 80) hE.1 hE.2.1 dX10_quarrel_17 (by have := inI_out (by decide) hw17; omega) (by decide) ?_
    exact rx_throw (i := 9) hlt hE hH xw_N (by decide) rfl hml hl.1 dX10_quarrel_80 dX10_quarrel_83 dX10_quarrel_84 dX10_quarrel_86 dX10_quarrel_89 hxt (Nat.le_of_ble_eq_true rfl) (by first | exact Nat.le_of_ble_eq_true rfl | (simp [Value.category])) (Nat.le_of_ble_eq_true rfl) (Nat.le_of_ble_eq_true rfl) hlk (Nat.le_of_ble_eq_true rfl) (Nat.le_of_ble_eq_true rfl) ⟨rfl, rfl, rfl, rfl, by rw [spQuarrel, onK_t hT hT6, onK_t hi hi4, onK_f (by simpa using hw17)]⟩
set_option maxRecDepth 100000 in
set_option maxHeartbeats 4000000 in
theorem c_x_idle (l : Launch) (z : ZK) (hlt : l.stackTraces = false) (G : GW) (iv : IV) (jv : JV) (a : AS) (hX : CSt G iv jv a) (x y : Int32) : cXI l z yX10_idle cX10_idle 4 (some .boolean) 8 130 4 24 [.ref (G.ad 100), .int (x), .int (y)] G iv jv (fun r G' iv' jv' => G = G' ∧ iv = iv' ∧ jv = jv' ∧ spIdle a x y = ok r a) (fun E G' iv' jv' => G = G' ∧ iv = iv' ∧ jv = jv' ∧ E = nNSE ∧ spIdle a x y = no 1 a) := by
  intro sz
  refine rx_entry rfl (Nat.le_of_ble_eq_true rfl) ?_
  intro pq eq sq mq bq methq cq ls hE hr hlk hml hnm hl hsz hxt hH
  have hl : lv_has ls 4 [(0, .ref (G.ad 100)), (1, .int (x)), (2, .int (y))] := hl
  refine lv_aload_n hE.1 hE.2.1 dX10_idle_0 rfl (lv_at hl 0 rfl) ?_
  refine lv_iload_n hE.1 hE.2.1 dX10_idle_1 rfl (lv_at hl 1 rfl) ?_
  refine rx_VR (As := [.int (x)]) (rest := []) hE hml hH mc_X10_87 (c_x_tab l z hlt G iv jv a hX x) (hX.1.1.1) (hX.1.1.2) (by decide) rfl ⟨Nat.le_of_ble_eq_true rfl, Nat.le_of_ble_eq_true rfl⟩ rfl hl.1 (by simp [Value.category]) dX10_idle_2 ⟨Nat.le_of_ble_eq_true rfl, Nat.le_of_ble_eq_true rfl⟩ (fun E ce q G' iv' jv' H locs hpx hH hce hcv hcl => rx_out hE hH hxt hlk hce hcv hcl (Nat.le_of_ble_eq_true rfl) (Nat.le_of_ble_eq_true rfl) (by obtain ⟨rfl, rfl, rfl, rfl, hcx⟩ := hpx; exact ⟨rfl, rfl, rfl, rfl, by rw [spIdle, onK_f hcx]⟩)) (fun r2 G2 iv2 jv2 H locs hp2 hH => ?_)
  obtain ⟨rfl, rfl, rfl, hin2, rfl⟩ := hp2
  obtain ⟨T, hT, rfl⟩ := inI_of (n := (aT a).length) (by have := hX.2.2.2.2.1.2.1; have := hX.2.2.2.2.2.1.2.1; omega) hin2
  rw [cl_nI (by have := hX.2.2.2.2.1.2.1; have := hX.2.2.2.2.2.1.2.1; omega)]
  obtain ⟨-, hTb0, hLy, hTd, hk, hW⟩ := hX.2.2.2.2.1.2.2 T hT
  have hTb1 := hTb0
  obtain ⟨⟨mt, kt⟩, hL, hCa, hA10, hA11, hA12, hA13, hA14, hA15, hA16, hA17, hTm0, r0, r2, r3, r4, r5, r6, r8, r9, r11, r13, r14⟩ := hTb1
  obtain ⟨h1, hCV, ⟨h7, hdn, hho⟩, hQL, ⟨hid, h12⟩, hV, hon, hTK, h15⟩ := hTd
  have hTm1 := hTm0
  obtain ⟨⟨mu, ku⟩, hB1, hB2, hB3, hBi, hB10, hB11, hB12, hB13, hB14, s0, s1, s3, s4, s5, s6, s7, s8⟩ := hTm1
  have hm5 := hk.2.1
  have hm1 := hk.1
  have hC4 := hk.2.2.2.1
  have hR40 := hk.2.2.2.2.2.2.1
  have hT8 := tT_le hk
  have hnh := nHo_le hk
  have hql := qL_len hk
  have hrl := rule_len hk
  have hol := offers_len hk
  have hT6 : (aT a).length < 2147483648 := by have := hX.2.2.2.2.1.2.1; omega
  have l10 := hA10.2.2
  have l11 := hA11.2.2
  have l12 := hA12.2.2
  have l13 := hA13.2.2
  have l14 := hA14.2.2
  have l15 := hA15.2.2
  have l16 := hA16.2.2
  have l17 := hA17.2.2
  have l32b := hB12.2.2
  refine lv_astore_n (lv' := [(3, .ref (G.ad (tL T))), (0, .ref (G.ad 100)), (1, .int (nI T)), (2, .int (y))]) hE.1 hE.2.1 dX10_idle_5 rfl hl (by decide) rfl (fun ls hl => ?_)
  refine lv_iload_n hE.1 hE.2.1 dX10_idle_6 rfl (lv_at hl 3 rfl) ?_
  refine lv_aload_n hE.1 hE.2.1 dX10_idle_7 rfl (lv_at hl 0 rfl) ?_
  refine rg_getr hE hH cf_X7 fl_X10_91 rfl (mt) (kt) (v := bL T) (r0) dX10_idle_8 ?_
  refine rg_getr hE hH cf_X1 fl_X10_118 rfl (hL.1.1) (hL.1.2) (v := bL T + 30) (hL.2.2.2.2.2.2.2) dX10_idle_11 ?_
  refine rg_geti hE hH cf_X6 fl_X10_122 rfl (hL.2.2.2.1.1.1) (hL.2.2.2.1.1.2) (v := nI (tR (aTb a T))) (hLy.2.2.1) dX10_idle_14 ?_
  refine rx_SV (As := [.int (y), .int (nI (tR (aTb a T)))]) (rest := []) hE hml hH mc_X10_147 (c_x_below l z hlt G iv jv y (tR (aTb a T))) rfl ⟨Nat.le_of_ble_eq_true rfl, Nat.le_of_ble_eq_true rfl⟩ rfl hl.1 (by simp [Value.category]) dX10_idle_17 ⟨Nat.le_of_ble_eq_true rfl, Nat.le_of_ble_eq_true rfl⟩ (fun E ce q G' iv' jv' H locs hpx hH hce hcv hcl => rx_out hE hH hxt hlk hce hcv hcl (Nat.le_of_ble_eq_true rfl) (Nat.le_of_ble_eq_true rfl) (by obtain ⟨rfl, rfl, rfl, rfl, hcx⟩ := hpx; exact ⟨rfl, rfl, rfl, rfl, by rw [spIdle, onK_t hT hT6, onK_f hcx]⟩)) (fun G17 iv17 jv17 H locs hp17 hH => ?_)
  obtain ⟨rfl, rfl, rfl, hq17⟩ := hp17
  obtain ⟨r, hr_, rfl⟩ := inI_of (n := tR (aTb a T)) (by omega) hq17
  have hr4 : tR (aTb a T) < 2147483648 := by omega
  refine lv_aload_n hE.1 hE.2.1 dX10_idle_20 rfl (lv_at hl 0 rfl) ?_
  refine rg_getr hE hH cf_X7 fl_X10_178 rfl (mt) (kt) (v := tL T + 16) (r11) dX10_idle_21 ?_
  refine lv_iload_n hE.1 hE.2.1 dX10_idle_24 rfl (lv_at hl 3 rfl) ?_
  refine rg_zald hE hH (hA16.1) (hA16.2.1) (by omega) (v := bI (idl (aTb a T) r)) (hid r hr_) dX10_idle_25 ?_
  refine W.widen (k := 4) (n := 24) (Nat.le_of_ble_eq_true rfl) (Nat.le_of_ble_eq_true rfl) ?_
  exact vx_ret (rg_iret hE hr nz_bI hlk hH ⟨rfl, rfl, rfl, by rw [spIdle, onK_t hT hT6, onK_t hr_ hr4]⟩ dX10_idle_26)
set_option maxRecDepth 100000 in
set_option maxHeartbeats 4000000 in
theorem c_x_term (l : Launch) (z : ZK) (hlt : l.stackTraces = false) (G : GW) (iv : IV) (jv : JV) (a : AS) (hX : CSt G iv jv a) (x y w : Int32) : cXI l z yX10_term cX10_term 5 (some .int) 8 130 4 24 [.ref (G.ad 100), .int (x), .int (y), .int (w)] G iv jv (fun r G' iv' jv' => G = G' ∧ iv = iv' ∧ jv = jv' ∧ spTerm a x y w = ok r a) (fun E G' iv' jv' => G = G' ∧ iv = iv' ∧ jv = jv' ∧ E = nNSE ∧ spTerm a x y w = no 1 a) := by
  intro sz
  refine rx_entry rfl (Nat.le_of_ble_eq_true rfl) ?_
  intro pq eq sq mq bq methq cq ls hE hr hlk hml hnm hl hsz hxt hH
  have hl : lv_has ls 5 [(0, .ref (G.ad 100)), (1, .int (x)), (2, .int (y)), (3, .int (w))] := hl
  refine lv_aload_n hE.1 hE.2.1 dX10_term_0 rfl (lv_at hl 0 rfl) ?_
  refine lv_iload_n hE.1 hE.2.1 dX10_term_1 rfl (lv_at hl 1 rfl) ?_
  refine rx_VR (As := [.int (x)]) (rest := []) hE hml hH mc_X10_87 (c_x_tab l z hlt G iv jv a hX x) (hX.1.1.1) (hX.1.1.2) (by decide) rfl ⟨Nat.le_of_ble_eq_true rfl, Nat.le_of_ble_eq_true rfl⟩ rfl hl.1 (by simp [Value.category]) dX10_term_2 ⟨Nat.le_of_ble_eq_true rfl, Nat.le_of_ble_eq_true rfl⟩ (fun E ce q G' iv' jv' H locs hpx hH hce hcv hcl => rx_out hE hH hxt hlk hce hcv hcl (Nat.le_of_ble_eq_true rfl) (Nat.le_of_ble_eq_true rfl) (by obtain ⟨rfl, rfl, rfl, rfl, hcx⟩ := hpx; exact ⟨rfl, rfl, rfl, rfl, by rw [spTerm, onK_f hcx]⟩)) (fun r2 G2 iv2 jv2 H locs hp2 hH => ?_)
  obtain ⟨rfl, rfl, rfl, hin2, rfl⟩ := hp2
  obtain ⟨T, hT, rfl⟩ := inI_of (n := (aT a).length) (by have := hX.2.2.2.2.1.2.1; have := hX.2.2.2.2.2.1.2.1; omega) hin2
  rw [cl_nI (by have := hX.2.2.2.2.1.2.1; have := hX.2.2.2.2.2.1.2.1; omega)]
  obtain ⟨-, hTb0, hLy, hTd, hk, hW⟩ := hX.2.2.2.2.1.2.2 T hT
  have hTb1 := hTb0
  obtain ⟨⟨mt, kt⟩, hL, hCa, hA10, hA11, hA12, hA13, hA14, hA15, hA16, hA17, hTm0, r0, r2, r3, r4, r5, r6, r8, r9, r11, r13, r14⟩ := hTb1
  obtain ⟨h1, hCV, ⟨h7, hdn, hho⟩, hQL, ⟨hid, h12⟩, hV, hon, hTK, h15⟩ := hTd
  have hTm1 := hTm0
  obtain ⟨⟨mu, ku⟩, hB1, hB2, hB3, hBi, hB10, hB11, hB12, hB13, hB14, s0, s1, s3, s4, s5, s6, s7, s8⟩ := hTm1
  have hm5 := hk.2.1
  have hm1 := hk.1
  have hC4 := hk.2.2.2.1
  have hR40 := hk.2.2.2.2.2.2.1
  have hT8 := tT_le hk
  have hnh := nHo_le hk
  have hql := qL_len hk
  have hrl := rule_len hk
  have hol := offers_len hk
  have hT6 : (aT a).length < 2147483648 := by have := hX.2.2.2.2.1.2.1; omega
  have l10 := hA10.2.2
  have l11 := hA11.2.2
  have l12 := hA12.2.2
  have l13 := hA13.2.2
  have l14 := hA14.2.2
  have l15 := hA15.2.2
  have l16 := hA16.2.2
  have l17 := hA17.2.2
  have l32b := hB12.2.2
  refine lv_astore (lv' := [(4, .ref (G.ad (tL T))), (0, .ref (G.ad 100)), (1, .int (nI T)), (2, .int (y)), (3, .int (w))]) hE.1 hE.2.1 dX10_term_5 hl (by decide) rfl (fun ls hl => ?_)
  refine lv_iload_n hE.1 hE.2.1 dX10_term_7 rfl (lv_at hl 3 rfl) ?_
  refine lv_aload hE.1 hE.2.1 dX10_term_8 (lv_at hl 0 rfl) ?_
  refine rg_geti hE hH cf_X7 fl_X10_134 rfl (mt) (kt) (v := nI ((rule (aTb a T)).length)) (h15) dX10_term_10 ?_
  refine rx_SV (As := [.int (y), .int (nI ((rule (aTb a T)).length))]) (rest := []) hE hml hH mc_X10_147 (c_x_below l z hlt G iv jv y ((rule (aTb a T)).length)) rfl ⟨Nat.le_of_ble_eq_true rfl, Nat.le_of_ble_eq_true rfl⟩ rfl hl.1 (by simp [Value.category]) dX10_term_13 ⟨Nat.le_of_ble_eq_true rfl, Nat.le_of_ble_eq_true rfl⟩ (fun E ce q G' iv' jv' H locs hpx hH hce hcv hcl => rx_out hE hH hxt hlk hce hcv hcl (Nat.le_of_ble_eq_true rfl) (Nat.le_of_ble_eq_true rfl) (by obtain ⟨rfl, rfl, rfl, rfl, hcx⟩ := hpx; exact ⟨rfl, rfl, rfl, rfl, by rw [spTerm, onK_t hT hT6, onK_f hcx]⟩)) (fun G13 iv13 jv13 H locs hp13 hH => ?_)
  obtain ⟨rfl, rfl, rfl, hq13⟩ := hp13
  obtain ⟨i, hi, rfl⟩ := inI_of (n := (rule (aTb a T)).length) (by omega) hq13
  have hi4 : (rule (aTb a T)).length < 2147483648 := by omega
  have hrt := rule_lt hi
  have htl := tk_len hk
  have htki := (hTK.2 i (by rw [List.length_append, List.length_map]; omega)).trans (by rw [tk_r hi])
  obtain ⟨y, hy, hy2⟩ := hon _ hrt.1
  have hyv := only_r hk hi hy2
  refine lv_iload_n hE.1 hE.2.1 dX10_term_16 rfl (lv_at hl 4 rfl) ?_
  refine lv_iconst (v := -1) hE.1 hE.2.1 dX10_term_17 (by decide) ?_
  refine lv_icmp_ne (tgt := 38) hE.1 hE.2.1 dX10_term_18 (by decide) (fun c18 => ?_) (fun c18 => ?_)
  · refine lv_iload_n hE.1 hE.2.1 dX10_term_38 rfl (lv_at hl 4 rfl) ?_
    refine lv_aload hE.1 hE.2.1 dX10_term_39 (lv_at hl 0 rfl) ?_
    refine rg_getr hE hH cf_X7 fl_X10_91 rfl (mt) (kt) (v := bL T) (r0) dX10_term_41 ?_
    refine rg_geti hE hH cf_X1 fl_X10_103 rfl (hL.1.1) (hL.1.2) (v := nI (tm (aTb a T))) (hLy.1.1) dX10_term_44 ?_
    refine rx_SV (As := [.int (w), .int (nI (tm (aTb a T)))]) (rest := []) hE hml hH mc_X10_147 (c_x_below l z hlt G iv jv w (tm (aTb a T))) rfl ⟨Nat.le_of_ble_eq_true rfl, Nat.le_of_ble_eq_true rfl⟩ rfl hl.1 (by simp [Value.category]) dX10_term_47 ⟨Nat.le_of_ble_eq_true rfl, Nat.le_of_ble_eq_true rfl⟩ (fun E ce q G' iv' jv' H locs hpx hH hce hcv hcl => rx_out hE hH hxt hlk hce hcv hcl (Nat.le_of_ble_eq_true rfl) (Nat.le_of_ble_eq_true rfl) (by obtain ⟨rfl, rfl, rfl, rfl, hcx⟩ := hpx; exact ⟨rfl, rfl, rfl, rfl, by rw [spTerm, onK_t hT hT6, onK_t hi hi4, onM_f c18 hcx]⟩)) (fun G47 iv47 jv47 H locs hp47 hH => ?_)
    obtain ⟨rfl, rfl, rfl, hq47⟩ := hp47
    obtain ⟨k, hk2, rfl⟩ := inI_of (n := tm (aTb a T)) (by omega) hq47
    refine lv_aload hE.1 hE.2.1 dX10_term_50 (lv_at hl 0 rfl) ?_
    refine rg_getr hE hH cf_X7 fl_X10_182 rfl (mt) (kt) (v := tL T + 20) (r13) dX10_term_52 ?_
    refine lv_aload hE.1 hE.2.1 dX10_term_55 (lv_at hl 0 rfl) ?_
    refine rg_getr hE hH cf_X7 fl_X10_191 rfl (mt) (kt) (v := tL T + 17) (r14) dX10_term_57 ?_
    refine lv_iload_n hE.1 hE.2.1 dX10_term_60 rfl (lv_at hl 3 rfl) ?_
    refine rg_iald hE hH (hA17.1) (hA17.2.1) (by omega) (v := nI (((rule (aTb a T)).getD i (0, 0)).1)) (htki) dX10_term_61 ?_
    refine lv_iload_n hE.1 hE.2.1 dX10_term_62 rfl (lv_at hl 4 rfl) ?_
    refine rg_VI (As := [.int (nI (((rule (aTb a T)).getD i (0, 0)).1)), .int (nI k)]) (rest := []) hE hml hH mc_X10_194 (c_Tm_told l z G iv jv (tL T + 20) (aTb a T) hk hTm0 hV ((rule (aTb a T)).getD i (0, 0)).1 hrt.1 k hk2) (mu) (ku) (by decide) rfl ⟨Nat.le_of_ble_eq_true rfl, Nat.le_of_ble_eq_true rfl⟩ rfl hl.1 (by simp [Value.category]) dX10_term_63 ⟨Nat.le_of_ble_eq_true rfl, Nat.le_of_ble_eq_true rfl⟩ (fun r63 G63 iv63 jv63 H locs hp63 hH => ?_)
    obtain ⟨rfl, rfl, rfl, rfl⟩ := hp63
    refine W.widen (k := 4) (n := 24) (Nat.le_of_ble_eq_true rfl) (Nat.le_of_ble_eq_true rfl) ?_
    exact vx_ret (rg_iret hE hr rfl hlk hH ⟨rfl, rfl, rfl, by rw [spTerm, onK_t hT hT6, onK_t hi hi4, onM_s hk2 (by omega)]⟩ dX10_term_66)
  · refine lv_aload hE.1 hE.2.1 dX10_term_21 (lv_at hl 0 rfl) ?_
    refine rg_getr hE hH cf_X7 fl_X10_182 rfl (mt) (kt) (v := tL T + 20) (r13) dX10_term_23 ?_
    refine rg_getr hE hH cf_X8 fl_X10_186 rfl (mu) (ku) (v := tL T + 20 + 12) (s6) dX10_term_26 ?_
    refine lv_aload hE.1 hE.2.1 dX10_term_29 (lv_at hl 0 rfl) ?_
    refine rg_getr hE hH cf_X7 fl_X10_191 rfl (mt) (kt) (v := tL T + 17) (r14) dX10_term_31 ?_
    refine lv_iload_n hE.1 hE.2.1 dX10_term_34 rfl (lv_at hl 3 rfl) ?_
    refine rg_iald hE hH (hA17.1) (hA17.2.1) (by omega) (v := nI (((rule (aTb a T)).getD i (0, 0)).1)) (htki) dX10_term_35 ?_
    refine rg_iald hE hH (hB12.1) (hB12.2.1) (by omega) (v := nI (((rule (aTb a T)).getD i (0, 0)).2)) (hy.trans hyv) dX10_term_36 ?_
    refine W.widen (k := 4) (n := 24) (Nat.le_of_ble_eq_true rfl) (Nat.le_of_ble_eq_true rfl) ?_
    exact vx_ret (rg_iret hE hr rfl hlk hH ⟨rfl, rfl, rfl, by rw [spTerm, onK_t hT hT6, onK_t hi hi4, onM_n c18]⟩ dX10_term_37)
set_option maxRecDepth 100000 in
set_option maxHeartbeats 4000000 in
theorem c_x_offered (l : Launch) (z : ZK) (hlt : l.stackTraces = false) (G : GW) (iv : IV) (jv : JV) (a : AS) (hX : CSt G iv jv a) (x y w : Int32) : cXI l z yX10_offered cX10_offered 6 (some .int) 8 130 4 24 [.ref (G.ad 100), .int (x), .int (y), .int (w)] G iv jv (fun r G' iv' jv' => G = G' ∧ iv = iv' ∧ jv = jv' ∧ spOffered a x y w = ok r a) (fun E G' iv' jv' => G = G' ∧ iv = iv' ∧ jv = jv' ∧ E = nNSE ∧ spOffered a x y w = no 1 a) := by
  intro sz
  refine rx_entry rfl (Nat.le_of_ble_eq_true rfl) ?_
  intro pq eq sq mq bq methq cq ls hE hr hlk hml hnm hl hsz hxt hH
  have hl : lv_has ls 6 [(0, .ref (G.ad 100)), (1, .int (x)), (2, .int (y)), (3, .int (w))] := hl
  refine lv_aload_n hE.1 hE.2.1 dX10_offered_0 rfl (lv_at hl 0 rfl) ?_
  refine lv_iload_n hE.1 hE.2.1 dX10_offered_1 rfl (lv_at hl 1 rfl) ?_
  refine rx_VR (As := [.int (x)]) (rest := []) hE hml hH mc_X10_87 (c_x_tab l z hlt G iv jv a hX x) (hX.1.1.1) (hX.1.1.2) (by decide) rfl ⟨Nat.le_of_ble_eq_true rfl, Nat.le_of_ble_eq_true rfl⟩ rfl hl.1 (by simp [Value.category]) dX10_offered_2 ⟨Nat.le_of_ble_eq_true rfl, Nat.le_of_ble_eq_true rfl⟩ (fun E ce q G' iv' jv' H locs hpx hH hce hcv hcl => rx_out hE hH hxt hlk hce hcv hcl (Nat.le_of_ble_eq_true rfl) (Nat.le_of_ble_eq_true rfl) (by obtain ⟨rfl, rfl, rfl, rfl, hcx⟩ := hpx; exact ⟨rfl, rfl, rfl, rfl, by rw [spOffered, onK_f hcx]⟩)) (fun r2 G2 iv2 jv2 H locs hp2 hH => ?_)
  obtain ⟨rfl, rfl, rfl, hin2, rfl⟩ := hp2
  obtain ⟨T, hT, rfl⟩ := inI_of (n := (aT a).length) (by have := hX.2.2.2.2.1.2.1; have := hX.2.2.2.2.2.1.2.1; omega) hin2
  rw [cl_nI (by have := hX.2.2.2.2.1.2.1; have := hX.2.2.2.2.2.1.2.1; omega)]
  obtain ⟨-, hTb0, hLy, hTd, hk, hW⟩ := hX.2.2.2.2.1.2.2 T hT
  have hTb1 := hTb0
  obtain ⟨⟨mt, kt⟩, hL, hCa, hA10, hA11, hA12, hA13, hA14, hA15, hA16, hA17, hTm0, r0, r2, r3, r4, r5, r6, r8, r9, r11, r13, r14⟩ := hTb1
  obtain ⟨h1, hCV, ⟨h7, hdn, hho⟩, hQL, ⟨hid, h12⟩, hV, hon, hTK, h15⟩ := hTd
  have hTm1 := hTm0
  obtain ⟨⟨mu, ku⟩, hB1, hB2, hB3, hBi, hB10, hB11, hB12, hB13, hB14, s0, s1, s3, s4, s5, s6, s7, s8⟩ := hTm1
  have hm5 := hk.2.1
  have hm1 := hk.1
  have hC4 := hk.2.2.2.1
  have hR40 := hk.2.2.2.2.2.2.1
  have hT8 := tT_le hk
  have hnh := nHo_le hk
  have hql := qL_len hk
  have hrl := rule_len hk
  have hol := offers_len hk
  have hT6 : (aT a).length < 2147483648 := by have := hX.2.2.2.2.1.2.1; omega
  have l10 := hA10.2.2
  have l11 := hA11.2.2
  have l12 := hA12.2.2
  have l13 := hA13.2.2
  have l14 := hA14.2.2
  have l15 := hA15.2.2
  have l16 := hA16.2.2
  have l17 := hA17.2.2
  have l32b := hB12.2.2
  refine lv_astore (lv' := [(4, .ref (G.ad (tL T))), (0, .ref (G.ad 100)), (1, .int (nI T)), (2, .int (y)), (3, .int (w))]) hE.1 hE.2.1 dX10_offered_5 hl (by decide) rfl (fun ls hl => ?_)
  refine lv_iload_n hE.1 hE.2.1 dX10_offered_7 rfl (lv_at hl 3 rfl) ?_
  refine lv_aload hE.1 hE.2.1 dX10_offered_8 (lv_at hl 0 rfl) ?_
  refine rg_geti hE hH cf_X7 fl_X10_137 rfl (mt) (kt) (v := nI ((rule (aTb a T)).length + (offers (aTb a T)).length)) (hTK.1.trans (by rw [List.length_append, List.length_map])) dX10_offered_10 ?_
  refine lv_aload hE.1 hE.2.1 dX10_offered_13 (lv_at hl 0 rfl) ?_
  refine rg_geti hE hH cf_X7 fl_X10_134 rfl (mt) (kt) (v := nI ((rule (aTb a T)).length)) (h15) dX10_offered_15 ?_
  refine rn_isub hE dX10_offered_18 (by omega) ?_
  refine rn_as (v' := nI ((offers (aTb a T)).length)) (by rw [Nat.add_sub_cancel_left]) ?_
  refine rx_SV (As := [.int (y), .int (nI ((offers (aTb a T)).length))]) (rest := []) hE hml hH mc_X10_147 (c_x_below l z hlt G iv jv y ((offers (aTb a T)).length)) rfl ⟨Nat.le_of_ble_eq_true rfl, Nat.le_of_ble_eq_true rfl⟩ rfl hl.1 (by simp [Value.category]) dX10_offered_19 ⟨Nat.le_of_ble_eq_true rfl, Nat.le_of_ble_eq_true rfl⟩ (fun E ce q G' iv' jv' H locs hpx hH hce hcv hcl => rx_out hE hH hxt hlk hce hcv hcl (Nat.le_of_ble_eq_true rfl) (Nat.le_of_ble_eq_true rfl) (by obtain ⟨rfl, rfl, rfl, rfl, hcx⟩ := hpx; exact ⟨rfl, rfl, rfl, rfl, by rw [spOffered, onK_t hT hT6, onK_f hcx]⟩)) (fun G19 iv19 jv19 H locs hp19 hH => ?_)
  obtain ⟨rfl, rfl, rfl, hq19⟩ := hp19
  obtain ⟨i, hi, rfl⟩ := inI_of (n := (offers (aTb a T)).length) (by omega) hq19
  have hi4 : (offers (aTb a T)).length < 2147483648 := by omega
  have hrt := offers_lt hi
  have htl := tk_len hk
  have htki := (hTK.2 ((rule (aTb a T)).length + i) (by rw [List.length_append, List.length_map]; omega)).trans (by rw [tk_o hi])
  refine lv_aload hE.1 hE.2.1 dX10_offered_22 (lv_at hl 0 rfl) ?_
  refine rg_getr hE hH cf_X7 fl_X10_191 rfl (mt) (kt) (v := tL T + 17) (r14) dX10_offered_24 ?_
  refine lv_aload hE.1 hE.2.1 dX10_offered_27 (lv_at hl 0 rfl) ?_
  refine rg_geti hE hH cf_X7 fl_X10_134 rfl (mt) (kt) (v := nI ((rule (aTb a T)).length)) (h15) dX10_offered_29 ?_
  refine lv_iload_n hE.1 hE.2.1 dX10_offered_32 rfl (lv_at hl 3 rfl) ?_
  refine rn_iadd hE dX10_offered_33 ?_
  refine rg_iald hE hH (hA17.1) (hA17.2.1) (by omega) (v := nI (((offers (aTb a T)).getD i 0))) (htki) dX10_offered_34 ?_
  refine lv_istore (lv' := [(5, .int (nI (((offers (aTb a T)).getD i 0)))), (4, .ref (G.ad (tL T))), (0, .ref (G.ad 100)), (1, .int (nI T)), (2, .int (nI i)), (3, .int (w))]) hE.1 hE.2.1 dX10_offered_35 hl (by decide) rfl (fun ls hl => ?_)
  refine lv_iload_n hE.1 hE.2.1 dX10_offered_37 rfl (lv_at hl 5 rfl) ?_
  refine lv_iconst (v := -1) hE.1 hE.2.1 dX10_offered_38 (by decide) ?_
  refine lv_icmp_ne (tgt := 53) hE.1 hE.2.1 dX10_offered_39 (by decide) (fun c39 => ?_) (fun c39 => ?_)
  · refine lv_iload_n hE.1 hE.2.1 dX10_offered_53 rfl (lv_at hl 5 rfl) ?_
    refine lv_aload hE.1 hE.2.1 dX10_offered_54 (lv_at hl 1 rfl) ?_
    refine rg_getr hE hH cf_X7 fl_X10_91 rfl (mt) (kt) (v := bL T) (r0) dX10_offered_56 ?_
    refine rg_geti hE hH cf_X1 fl_X10_103 rfl (hL.1.1) (hL.1.2) (v := nI (tm (aTb a T))) (hLy.1.1) dX10_offered_59 ?_
    refine rx_SV (As := [.int (w), .int (nI (tm (aTb a T)))]) (rest := []) hE hml hH mc_X10_147 (c_x_below l z hlt G iv jv w (tm (aTb a T))) rfl ⟨Nat.le_of_ble_eq_true rfl, Nat.le_of_ble_eq_true rfl⟩ rfl hl.1 (by simp [Value.category]) dX10_offered_62 ⟨Nat.le_of_ble_eq_true rfl, Nat.le_of_ble_eq_true rfl⟩ (fun E ce q G' iv' jv' H locs hpx hH hce hcv hcl => rx_out hE hH hxt hlk hce hcv hcl (Nat.le_of_ble_eq_true rfl) (Nat.le_of_ble_eq_true rfl) (by obtain ⟨rfl, rfl, rfl, rfl, hcx⟩ := hpx; exact ⟨rfl, rfl, rfl, rfl, by rw [spOffered, onK_t hT hT6, onK_t hi hi4, onM_f c39 hcx]⟩)) (fun G62 iv62 jv62 H locs hp62 hH => ?_)
    obtain ⟨rfl, rfl, rfl, hq62⟩ := hp62
    obtain ⟨k, hk2, rfl⟩ := inI_of (n := tm (aTb a T)) (by omega) hq62
    refine lv_aload hE.1 hE.2.1 dX10_offered_65 (lv_at hl 1 rfl) ?_
    refine rg_getr hE hH cf_X7 fl_X10_182 rfl (mt) (kt) (v := tL T + 20) (r13) dX10_offered_67 ?_
    refine lv_iload hE.1 hE.2.1 dX10_offered_70 (lv_at hl 0 rfl) ?_
    refine lv_iload_n hE.1 hE.2.1 dX10_offered_72 rfl (lv_at hl 5 rfl) ?_
    refine rg_VI (As := [.int (nI (((offers (aTb a T)).getD i 0))), .int (nI k)]) (rest := []) hE hml hH mc_X10_194 (c_Tm_told l z G iv jv (tL T + 20) (aTb a T) hk hTm0 hV ((offers (aTb a T)).getD i 0) hrt k hk2) (mu) (ku) (by decide) rfl ⟨Nat.le_of_ble_eq_true rfl, Nat.le_of_ble_eq_true rfl⟩ rfl hl.1 (by simp [Value.category]) dX10_offered_73 ⟨Nat.le_of_ble_eq_true rfl, Nat.le_of_ble_eq_true rfl⟩ (fun r73 G73 iv73 jv73 H locs hp73 hH => ?_)
    obtain ⟨rfl, rfl, rfl, rfl⟩ := hp73
    refine W.widen (k := 4) (n := 24) (Nat.le_of_ble_eq_true rfl) (Nat.le_of_ble_eq_true rfl) ?_
    exact vx_ret (rg_iret hE hr rfl hlk hH ⟨rfl, rfl, rfl, by rw [spOffered, onK_t hT hT6, onK_t hi hi4, onM_s hk2 (by omega)]⟩ dX10_offered_76)
  · refine lv_aload hE.1 hE.2.1 dX10_offered_42 (lv_at hl 1 rfl) ?_
    refine rg_getr hE hH cf_X7 fl_X10_182 rfl (mt) (kt) (v := tL T + 20) (r13) dX10_offered_44 ?_
    refine lv_iload hE.1 hE.2.1 dX10_offered_47 (lv_at hl 0 rfl) ?_
    refine rg_VI (As := [.int (nI (((offers (aTb a T)).getD i 0)))]) (rest := []) hE hml hH mc_X10_197 (c_Tm_held l z G iv jv (tL T + 20) (aTb a T) hk hTm0 hV ((offers (aTb a T)).getD i 0) hrt) (mu) (ku) (by decide) rfl ⟨Nat.le_of_ble_eq_true rfl, Nat.le_of_ble_eq_true rfl⟩ rfl hl.1 (by simp [Value.category]) dX10_offered_49 ⟨Nat.le_of_ble_eq_true rfl, Nat.le_of_ble_eq_true rfl⟩ (fun r49 G49 iv49 jv49 H locs hp49 hH => ?_)
    obtain ⟨rfl, rfl, rfl, rfl⟩ := hp49
    refine W.widen (k := 4) (n := 24) (Nat.le_of_ble_eq_true rfl) (Nat.le_of_ble_eq_true rfl) ?_
    exact vx_ret (rg_iret hE hr rfl hlk hH ⟨rfl, rfl, rfl, by rw [spOffered, onK_t hT hT6, onK_t hi hi4, onM_n c39]⟩ dX10_offered_52)
set_option maxRecDepth 100000 in
set_option maxHeartbeats 4000000 in
theorem c_x_told (l : Launch) (z : ZK) (hlt : l.stackTraces = false) (G : GW) (iv : IV) (jv : JV) (a : AS) (hX : CSt G iv jv a) (x : Int32) : cXI l z yX10_told cX10_told 2 (some .int) 8 130 4 24 [.ref (G.ad 100), .int (x)] G iv jv (fun r G' iv' jv' => G = G' ∧ iv = iv' ∧ jv = jv' ∧ spTold a x = ok r a) (fun E G' iv' jv' => G = G' ∧ iv = iv' ∧ jv = jv' ∧ E = nNSE ∧ spTold a x = no 1 a) := by
  intro sz
  refine rx_entry rfl (Nat.le_of_ble_eq_true rfl) ?_
  intro pq eq sq mq bq methq cq ls hE hr hlk hml hnm hl hsz hxt hH
  have hl : lv_has ls 2 [(0, .ref (G.ad 100)), (1, .int (x))] := hl
  have hOu := hX.1.2.2.2.2.1
  have hOo := hX.2.2.2.2.2.2.1
  have ho1 := hOo.2.1
  have l110 : G.ln 110 = 2000 := hX.1.2.2.2.2.1.2.1.2.2
  refine lv_iload_n hE.1 hE.2.1 dX10_told_0 rfl (lv_at hl 1 rfl) ?_
  refine lv_aload_n hE.1 hE.2.1 dX10_told_1 rfl (lv_at hl 0 rfl) ?_
  refine rg_getr hE hH cf_X10 fl_X10_62 rfl (hX.1.1.1) (hX.1.1.2) (v := 109) (hX.1.2.2.2.2.2.2.2.2.2) dX10_told_2 ?_
  refine rg_VI (As := []) (rest := [.int (x)]) hE hml hH mc_X10_211 (c_Ou_kept l z G iv jv hOu (aO a) hOo) (hX.1.2.2.2.2.1.1.1) (hX.1.2.2.2.2.1.1.2) (by decide) rfl ⟨Nat.le_of_ble_eq_true rfl, Nat.le_of_ble_eq_true rfl⟩ rfl hl.1 (by simp [Value.category]) dX10_told_5 ⟨Nat.le_of_ble_eq_true rfl, Nat.le_of_ble_eq_true rfl⟩ (fun r5 G5 iv5 jv5 H locs hp5 hH => ?_)
  obtain ⟨rfl, rfl, rfl, rfl⟩ := hp5
  refine rx_SV (As := [.int (x), .int (nI (min (aO a).length 2000))]) (rest := []) hE hml hH mc_X10_147 (c_x_below l z hlt G iv jv x (min (aO a).length 2000)) rfl ⟨Nat.le_of_ble_eq_true rfl, Nat.le_of_ble_eq_true rfl⟩ rfl hl.1 (by simp [Value.category]) dX10_told_8 ⟨Nat.le_of_ble_eq_true rfl, Nat.le_of_ble_eq_true rfl⟩ (fun E ce q G' iv' jv' H locs hpx hH hce hcv hcl => rx_out hE hH hxt hlk hce hcv hcl (Nat.le_of_ble_eq_true rfl) (Nat.le_of_ble_eq_true rfl) (by obtain ⟨rfl, rfl, rfl, rfl, hcx⟩ := hpx; exact ⟨rfl, rfl, rfl, rfl, by rw [spTold, onK_f hcx]⟩)) (fun G8 iv8 jv8 H locs hp8 hH => ?_)
  obtain ⟨rfl, rfl, rfl, hq8⟩ := hp8
  obtain ⟨k, hk, rfl⟩ := inI_of (n := min (aO a).length 2000) (by omega) hq8
  have hok := hOo.2.2 k (by omega) (by omega)
  refine lv_aload_n hE.1 hE.2.1 dX10_told_11 rfl (lv_at hl 0 rfl) ?_
  refine rg_getr hE hH cf_X10 fl_X10_62 rfl (hX.1.1.1) (hX.1.1.2) (v := 109) (hX.1.2.2.2.2.2.2.2.2.2) dX10_told_12 ?_
  refine rg_getr hE hH cf_X3 fl_X10_214 rfl (hX.1.2.2.2.2.1.1.1) (hX.1.2.2.2.2.1.1.2) (v := 110) (hX.1.2.2.2.2.1.2.2) dX10_told_15 ?_
  refine lv_iload_n hE.1 hE.2.1 dX10_told_18 rfl (lv_at hl 1 rfl) ?_
  refine rg_bald hE hH (hX.1.2.2.2.2.1.2.1.1) (hX.1.2.2.2.2.1.2.1.2.1) (by omega) (v := nI ((aO a).getD k 0)) (hok.1) dX10_told_19 ?_
  refine W.widen (k := 4) (n := 24) (Nat.le_of_ble_eq_true rfl) (Nat.le_of_ble_eq_true rfl) ?_
  exact vx_ret (rg_iret hE hr rfl hlk hH ⟨rfl, rfl, rfl, by rw [spTold, onK_t hk (by omega)]⟩ dX10_told_20)
set_option maxRecDepth 100000 in
set_option maxHeartbeats 4000000 in
theorem c_x_count (l : Launch) (z : ZK) (hlt : l.stackTraces = false) (G : GW) (iv : IV) (jv : JV) (a : AS) (hX : CSt G iv jv a) (x : Int32) : cXI l z yX10_count cX10_count 2 (some .int) 8 130 4 24 [.ref (G.ad 100), .int (x)] G iv jv (fun r G' iv' jv' => G = G' ∧ iv = iv' ∧ jv = jv' ∧ spCount a x = ok r a) (fun E G' iv' jv' => G = G' ∧ iv = iv' ∧ jv = jv' ∧ E = nNSE ∧ spCount a x = no 1 a) := by
  intro sz
  refine rx_entry rfl (Nat.le_of_ble_eq_true rfl) ?_
  intro pq eq sq mq bq methq cq ls hE hr hlk hml hnm hl hsz hxt hH
  have hl : lv_has ls 2 [(0, .ref (G.ad 100)), (1, .int (x))] := hl
  have hOu := hX.1.2.2.2.2.1
  have hOo := hX.2.2.2.2.2.2.1
  have ho1 := hOo.2.1
  have l110 : G.ln 110 = 2000 := hX.1.2.2.2.2.1.2.1.2.2
  refine lv_iload_n hE.1 hE.2.1 dX10_count_0 rfl (lv_at hl 1 rfl) ?_
  by_cases hw1 : inI x 4 = true
  · obtain ⟨kw, hkl, hkw⟩ := inI_of (by decide) hw1
    rcases (show kw = 0 ∨ kw = 1 ∨ kw = 2 ∨ kw = 3 by omega) with rfl | rfl | rfl | rfl
    · subst hkw
      refine lv_tableIn (x := nI 0) (off := 31) (tgt := 32) hE.1 hE.2.1 dX10_count_1 (by decide) (by decide) rfl (by decide) ?_
      refine lv_aload_n hE.1 hE.2.1 dX10_count_32 rfl (lv_at hl 0 rfl) ?_
      refine rg_geti hE hH cf_X10 fl_X10_30 rfl (hX.1.1.1) (hX.1.1.2) (v := nI ((aT a).length)) (hX.2.2.2.2.1.1) dX10_count_33 ?_
      refine W.widen (k := 4) (n := 24) (Nat.le_of_ble_eq_true rfl) (Nat.le_of_ble_eq_true rfl) ?_
      exact vx_ret (rg_iret hE hr rfl hlk hH ⟨rfl, rfl, rfl, by rw [spCount, onK_t (show 0 < 4 by decide) (by decide)]; rfl⟩ dX10_count_36)
    · subst hkw
      refine lv_tableIn (x := nI 1) (off := 36) (tgt := 37) hE.1 hE.2.1 dX10_count_1 (by decide) (by decide) rfl (by decide) ?_
      refine lv_aload_n hE.1 hE.2.1 dX10_count_37 rfl (lv_at hl 0 rfl) ?_
      refine rg_geti hE hH cf_X10 fl_X10_39 rfl (hX.1.1.1) (hX.1.1.2) (v := nI ((aP a).length)) (hX.2.2.2.2.2.1.1) dX10_count_38 ?_
      refine W.widen (k := 4) (n := 24) (Nat.le_of_ble_eq_true rfl) (Nat.le_of_ble_eq_true rfl) ?_
      exact vx_ret (rg_iret hE hr rfl hlk hH ⟨rfl, rfl, rfl, by rw [spCount, onK_t (show 1 < 4 by decide) (by decide)]; rfl⟩ dX10_count_41)
    · subst hkw
      refine lv_tableIn (x := nI 2) (off := 41) (tgt := 42) hE.1 hE.2.1 dX10_count_1 (by decide) (by decide) rfl (by decide) ?_
      refine lv_aload_n hE.1 hE.2.1 dX10_count_42 rfl (lv_at hl 0 rfl) ?_
      refine rg_geti hE hH cf_X10 fl_X10_13 rfl (hX.1.1.1) (hX.1.1.2) (v := nI (aN a)) (hX.2.2.1.1) dX10_count_43 ?_
      refine W.widen (k := 4) (n := 24) (Nat.le_of_ble_eq_true rfl) (Nat.le_of_ble_eq_true rfl) ?_
      exact vx_ret (rg_iret hE hr rfl hlk hH ⟨rfl, rfl, rfl, by rw [spCount, onK_t (show 2 < 4 by decide) (by decide)]; rfl⟩ dX10_count_46)
    · subst hkw
      refine lv_tableIn (x := nI 3) (off := 46) (tgt := 47) hE.1 hE.2.1 dX10_count_1 (by decide) (by decide) rfl (by decide) ?_
      refine lv_aload_n hE.1 hE.2.1 dX10_count_47 rfl (lv_at hl 0 rfl) ?_
      refine rg_getr hE hH cf_X10 fl_X10_62 rfl (hX.1.1.1) (hX.1.1.2) (v := 109) (hX.1.2.2.2.2.2.2.2.2.2) dX10_count_48 ?_
      refine rg_VI (As := []) (rest := []) hE hml hH mc_X10_211 (c_Ou_kept l z G iv jv hOu (aO a) hOo) (hX.1.2.2.2.2.1.1.1) (hX.1.2.2.2.2.1.1.2) (by decide) rfl ⟨Nat.le_of_ble_eq_true rfl, Nat.le_of_ble_eq_true rfl⟩ rfl hl.1 (by simp [Value.category]) dX10_count_51 ⟨Nat.le_of_ble_eq_true rfl, Nat.le_of_ble_eq_true rfl⟩ (fun r51 G51 iv51 jv51 H locs hp51 hH => ?_)
      obtain ⟨rfl, rfl, rfl, rfl⟩ := hp51
      refine W.widen (k := 4) (n := 24) (Nat.le_of_ble_eq_true rfl) (Nat.le_of_ble_eq_true rfl) ?_
      exact vx_ret (rg_iret hE hr rfl hlk hH ⟨rfl, rfl, rfl, by rw [spCount, onK_t (show 3 < 4 by decide) (by decide)]; rfl⟩ dX10_count_54)
  · refine lv_tableOut (tgt := 55) hE.1 hE.2.1 dX10_count_1 (by have := inI_out (by decide) hw1; omega) (by decide) ?_
    exact rx_throw (i := 9) hlt hE hH xw_N (by decide) rfl hml hl.1 dX10_count_55 dX10_count_58 dX10_count_59 dX10_count_61 dX10_count_64 hxt (Nat.le_of_ble_eq_true rfl) (by first | exact Nat.le_of_ble_eq_true rfl | (simp [Value.category])) (Nat.le_of_ble_eq_true rfl) (Nat.le_of_ble_eq_true rfl) hlk (Nat.le_of_ble_eq_true rfl) (Nat.le_of_ble_eq_true rfl) ⟨rfl, rfl, rfl, rfl, by rw [spCount, onK_f (by simpa using hw1)]⟩
set_option maxRecDepth 100000 in
set_option maxHeartbeats 4000000 in
theorem c_x_fault (l : Launch) (z : ZK) (G : GW) (iv : IV) (jv : JV) (a : AS) (hX : CSt G iv jv a) : cI l z yX10_fault cX10_fault 1 (some .int) 0 0 0 0 [.ref (G.ad 100)] G iv jv (fun r G' iv' jv' => G = G' ∧ iv = iv' ∧ jv = jv' ∧ spFault a = ok r a) := by
  intro sz
  refine rg_entry rfl (Nat.le_of_ble_eq_true rfl) ?_
  intro pq eq sq mq bq methq cq ls hE hr hlk hml hnm hl hsz hH
  have hl : lv_has ls 1 [(0, .ref (G.ad 100))] := hl
  refine lv_aload_n hE.1 hE.2.1 dX10_fault_0 rfl (lv_at hl 0 rfl) ?_
  refine rg_geti hE hH cf_X10 fl_X10_56 rfl (hX.1.1.1) (hX.1.1.2) (v := aF a) (hX.2.2.2.1) dX10_fault_1 ?_
  exact rg_iret hE hr rfl hlk hH ⟨rfl, rfl, rfl, rfl⟩ dX10_fault_4
set_option maxRecDepth 100000 in
set_option maxHeartbeats 4000000 in
theorem c_x_row (l : Launch) (z : ZK) (hlt : l.stackTraces = false) (G : GW) (iv : IV) (jv : JV) (t b : Nat) (tab : Tab) (hTb : isTb G t b (tm tab) (tC tab) (tR tab) (tT tab)) (hR : iv (b + 30) 0 = nI (tR tab)) (x : Int32) : cXV l z yX10_requireRowOrNone cX10_requireRowOrNone 2 none 7 103 1 6 [.ref (G.ad t), .int (x)] G iv jv (fun G' iv' jv' => G = G' ∧ iv = iv' ∧ jv = jv' ∧ (x = -1 ∨ inI x (tR tab) = true)) (fun E G' iv' jv' => G = G' ∧ iv = iv' ∧ jv = jv' ∧ E = nNSE ∧ x ≠ -1 ∧ inI x (tR tab) = false) := by
  intro sz
  refine rx_entry rfl (Nat.le_of_ble_eq_true rfl) ?_
  intro pq eq sq mq bq methq cq ls hE hr hlk hml hnm hl hsz hxt hH
  have hl : lv_has ls 2 [(0, .ref (G.ad t)), (1, .int (x))] := hl
  refine lv_iload_n hE.1 hE.2.1 dX10_requireRowOrNone_0 rfl (lv_at hl 1 rfl) ?_
  refine lv_iconst (v := -1) hE.1 hE.2.1 dX10_requireRowOrNone_1 (by decide) ?_
  refine lv_icmp_eq (tgt := 19) hE.1 hE.2.1 dX10_requireRowOrNone_2 (by decide) (fun c2 => ?_) (fun c2 => ?_)
  · refine W.widen (k := 1) (n := 6) (Nat.le_of_ble_eq_true rfl) (Nat.le_of_ble_eq_true rfl) ?_
    exact vx_ret (rg_vret hE hr hlk hH ⟨rfl, rfl, rfl, Or.inl c2⟩ dX10_requireRowOrNone_19)
  · refine lv_iload_n hE.1 hE.2.1 dX10_requireRowOrNone_5 rfl (lv_at hl 1 rfl) ?_
    refine lv_aload_n hE.1 hE.2.1 dX10_requireRowOrNone_6 rfl (lv_at hl 0 rfl) ?_
    refine rg_getr hE hH cf_X7 fl_X10_91 rfl (hTb.1.1) (hTb.1.2) (v := b) (hTb.2.2.2.2.2.2.2.2.2.2.2.2.1) dX10_requireRowOrNone_7 ?_
    refine rg_getr hE hH cf_X1 fl_X10_118 rfl (hTb.2.1.1.1) (hTb.2.1.1.2) (v := b + 30) (hTb.2.1.2.2.2.2.2.2.2) dX10_requireRowOrNone_10 ?_
    refine rg_geti hE hH cf_X6 fl_X10_122 rfl (hTb.2.1.2.2.2.1.1.1) (hTb.2.1.2.2.2.1.1.2) (v := nI (tR tab)) (hR) dX10_requireRowOrNone_13 ?_
    refine rx_SV (As := [.int (x), .int (nI (tR tab))]) (rest := []) hE hml hH mc_X10_147 (c_x_below l z hlt G iv jv x (tR tab)) rfl ⟨Nat.le_of_ble_eq_true rfl, Nat.le_of_ble_eq_true rfl⟩ rfl hl.1 (by simp [Value.category]) dX10_requireRowOrNone_16 ⟨Nat.le_of_ble_eq_true rfl, Nat.le_of_ble_eq_true rfl⟩ (fun E ce q G' iv' jv' H locs hpx hH hce hcv hcl => rx_out hE hH hxt hlk hce hcv hcl (Nat.le_of_ble_eq_true rfl) (Nat.le_of_ble_eq_true rfl) (by obtain ⟨rfl, rfl, rfl, rfl, hcx⟩ := hpx; exact ⟨rfl, rfl, rfl, rfl, c2, hcx⟩)) (fun G16 iv16 jv16 H locs hp16 hH => ?_)
    obtain ⟨rfl, rfl, rfl, hq16⟩ := hp16
    refine W.widen (k := 1) (n := 6) (Nat.le_of_ble_eq_true rfl) (Nat.le_of_ble_eq_true rfl) ?_
    exact vx_ret (rg_vret hE hr hlk hH ⟨rfl, rfl, rfl, Or.inr hq16⟩ dX10_requireRowOrNone_19)
