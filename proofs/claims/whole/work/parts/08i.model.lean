set_option maxRecDepth 100000 in
set_option maxHeartbeats 4000000 in
theorem c_x_tell (l : Launch) (z : ZK) (hlt : l.stackTraces = false) (G : GW) (iv : IV) (jv : JV) (a : AS) (hX : CSt G iv jv a) (x : Int32) : cXI l z yX10_tell cX10_tell 4 (some .int) 8 150 4 24 [.ref (G.ad 100), .int (x)] G iv jv (fun r G' iv' jv' => G = G' ∧ jv = jv' ∧ ((spTell a x).1 = 0 ∧ r = (spTell a x).2.1 ∧ CSt G iv' jv (spTell a x).2.2) ∧ Fr iv iv' pOt) (fun E G' iv' jv' => G = G' ∧ iv = iv' ∧ jv = jv' ∧ E = nNSE ∧ spTell a x = no 1 a) := by
  intro sz
  refine rx_entry rfl (Nat.le_of_ble_eq_true rfl) ?_
  intro pq eq sq mq bq methq cq ls hE hr hlk hml hnm hl hsz hxt hH
  have hl : lv_has ls 4 [(0, .ref (G.ad 100)), (1, .int (x))] := hl
  have hOu := hX.1.2.2.2.2.1
  have hOo := hX.2.2.2.2.2.2.1
  have ho1 := hOo.2.1
  have l110 : G.ln 110 = 2000 := hX.1.2.2.2.2.1.2.1.2.2
  refine lv_aload_n hE.1 hE.2.1 dX10_tell_0 rfl (lv_at hl 0 rfl) ?_
  refine lv_iload_n hE.1 hE.2.1 dX10_tell_1 rfl (lv_at hl 1 rfl) ?_
  refine rx_VR (As := [.int (x)]) (rest := []) hE hml hH mc_X10_87 (c_x_tab l z hlt G iv jv a hX x) (hX.1.1.1) (hX.1.1.2) (by decide) rfl ⟨Nat.le_of_ble_eq_true rfl, Nat.le_of_ble_eq_true rfl⟩ rfl hl.1 (by simp [Value.category]) dX10_tell_2 ⟨Nat.le_of_ble_eq_true rfl, Nat.le_of_ble_eq_true rfl⟩ (fun E ce q G' iv' jv' H locs hpx hH hce hcv hcl => rx_out hE hH hxt hlk hce hcv hcl (Nat.le_of_ble_eq_true rfl) (Nat.le_of_ble_eq_true rfl) (by obtain ⟨rfl, rfl, rfl, rfl, hcx⟩ := hpx; exact ⟨rfl, rfl, rfl, rfl, by rw [spTell, onK_f hcx]⟩)) (fun r2 G2 iv2 jv2 H locs hp2 hH => ?_)
  obtain ⟨rfl, rfl, rfl, hin2, rfl⟩ := hp2
  obtain ⟨T, hT, rfl⟩ := inI_of (n := (aT a).length) (by have := hX.2.2.2.2.1.2.1; have := hX.2.2.2.2.2.1.2.1; omega) hin2
  rw [cl_nI (by have := hX.2.2.2.2.1.2.1; have := hX.2.2.2.2.2.1.2.1; omega)]
  obtain ⟨-, hTb0, hLy, hTd, hk, hW⟩ := hX.2.2.2.2.1.2.2 T hT
  have hTb1 := hTb0
  obtain ⟨⟨mt, kt⟩, hL, hCa, hA10, hA11, hA12, hA13, hA14, hA15, hA16, hA17, hTm0, r0, r2, r3, r4, r5, r6, r8, r9, r11, r13, r14⟩ := hTb1
  obtain ⟨h1, hCV, ⟨h7, hdn, hho⟩, hQL, ⟨hid, h12⟩, hV, hon, hTK, h15⟩ := hTd
  have hTm1 := hTm0
  obtain ⟨⟨mu, ku⟩, hB1, hB2, hB3, hBi, hB10, hB11, hB12, hB13, hB14, s0, s1, s3, s4, s5, s6, s7, s8⟩ := hTm1
  have hm5 := hk.2.1
  have hm1 := hk.1
  have hC4 := hk.2.2.2.1
  have hR40 := hk.2.2.2.2.2.2.1
  have hT8 := tT_le hk
  have hnh := nHo_le hk
  have hql := qL_len hk
  have hrl := rule_len hk
  have hol := offers_len hk
  have hT6 : (aT a).length < 2147483648 := by have := hX.2.2.2.2.1.2.1; omega
  have l10 := hA10.2.2
  have l11 := hA11.2.2
  have l12 := hA12.2.2
  have l13 := hA13.2.2
  have l14 := hA14.2.2
  have l15 := hA15.2.2
  have l16 := hA16.2.2
  have l17 := hA17.2.2
  have l32b := hB12.2.2
  refine lv_astore_n (lv' := [(2, .ref (G.ad (tL T))), (0, .ref (G.ad 100)), (1, .int (nI T))]) hE.1 hE.2.1 dX10_tell_5 rfl hl (by decide) rfl (fun ls hl => ?_)
  refine lv_aload_n hE.1 hE.2.1 dX10_tell_6 rfl (lv_at hl 1 rfl) ?_
  refine rg_getr hE hH cf_X10 fl_X10_62 rfl (hX.1.1.1) (hX.1.1.2) (v := 109) (hX.1.2.2.2.2.2.2.2.2.2) dX10_tell_7 ?_
  refine rg_VV (As := []) (rest := []) hE hml hH mc_X10_201 (c_Ou_clear l z G iv jv hOu) (hX.1.2.2.2.2.1.1.1) (hX.1.2.2.2.2.1.1.2) (by decide) rfl ⟨Nat.le_of_ble_eq_true rfl, Nat.le_of_ble_eq_true rfl⟩ rfl hl.1 (by simp [Value.category]) dX10_tell_10 ⟨Nat.le_of_ble_eq_true rfl, Nat.le_of_ble_eq_true rfl⟩ (fun G10 iv10 jv10 H locs hp10 hH => ?_)
  obtain ⟨rfl, rfl, hO, hF10⟩ := hp10
  refine lv_iconst (v := nI 0) hE.1 hE.2.1 dX10_tell_13 (by decide) ?_
  refine lv_istore_n (lv' := [(3, .int (nI 0)), (2, .ref (G.ad (tL T))), (0, .ref (G.ad 100)), (1, .int (nI T))]) hE.1 hE.2.1 dX10_tell_14 rfl hl (by decide) rfl (fun ls hl => ?_)
  refine rg_loop (σ := IV × Nat) (nL := 4) (fun (u : IV × Nat) => match u with | (iv2, k) => (rule (aTb a T)).length - k) (fun (u : IV × Nat) => match u with | (iv2, k) => [(0, .ref (G.ad 100)), (2, .ref (G.ad (tL T))), (3, .int (nI k))]) (fun (u : IV × Nat) => match u with | (iv2, k) => G) (fun (u : IV × Nat) => match u with | (iv2, k) => iv2) (fun (u : IV × Nat) => match u with | (iv2, k) => jv) (fun (u : IV × Nat) => match u with | (iv2, k) => k ≤ (rule (aTb a T)).length ∧ cOu iv2 (tTx (aTb a T) k) ∧ Fr iv iv2 pOt) ?_ ((iv10, 0)) ⟨Nat.zero_le _, hO, hF10⟩ (lv_sub hl [2, 1, 0] rfl) hH
  rintro ⟨iv2, k⟩ H locs ls ⟨hkr, hO, hFr⟩ hl hH ih15
  try dsimp only at hl hH ih15
  try dsimp only at hkr hO hFr
  have hLy2 := hLy.fr hFr (fun lb j _ _ => by simp only [pOt]; unfold bL at *; omega)
  have hV2 := hV.fr hFr (by simp only [pOt]; unfold tL; omega) (fun lb j _ _ => by simp only [pOt]; unfold tL at *; omega) hm5
  have htxl := tTx_len hW hk k hkr
  refine lv_iload_n hE.1 hE.2.1 dX10_tell_15 rfl (lv_at hl 2 rfl) ?_
  refine lv_aload_n hE.1 hE.2.1 dX10_tell_16 rfl (lv_at hl 1 rfl) ?_
  refine rg_geti hE hH cf_X7 fl_X10_134 rfl (mt) (kt) (v := nI ((rule (aTb a T)).length)) ((hFr _ _ (by simp only [pOt]; unfold tL; omega)).trans h15) dX10_tell_17 ?_
  refine rn_icmp_ge (tgt := 43) hE dX10_tell_20 (by decide) (by omega) (by omega) (fun c20 => ?_) (fun c20 => ?_)
  · have hke : k = (rule (aTb a T)).length := by omega
    subst hke
    refine lv_aload_n hE.1 hE.2.1 dX10_tell_43 rfl (lv_at hl 0 rfl) ?_
    refine rg_getr hE hH cf_X10 fl_X10_62 rfl (hX.1.1.1) (hX.1.1.2) (v := 109) (hX.1.2.2.2.2.2.2.2.2.2) dX10_tell_44 ?_
    refine rg_geti hE hH cf_X3 fl_X10_208 rfl (hX.1.2.2.2.2.1.1.1) (hX.1.2.2.2.2.1.1.2) (v := nI ((tTx (aTb a T) (rule (aTb a T)).length).length)) (hO.1) dX10_tell_47 ?_
    refine W.widen (k := 4) (n := 24) (Nat.le_of_ble_eq_true rfl) (Nat.le_of_ble_eq_true rfl) ?_
    exact vx_ret (rg_iret hE hr rfl hlk hH ⟨rfl, rfl, ⟨by rw [spTell, onK_t hT hT6]; rfl, by rw [spTell, onK_t hT hT6]; rfl, by rw [spTell, onK_t hT hT6]; exact CSt.out hX hFr hO⟩, hFr⟩ dX10_tell_50)
  · have hrt := rule_lt c20
    have htl := tk_len hk
    have htki := (hTK.2 k (by rw [List.length_append, List.length_map]; omega)).trans (by rw [tk_r c20])
    obtain ⟨y, hy, hy2⟩ := hon _ hrt.1
    have hyv := only_r hk c20 hy2
    refine lv_aload_n hE.1 hE.2.1 dX10_tell_23 rfl (lv_at hl 0 rfl) ?_
    refine rg_getr hE hH cf_X10 fl_X10_62 rfl (hX.1.1.1) (hX.1.1.2) (v := 109) (hX.1.2.2.2.2.2.2.2.2.2) dX10_tell_24 ?_
    refine lv_aload_n hE.1 hE.2.1 dX10_tell_27 rfl (lv_at hl 1 rfl) ?_
    refine lv_aload_n hE.1 hE.2.1 dX10_tell_28 rfl (lv_at hl 1 rfl) ?_
    refine rg_getr hE hH cf_X7 fl_X10_191 rfl (mt) (kt) (v := tL T + 17) (r14) dX10_tell_29 ?_
    refine lv_iload_n hE.1 hE.2.1 dX10_tell_32 rfl (lv_at hl 2 rfl) ?_
    refine rg_iald hE hH (hA17.1) (hA17.2.1) (by omega) (v := nI (((rule (aTb a T)).getD k (0, 0)).1)) ((hFr _ _ (by simp only [pOt]; unfold tL; omega)).trans htki) dX10_tell_33 ?_
    refine rg_VV (As := [.ref (G.ad (tL T)), .int (nI (((rule (aTb a T)).getD k (0, 0)).1))]) (rest := []) hE hml hH mc_X10_204 (c_Ou_term l z G iv2 jv (tL T) (bL T) (aTb a T) hk hTb0 (by unfold tL; omega) (by unfold bL; omega) (by unfold bL tL; omega) hLy2 hW hV2 ((rule (aTb a T)).getD k (0, 0)).1 ((rule (aTb a T)).getD k (0, 0)).2 hrt.1 hrt.2 ((hFr _ _ (by simp only [pOt]; unfold tL; omega)).trans (hy.trans hyv)) hOu (tTx (aTb a T) k) hO (by omega)) (hX.1.2.2.2.2.1.1.1) (hX.1.2.2.2.2.1.1.2) (by decide) rfl ⟨Nat.le_of_ble_eq_true rfl, Nat.le_of_ble_eq_true rfl⟩ rfl hl.1 (by simp [Value.category]) dX10_tell_34 ⟨Nat.le_of_ble_eq_true rfl, Nat.le_of_ble_eq_true rfl⟩ (fun G34 iv34 jv34 H locs hp34 hH => ?_)
    obtain ⟨rfl, rfl, hO34, hF34⟩ := hp34
    refine lv_iinc (v := nI (k + 1)) (lv' := [(3, .int (nI (k + 1))), (0, .ref (G.ad 100)), (2, .ref (G.ad (tL T)))]) hE.1 hE.2.1 dX10_tell_37 hl (k := 2) rfl (nI_1 _) (by decide) rfl (fun ls hl => ?_)
    refine lv_goto (tgt := 15) hE.1 hE.2.1 dX10_tell_40 (by decide) ?_
    exact ih15 (iv34, k + 1) _ _ _ (show (rule (aTb a T)).length - (k + 1) < (rule (aTb a T)).length - k by omega) ⟨by show k + 1 ≤ (rule (aTb a T)).length; omega, by show cOu _ (tTx (aTb a T) k ++ tLn (aTb a T) ((rule (aTb a T)).getD k (0, 0))); exact hO34, hFr.tr hF34⟩ (lv_sub hl [1, 2, 0] rfl) hH
