set_option maxRecDepth 100000 in
set_option maxHeartbeats 4000000 in
theorem c_Tm_open (l : Launch) (z : ZK) (G : GW) (iv : IV) (jv : JV) (ut : Nat) (tab : Tab) (hk : tabOK tab) (hTm : isTm G ut (tm tab) (tC tab) (tT tab)) (hV : TmV iv ut tab) (an : Nat) (hAn : isA G an 13 (tC tab)) (hne : an < ut) (han : ∀ c, c < tC tab → iv an c = oI (ans tab c)) (of : Nat) (ho : of ≤ 6) : cV l z yX8_openCases cX8_openCases 4 none 0 0 0 0 [.ref (G.ad ut), .ref (G.ad an), .int (oI (wnt of))] G iv jv (fun G' iv' jv' => G = G' ∧ jv = jv' ∧ HO iv' ut tab of (fun _ => false) ∧ Fr iv iv' (fun lb j => lb = ut + 14 ∨ (lb = ut ∧ j = 9))) := by
  intro sz
  refine rg_entry rfl (Nat.le_of_ble_eq_true rfl) ?_
  intro pq eq sq mq bq methq cq ls hE hr hlk hml hnm hl hsz hH
  have hl : lv_has ls 4 [(0, .ref (G.ad ut)), (1, .ref (G.ad an)), (2, .int (oI (wnt of)))] := hl
  have hTm0 := hTm
  obtain ⟨⟨mu, ku⟩, hB1, hB2, hB3, hBi, hB10, hB11, hB12, hB13, hB14, s0, s1, s3, s4, s5, s6, s7, s8⟩ := hTm
  have l1 := hB1.2.2
  have l2 := hB2.2.2
  have l3 := hB3.2.2
  have l10 := hB10.2.2
  have l11 := hB11.2.2
  have l12 := hB12.2.2
  have l13 := hB13.2.2
  have l14 := hB14.2.2
  have hm5 := hk.2.1
  have hm1 := hk.1
  have hC4 := hk.2.2.2.1
  have hO6 := hk.2.2.2.2.2.1
  have hT8 := tT_le hk
  have hwo : ∀ k, wnt of = some k → k < 2147483648 := fun k h => by unfold wnt at h; split at h; cases h; cases h; omega
  refine lv_aload_n hE.1 hE.2.1 dX8_openCases_0 rfl (lv_at hl 0 rfl) ?_
  refine lv_iconst (v := nI 0) hE.1 hE.2.1 dX8_openCases_1 (by decide) ?_
  refine rg_puti hE hH cf_X8 fl_X8_51 rfl fn_X8_9 (mu) (ku) (v := nI 0) dX8_openCases_2 (fun H locs hH => ?_)
  refine lv_iconst (v := nI 0) hE.1 hE.2.1 dX8_openCases_5 (by decide) ?_
  refine lv_istore_n (lv' := [(3, .int (nI 0)), (0, .ref (G.ad ut)), (1, .ref (G.ad an)), (2, .int (oI (wnt of)))]) hE.1 hE.2.1 dX8_openCases_6 rfl hl (by decide) rfl (fun ls hl => ?_)
  refine rg_loop (σ := IV × Nat) (nL := 4) (fun (u : IV × Nat) => match u with | (iv2, c) => tC tab - c) (fun (u : IV × Nat) => match u with | (iv2, c) => [(0, .ref (G.ad ut)), (1, .ref (G.ad an)), (2, .int (oI (wnt of))), (3, .int (nI c))]) (fun (u : IV × Nat) => match u with | (iv2, c) => G) (fun (u : IV × Nat) => match u with | (iv2, c) => iv2) (fun (u : IV × Nat) => match u with | (iv2, c) => jv) (fun (u : IV × Nat) => match u with | (iv2, c) => c ≤ tC tab ∧ iv2 ut 9 = nI (cntN (opn tab of (fun _ => false)) c) ∧ (∀ d, d < c → iv2 (ut + 14) d = bI (opn tab of (fun _ => false) d)) ∧ Fr iv iv2 (fun lb j => lb = ut + 14 ∨ (lb = ut ∧ j = 9))) ?_ ((up2 iv ut 9 (nI 0), 0)) ⟨Nat.zero_le _, up2_s, fun d hd => absurd hd (Nat.not_lt_zero d), Fr.up Fr.rf (Or.inr ⟨rfl, rfl⟩)⟩ (lv_sub hl [1, 2, 3, 0] rfl) hH
  rintro ⟨iv2, c⟩ H locs ls ⟨hcC, h9, hop, hFr⟩ hl hH ih7
  try dsimp only at hl hH ih7
  try dsimp only at hcC h9 hop hFr
  have hle := cntN_le (p := opn tab of (fun _ => false)) c
  refine lv_iload_n hE.1 hE.2.1 dX8_openCases_7 rfl (lv_at hl 3 rfl) ?_
  refine lv_aload_n hE.1 hE.2.1 dX8_openCases_8 rfl (lv_at hl 0 rfl) ?_
  refine rg_getr hE hH cf_X8 fl_X8_47 rfl (mu) (ku) (v := ut + 14) (s8) dX8_openCases_9 ?_
  refine rg_alen hE hH (hB14.1) (hB14.2.1) (by decide) (by decide) dX8_openCases_12 ?_
  rw [l14]
  refine rn_icmp_ge (tgt := 65) hE dX8_openCases_13 (by decide) (by omega) (by omega) (fun c13 => ?_) (fun c13 => ?_)
  · have hce : c = tC tab := by omega
    subst hce
    exact rg_vret hE hr hlk hH ⟨rfl, rfl, ⟨h9, fun c hc => hop c (by omega)⟩, hFr⟩ dX8_openCases_65
  · refine lv_iload_n hE.1 hE.2.1 dX8_openCases_16 rfl (lv_at hl 3 rfl) ?_
    refine lv_aload_n hE.1 hE.2.1 dX8_openCases_17 rfl (lv_at hl 1 rfl) ?_
    refine rg_alen hE hH (hAn.1) (hAn.2.1) (by decide) (by decide) dX8_openCases_18 ?_
    rw [hAn.2.2]
    refine rn_icmp_ge (tgt := 65) hE dX8_openCases_19 (by decide) (by omega) (by omega) (fun c19 => ?_) (fun c19 => ?_)
    · omega
    · refine lv_aload_n hE.1 hE.2.1 dX8_openCases_22 rfl (lv_at hl 0 rfl) ?_
      refine rg_getr hE hH cf_X8 fl_X8_47 rfl (mu) (ku) (v := ut + 14) (s8) dX8_openCases_23 ?_
      refine lv_iload_n hE.1 hE.2.1 dX8_openCases_26 rfl (lv_at hl 3 rfl) ?_
      refine lv_aload_n hE.1 hE.2.1 dX8_openCases_27 rfl (lv_at hl 1 rfl) ?_
      refine lv_iload_n hE.1 hE.2.1 dX8_openCases_28 rfl (lv_at hl 3 rfl) ?_
      refine rg_iald hE hH (hAn.1) (hAn.2.1) (by rw [hAn.2.2]; omega) (v := oI (ans tab c)) ((hFr _ _ (by omega)).trans (han c (by omega))) dX8_openCases_29 ?_
      refine lv_iload_n hE.1 hE.2.1 dX8_openCases_30 rfl (lv_at hl 2 rfl) ?_
      refine rb_raw_ne (t1 := 38) (t2 := 39) hE dX8_openCases_31 (by decide) dX8_openCases_34 dX8_openCases_35 (by decide) dX8_openCases_38 rfl ?_
      refine rg_zast hE hH (hB14.1) (hB14.2.1) (by omega) (v := bI (decide (oI (ans tab c) = oI (wnt of)))) (w := bI (decide (oI (ans tab c) = oI (wnt of)))) (nar_bI) dX8_openCases_39 (fun H locs hH => ?_)
      have hU : Fr iv2 (up2 iv2 (ut + 14) c (bI (decide (oI (ans tab c) = oI (wnt of))))) (fun lb j => lb = ut + 14 ∧ j = c) := Fr.up Fr.rf ⟨rfl, rfl⟩
      have hoc : bI (decide (oI (ans tab c) = oI (wnt of))) = bI (opn tab of (fun _ => false) c) := by
        unfold opn
        rw [Bool.not_false, Bool.and_true]
        congr 1
        exact decide_eq_decide.mpr (oI_inj (ans_s hk) hwo)
      have hop2 : ∀ d, d < c + 1 → (up2 iv2 (ut + 14) c (bI (decide (oI (ans tab c) = oI (wnt of))))) (ut + 14) d = bI (opn tab of (fun _ => false) d) := fun d hd => by
        by_cases hdc : d = c
        · subst hdc; rw [up2_s]; exact hoc
        · rw [up2_k (by omega)]; exact hop d (by omega)
      have hFr2 : Fr iv (up2 iv2 (ut + 14) c (bI (decide (oI (ans tab c) = oI (wnt of))))) (fun lb j => lb = ut + 14 ∨ (lb = ut ∧ j = 9)) := Fr.up hFr (Or.inl rfl)
      refine lv_aload_n hE.1 hE.2.1 dX8_openCases_40 rfl (lv_at hl 0 rfl) ?_
      refine rg_getr hE hH cf_X8 fl_X8_47 rfl (mu) (ku) (v := ut + 14) (s8) dX8_openCases_41 ?_
      refine lv_iload_n hE.1 hE.2.1 dX8_openCases_44 rfl (lv_at hl 3 rfl) ?_
      refine rg_zald hE hH (hB14.1) (hB14.2.1) (by omega) (v := bI (opn tab of (fun _ => false) c)) (hop2 c (by omega)) dX8_openCases_45 ?_
      refine rn_ifb_eq (tgt := 59) hE dX8_openCases_46 (by decide) (fun c46 => ?_) (fun c46 => ?_)
      · refine lv_iinc (v := nI (c + 1)) (lv' := [(3, .int (nI (c + 1))), (0, .ref (G.ad ut)), (1, .ref (G.ad an)), (2, .int (oI (wnt of)))]) hE.1 hE.2.1 dX8_openCases_59 hl (k := 3) rfl (nI_1 _) (by decide) rfl (fun ls hl => ?_)
        refine lv_goto (tgt := 7) hE.1 hE.2.1 dX8_openCases_62 (by decide) ?_
        exact ih7 (up2 iv2 (ut + 14) c (bI (decide (oI (ans tab c) = oI (wnt of)))), c + 1) _ _ _ (show tC tab - (c + 1) < tC tab - c by omega) ⟨by show c + 1 ≤ tC tab; omega, by rw [cntN, if_neg (by rw [c46]; decide)]; exact (hU _ _ (by omega)).trans h9, hop2, hFr2⟩ (lv_sub hl [1, 2, 3, 0] rfl) hH
      · refine lv_aload_n hE.1 hE.2.1 dX8_openCases_49 rfl (lv_at hl 0 rfl) ?_
        refine lv_dup hE.1 hE.2.1 dX8_openCases_50 rfl ?_
        refine rg_geti hE hH cf_X8 fl_X8_51 rfl (mu) (ku) (v := nI (cntN (opn tab of (fun _ => false)) c)) ((hU _ _ (by omega)).trans h9) dX8_openCases_51 ?_
        refine lv_iconst (v := nI 1) hE.1 hE.2.1 dX8_openCases_54 (by decide) ?_
        refine rn_iadd hE dX8_openCases_55 ?_
        refine rg_puti hE hH cf_X8 fl_X8_51 rfl fn_X8_9 (mu) (ku) (v := nI (cntN (opn tab of (fun _ => false)) c + 1)) dX8_openCases_56 (fun H locs hH => ?_)
        refine lv_iinc (v := nI (c + 1)) (lv' := [(3, .int (nI (c + 1))), (0, .ref (G.ad ut)), (1, .ref (G.ad an)), (2, .int (oI (wnt of)))]) hE.1 hE.2.1 dX8_openCases_59 hl (k := 3) rfl (nI_1 _) (by decide) rfl (fun ls hl => ?_)
        refine lv_goto (tgt := 7) hE.1 hE.2.1 dX8_openCases_62 (by decide) ?_
        exact ih7 (up2 (up2 iv2 (ut + 14) c (bI (decide (oI (ans tab c) = oI (wnt of))))) ut 9 (nI (cntN (opn tab of (fun _ => false)) c + 1)), c + 1) _ _ _ (show tC tab - (c + 1) < tC tab - c by omega) ⟨by show c + 1 ≤ tC tab; omega, by rw [cntN, if_pos c46]; exact up2_s, fun d hd => by dsimp only; rw [up2_l (by omega)]; exact hop2 d hd, Fr.up hFr2 (Or.inr ⟨rfl, rfl⟩)⟩ (lv_sub hl [1, 2, 3, 0] rfl) hH
set_option maxRecDepth 100000 in
set_option maxHeartbeats 4000000 in
theorem c_Tm_close (l : Launch) (z : ZK) (G : GW) (iv : IV) (jv : JV) (ut : Nat) (tab : Tab) (hk : tabOK tab) (hTm : isTm G ut (tm tab) (tC tab) (tT tab)) (hV : TmV iv ut tab) (q : Nat) (hq : q < tT tab) (t : Nat) (hCa : isCa G t (tm tab) (tC tab)) (hCV : CVl iv t tab) (htu : t + 10 ≤ ut) (of : Nat) (ho : of ≤ 6) (held : Nat → Bool) (hO : HO iv ut tab of held) : cV l z yX8_closeCases cX8_closeCases 4 none 1 24 0 0 [.ref (G.ad ut), .int (nI q), .ref (G.ad (t + 1))] G iv jv (fun G' iv' jv' => G = G' ∧ jv = jv' ∧ HO iv' ut tab of (hup tab q held) ∧ Fr iv iv' (fun lb j => lb = ut + 14 ∨ (lb = ut ∧ j = 9))) := by
  intro sz
  refine rg_entry rfl (Nat.le_of_ble_eq_true rfl) ?_
  intro pq eq sq mq bq methq cq ls hE hr hlk hml hnm hl hsz hH
  have hl : lv_has ls 4 [(0, .ref (G.ad ut)), (1, .int (nI q)), (2, .ref (G.ad (t + 1)))] := hl
  have hTm0 := hTm
  obtain ⟨⟨mu, ku⟩, hB1, hB2, hB3, hBi, hB10, hB11, hB12, hB13, hB14, s0, s1, s3, s4, s5, s6, s7, s8⟩ := hTm
  have l1 := hB1.2.2
  have l2 := hB2.2.2
  have l3 := hB3.2.2
  have l10 := hB10.2.2
  have l11 := hB11.2.2
  have l12 := hB12.2.2
  have l13 := hB13.2.2
  have l14 := hB14.2.2
  have hm5 := hk.2.1
  have hm1 := hk.1
  have hC4 := hk.2.2.2.1
  have hO6 := hk.2.2.2.2.2.1
  have hT8 := tT_le hk
  refine lv_iconst (v := nI 0) hE.1 hE.2.1 dX8_closeCases_0 (by decide) ?_
  refine lv_istore_n (lv' := [(3, .int (nI 0)), (0, .ref (G.ad ut)), (1, .int (nI q)), (2, .ref (G.ad (t + 1)))]) hE.1 hE.2.1 dX8_closeCases_1 rfl hl (by decide) rfl (fun ls hl => ?_)
  refine rg_loop (σ := IV × Nat) (nL := 4) (fun (u : IV × Nat) => match u with | (iv2, c) => tC tab - c) (fun (u : IV × Nat) => match u with | (iv2, c) => [(0, .ref (G.ad ut)), (1, .int (nI q)), (2, .ref (G.ad (t + 1))), (3, .int (nI c))]) (fun (u : IV × Nat) => match u with | (iv2, c) => G) (fun (u : IV × Nat) => match u with | (iv2, c) => iv2) (fun (u : IV × Nat) => match u with | (iv2, c) => jv) (fun (u : IV × Nat) => match u with | (iv2, c) => c ≤ tC tab ∧ HO iv2 ut tab of (hMx tab q held c) ∧ Fr iv iv2 (fun lb j => lb = ut + 14 ∨ (lb = ut ∧ j = 9))) ?_ ((iv, 0)) ⟨Nat.zero_le _, by rw [hMx_0]; exact hO, Fr.rf⟩ (lv_sub hl [1, 2, 3, 0] rfl) hH
  rintro ⟨iv2, c⟩ H locs ls ⟨hcC, hO, hFr⟩ hl hH ih2
  try dsimp only at hl hH ih2
  try dsimp only at hcC hO hFr
  have hV2 := hV.fr hFr (by omega) (fun lb j _ _ => by omega) hm5
  have hCV2 := hCV.fr hFr (fun i hi c => by omega)
  have hul : uh tab of (hMx tab q held c) ≤ tC tab := cntN_le _
  refine lv_iload_n hE.1 hE.2.1 dX8_closeCases_2 rfl (lv_at hl 3 rfl) ?_
  refine lv_aload_n hE.1 hE.2.1 dX8_closeCases_3 rfl (lv_at hl 0 rfl) ?_
  refine rg_getr hE hH cf_X8 fl_X8_47 rfl (mu) (ku) (v := ut + 14) (s8) dX8_closeCases_4 ?_
  refine rg_alen hE hH (hB14.1) (hB14.2.1) (by decide) (by decide) dX8_closeCases_7 ?_
  rw [l14]
  refine rn_icmp_ge (tgt := 53) hE dX8_closeCases_8 (by decide) (by omega) (by omega) (fun c8 => ?_) (fun c8 => ?_)
  · have hce : c = tC tab := by omega
    subst hce
    exact rg_vret hE hr hlk hH ⟨rfl, rfl, hO.c (fun c hc => hMx_C hc), hFr⟩ dX8_closeCases_53
  · refine lv_aload_n hE.1 hE.2.1 dX8_closeCases_11 rfl (lv_at hl 0 rfl) ?_
    refine rg_getr hE hH cf_X8 fl_X8_47 rfl (mu) (ku) (v := ut + 14) (s8) dX8_closeCases_12 ?_
    refine lv_iload_n hE.1 hE.2.1 dX8_closeCases_15 rfl (lv_at hl 3 rfl) ?_
    refine rg_zald hE hH (hB14.1) (hB14.2.1) (by omega) (v := bI (opn tab of (hMx tab q held c) c)) (hO.2 c (by omega)) dX8_closeCases_16 ?_
    refine rn_ifb_eq (tgt := 47) hE dX8_closeCases_17 (by decide) (fun c17 => ?_) (fun c17 => ?_)
    · refine lv_iinc (v := nI (c + 1)) (lv' := [(3, .int (nI (c + 1))), (0, .ref (G.ad ut)), (1, .int (nI q)), (2, .ref (G.ad (t + 1)))]) hE.1 hE.2.1 dX8_closeCases_47 hl (k := 3) rfl (nI_1 _) (by decide) rfl (fun ls hl => ?_)
      refine lv_goto (tgt := 2) hE.1 hE.2.1 dX8_closeCases_50 (by decide) ?_
      exact ih2 (iv2, c + 1) _ _ _ (show tC tab - (c + 1) < tC tab - c by omega) ⟨by show c + 1 ≤ tC tab; omega, hO.n (Or.inl c17), hFr⟩ (lv_sub hl [1, 2, 3, 0] rfl) hH
    · refine lv_aload_n hE.1 hE.2.1 dX8_closeCases_20 rfl (lv_at hl 0 rfl) ?_
      refine lv_iload_n hE.1 hE.2.1 dX8_closeCases_21 rfl (lv_at hl 1 rfl) ?_
      refine lv_aload_n hE.1 hE.2.1 dX8_closeCases_22 rfl (lv_at hl 2 rfl) ?_
      refine lv_iload_n hE.1 hE.2.1 dX8_closeCases_23 rfl (lv_at hl 3 rfl) ?_
      refine rg_VI (As := [.int (nI q), .ref (G.ad (t + 1)), .int (nI c)]) (rest := []) hE hml hH mc_X8_69 (c_Tm_holds l z G iv2 jv ut tab hk hTm0 hV2 q hq t hCa hCV2 c (by omega)) (mu) (ku) (by decide) rfl ⟨Nat.le_of_ble_eq_true rfl, Nat.le_of_ble_eq_true rfl⟩ rfl hl.1 (by simp [Value.category]) dX8_closeCases_24 ⟨Nat.le_of_ble_eq_true rfl, Nat.le_of_ble_eq_true rfl⟩ (fun r24 G24 iv24 jv24 H locs hp24 hH => ?_)
      obtain ⟨rfl, rfl, rfl, rfl⟩ := hp24
      refine rn_ifb_eq (tgt := 47) hE dX8_closeCases_27 (by decide) (fun c27 => ?_) (fun c27 => ?_)
      · refine lv_iinc (v := nI (c + 1)) (lv' := [(3, .int (nI (c + 1))), (0, .ref (G.ad ut)), (1, .int (nI q)), (2, .ref (G.ad (t + 1)))]) hE.1 hE.2.1 dX8_closeCases_47 hl (k := 3) rfl (nI_1 _) (by decide) rfl (fun ls hl => ?_)
        refine lv_goto (tgt := 2) hE.1 hE.2.1 dX8_closeCases_50 (by decide) ?_
        exact ih2 (iv2, c + 1) _ _ _ (show tC tab - (c + 1) < tC tab - c by omega) ⟨by show c + 1 ≤ tC tab; omega, hO.n (Or.inr c27), hFr⟩ (lv_sub hl [1, 2, 3, 0] rfl) hH
      · have huy := uh_y (show c < tC tab by omega) c17 c27
        refine lv_aload_n hE.1 hE.2.1 dX8_closeCases_30 rfl (lv_at hl 0 rfl) ?_
        refine rg_getr hE hH cf_X8 fl_X8_47 rfl (mu) (ku) (v := ut + 14) (s8) dX8_closeCases_31 ?_
        refine lv_iload_n hE.1 hE.2.1 dX8_closeCases_34 rfl (lv_at hl 3 rfl) ?_
        refine lv_iconst (v := nI 0) hE.1 hE.2.1 dX8_closeCases_35 (by decide) ?_
        refine rg_zast hE hH (hB14.1) (hB14.2.1) (by omega) (v := nI 0) (w := nI 0) (by decide) dX8_closeCases_36 (fun H locs hH => ?_)
        refine lv_aload_n hE.1 hE.2.1 dX8_closeCases_37 rfl (lv_at hl 0 rfl) ?_
        refine lv_dup hE.1 hE.2.1 dX8_closeCases_38 rfl ?_
        refine rg_geti hE hH cf_X8 fl_X8_51 rfl (mu) (ku) (v := nI (uh tab of (hMx tab q held c))) ((by rw [up2_l (by omega)]; exact hO.1)) dX8_closeCases_39 ?_
        refine lv_iconst (v := nI 1) hE.1 hE.2.1 dX8_closeCases_42 (by decide) ?_
        refine rn_isub hE dX8_closeCases_43 (by omega) ?_
        refine rg_puti hE hH cf_X8 fl_X8_51 rfl fn_X8_9 (mu) (ku) (v := nI ((uh tab of (hMx tab q held c)) - 1)) dX8_closeCases_44 (fun H locs hH => ?_)
        refine lv_iinc (v := nI (c + 1)) (lv' := [(3, .int (nI (c + 1))), (0, .ref (G.ad ut)), (1, .int (nI q)), (2, .ref (G.ad (t + 1)))]) hE.1 hE.2.1 dX8_closeCases_47 hl (k := 3) rfl (nI_1 _) (by decide) rfl (fun ls hl => ?_)
        refine lv_goto (tgt := 2) hE.1 hE.2.1 dX8_closeCases_50 (by decide) ?_
        exact ih2 (up2 (up2 iv2 (ut + 14) c (nI 0)) ut 9 (nI ((uh tab of (hMx tab q held c)) - 1)), c + 1) _ _ _ (show tC tab - (c + 1) < tC tab - c by omega) ⟨by show c + 1 ≤ tC tab; omega, hO.y (by omega) c17 c27, Fr.up (Fr.up hFr (Or.inl rfl)) (Or.inr ⟨rfl, rfl⟩)⟩ (lv_sub hl [1, 2, 3, 0] rfl) hH
set_option maxRecDepth 100000 in
set_option maxHeartbeats 4000000 in
theorem c_Tm_gain (l : Launch) (z : ZK) (G : GW) (iv : IV) (jv : JV) (ut : Nat) (tab : Tab) (hk : tabOK tab) (hTm : isTm G ut (tm tab) (tC tab) (tT tab)) (hV : TmV iv ut tab) (q : Nat) (hq : q < tT tab) (of : Nat) (ho : of ≤ 6) (held : Nat → Bool) (hO : HO iv ut tab of held) (hto : toI tab q (tC tab) = nI of) (hgn : ∀ p, p < q → iv (ut + 13) p = nI (gS tab of held p)) : cI l z yX8_gainOf cX8_gainOf 7 (some .int) 1 23 0 0 [.ref (G.ad ut), .int (nI q)] G iv jv (fun r' G' iv' jv' => G = G' ∧ iv = iv' ∧ jv = jv' ∧ r' = nI (gn tab (wnt of) held q)) := by
  intro sz
  refine rg_entry rfl (Nat.le_of_ble_eq_true rfl) ?_
  intro pq eq sq mq bq methq cq ls hE hr hlk hml hnm hl hsz hH
  have hl : lv_has ls 7 [(0, .ref (G.ad ut)), (1, .int (nI q))] := hl
  have hTm0 := hTm
  obtain ⟨⟨mu, ku⟩, hB1, hB2, hB3, hBi, hB10, hB11, hB12, hB13, hB14, s0, s1, s3, s4, s5, s6, s7, s8⟩ := hTm
  have l1 := hB1.2.2
  have l2 := hB2.2.2
  have l3 := hB3.2.2
  have l10 := hB10.2.2
  have l11 := hB11.2.2
  have l12 := hB12.2.2
  have l13 := hB13.2.2
  have l14 := hB14.2.2
  have hm5 := hk.2.1
  have hm1 := hk.1
  have hC4 := hk.2.2.2.1
  have hO6 := hk.2.2.2.2.2.1
  have hT8 := tT_le hk
  refine lv_aload_n hE.1 hE.2.1 dX8_gainOf_0 rfl (lv_at hl 0 rfl) ?_
  refine rg_getr hE hH cf_X8 fl_X8_35 rfl (mu) (ku) (v := ut + 11) (s5) dX8_gainOf_1 ?_
  refine lv_iload_n hE.1 hE.2.1 dX8_gainOf_4 rfl (lv_at hl 1 rfl) ?_
  refine rg_iald hE hH (hB11.1) (hB11.2.1) (by omega) (v := cof tab q) ((hV.2.2.2 q hq).2) dX8_gainOf_5 ?_
  refine lv_istore_n (lv' := [(2, .int (cof tab q)), (0, .ref (G.ad ut)), (1, .int (nI q))]) hE.1 hE.2.1 dX8_gainOf_6 rfl hl (by decide) rfl (fun ls hl => ?_)
  refine lv_aload_n hE.1 hE.2.1 dX8_gainOf_7 rfl (lv_at hl 1 rfl) ?_
  refine lv_iload_n hE.1 hE.2.1 dX8_gainOf_8 rfl (lv_at hl 2 rfl) ?_
  refine rg_VI (As := [.int (nI q)]) (rest := []) hE hml hH mc_X8_62 (c_Tm_any l z G iv jv ut tab hk hTm0 hV q (hq)) (mu) (ku) (by decide) rfl ⟨Nat.le_of_ble_eq_true rfl, Nat.le_of_ble_eq_true rfl⟩ rfl hl.1 (by simp [Value.category]) dX8_gainOf_9 ⟨Nat.le_of_ble_eq_true rfl, Nat.le_of_ble_eq_true rfl⟩ (fun r9 G9 iv9 jv9 H locs hp9 hH => ?_)
  obtain ⟨rfl, rfl, rfl, rfl⟩ := hp9
  refine lv_istore_n (lv' := [(3, .int (oI (fA tab q))), (2, .int (cof tab q)), (0, .ref (G.ad ut)), (1, .int (nI q))]) hE.1 hE.2.1 dX8_gainOf_12 rfl hl (by decide) rfl (fun ls hl => ?_)
  refine lv_iload_n hE.1 hE.2.1 dX8_gainOf_13 rfl (lv_at hl 0 rfl) ?_
  refine lv_iconst (v := -1) hE.1 hE.2.1 dX8_gainOf_14 (by decide) ?_
  refine lv_icmp_ne (tgt := 46) hE.1 hE.2.1 dX8_gainOf_15 (by decide) (fun c15 => ?_) (fun c15 => ?_)
  · obtain ⟨i, hfi⟩ := oI_som c15
    have hi := (fA_lt hfi).1
    have hqi := (fA_lt hfi).2
    have hfi2 := hk.2.2.1 i hi
    have hl : lv_has ls 7 [(3, .int (nI i)), (2, .int (cof tab q)), (0, .ref (G.ad ut)), (1, .int (nI q))] := by rw [hfi] at hl; exact hl
    refine lv_iconst (v := nI 0) hE.1 hE.2.1 dX8_gainOf_46 (by decide) ?_
    refine lv_istore (lv' := [(4, .int (nI 0)), (3, .int (nI i)), (2, .int (cof tab q)), (0, .ref (G.ad ut)), (1, .int (nI q))]) hE.1 hE.2.1 dX8_gainOf_47 hl (by decide) rfl (fun ls hl => ?_)
    have hl : lv_has ls 7 [(4, .int (nI (gSum tab of held q i 0))), (3, .int (nI i)), (2, .int (cof tab q)), (0, .ref (G.ad ut)), (1, .int (nI q))] := by rw [gSum_0]; exact hl
    refine lv_aload_n hE.1 hE.2.1 dX8_gainOf_49 rfl (lv_at hl 3 rfl) ?_
    refine lv_iload_n hE.1 hE.2.1 dX8_gainOf_50 rfl (lv_at hl 4 rfl) ?_
    refine lv_iload_n hE.1 hE.2.1 dX8_gainOf_51 rfl (lv_at hl 1 rfl) ?_
    refine rg_VI (As := [.int (nI q), .int (nI i)]) (rest := []) hE hml hH mc_X8_65 (c_Tm_nar l z G iv jv ut tab hk hTm0 hV q i hi hqi) (mu) (ku) (by decide) rfl ⟨Nat.le_of_ble_eq_true rfl, Nat.le_of_ble_eq_true rfl⟩ rfl hl.1 (by simp [Value.category]) dX8_gainOf_52 ⟨Nat.le_of_ble_eq_true rfl, Nat.le_of_ble_eq_true rfl⟩ (fun r52 G52 iv52 jv52 H locs hp52 hH => ?_)
    obtain ⟨rfl, rfl, rfl, rfl⟩ := hp52
    refine lv_istore (lv' := [(5, .int (nI (nrw tab q i 0))), (4, .int (nI (gSum tab of held q i 0))), (3, .int (nI i)), (2, .int (cof tab q)), (0, .ref (G.ad ut)), (1, .int (nI q))]) hE.1 hE.2.1 dX8_gainOf_55 hl (by decide) rfl (fun ls hl => ?_)
    refine lv_iconst (v := nI 0) hE.1 hE.2.1 dX8_gainOf_57 (by decide) ?_
    refine lv_istore (lv' := [(6, .int (nI 0)), (5, .int (nI (nrw tab q i 0))), (4, .int (nI (gSum tab of held q i 0))), (3, .int (nI i)), (2, .int (cof tab q)), (0, .ref (G.ad ut)), (1, .int (nI q))]) hE.1 hE.2.1 dX8_gainOf_58 hl (by decide) rfl (fun ls hl => ?_)
    refine rg_loop (σ := Nat) (nL := 7) (fun (k : Nat) => tf tab i - k) (fun (k : Nat) => [(0, .ref (G.ad ut)), (1, .int (nI q)), (3, .int (nI i)), (4, .int (nI (gSum tab of held q i k))), (5, .int (nI (nrw tab q i k))), (6, .int (nI k))]) (fun (k : Nat) => G) (fun (k : Nat) => iv) (fun (k : Nat) => jv) (fun (k : Nat) => k ≤ tf tab i) ?_ (0) (Nat.zero_le _) (lv_sub hl [5, 6, 3, 2, 1, 0] rfl) hH
    rintro k H locs ls hkf hl hH ih60
    try dsimp only at hl hH ih60
    refine lv_iload hE.1 hE.2.1 dX8_gainOf_60 (lv_at hl 5 rfl) ?_
    refine lv_aload_n hE.1 hE.2.1 dX8_gainOf_62 rfl (lv_at hl 0 rfl) ?_
    refine rg_getr hE hH cf_X8 fl_X8_15 rfl (mu) (ku) (v := ut + 1) (s0) dX8_gainOf_63 ?_
    refine lv_iload_n hE.1 hE.2.1 dX8_gainOf_66 rfl (lv_at hl 2 rfl) ?_
    refine rg_iald hE hH (hB1.1) (hB1.2.1) (by omega) (v := nI (tf tab i)) ((hV.1 i (by omega)).1) dX8_gainOf_67 ?_
    refine rn_icmp_ge (tgt := 111) hE dX8_gainOf_68 (by decide) (by omega) (by omega) (fun c68 => ?_) (fun c68 => ?_)
    · have hke : k = tf tab i := by omega
      subst hke
      have hl : lv_has ls 7 [(0, .ref (G.ad ut)), (1, .int (nI q)), (3, .int (nI i)), (4, .int (nI (gn tab (wnt of) held q))), (5, .int (nI (nrw tab q i (tf tab i)))), (6, .int (nI (tf tab i)))] := by rw [gSum_all hk hi] at hl; exact hl
      refine lv_iload hE.1 hE.2.1 dX8_gainOf_111 (lv_at hl 3 rfl) ?_
      exact rg_iret hE hr rfl hlk hH ⟨rfl, rfl, rfl, rfl⟩ dX8_gainOf_113
    · have hnr := nrw_ok hi hqi c68
      refine lv_iload hE.1 hE.2.1 dX8_gainOf_71 (lv_at hl 4 rfl) ?_
      refine rn_if_lt (tgt := 111) hE dX8_gainOf_73 (by decide) (by omega) (fun c73 => ?_) (fun c73 => ?_)
      · exact c73.elim
      · refine lv_iload hE.1 hE.2.1 dX8_gainOf_76 (lv_at hl 4 rfl) ?_
        refine lv_iload_n hE.1 hE.2.1 dX8_gainOf_78 rfl (lv_at hl 1 rfl) ?_
        refine rn_icmp_ge (tgt := 111) hE dX8_gainOf_79 (by decide) (by omega) (by omega) (fun c79 => ?_) (fun c79 => ?_)
        · omega
        · refine lv_iload hE.1 hE.2.1 dX8_gainOf_82 (lv_at hl 3 rfl) ?_
          refine lv_aload_n hE.1 hE.2.1 dX8_gainOf_84 rfl (lv_at hl 0 rfl) ?_
          refine rg_getr hE hH cf_X8 fl_X8_41 rfl (mu) (ku) (v := ut + 13) (s7) dX8_gainOf_85 ?_
          refine lv_iload hE.1 hE.2.1 dX8_gainOf_88 (lv_at hl 4 rfl) ?_
          refine rg_iald hE hH (hB13.1) (hB13.2.1) (by omega) (v := nI (gn tab (wnt of) held (nrw tab q i k))) ((by rw [hgn _ hnr.2.2, gS_nrw hk ho hi hqi c68 hto])) dX8_gainOf_90 ?_
          refine rn_iadd hE dX8_gainOf_91 ?_
          refine lv_istore (lv' := [(4, .int (nI (gSum tab of held q i k + (gn tab (wnt of) held (nrw tab q i k))))), (0, .ref (G.ad ut)), (1, .int (nI q)), (3, .int (nI i)), (5, .int (nI (nrw tab q i k))), (6, .int (nI k))]) hE.1 hE.2.1 dX8_gainOf_92 hl (by decide) rfl (fun ls hl => ?_)
          have hl : lv_has ls 7 [(4, .int (nI (gSum tab of held q i (k + 1)))), (0, .ref (G.ad ut)), (1, .int (nI q)), (3, .int (nI i)), (5, .int (nI (nrw tab q i k))), (6, .int (nI k))] := by rw [gSum_s hi hqi c68]; exact hl
          refine lv_iload hE.1 hE.2.1 dX8_gainOf_94 (lv_at hl 4 rfl) ?_
          refine lv_aload_n hE.1 hE.2.1 dX8_gainOf_96 rfl (lv_at hl 1 rfl) ?_
          refine rg_getr hE hH cf_X8 fl_X8_20 rfl (mu) (ku) (v := ut + 2) (s1) dX8_gainOf_97 ?_
          refine lv_iload_n hE.1 hE.2.1 dX8_gainOf_100 rfl (lv_at hl 3 rfl) ?_
          refine rg_iald hE hH (hB2.1) (hB2.2.1) (by omega) (v := nI (st (g1 tab) (tm tab) i)) ((hV.1 i (by omega)).2) dX8_gainOf_101 ?_
          refine rn_iadd hE dX8_gainOf_102 ?_
          refine rn_as (v' := nI (nrw tab q i (k + 1))) (by rw [nrw_s hnr.1 c68]) ?_
          refine lv_istore (lv' := [(5, .int (nI (nrw tab q i (k + 1)))), (4, .int (nI (gSum tab of held q i (k + 1)))), (0, .ref (G.ad ut)), (1, .int (nI q)), (3, .int (nI i)), (6, .int (nI k))]) hE.1 hE.2.1 dX8_gainOf_103 hl (by decide) rfl (fun ls hl => ?_)
          refine lv_iinc (v := nI (k + 1)) (lv' := [(6, .int (nI (k + 1))), (5, .int (nI (nrw tab q i (k + 1)))), (4, .int (nI (gSum tab of held q i (k + 1)))), (0, .ref (G.ad ut)), (1, .int (nI q)), (3, .int (nI i))]) hE.1 hE.2.1 dX8_gainOf_105 hl (k := 5) rfl (nI_1 _) (by decide) rfl (fun ls hl => ?_)
          refine lv_goto (tgt := 60) hE.1 hE.2.1 dX8_gainOf_108 (by decide) ?_
          exact ih60 (k + 1) _ _ _ (by omega) (by omega) (lv_sub hl [3, 4, 5, 2, 1, 0] rfl) hH
  · rw [oI_m1 (fun k hk2 => by have := (fA_lt hk2).1; omega)] at c15
    have hkl := kas_lt hq c15
    have hgf := gn_full (of := of) (held := held) hq c15
    have hl : lv_has ls 7 [(3, .int (oI (fA tab q))), (2, .int (nI (kas tab q))), (0, .ref (G.ad ut)), (1, .int (nI q))] := by rw [cof_t (fA_ful c15)] at hl; exact hl
    refine lv_iload_n hE.1 hE.2.1 dX8_gainOf_18 rfl (lv_at hl 1 rfl) ?_
    refine rn_if_lt (tgt := 44) hE dX8_gainOf_19 (by decide) (by omega) (fun c19 => ?_) (fun c19 => ?_)
    · exact c19.elim
    · refine lv_iload_n hE.1 hE.2.1 dX8_gainOf_22 rfl (lv_at hl 1 rfl) ?_
      refine lv_aload_n hE.1 hE.2.1 dX8_gainOf_23 rfl (lv_at hl 2 rfl) ?_
      refine rg_getr hE hH cf_X8 fl_X8_47 rfl (mu) (ku) (v := ut + 14) (s8) dX8_gainOf_24 ?_
      refine rg_alen hE hH (hB14.1) (hB14.2.1) (by decide) (by decide) dX8_gainOf_27 ?_
      rw [l14]
      refine rn_icmp_ge (tgt := 44) hE dX8_gainOf_28 (by decide) (by omega) (by omega) (fun c28 => ?_) (fun c28 => ?_)
      · omega
      · refine lv_aload_n hE.1 hE.2.1 dX8_gainOf_31 rfl (lv_at hl 2 rfl) ?_
        refine rg_getr hE hH cf_X8 fl_X8_47 rfl (mu) (ku) (v := ut + 14) (s8) dX8_gainOf_32 ?_
        refine lv_iload_n hE.1 hE.2.1 dX8_gainOf_35 rfl (lv_at hl 1 rfl) ?_
        refine rg_zald hE hH (hB14.1) (hB14.2.1) (by omega) (v := bI (opn tab of held (kas tab q))) (hO.2 _ hkl) dX8_gainOf_36 ?_
        refine rn_ifb_eq (tgt := 44) hE dX8_gainOf_37 (by decide) (fun c37 => ?_) (fun c37 => ?_)
        · refine lv_iconst (v := nI 0) hE.1 hE.2.1 dX8_gainOf_44 (by decide) ?_
          exact rg_iret hE hr rfl hlk hH ⟨rfl, rfl, rfl, by rw [hgf, if_neg (by rw [c37]; decide)]⟩ dX8_gainOf_45
        · refine lv_iconst (v := nI 1) hE.1 hE.2.1 dX8_gainOf_40 (by decide) ?_
          refine lv_goto (tgt := 45) hE.1 hE.2.1 dX8_gainOf_41 (by decide) ?_
          exact rg_iret hE hr rfl hlk hH ⟨rfl, rfl, rfl, by rw [hgf, if_pos c37]⟩ dX8_gainOf_45
set_option maxRecDepth 100000 in
set_option maxHeartbeats 4000000 in
theorem c_Tm_best (l : Launch) (z : ZK) (G : GW) (iv : IV) (jv : JV) (ut : Nat) (tab : Tab) (hk : tabOK tab) (hTm : isTm G ut (tm tab) (tC tab) (tT tab)) (hV : TmV iv ut tab) (of : Nat) (ho : of ≤ 6) (held : Nat → Bool) (hO : HO iv ut tab of held) (hon : ∀ p, p < tT tab → ∃ y, iv (ut + 12) p = y ∧ onR y (AV tab p)) : cI l z yX8_best cX8_best 6 (some .int) 2 49 0 0 [.ref (G.ad ut), .int (oI (wnt of))] G iv jv (fun r' G' iv' jv' => G = G' ∧ jv = jv' ∧ r' = oI (bst tab of held) ∧ Fr iv iv' (fun lb j => lb = ut + 13)) := by
  intro sz
  refine rg_entry rfl (Nat.le_of_ble_eq_true rfl) ?_
  intro pq eq sq mq bq methq cq ls hE hr hlk hml hnm hl hsz hH
  have hl : lv_has ls 6 [(0, .ref (G.ad ut)), (1, .int (oI (wnt of)))] := hl
  have hTm0 := hTm
  obtain ⟨⟨mu, ku⟩, hB1, hB2, hB3, hBi, hB10, hB11, hB12, hB13, hB14, s0, s1, s3, s4, s5, s6, s7, s8⟩ := hTm
  have l1 := hB1.2.2
  have l2 := hB2.2.2
  have l3 := hB3.2.2
  have l10 := hB10.2.2
  have l11 := hB11.2.2
  have l12 := hB12.2.2
  have l13 := hB13.2.2
  have l14 := hB14.2.2
  have hm5 := hk.2.1
  have hm1 := hk.1
  have hC4 := hk.2.2.2.1
  have hO6 := hk.2.2.2.2.2.1
  have hT8 := tT_le hk
  refine lv_iconst (v := -1) hE.1 hE.2.1 dX8_best_0 (by decide) ?_
  refine lv_istore_n (lv' := [(2, .int (-1)), (0, .ref (G.ad ut)), (1, .int (oI (wnt of)))]) hE.1 hE.2.1 dX8_best_1 rfl hl (by decide) rfl (fun ls hl => ?_)
  refine lv_iconst (v := nI 0) hE.1 hE.2.1 dX8_best_2 (by decide) ?_
  refine lv_istore_n (lv' := [(3, .int (nI 0)), (2, .int (-1)), (0, .ref (G.ad ut)), (1, .int (oI (wnt of)))]) hE.1 hE.2.1 dX8_best_3 rfl hl (by decide) rfl (fun ls hl => ?_)
  refine lv_iconst (v := nI 0) hE.1 hE.2.1 dX8_best_4 (by decide) ?_
  refine lv_istore (lv' := [(4, .int (nI 0)), (3, .int (nI 0)), (2, .int (-1)), (0, .ref (G.ad ut)), (1, .int (oI (wnt of)))]) hE.1 hE.2.1 dX8_best_5 hl (by decide) rfl (fun ls hl => ?_)
  refine rg_loop (σ := IV × Nat) (nL := 6) (fun (u : IV × Nat) => match u with | (iv2, q) => tT tab - q) (fun (u : IV × Nat) => match u with | (iv2, q) => [(0, .ref (G.ad ut)), (1, .int (oI (wnt of))), (2, .int (oI (bsI tab of held q).1)), (3, .int (nI ((bsI tab of held q).2.1))), (4, .int (nI q))]) (fun (u : IV × Nat) => match u with | (iv2, q) => G) (fun (u : IV × Nat) => match u with | (iv2, q) => iv2) (fun (u : IV × Nat) => match u with | (iv2, q) => jv) (fun (u : IV × Nat) => match u with | (iv2, q) => q ≤ tT tab ∧ (∀ p, p < q → iv2 (ut + 13) p = nI (gS tab of held p)) ∧ Fr iv iv2 (fun lb j => lb = ut + 13)) ?_ ((iv, 0)) ⟨Nat.zero_le _, fun p hp => absurd hp (Nat.not_lt_zero p), Fr.rf⟩ (lv_sub hl [3, 4, 2, 1, 0] rfl) hH
  rintro ⟨iv2, q⟩ H locs ls ⟨hqT, hgn, hFr⟩ hl hH ih7
  try dsimp only at hl hH ih7
  try dsimp only at hqT hgn hFr
  have hV2 := hV.fr hFr (by omega) (fun lb j _ _ => by omega) hm5
  have hO2 := hO.fr hFr (by omega) (fun c => by omega)
  have hbl := (bsI_le (tab := tab) (of := of) (held := held) q).1
  have hbv := bsI_v (tab := tab) (of := of) (held := held) q
  refine lv_iload hE.1 hE.2.1 dX8_best_7 (lv_at hl 4 rfl) ?_
  refine lv_aload_n hE.1 hE.2.1 dX8_best_9 rfl (lv_at hl 0 rfl) ?_
  refine rg_geti hE hH cf_X8 fl_X8_23 rfl (mu) (ku) (v := nI (tT tab)) (hV2.2.1) dX8_best_10 ?_
  refine rn_icmp_ge (tgt := 116) hE dX8_best_13 (by decide) (by omega) (by omega) (fun c13 => ?_) (fun c13 => ?_)
  · have hqe : q = tT tab := by omega
    subst hqe
    refine lv_iload_n hE.1 hE.2.1 dX8_best_116 rfl (lv_at hl 2 rfl) ?_
    exact rg_iret hE hr rfl hlk hH ⟨rfl, rfl, rfl, hFr⟩ dX8_best_117
  · obtain ⟨y, hy, hy2⟩ := hon q c13
    refine lv_aload_n hE.1 hE.2.1 dX8_best_16 rfl (lv_at hl 0 rfl) ?_
    refine rg_getr hE hH cf_X8 fl_X8_41 rfl (mu) (ku) (v := ut + 13) (s7) dX8_best_17 ?_
    refine lv_iload hE.1 hE.2.1 dX8_best_20 (lv_at hl 4 rfl) ?_
    refine lv_aload_n hE.1 hE.2.1 dX8_best_22 rfl (lv_at hl 0 rfl) ?_
    refine rg_getr hE hH cf_X8 fl_X8_38 rfl (mu) (ku) (v := ut + 12) (s6) dX8_best_23 ?_
    refine lv_iload hE.1 hE.2.1 dX8_best_26 (lv_at hl 4 rfl) ?_
    refine rg_iald hE hH (hB12.1) (hB12.2.1) (by omega) (v := y) ((hFr _ _ (by omega)).trans hy) dX8_best_28 ?_
    refine lv_iload_n hE.1 hE.2.1 dX8_best_29 rfl (lv_at hl 1 rfl) ?_
    refine lv_icmp_ne (tgt := 42) hE.1 hE.2.1 dX8_best_30 (by decide) (fun c30 => ?_) (fun c30 => ?_)
    · have hto : ¬ toI tab q (tC tab) = nI of := fun h => c30 ((onR_eq hk hy2 ho).mpr h)
      have hgq : gS tab of held q = 0 := by unfold gS; rw [if_neg hto]
      refine lv_iconst (v := nI 0) hE.1 hE.2.1 dX8_best_42 (by decide) ?_
      refine rn_as (v' := nI (gS tab of held q)) (by rw [hgq]) ?_
      refine rg_iast hE hH (hB13.1) (hB13.2.1) (by omega) (v := nI (gS tab of held q)) dX8_best_43 (fun H locs hH => ?_)
      have hgn3 : ∀ p, p < q + 1 → (up2 iv2 (ut + 13) q (nI (gS tab of held q))) (ut + 13) p = nI (gS tab of held p) := fun p hp => by
        by_cases hpq : p = q
        · subst hpq; exact up2_s
        · rw [up2_k (by omega)]; exact hgn p (by omega)
      have hFr3 : Fr iv (up2 iv2 (ut + 13) q (nI (gS tab of held q))) (fun lb j => lb = ut + 13) := Fr.up hFr rfl
      generalize up2 iv2 (ut + 13) q (nI (gS tab of held q)) = iv3 at hH hgn3 hFr3
      have hV3 := hV.fr hFr3 (by omega) (fun lb j _ _ => by omega) hm5
      have hgl := gS_le (tab := tab) (of := of) (held := held) (q := q)
      have htl : tld tab q ≤ tm tab := cntN_le _
      refine lv_iload_n hE.1 hE.2.1 dX8_best_44 rfl (lv_at hl 2 rfl) ?_
      refine lv_iconst (v := -1) hE.1 hE.2.1 dX8_best_45 (by decide) ?_
      refine lv_icmp_eq (tgt := 69) hE.1 hE.2.1 dX8_best_46 (by decide) (fun c46 => ?_) (fun c46 => ?_)
      · rw [oI_m1 (fun k hk2 => by have := (hbv.2 k hk2).2.2; omega)] at c46
        have hbg := hbv.1 c46
        refine lv_iconst (v := nI 0) hE.1 hE.2.1 dX8_best_69 (by decide) ?_
        refine lv_istore (lv' := [(5, .int (nI 0)), (0, .ref (G.ad ut)), (1, .int (oI (wnt of))), (2, .int (oI (bsI tab of held q).1)), (3, .int (nI ((bsI tab of held q).2.1))), (4, .int (nI q))]) hE.1 hE.2.1 dX8_best_70 hl (by decide) rfl (fun ls hl => ?_)
        refine lv_aload_n hE.1 hE.2.1 dX8_best_72 rfl (lv_at hl 1 rfl) ?_
        refine rg_getr hE hH cf_X8 fl_X8_41 rfl (mu) (ku) (v := ut + 13) (s7) dX8_best_73 ?_
        refine lv_iload hE.1 hE.2.1 dX8_best_76 (lv_at hl 5 rfl) ?_
        refine rg_iald hE hH (hB13.1) (hB13.2.1) (by omega) (v := nI (gS tab of held q)) (hgn3 q (by omega)) dX8_best_78 ?_
        refine lv_iload_n hE.1 hE.2.1 dX8_best_79 rfl (lv_at hl 4 rfl) ?_
        refine rn_icmp_gt (tgt := 99) hE dX8_best_80 (by decide) (by omega) (by omega) (fun c80 => ?_) (fun c80 => ?_)
        · refine lv_iload hE.1 hE.2.1 dX8_best_99 (lv_at hl 5 rfl) ?_
          refine lv_istore_n (lv' := [(2, .int (nI q)), (5, .int (nI 0)), (0, .ref (G.ad ut)), (1, .int (oI (wnt of))), (3, .int (nI ((bsI tab of held q).2.1))), (4, .int (nI q))]) hE.1 hE.2.1 dX8_best_101 rfl hl (by decide) rfl (fun ls hl => ?_)
          refine lv_aload_n hE.1 hE.2.1 dX8_best_102 rfl (lv_at hl 2 rfl) ?_
          refine rg_getr hE hH cf_X8 fl_X8_41 rfl (mu) (ku) (v := ut + 13) (s7) dX8_best_103 ?_
          refine lv_iload hE.1 hE.2.1 dX8_best_106 (lv_at hl 5 rfl) ?_
          refine rg_iald hE hH (hB13.1) (hB13.2.1) (by omega) (v := nI (gS tab of held q)) (hgn3 q (by omega)) dX8_best_108 ?_
          refine lv_istore_n (lv' := [(3, .int (nI (gS tab of held q))), (2, .int (nI q)), (5, .int (nI 0)), (0, .ref (G.ad ut)), (1, .int (oI (wnt of))), (4, .int (nI q))]) hE.1 hE.2.1 dX8_best_109 rfl hl (by decide) rfl (fun ls hl => ?_)
          have hby := bsI_y (tab := tab) (of := of) (held := held) (t := q) (Or.inl c80)
          have hl : lv_has ls 6 [(3, .int (nI ((bsI tab of held (q + 1)).2.1))), (2, .int (oI (bsI tab of held (q + 1)).1)), (5, .int (nI 0)), (0, .ref (G.ad ut)), (1, .int (oI (wnt of))), (4, .int (nI q))] := by rw [hby]; exact hl
          refine lv_iinc (v := nI (q + 1)) (lv' := [(4, .int (nI (q + 1))), (3, .int (nI ((bsI tab of held (q + 1)).2.1))), (2, .int (oI (bsI tab of held (q + 1)).1)), (5, .int (nI 0)), (0, .ref (G.ad ut)), (1, .int (oI (wnt of)))]) hE.1 hE.2.1 dX8_best_110 hl (k := 5) rfl (nI_1 _) (by decide) rfl (fun ls hl => ?_)
          refine lv_goto (tgt := 7) hE.1 hE.2.1 dX8_best_113 (by decide) ?_
          exact ih7 (iv3, q + 1) _ _ _ (show tT tab - (q + 1) < tT tab - q by omega) ⟨by show q + 1 ≤ tT tab; omega, hgn3, hFr3⟩ (lv_sub hl [4, 5, 2, 1, 0] rfl) hH
        · refine lv_aload_n hE.1 hE.2.1 dX8_best_83 rfl (lv_at hl 1 rfl) ?_
          refine rg_getr hE hH cf_X8 fl_X8_41 rfl (mu) (ku) (v := ut + 13) (s7) dX8_best_84 ?_
          refine lv_iload hE.1 hE.2.1 dX8_best_87 (lv_at hl 5 rfl) ?_
          refine rg_iald hE hH (hB13.1) (hB13.2.1) (by omega) (v := nI (gS tab of held q)) (hgn3 q (by omega)) dX8_best_89 ?_
          refine lv_iload_n hE.1 hE.2.1 dX8_best_90 rfl (lv_at hl 4 rfl) ?_
          refine rn_icmp_ne (tgt := 110) hE dX8_best_91 (by decide) (by omega) (by omega) (fun c91 => ?_) (fun c91 => ?_)
          · have hby := bsI_x (tab := tab) (of := of) (held := held) (t := q) (fun h => h.elim (fun h => by omega) (fun h => c91 h.1))
            have hl : lv_has ls 6 [(5, .int (nI 0)), (0, .ref (G.ad ut)), (1, .int (oI (wnt of))), (2, .int (oI (bsI tab of held (q + 1)).1)), (3, .int (nI ((bsI tab of held (q + 1)).2.1))), (4, .int (nI q))] := by rw [hby]; exact hl
            refine lv_iinc (v := nI (q + 1)) (lv' := [(4, .int (nI (q + 1))), (5, .int (nI 0)), (0, .ref (G.ad ut)), (1, .int (oI (wnt of))), (2, .int (oI (bsI tab of held (q + 1)).1)), (3, .int (nI ((bsI tab of held (q + 1)).2.1)))]) hE.1 hE.2.1 dX8_best_110 hl (k := 5) rfl (nI_1 _) (by decide) rfl (fun ls hl => ?_)
            refine lv_goto (tgt := 7) hE.1 hE.2.1 dX8_best_113 (by decide) ?_
            exact ih7 (iv3, q + 1) _ _ _ (show tT tab - (q + 1) < tT tab - q by omega) ⟨by show q + 1 ≤ tT tab; omega, hgn3, hFr3⟩ (lv_sub hl [2, 3, 4, 5, 0] rfl) hH
          · refine lv_iload hE.1 hE.2.1 dX8_best_94 (lv_at hl 0 rfl) ?_
            refine rn_if_eq (tgt := 110) hE dX8_best_96 (by decide) (by omega) (fun c96 => ?_) (fun c96 => ?_)
            · have hby := bsI_x (tab := tab) (of := of) (held := held) (t := q) (fun h => h.elim (fun h => by omega) (fun ⟨_, b, hb, hlt⟩ => by rw [c46] at hb; cases hb))
              have hl : lv_has ls 6 [(5, .int (nI 0)), (0, .ref (G.ad ut)), (1, .int (oI (wnt of))), (2, .int (oI (bsI tab of held (q + 1)).1)), (3, .int (nI ((bsI tab of held (q + 1)).2.1))), (4, .int (nI q))] := by rw [hby]; exact hl
              refine lv_iinc (v := nI (q + 1)) (lv' := [(4, .int (nI (q + 1))), (5, .int (nI 0)), (0, .ref (G.ad ut)), (1, .int (oI (wnt of))), (2, .int (oI (bsI tab of held (q + 1)).1)), (3, .int (nI ((bsI tab of held (q + 1)).2.1)))]) hE.1 hE.2.1 dX8_best_110 hl (k := 5) rfl (nI_1 _) (by decide) rfl (fun ls hl => ?_)
              refine lv_goto (tgt := 7) hE.1 hE.2.1 dX8_best_113 (by decide) ?_
              exact ih7 (iv3, q + 1) _ _ _ (show tT tab - (q + 1) < tT tab - q by omega) ⟨by show q + 1 ≤ tT tab; omega, hgn3, hFr3⟩ (lv_sub hl [2, 3, 4, 5, 0] rfl) hH
            · omega
      · obtain ⟨w, hw⟩ := oI_som c46
        have hwq := (hbv.2 w hw).2.2
        have hbg := (hbv.2 w hw)
        have hwl : tld tab w ≤ tm tab := cntN_le _
        have hl : lv_has ls 6 [(0, .ref (G.ad ut)), (1, .int (oI (wnt of))), (2, .int (nI w)), (3, .int (nI ((bsI tab of held q).2.1))), (4, .int (nI q))] := by rw [hw] at hl; exact hl
        refine lv_aload_n hE.1 hE.2.1 dX8_best_49 rfl (lv_at hl 0 rfl) ?_
        refine rg_getr hE hH cf_X8 fl_X8_32 rfl (mu) (ku) (v := ut + 10) (s4) dX8_best_50 ?_
        refine lv_iload hE.1 hE.2.1 dX8_best_53 (lv_at hl 4 rfl) ?_
        refine rg_iald hE hH (hB10.1) (hB10.2.1) (by omega) (v := nI (tld tab q)) ((hV3.2.2.2 q c13).1) dX8_best_55 ?_
        refine lv_aload_n hE.1 hE.2.1 dX8_best_56 rfl (lv_at hl 0 rfl) ?_
        refine rg_getr hE hH cf_X8 fl_X8_32 rfl (mu) (ku) (v := ut + 10) (s4) dX8_best_57 ?_
        refine lv_iload_n hE.1 hE.2.1 dX8_best_60 rfl (lv_at hl 2 rfl) ?_
        refine rg_iald hE hH (hB10.1) (hB10.2.1) (by omega) (v := nI (tld tab w)) ((hV3.2.2.2 w (by omega)).1) dX8_best_61 ?_
        refine rb_icmp_ge (t1 := 69) (t2 := 70) hE dX8_best_62 (by decide) dX8_best_65 dX8_best_66 (by decide) dX8_best_69 rfl (by omega) (by omega) ?_
        refine lv_istore (lv' := [(5, .int (bI (decide (tld tab q < tld tab w)))), (0, .ref (G.ad ut)), (1, .int (oI (wnt of))), (2, .int (nI w)), (3, .int (nI ((bsI tab of held q).2.1))), (4, .int (nI q))]) hE.1 hE.2.1 dX8_best_70 hl (by decide) rfl (fun ls hl => ?_)
        refine lv_aload_n hE.1 hE.2.1 dX8_best_72 rfl (lv_at hl 1 rfl) ?_
        refine rg_getr hE hH cf_X8 fl_X8_41 rfl (mu) (ku) (v := ut + 13) (s7) dX8_best_73 ?_
        refine lv_iload hE.1 hE.2.1 dX8_best_76 (lv_at hl 5 rfl) ?_
        refine rg_iald hE hH (hB13.1) (hB13.2.1) (by omega) (v := nI (gS tab of held q)) (hgn3 q (by omega)) dX8_best_78 ?_
        refine lv_iload_n hE.1 hE.2.1 dX8_best_79 rfl (lv_at hl 4 rfl) ?_
        refine rn_icmp_gt (tgt := 99) hE dX8_best_80 (by decide) (by omega) (by omega) (fun c80 => ?_) (fun c80 => ?_)
        · refine lv_iload hE.1 hE.2.1 dX8_best_99 (lv_at hl 5 rfl) ?_
          refine lv_istore_n (lv' := [(2, .int (nI q)), (5, .int (bI (decide (tld tab q < tld tab w)))), (0, .ref (G.ad ut)), (1, .int (oI (wnt of))), (3, .int (nI ((bsI tab of held q).2.1))), (4, .int (nI q))]) hE.1 hE.2.1 dX8_best_101 rfl hl (by decide) rfl (fun ls hl => ?_)
          refine lv_aload_n hE.1 hE.2.1 dX8_best_102 rfl (lv_at hl 2 rfl) ?_
          refine rg_getr hE hH cf_X8 fl_X8_41 rfl (mu) (ku) (v := ut + 13) (s7) dX8_best_103 ?_
          refine lv_iload hE.1 hE.2.1 dX8_best_106 (lv_at hl 5 rfl) ?_
          refine rg_iald hE hH (hB13.1) (hB13.2.1) (by omega) (v := nI (gS tab of held q)) (hgn3 q (by omega)) dX8_best_108 ?_
          refine lv_istore_n (lv' := [(3, .int (nI (gS tab of held q))), (2, .int (nI q)), (5, .int (bI (decide (tld tab q < tld tab w)))), (0, .ref (G.ad ut)), (1, .int (oI (wnt of))), (4, .int (nI q))]) hE.1 hE.2.1 dX8_best_109 rfl hl (by decide) rfl (fun ls hl => ?_)
          have hby := bsI_y (tab := tab) (of := of) (held := held) (t := q) (Or.inl c80)
          have hl : lv_has ls 6 [(3, .int (nI ((bsI tab of held (q + 1)).2.1))), (2, .int (oI (bsI tab of held (q + 1)).1)), (5, .int (bI (decide (tld tab q < tld tab w)))), (0, .ref (G.ad ut)), (1, .int (oI (wnt of))), (4, .int (nI q))] := by rw [hby]; exact hl
          refine lv_iinc (v := nI (q + 1)) (lv' := [(4, .int (nI (q + 1))), (3, .int (nI ((bsI tab of held (q + 1)).2.1))), (2, .int (oI (bsI tab of held (q + 1)).1)), (5, .int (bI (decide (tld tab q < tld tab w)))), (0, .ref (G.ad ut)), (1, .int (oI (wnt of)))]) hE.1 hE.2.1 dX8_best_110 hl (k := 5) rfl (nI_1 _) (by decide) rfl (fun ls hl => ?_)
          refine lv_goto (tgt := 7) hE.1 hE.2.1 dX8_best_113 (by decide) ?_
          exact ih7 (iv3, q + 1) _ _ _ (show tT tab - (q + 1) < tT tab - q by omega) ⟨by show q + 1 ≤ tT tab; omega, hgn3, hFr3⟩ (lv_sub hl [4, 5, 2, 1, 0] rfl) hH
        · refine lv_aload_n hE.1 hE.2.1 dX8_best_83 rfl (lv_at hl 1 rfl) ?_
          refine rg_getr hE hH cf_X8 fl_X8_41 rfl (mu) (ku) (v := ut + 13) (s7) dX8_best_84 ?_
          refine lv_iload hE.1 hE.2.1 dX8_best_87 (lv_at hl 5 rfl) ?_
          refine rg_iald hE hH (hB13.1) (hB13.2.1) (by omega) (v := nI (gS tab of held q)) (hgn3 q (by omega)) dX8_best_89 ?_
          refine lv_iload_n hE.1 hE.2.1 dX8_best_90 rfl (lv_at hl 4 rfl) ?_
          refine rn_icmp_ne (tgt := 110) hE dX8_best_91 (by decide) (by omega) (by omega) (fun c91 => ?_) (fun c91 => ?_)
          · have hby := bsI_x (tab := tab) (of := of) (held := held) (t := q) (fun h => h.elim (fun h => by omega) (fun h => c91 h.1))
            have hl : lv_has ls 6 [(5, .int (bI (decide (tld tab q < tld tab w)))), (0, .ref (G.ad ut)), (1, .int (oI (wnt of))), (2, .int (oI (bsI tab of held (q + 1)).1)), (3, .int (nI ((bsI tab of held (q + 1)).2.1))), (4, .int (nI q))] := by rw [hby, hw]; exact hl
            refine lv_iinc (v := nI (q + 1)) (lv' := [(4, .int (nI (q + 1))), (5, .int (bI (decide (tld tab q < tld tab w)))), (0, .ref (G.ad ut)), (1, .int (oI (wnt of))), (2, .int (oI (bsI tab of held (q + 1)).1)), (3, .int (nI ((bsI tab of held (q + 1)).2.1)))]) hE.1 hE.2.1 dX8_best_110 hl (k := 5) rfl (nI_1 _) (by decide) rfl (fun ls hl => ?_)
            refine lv_goto (tgt := 7) hE.1 hE.2.1 dX8_best_113 (by decide) ?_
            exact ih7 (iv3, q + 1) _ _ _ (show tT tab - (q + 1) < tT tab - q by omega) ⟨by show q + 1 ≤ tT tab; omega, hgn3, hFr3⟩ (lv_sub hl [2, 3, 4, 5, 0] rfl) hH
          · refine lv_iload hE.1 hE.2.1 dX8_best_94 (lv_at hl 0 rfl) ?_
            refine rn_ifb_eq (tgt := 110) hE dX8_best_96 (by decide) (fun c96 => ?_) (fun c96 => ?_)
            · have hby := bsI_x (tab := tab) (of := of) (held := held) (t := q) (fun h => h.elim (fun h => by omega) (fun ⟨_, b, hb, hlt⟩ => by rw [hw] at hb; cases hb; exact absurd hlt (of_decide_eq_false c96)))
              have hl : lv_has ls 6 [(5, .int (bI (decide (tld tab q < tld tab w)))), (0, .ref (G.ad ut)), (1, .int (oI (wnt of))), (2, .int (oI (bsI tab of held (q + 1)).1)), (3, .int (nI ((bsI tab of held (q + 1)).2.1))), (4, .int (nI q))] := by rw [hby, hw]; exact hl
              refine lv_iinc (v := nI (q + 1)) (lv' := [(4, .int (nI (q + 1))), (5, .int (bI (decide (tld tab q < tld tab w)))), (0, .ref (G.ad ut)), (1, .int (oI (wnt of))), (2, .int (oI (bsI tab of held (q + 1)).1)), (3, .int (nI ((bsI tab of held (q + 1)).2.1)))]) hE.1 hE.2.1 dX8_best_110 hl (k := 5) rfl (nI_1 _) (by decide) rfl (fun ls hl => ?_)
              refine lv_goto (tgt := 7) hE.1 hE.2.1 dX8_best_113 (by decide) ?_
              exact ih7 (iv3, q + 1) _ _ _ (show tT tab - (q + 1) < tT tab - q by omega) ⟨by show q + 1 ≤ tT tab; omega, hgn3, hFr3⟩ (lv_sub hl [2, 3, 4, 5, 0] rfl) hH
            · refine lv_iload hE.1 hE.2.1 dX8_best_99 (lv_at hl 5 rfl) ?_
              refine lv_istore_n (lv' := [(2, .int (nI q)), (5, .int (bI (decide (tld tab q < tld tab w)))), (0, .ref (G.ad ut)), (1, .int (oI (wnt of))), (3, .int (nI ((bsI tab of held q).2.1))), (4, .int (nI q))]) hE.1 hE.2.1 dX8_best_101 rfl hl (by decide) rfl (fun ls hl => ?_)
              refine lv_aload_n hE.1 hE.2.1 dX8_best_102 rfl (lv_at hl 2 rfl) ?_
              refine rg_getr hE hH cf_X8 fl_X8_41 rfl (mu) (ku) (v := ut + 13) (s7) dX8_best_103 ?_
              refine lv_iload hE.1 hE.2.1 dX8_best_106 (lv_at hl 5 rfl) ?_
              refine rg_iald hE hH (hB13.1) (hB13.2.1) (by omega) (v := nI (gS tab of held q)) (hgn3 q (by omega)) dX8_best_108 ?_
              refine lv_istore_n (lv' := [(3, .int (nI (gS tab of held q))), (2, .int (nI q)), (5, .int (bI (decide (tld tab q < tld tab w)))), (0, .ref (G.ad ut)), (1, .int (oI (wnt of))), (4, .int (nI q))]) hE.1 hE.2.1 dX8_best_109 rfl hl (by decide) rfl (fun ls hl => ?_)
              have hby := bsI_y (tab := tab) (of := of) (held := held) (t := q) (Or.inr ⟨c91, w, hw, of_decide_eq_true c96⟩)
              have hl : lv_has ls 6 [(3, .int (nI ((bsI tab of held (q + 1)).2.1))), (2, .int (oI (bsI tab of held (q + 1)).1)), (5, .int (bI (decide (tld tab q < tld tab w)))), (0, .ref (G.ad ut)), (1, .int (oI (wnt of))), (4, .int (nI q))] := by rw [hby]; exact hl
              refine lv_iinc (v := nI (q + 1)) (lv' := [(4, .int (nI (q + 1))), (3, .int (nI ((bsI tab of held (q + 1)).2.1))), (2, .int (oI (bsI tab of held (q + 1)).1)), (5, .int (bI (decide (tld tab q < tld tab w)))), (0, .ref (G.ad ut)), (1, .int (oI (wnt of)))]) hE.1 hE.2.1 dX8_best_110 hl (k := 5) rfl (nI_1 _) (by decide) rfl (fun ls hl => ?_)
              refine lv_goto (tgt := 7) hE.1 hE.2.1 dX8_best_113 (by decide) ?_
              exact ih7 (iv3, q + 1) _ _ _ (show tT tab - (q + 1) < tT tab - q by omega) ⟨by show q + 1 ≤ tT tab; omega, hgn3, hFr3⟩ (lv_sub hl [4, 5, 2, 1, 0] rfl) hH
    · have hto := (onR_eq hk hy2 ho).mp c30
      have hgq : gS tab of held q = gn tab (wnt of) held q := by unfold gS; rw [if_pos hto]
      refine lv_aload_n hE.1 hE.2.1 dX8_best_33 rfl (lv_at hl 0 rfl) ?_
      refine lv_iload hE.1 hE.2.1 dX8_best_34 (lv_at hl 4 rfl) ?_
      refine rg_VI (As := [.int (nI q)]) (rest := [.int (nI q), .ref (G.ad (ut + 13))]) hE hml hH mc_X8_73 (c_Tm_gain l z G iv2 jv ut tab hk hTm0 hV2 q c13 of ho held hO2 hto hgn) (mu) (ku) (by decide) rfl ⟨Nat.le_of_ble_eq_true rfl, Nat.le_of_ble_eq_true rfl⟩ rfl hl.1 (by simp [Value.category]) dX8_best_36 ⟨Nat.le_of_ble_eq_true rfl, Nat.le_of_ble_eq_true rfl⟩ (fun r36 G36 iv36 jv36 H locs hp36 hH => ?_)
      obtain ⟨rfl, rfl, rfl, rfl⟩ := hp36
      refine rn_as (v' := nI (gS tab of held q)) (by rw [hgq]) ?_
      refine lv_goto (tgt := 43) hE.1 hE.2.1 dX8_best_39 (by decide) ?_
      refine rg_iast hE hH (hB13.1) (hB13.2.1) (by omega) (v := nI (gS tab of held q)) dX8_best_43 (fun H locs hH => ?_)
      have hgn3 : ∀ p, p < q + 1 → (up2 iv2 (ut + 13) q (nI (gS tab of held q))) (ut + 13) p = nI (gS tab of held p) := fun p hp => by
        by_cases hpq : p = q
        · subst hpq; exact up2_s
        · rw [up2_k (by omega)]; exact hgn p (by omega)
      have hFr3 : Fr iv (up2 iv2 (ut + 13) q (nI (gS tab of held q))) (fun lb j => lb = ut + 13) := Fr.up hFr rfl
      generalize up2 iv2 (ut + 13) q (nI (gS tab of held q)) = iv3 at hH hgn3 hFr3
      have hV3 := hV.fr hFr3 (by omega) (fun lb j _ _ => by omega) hm5
      have hgl := gS_le (tab := tab) (of := of) (held := held) (q := q)
      have htl : tld tab q ≤ tm tab := cntN_le _
      refine lv_iload_n hE.1 hE.2.1 dX8_best_44 rfl (lv_at hl 2 rfl) ?_
      refine lv_iconst (v := -1) hE.1 hE.2.1 dX8_best_45 (by decide) ?_
      refine lv_icmp_eq (tgt := 69) hE.1 hE.2.1 dX8_best_46 (by decide) (fun c46 => ?_) (fun c46 => ?_)
      · rw [oI_m1 (fun k hk2 => by have := (hbv.2 k hk2).2.2; omega)] at c46
        have hbg := hbv.1 c46
        refine lv_iconst (v := nI 0) hE.1 hE.2.1 dX8_best_69 (by decide) ?_
        refine lv_istore (lv' := [(5, .int (nI 0)), (0, .ref (G.ad ut)), (1, .int (oI (wnt of))), (2, .int (oI (bsI tab of held q).1)), (3, .int (nI ((bsI tab of held q).2.1))), (4, .int (nI q))]) hE.1 hE.2.1 dX8_best_70 hl (by decide) rfl (fun ls hl => ?_)
        refine lv_aload_n hE.1 hE.2.1 dX8_best_72 rfl (lv_at hl 1 rfl) ?_
        refine rg_getr hE hH cf_X8 fl_X8_41 rfl (mu) (ku) (v := ut + 13) (s7) dX8_best_73 ?_
        refine lv_iload hE.1 hE.2.1 dX8_best_76 (lv_at hl 5 rfl) ?_
        refine rg_iald hE hH (hB13.1) (hB13.2.1) (by omega) (v := nI (gS tab of held q)) (hgn3 q (by omega)) dX8_best_78 ?_
        refine lv_iload_n hE.1 hE.2.1 dX8_best_79 rfl (lv_at hl 4 rfl) ?_
        refine rn_icmp_gt (tgt := 99) hE dX8_best_80 (by decide) (by omega) (by omega) (fun c80 => ?_) (fun c80 => ?_)
        · refine lv_iload hE.1 hE.2.1 dX8_best_99 (lv_at hl 5 rfl) ?_
          refine lv_istore_n (lv' := [(2, .int (nI q)), (5, .int (nI 0)), (0, .ref (G.ad ut)), (1, .int (oI (wnt of))), (3, .int (nI ((bsI tab of held q).2.1))), (4, .int (nI q))]) hE.1 hE.2.1 dX8_best_101 rfl hl (by decide) rfl (fun ls hl => ?_)
          refine lv_aload_n hE.1 hE.2.1 dX8_best_102 rfl (lv_at hl 2 rfl) ?_
          refine rg_getr hE hH cf_X8 fl_X8_41 rfl (mu) (ku) (v := ut + 13) (s7) dX8_best_103 ?_
          refine lv_iload hE.1 hE.2.1 dX8_best_106 (lv_at hl 5 rfl) ?_
          refine rg_iald hE hH (hB13.1) (hB13.2.1) (by omega) (v := nI (gS tab of held q)) (hgn3 q (by omega)) dX8_best_108 ?_
          refine lv_istore_n (lv' := [(3, .int (nI (gS tab of held q))), (2, .int (nI q)), (5, .int (nI 0)), (0, .ref (G.ad ut)), (1, .int (oI (wnt of))), (4, .int (nI q))]) hE.1 hE.2.1 dX8_best_109 rfl hl (by decide) rfl (fun ls hl => ?_)
          have hby := bsI_y (tab := tab) (of := of) (held := held) (t := q) (Or.inl c80)
          have hl : lv_has ls 6 [(3, .int (nI ((bsI tab of held (q + 1)).2.1))), (2, .int (oI (bsI tab of held (q + 1)).1)), (5, .int (nI 0)), (0, .ref (G.ad ut)), (1, .int (oI (wnt of))), (4, .int (nI q))] := by rw [hby]; exact hl
          refine lv_iinc (v := nI (q + 1)) (lv' := [(4, .int (nI (q + 1))), (3, .int (nI ((bsI tab of held (q + 1)).2.1))), (2, .int (oI (bsI tab of held (q + 1)).1)), (5, .int (nI 0)), (0, .ref (G.ad ut)), (1, .int (oI (wnt of)))]) hE.1 hE.2.1 dX8_best_110 hl (k := 5) rfl (nI_1 _) (by decide) rfl (fun ls hl => ?_)
          refine lv_goto (tgt := 7) hE.1 hE.2.1 dX8_best_113 (by decide) ?_
          exact ih7 (iv3, q + 1) _ _ _ (show tT tab - (q + 1) < tT tab - q by omega) ⟨by show q + 1 ≤ tT tab; omega, hgn3, hFr3⟩ (lv_sub hl [4, 5, 2, 1, 0] rfl) hH
        · refine lv_aload_n hE.1 hE.2.1 dX8_best_83 rfl (lv_at hl 1 rfl) ?_
          refine rg_getr hE hH cf_X8 fl_X8_41 rfl (mu) (ku) (v := ut + 13) (s7) dX8_best_84 ?_
          refine lv_iload hE.1 hE.2.1 dX8_best_87 (lv_at hl 5 rfl) ?_
          refine rg_iald hE hH (hB13.1) (hB13.2.1) (by omega) (v := nI (gS tab of held q)) (hgn3 q (by omega)) dX8_best_89 ?_
          refine lv_iload_n hE.1 hE.2.1 dX8_best_90 rfl (lv_at hl 4 rfl) ?_
          refine rn_icmp_ne (tgt := 110) hE dX8_best_91 (by decide) (by omega) (by omega) (fun c91 => ?_) (fun c91 => ?_)
          · have hby := bsI_x (tab := tab) (of := of) (held := held) (t := q) (fun h => h.elim (fun h => by omega) (fun h => c91 h.1))
            have hl : lv_has ls 6 [(5, .int (nI 0)), (0, .ref (G.ad ut)), (1, .int (oI (wnt of))), (2, .int (oI (bsI tab of held (q + 1)).1)), (3, .int (nI ((bsI tab of held (q + 1)).2.1))), (4, .int (nI q))] := by rw [hby]; exact hl
            refine lv_iinc (v := nI (q + 1)) (lv' := [(4, .int (nI (q + 1))), (5, .int (nI 0)), (0, .ref (G.ad ut)), (1, .int (oI (wnt of))), (2, .int (oI (bsI tab of held (q + 1)).1)), (3, .int (nI ((bsI tab of held (q + 1)).2.1)))]) hE.1 hE.2.1 dX8_best_110 hl (k := 5) rfl (nI_1 _) (by decide) rfl (fun ls hl => ?_)
            refine lv_goto (tgt := 7) hE.1 hE.2.1 dX8_best_113 (by decide) ?_
            exact ih7 (iv3, q + 1) _ _ _ (show tT tab - (q + 1) < tT tab - q by omega) ⟨by show q + 1 ≤ tT tab; omega, hgn3, hFr3⟩ (lv_sub hl [2, 3, 4, 5, 0] rfl) hH
          · refine lv_iload hE.1 hE.2.1 dX8_best_94 (lv_at hl 0 rfl) ?_
            refine rn_if_eq (tgt := 110) hE dX8_best_96 (by decide) (by omega) (fun c96 => ?_) (fun c96 => ?_)
            · have hby := bsI_x (tab := tab) (of := of) (held := held) (t := q) (fun h => h.elim (fun h => by omega) (fun ⟨_, b, hb, hlt⟩ => by rw [c46] at hb; cases hb))
              have hl : lv_has ls 6 [(5, .int (nI 0)), (0, .ref (G.ad ut)), (1, .int (oI (wnt of))), (2, .int (oI (bsI tab of held (q + 1)).1)), (3, .int (nI ((bsI tab of held (q + 1)).2.1))), (4, .int (nI q))] := by rw [hby]; exact hl
              refine lv_iinc (v := nI (q + 1)) (lv' := [(4, .int (nI (q + 1))), (5, .int (nI 0)), (0, .ref (G.ad ut)), (1, .int (oI (wnt of))), (2, .int (oI (bsI tab of held (q + 1)).1)), (3, .int (nI ((bsI tab of held (q + 1)).2.1)))]) hE.1 hE.2.1 dX8_best_110 hl (k := 5) rfl (nI_1 _) (by decide) rfl (fun ls hl => ?_)
              refine lv_goto (tgt := 7) hE.1 hE.2.1 dX8_best_113 (by decide) ?_
              exact ih7 (iv3, q + 1) _ _ _ (show tT tab - (q + 1) < tT tab - q by omega) ⟨by show q + 1 ≤ tT tab; omega, hgn3, hFr3⟩ (lv_sub hl [2, 3, 4, 5, 0] rfl) hH
            · omega
      · obtain ⟨w, hw⟩ := oI_som c46
        have hwq := (hbv.2 w hw).2.2
        have hbg := (hbv.2 w hw)
        have hwl : tld tab w ≤ tm tab := cntN_le _
        have hl : lv_has ls 6 [(0, .ref (G.ad ut)), (1, .int (oI (wnt of))), (2, .int (nI w)), (3, .int (nI ((bsI tab of held q).2.1))), (4, .int (nI q))] := by rw [hw] at hl; exact hl
        refine lv_aload_n hE.1 hE.2.1 dX8_best_49 rfl (lv_at hl 0 rfl) ?_
        refine rg_getr hE hH cf_X8 fl_X8_32 rfl (mu) (ku) (v := ut + 10) (s4) dX8_best_50 ?_
        refine lv_iload hE.1 hE.2.1 dX8_best_53 (lv_at hl 4 rfl) ?_
        refine rg_iald hE hH (hB10.1) (hB10.2.1) (by omega) (v := nI (tld tab q)) ((hV3.2.2.2 q c13).1) dX8_best_55 ?_
        refine lv_aload_n hE.1 hE.2.1 dX8_best_56 rfl (lv_at hl 0 rfl) ?_
        refine rg_getr hE hH cf_X8 fl_X8_32 rfl (mu) (ku) (v := ut + 10) (s4) dX8_best_57 ?_
        refine lv_iload_n hE.1 hE.2.1 dX8_best_60 rfl (lv_at hl 2 rfl) ?_
        refine rg_iald hE hH (hB10.1) (hB10.2.1) (by omega) (v := nI (tld tab w)) ((hV3.2.2.2 w (by omega)).1) dX8_best_61 ?_
        refine rb_icmp_ge (t1 := 69) (t2 := 70) hE dX8_best_62 (by decide) dX8_best_65 dX8_best_66 (by decide) dX8_best_69 rfl (by omega) (by omega) ?_
        refine lv_istore (lv' := [(5, .int (bI (decide (tld tab q < tld tab w)))), (0, .ref (G.ad ut)), (1, .int (oI (wnt of))), (2, .int (nI w)), (3, .int (nI ((bsI tab of held q).2.1))), (4, .int (nI q))]) hE.1 hE.2.1 dX8_best_70 hl (by decide) rfl (fun ls hl => ?_)
        refine lv_aload_n hE.1 hE.2.1 dX8_best_72 rfl (lv_at hl 1 rfl) ?_
        refine rg_getr hE hH cf_X8 fl_X8_41 rfl (mu) (ku) (v := ut + 13) (s7) dX8_best_73 ?_
        refine lv_iload hE.1 hE.2.1 dX8_best_76 (lv_at hl 5 rfl) ?_
        refine rg_iald hE hH (hB13.1) (hB13.2.1) (by omega) (v := nI (gS tab of held q)) (hgn3 q (by omega)) dX8_best_78 ?_
        refine lv_iload_n hE.1 hE.2.1 dX8_best_79 rfl (lv_at hl 4 rfl) ?_
        refine rn_icmp_gt (tgt := 99) hE dX8_best_80 (by decide) (by omega) (by omega) (fun c80 => ?_) (fun c80 => ?_)
        · refine lv_iload hE.1 hE.2.1 dX8_best_99 (lv_at hl 5 rfl) ?_
          refine lv_istore_n (lv' := [(2, .int (nI q)), (5, .int (bI (decide (tld tab q < tld tab w)))), (0, .ref (G.ad ut)), (1, .int (oI (wnt of))), (3, .int (nI ((bsI tab of held q).2.1))), (4, .int (nI q))]) hE.1 hE.2.1 dX8_best_101 rfl hl (by decide) rfl (fun ls hl => ?_)
          refine lv_aload_n hE.1 hE.2.1 dX8_best_102 rfl (lv_at hl 2 rfl) ?_
          refine rg_getr hE hH cf_X8 fl_X8_41 rfl (mu) (ku) (v := ut + 13) (s7) dX8_best_103 ?_
          refine lv_iload hE.1 hE.2.1 dX8_best_106 (lv_at hl 5 rfl) ?_
          refine rg_iald hE hH (hB13.1) (hB13.2.1) (by omega) (v := nI (gS tab of held q)) (hgn3 q (by omega)) dX8_best_108 ?_
          refine lv_istore_n (lv' := [(3, .int (nI (gS tab of held q))), (2, .int (nI q)), (5, .int (bI (decide (tld tab q < tld tab w)))), (0, .ref (G.ad ut)), (1, .int (oI (wnt of))), (4, .int (nI q))]) hE.1 hE.2.1 dX8_best_109 rfl hl (by decide) rfl (fun ls hl => ?_)
          have hby := bsI_y (tab := tab) (of := of) (held := held) (t := q) (Or.inl c80)
          have hl : lv_has ls 6 [(3, .int (nI ((bsI tab of held (q + 1)).2.1))), (2, .int (oI (bsI tab of held (q + 1)).1)), (5, .int (bI (decide (tld tab q < tld tab w)))), (0, .ref (G.ad ut)), (1, .int (oI (wnt of))), (4, .int (nI q))] := by rw [hby]; exact hl
          refine lv_iinc (v := nI (q + 1)) (lv' := [(4, .int (nI (q + 1))), (3, .int (nI ((bsI tab of held (q + 1)).2.1))), (2, .int (oI (bsI tab of held (q + 1)).1)), (5, .int (bI (decide (tld tab q < tld tab w)))), (0, .ref (G.ad ut)), (1, .int (oI (wnt of)))]) hE.1 hE.2.1 dX8_best_110 hl (k := 5) rfl (nI_1 _) (by decide) rfl (fun ls hl => ?_)
          refine lv_goto (tgt := 7) hE.1 hE.2.1 dX8_best_113 (by decide) ?_
          exact ih7 (iv3, q + 1) _ _ _ (show tT tab - (q + 1) < tT tab - q by omega) ⟨by show q + 1 ≤ tT tab; omega, hgn3, hFr3⟩ (lv_sub hl [4, 5, 2, 1, 0] rfl) hH
        · refine lv_aload_n hE.1 hE.2.1 dX8_best_83 rfl (lv_at hl 1 rfl) ?_
          refine rg_getr hE hH cf_X8 fl_X8_41 rfl (mu) (ku) (v := ut + 13) (s7) dX8_best_84 ?_
          refine lv_iload hE.1 hE.2.1 dX8_best_87 (lv_at hl 5 rfl) ?_
          refine rg_iald hE hH (hB13.1) (hB13.2.1) (by omega) (v := nI (gS tab of held q)) (hgn3 q (by omega)) dX8_best_89 ?_
          refine lv_iload_n hE.1 hE.2.1 dX8_best_90 rfl (lv_at hl 4 rfl) ?_
          refine rn_icmp_ne (tgt := 110) hE dX8_best_91 (by decide) (by omega) (by omega) (fun c91 => ?_) (fun c91 => ?_)
          · have hby := bsI_x (tab := tab) (of := of) (held := held) (t := q) (fun h => h.elim (fun h => by omega) (fun h => c91 h.1))
            have hl : lv_has ls 6 [(5, .int (bI (decide (tld tab q < tld tab w)))), (0, .ref (G.ad ut)), (1, .int (oI (wnt of))), (2, .int (oI (bsI tab of held (q + 1)).1)), (3, .int (nI ((bsI tab of held (q + 1)).2.1))), (4, .int (nI q))] := by rw [hby, hw]; exact hl
            refine lv_iinc (v := nI (q + 1)) (lv' := [(4, .int (nI (q + 1))), (5, .int (bI (decide (tld tab q < tld tab w)))), (0, .ref (G.ad ut)), (1, .int (oI (wnt of))), (2, .int (oI (bsI tab of held (q + 1)).1)), (3, .int (nI ((bsI tab of held (q + 1)).2.1)))]) hE.1 hE.2.1 dX8_best_110 hl (k := 5) rfl (nI_1 _) (by decide) rfl (fun ls hl => ?_)
            refine lv_goto (tgt := 7) hE.1 hE.2.1 dX8_best_113 (by decide) ?_
            exact ih7 (iv3, q + 1) _ _ _ (show tT tab - (q + 1) < tT tab - q by omega) ⟨by show q + 1 ≤ tT tab; omega, hgn3, hFr3⟩ (lv_sub hl [2, 3, 4, 5, 0] rfl) hH
          · refine lv_iload hE.1 hE.2.1 dX8_best_94 (lv_at hl 0 rfl) ?_
            refine rn_ifb_eq (tgt := 110) hE dX8_best_96 (by decide) (fun c96 => ?_) (fun c96 => ?_)
            · have hby := bsI_x (tab := tab) (of := of) (held := held) (t := q) (fun h => h.elim (fun h => by omega) (fun ⟨_, b, hb, hlt⟩ => by rw [hw] at hb; cases hb; exact absurd hlt (of_decide_eq_false c96)))
              have hl : lv_has ls 6 [(5, .int (bI (decide (tld tab q < tld tab w)))), (0, .ref (G.ad ut)), (1, .int (oI (wnt of))), (2, .int (oI (bsI tab of held (q + 1)).1)), (3, .int (nI ((bsI tab of held (q + 1)).2.1))), (4, .int (nI q))] := by rw [hby, hw]; exact hl
              refine lv_iinc (v := nI (q + 1)) (lv' := [(4, .int (nI (q + 1))), (5, .int (bI (decide (tld tab q < tld tab w)))), (0, .ref (G.ad ut)), (1, .int (oI (wnt of))), (2, .int (oI (bsI tab of held (q + 1)).1)), (3, .int (nI ((bsI tab of held (q + 1)).2.1)))]) hE.1 hE.2.1 dX8_best_110 hl (k := 5) rfl (nI_1 _) (by decide) rfl (fun ls hl => ?_)
              refine lv_goto (tgt := 7) hE.1 hE.2.1 dX8_best_113 (by decide) ?_
              exact ih7 (iv3, q + 1) _ _ _ (show tT tab - (q + 1) < tT tab - q by omega) ⟨by show q + 1 ≤ tT tab; omega, hgn3, hFr3⟩ (lv_sub hl [2, 3, 4, 5, 0] rfl) hH
            · refine lv_iload hE.1 hE.2.1 dX8_best_99 (lv_at hl 5 rfl) ?_
              refine lv_istore_n (lv' := [(2, .int (nI q)), (5, .int (bI (decide (tld tab q < tld tab w)))), (0, .ref (G.ad ut)), (1, .int (oI (wnt of))), (3, .int (nI ((bsI tab of held q).2.1))), (4, .int (nI q))]) hE.1 hE.2.1 dX8_best_101 rfl hl (by decide) rfl (fun ls hl => ?_)
              refine lv_aload_n hE.1 hE.2.1 dX8_best_102 rfl (lv_at hl 2 rfl) ?_
              refine rg_getr hE hH cf_X8 fl_X8_41 rfl (mu) (ku) (v := ut + 13) (s7) dX8_best_103 ?_
              refine lv_iload hE.1 hE.2.1 dX8_best_106 (lv_at hl 5 rfl) ?_
              refine rg_iald hE hH (hB13.1) (hB13.2.1) (by omega) (v := nI (gS tab of held q)) (hgn3 q (by omega)) dX8_best_108 ?_
              refine lv_istore_n (lv' := [(3, .int (nI (gS tab of held q))), (2, .int (nI q)), (5, .int (bI (decide (tld tab q < tld tab w)))), (0, .ref (G.ad ut)), (1, .int (oI (wnt of))), (4, .int (nI q))]) hE.1 hE.2.1 dX8_best_109 rfl hl (by decide) rfl (fun ls hl => ?_)
              have hby := bsI_y (tab := tab) (of := of) (held := held) (t := q) (Or.inr ⟨c91, w, hw, of_decide_eq_true c96⟩)
              have hl : lv_has ls 6 [(3, .int (nI ((bsI tab of held (q + 1)).2.1))), (2, .int (oI (bsI tab of held (q + 1)).1)), (5, .int (bI (decide (tld tab q < tld tab w)))), (0, .ref (G.ad ut)), (1, .int (oI (wnt of))), (4, .int (nI q))] := by rw [hby]; exact hl
              refine lv_iinc (v := nI (q + 1)) (lv' := [(4, .int (nI (q + 1))), (3, .int (nI ((bsI tab of held (q + 1)).2.1))), (2, .int (oI (bsI tab of held (q + 1)).1)), (5, .int (bI (decide (tld tab q < tld tab w)))), (0, .ref (G.ad ut)), (1, .int (oI (wnt of)))]) hE.1 hE.2.1 dX8_best_110 hl (k := 5) rfl (nI_1 _) (by decide) rfl (fun ls hl => ?_)
              refine lv_goto (tgt := 7) hE.1 hE.2.1 dX8_best_113 (by decide) ?_
              exact ih7 (iv3, q + 1) _ _ _ (show tT tab - (q + 1) < tT tab - q by omega) ⟨by show q + 1 ≤ tT tab; omega, hgn3, hFr3⟩ (lv_sub hl [4, 5, 2, 1, 0] rfl) hH
