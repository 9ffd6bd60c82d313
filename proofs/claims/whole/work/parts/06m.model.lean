set_option maxRecDepth 100000 in
set_option maxHeartbeats 4000000 in
theorem c_Ou_term (l : Launch) (z : ZK) (G : GW) (iv : IV) (jv : JV) (t b : Nat) (tab : Tab) (hk : tabOK tab) (hTb : isTb G t b (tm tab) (tC tab) (tR tab) (tT tab)) (ht : 3000 ≤ t) (hb : 1000 ≤ b) (hbt : b + 40 ≤ t) (hLy : LAY iv jv b tab) (hW : tabW tab) (hV : TmV iv (t + 20) tab) (q v : Nat) (hq : q < tT tab) (hv : v < tO tab) (hv12 : iv (t + 20 + 12) q = nI v) (hOu : isOu G) (o : List Nat) (hO : cOu iv o) (hl1 : o.length + 200 < 1000000) : cV l z yX3_putTerm cX3_putTerm 6 none 5 107 0 0 [.ref (G.ad 109), .ref (G.ad t), .int (nI q)] G iv jv (fun G' iv' jv' => G = G' ∧ jv = jv' ∧ cOu iv' (o ++ tLn tab (q, v)) ∧ Fr iv iv' pOt) := by
  intro sz
  refine rg_entry rfl (Nat.le_of_ble_eq_true rfl) ?_
  intro pq eq sq mq bq methq cq ls hE hr hlk hml hnm hl hsz hH
  have hl : lv_has ls 6 [(0, .ref (G.ad 109)), (1, .ref (G.ad t)), (2, .int (nI q))] := hl
  have l110 : G.ln 110 = 2000 := hOu.2.1.2.2
  have ho1 := hO.2.1
  have hTb0 := hTb
  obtain ⟨⟨mt, kt⟩, hL, hCa, hA10, hA11, hA12, hA13, hA14, hA15, hA16, hA17, hTm, r0, r2, r3, r4, r5, r6, r8, r9, r11, r13, r14⟩ := hTb
  have l10 := hA10.2.2
  have l11 := hA11.2.2
  have l12 := hA12.2.2
  have l13 := hA13.2.2
  have l14 := hA14.2.2
  have l15 := hA15.2.2
  have l16 := hA16.2.2
  have l17 := hA17.2.2
  have hm5 := hk.2.1
  have hm1 := hk.1
  have hC4 := hk.2.2.2.1
  have hR40 := hk.2.2.2.2.2.2.1
  have hO6 := hk.2.2.2.2.2.1
  have hR0 := hLy.2.2.1
  have l32 : G.ln (b + 30 + 2) = 40 := hL.2.2.2.1.2.2.1.2.2
  have hTm0 := hTm
  obtain ⟨⟨mu, ku⟩, hB1, hB2, hB3, hBi, hB10, hB11, hB12, hB13, hB14, s0, s1, s3, s4, s5, s6, s7, s8⟩ := hTm
  have l1 := hB1.2.2
  have l2 := hB2.2.2
  have l3 := hB3.2.2
  have l10 := hB10.2.2
  have l11 := hB11.2.2
  have l12 := hB12.2.2
  have l13 := hB13.2.2
  have l14 := hB14.2.2
  have l5 : G.ln (b + 1) = 5 := hL.2.1.2.2
  obtain ⟨-, -, -, -, -, e11, e12, e13, e14, e15, e16⟩ := sW_cls
  have hw8 := (tabW_o hW hv).1
  have hFr : Fr iv iv pOt := Fr.rf
  have hll : o.length ≤ o.length := Nat.le_refl _
  refine lv_aload_n hE.1 hE.2.1 dX3_putTerm_0 rfl (lv_at hl 0 rfl) ?_
  refine lv_aload_n hE.1 hE.2.1 dX3_putTerm_1 rfl (lv_at hl 1 rfl) ?_
  refine rg_getr hE hH cf_X7 fl_X3_25 rfl (mt) (kt) (v := b) (r0) dX3_putTerm_2 ?_
  refine rg_getr hE hH cf_X1 fl_X3_31 rfl (hL.1.1) (hL.1.2) (v := b + 20) (hL.2.2.2.2.2.2.1) dX3_putTerm_5 ?_
  refine lv_aload_n hE.1 hE.2.1 dX3_putTerm_8 rfl (lv_at hl 1 rfl) ?_
  refine rg_getr hE hH cf_X7 fl_X3_37 rfl (mt) (kt) (v := t + 20) (r13) dX3_putTerm_9 ?_
  refine rg_getr hE hH cf_X8 fl_X3_41 rfl (mu) (ku) (v := t + 20 + 12) (s6) dX3_putTerm_12 ?_
  refine lv_iload_n hE.1 hE.2.1 dX3_putTerm_15 rfl (lv_at hl 2 rfl) ?_
  refine rg_iald hE hH (hB12.1) (hB12.2.1) (by omega) (v := nI v) (hv12) dX3_putTerm_16 ?_
  refine rg_VJ (As := [.int (nI v)]) (rest := [.ref (G.ad 109)]) hE hml hH mc_X3_47 (c_Co_w l z G iv jv (b + 20) (hL.2.2.1 5 (by decide)) tab.2.1 hLy.2.1 v hv) ((hL.2.2.1 5 (by decide)).1.1) ((hL.2.2.1 5 (by decide)).1.2) (by decide) rfl ⟨Nat.le_of_ble_eq_true rfl, Nat.le_of_ble_eq_true rfl⟩ rfl hl.1 (by simp [Value.category]) dX3_putTerm_17 ⟨Nat.le_of_ble_eq_true rfl, Nat.le_of_ble_eq_true rfl⟩ (fun r17 G17 iv17 jv17 H locs hp17 hH => ?_)
  obtain ⟨rfl, rfl, rfl, rfl⟩ := hp17
  refine rg_VV (As := [.long (enc (tab.2.1.getD v []))]) (rest := []) hE hml hH mc_X3_53 (c_Ou_word l z G iv jv hOu (o) hO _ (tabW_o hW hv) (by first | omega | (simp only [List.length_append] at hll ⊢; omega))) (hOu.1.1) (hOu.1.2) (by decide) rfl ⟨Nat.le_of_ble_eq_true rfl, Nat.le_of_ble_eq_true rfl⟩ rfl hl.1 (by simp [Value.category]) dX3_putTerm_20 ⟨Nat.le_of_ble_eq_true rfl, Nat.le_of_ble_eq_true rfl⟩ (fun G20 iv20 jv20 H locs hp20 hH => ?_)
  obtain ⟨rfl, rfl, hO, hF20⟩ := hp20
  have hFr := hFr.tr hF20
  refine lv_aload_n hE.1 hE.2.1 dX3_putTerm_23 rfl (lv_at hl 0 rfl) ?_
  refine rs_ldc (i := 11) hE (by decide) rfl rfl dX3_putTerm_24 ?_
  refine rg_VV (As := [.ref (z.1 11)]) (rest := []) hE hml hH mc_X3_59 (c_Ou_text l z G iv20 jv hOu (o ++ tab.2.1.getD v []) hO 11 (by decide) (by first | omega | (simp only [List.length_append] at hll ⊢; omega))) (hOu.1.1) (hOu.1.2) (by decide) rfl ⟨Nat.le_of_ble_eq_true rfl, Nat.le_of_ble_eq_true rfl⟩ rfl hl.1 (by simp [Value.category]) dX3_putTerm_26 ⟨Nat.le_of_ble_eq_true rfl, Nat.le_of_ble_eq_true rfl⟩ (fun G26 iv26 jv26 H locs hp26 hH => ?_)
  obtain ⟨rfl, rfl, hO, hF26⟩ := hp26
  have hFr := hFr.tr hF26
  rw [← cAc_0 (tab := tab) (q := q)] at hO
  refine lv_iconst (v := nI 0) hE.1 hE.2.1 dX3_putTerm_29 (by decide) ?_
  refine lv_istore_n (lv' := [(3, .int (nI 0)), (0, .ref (G.ad 109)), (1, .ref (G.ad t)), (2, .int (nI q))]) hE.1 hE.2.1 dX3_putTerm_30 rfl hl (by decide) rfl (fun ls hl => ?_)
  have hl : lv_has ls 6 [(3, .int (bI (decide (¬ tcI tab q 0 = [])))), (0, .ref (G.ad 109)), (1, .ref (G.ad t)), (2, .int (nI q))] := by rw [show bI (decide (¬ tcI tab q 0 = [])) = nI 0 from rfl]; exact hl
  refine lv_iconst (v := nI 0) hE.1 hE.2.1 dX3_putTerm_31 (by decide) ?_
  refine lv_istore (lv' := [(4, .int (nI 0)), (3, .int (bI (decide (¬ tcI tab q 0 = [])))), (0, .ref (G.ad 109)), (1, .ref (G.ad t)), (2, .int (nI q))]) hE.1 hE.2.1 dX3_putTerm_32 hl (by decide) rfl (fun ls hl => ?_)
  refine rg_loop (σ := IV × Nat) (nL := 6) (fun (u : IV × Nat) => match u with | (iv2, i) => tm tab - i) (fun (u : IV × Nat) => match u with | (iv2, i) => [(0, .ref (G.ad 109)), (1, .ref (G.ad t)), (2, .int (nI q)), (3, .int (bI (decide (¬ tcI tab q i = [])))), (4, .int (nI i))]) (fun (u : IV × Nat) => match u with | (iv2, i) => G) (fun (u : IV × Nat) => match u with | (iv2, i) => iv2) (fun (u : IV × Nat) => match u with | (iv2, i) => jv) (fun (u : IV × Nat) => match u with | (iv2, i) => i ≤ tm tab ∧ cOu iv2 (o ++ tab.2.1.getD v [] ++ cAc tab q i) ∧ Fr iv iv2 pOt) ?_ ((iv26, 0)) ⟨Nat.zero_le _, hO, hFr⟩ (lv_sub hl [2, 3, 4, 1, 0] rfl) hH
  rintro ⟨iv2, i⟩ H locs ls ⟨him, hO, hFr⟩ hl hH ih34
  try dsimp only at hl hH ih34
  try dsimp only at him hO hFr
  have hLy2 := hLy.fr hFr (fun lb j _ _ => by simp only [pOt]; omega)
  have hV2 := hV.fr hFr (by simp only [pOt]; omega) (fun lb j _ _ => by simp only [pOt]; omega) hm5
  have hal := cAc_len hW hk (q := q) him
  have hll : (o ++ tab.2.1.getD v [] ++ cAc tab q i).length ≤ o.length + 8 + 3 + 25 * i := by simp only [List.length_append]; omega
  refine lv_iload hE.1 hE.2.1 dX3_putTerm_34 (lv_at hl 4 rfl) ?_
  refine lv_aload_n hE.1 hE.2.1 dX3_putTerm_36 rfl (lv_at hl 1 rfl) ?_
  refine rg_getr hE hH cf_X7 fl_X3_25 rfl (mt) (kt) (v := b) (r0) dX3_putTerm_37 ?_
  refine rg_geti hE hH cf_X1 fl_X3_63 rfl (hL.1.1) (hL.1.2) (v := nI (tm tab)) (hLy2.1.1) dX3_putTerm_40 ?_
  refine rn_icmp_ge (tgt := 129) hE dX3_putTerm_43 (by decide) (by omega) (by omega) (fun c43 => ?_) (fun c43 => ?_)
  · have hie : i = tm tab := by omega
    subst hie
    refine lv_aload_n hE.1 hE.2.1 dX3_putTerm_129 rfl (lv_at hl 0 rfl) ?_
    refine lv_iload_n hE.1 hE.2.1 dX3_putTerm_130 rfl (lv_at hl 3 rfl) ?_
    refine rn_ifb_eq (tgt := 139) hE dX3_putTerm_131 (by decide) (fun c131 => ?_) (fun c131 => ?_)
    · have hte : tcI tab q (tm tab) = [] := Classical.byContradiction (fun h => of_decide_eq_false c131 h)
      refine rs_ldc (i := 16) hE (by decide) rfl rfl dX3_putTerm_139 ?_
      refine rg_VV (As := [.ref (z.1 16)]) (rest := []) hE hml hH mc_X3_59 (c_Ou_text l z G iv2 jv hOu (o ++ tab.2.1.getD v [] ++ cAc tab q (tm tab)) hO 16 (by decide) (by first | omega | (simp only [List.length_append] at hll ⊢; omega))) (hOu.1.1) (hOu.1.2) (by decide) rfl ⟨Nat.le_of_ble_eq_true rfl, Nat.le_of_ble_eq_true rfl⟩ rfl hl.1 (by simp [Value.category]) dX3_putTerm_141 ⟨Nat.le_of_ble_eq_true rfl, Nat.le_of_ble_eq_true rfl⟩ (fun G141 iv141 jv141 H locs hp141 hH => ?_)
      obtain ⟨rfl, rfl, hO, hF141⟩ := hp141
      have hFr := hFr.tr hF141
      exact rg_vret hE hr hlk hH ⟨rfl, rfl, by rw [← cAc_e, if_pos hte]; simp only [← List.append_assoc] at hO ⊢; exact hO, hFr⟩ dX3_putTerm_144
    · have hte := of_decide_eq_true c131
      refine rs_ldc (i := 15) hE (by decide) rfl rfl dX3_putTerm_134 ?_
      refine lv_goto (tgt := 141) hE.1 hE.2.1 dX3_putTerm_136 (by decide) ?_
      refine rg_VV (As := [.ref (z.1 15)]) (rest := []) hE hml hH mc_X3_59 (c_Ou_text l z G iv2 jv hOu (o ++ tab.2.1.getD v [] ++ cAc tab q (tm tab)) hO 15 (by decide) (by first | omega | (simp only [List.length_append] at hll ⊢; omega))) (hOu.1.1) (hOu.1.2) (by decide) rfl ⟨Nat.le_of_ble_eq_true rfl, Nat.le_of_ble_eq_true rfl⟩ rfl hl.1 (by simp [Value.category]) dX3_putTerm_141 ⟨Nat.le_of_ble_eq_true rfl, Nat.le_of_ble_eq_true rfl⟩ (fun G141 iv141 jv141 H locs hp141 hH => ?_)
      obtain ⟨rfl, rfl, hO, hF141⟩ := hp141
      have hFr := hFr.tr hF141
      exact rg_vret hE hr hlk hH ⟨rfl, rfl, by rw [← cAc_e, if_neg hte]; simp only [← List.append_assoc] at hO ⊢; exact hO, hFr⟩ dX3_putTerm_144
  · have hnm := (tabW_nm hW (i := i) (by omega)).1
    refine lv_aload_n hE.1 hE.2.1 dX3_putTerm_46 rfl (lv_at hl 1 rfl) ?_
    refine rg_getr hE hH cf_X7 fl_X3_37 rfl (mt) (kt) (v := t + 20) (r13) dX3_putTerm_47 ?_
    refine lv_iload_n hE.1 hE.2.1 dX3_putTerm_50 rfl (lv_at hl 2 rfl) ?_
    refine lv_iload hE.1 hE.2.1 dX3_putTerm_51 (lv_at hl 4 rfl) ?_
    refine rg_VI (As := [.int (nI q), .int (nI i)]) (rest := []) hE hml hH mc_X3_66 (c_Tm_told l z G iv2 jv (t + 20) tab hk hTm0 hV2 q hq i (by omega)) (mu) (ku) (by decide) rfl ⟨Nat.le_of_ble_eq_true rfl, Nat.le_of_ble_eq_true rfl⟩ rfl hl.1 (by simp [Value.category]) dX3_putTerm_53 ⟨Nat.le_of_ble_eq_true rfl, Nat.le_of_ble_eq_true rfl⟩ (fun r53 G53 iv53 jv53 H locs hp53 hH => ?_)
    obtain ⟨rfl, rfl, rfl, rfl⟩ := hp53
    refine lv_istore (lv' := [(5, .int (oI (tAt tab q i))), (0, .ref (G.ad 109)), (1, .ref (G.ad t)), (2, .int (nI q)), (3, .int (bI (decide (¬ tcI tab q i = [])))), (4, .int (nI i))]) hE.1 hE.2.1 dX3_putTerm_56 hl (by decide) rfl (fun ls hl => ?_)
    refine lv_iload hE.1 hE.2.1 dX3_putTerm_58 (lv_at hl 0 rfl) ?_
    refine lv_iconst (v := -1) hE.1 hE.2.1 dX3_putTerm_60 (by decide) ?_
    refine lv_icmp_eq (tgt := 123) hE.1 hE.2.1 dX3_putTerm_61 (by decide) (fun c61 => ?_) (fun c61 => ?_)
    · rw [oI_m1 (tAt_s hk (by omega))] at c61
      have hx := c61
      have hl : lv_has ls 6 [(5, .int (oI (tAt tab q i))), (0, .ref (G.ad 109)), (1, .ref (G.ad t)), (2, .int (nI q)), (3, .int (bI (decide (¬ tcI tab q (i + 1) = [])))), (4, .int (nI i))] := by rw [tcI_n hx]; exact hl
      refine lv_iinc (v := nI (i + 1)) (lv' := [(4, .int (nI (i + 1))), (5, .int (oI (tAt tab q i))), (0, .ref (G.ad 109)), (1, .ref (G.ad t)), (2, .int (nI q)), (3, .int (bI (decide (¬ tcI tab q (i + 1) = []))))]) hE.1 hE.2.1 dX3_putTerm_123 hl (k := 5) rfl (nI_1 _) (by decide) rfl (fun ls hl => ?_)
      refine lv_goto (tgt := 34) hE.1 hE.2.1 dX3_putTerm_126 (by decide) ?_
      exact ih34 (iv2, i + 1) _ _ _ (show tm tab - (i + 1) < tm tab - i by omega) ⟨by show i + 1 ≤ tm tab; omega, by rw [cAc_n hx]; exact hO, hFr⟩ (lv_sub hl [2, 3, 4, 5, 0] rfl) hH
    · obtain ⟨x, hx⟩ := oI_som c61
      have hxl := tAt_lt hk (show i < tm tab by omega) hx
      have hvx := (tabW_v hW (i := i) (by omega) hxl).1
      have hl : lv_has ls 6 [(5, .int (nI x)), (0, .ref (G.ad 109)), (1, .ref (G.ad t)), (2, .int (nI q)), (3, .int (bI (decide (¬ tcI tab q i = [])))), (4, .int (nI i))] := by rw [hx] at hl; exact hl
      refine lv_aload_n hE.1 hE.2.1 dX3_putTerm_64 rfl (lv_at hl 1 rfl) ?_
      refine lv_iload_n hE.1 hE.2.1 dX3_putTerm_65 rfl (lv_at hl 4 rfl) ?_
      refine rn_ifb_eq (tgt := 74) hE dX3_putTerm_66 (by decide) (fun c66 => ?_) (fun c66 => ?_)
      · have hte : tcI tab q i = [] := Classical.byContradiction (fun h => of_decide_eq_false c66 h)
        refine rs_ldc (i := 13) hE (by decide) rfl rfl dX3_putTerm_74 ?_
        refine rg_VV (As := [.ref (z.1 13)]) (rest := []) hE hml hH mc_X3_59 (c_Ou_text l z G iv2 jv hOu (o ++ tab.2.1.getD v [] ++ cAc tab q i) hO 13 (by decide) (by first | omega | (simp only [List.length_append] at hll ⊢; omega))) (hOu.1.1) (hOu.1.2) (by decide) rfl ⟨Nat.le_of_ble_eq_true rfl, Nat.le_of_ble_eq_true rfl⟩ rfl hl.1 (by simp [Value.category]) dX3_putTerm_76 ⟨Nat.le_of_ble_eq_true rfl, Nat.le_of_ble_eq_true rfl⟩ (fun G76 iv76 jv76 H locs hp76 hH => ?_)
        obtain ⟨rfl, rfl, hO, hF76⟩ := hp76
        have hFr := hFr.tr hF76
        have hLy3 := hLy.fr hFr (fun lb j _ _ => by simp only [pOt]; omega)
        refine lv_aload_n hE.1 hE.2.1 dX3_putTerm_79 rfl (lv_at hl 1 rfl) ?_
        refine lv_aload_n hE.1 hE.2.1 dX3_putTerm_80 rfl (lv_at hl 2 rfl) ?_
        refine rg_getr hE hH cf_X7 fl_X3_25 rfl (mt) (kt) (v := b) (r0) dX3_putTerm_81 ?_
        refine rg_getr hE hH cf_X1 fl_X3_73 rfl (hL.1.1) (hL.1.2) (v := b + 1) (hL.2.2.2.2.1) dX3_putTerm_84 ?_
        refine lv_iload hE.1 hE.2.1 dX3_putTerm_87 (lv_at hl 5 rfl) ?_
        refine rg_aldr hE hH (hL.2.1.1) (hL.2.1.2.1) (by decide) (by decide) (by omega) (v := b + 10 + 2 * i) (hL.2.2.2.2.2.1 i (by omega)) dX3_putTerm_89 ?_
        refine rg_getj hE hH cf_X0 fl_X3_77 rfl ((hL.2.2.1 i (by omega)).1.1) ((hL.2.2.1 i (by omega)).1.2) (v := enc (tab.1.getD i dC0).1) ((hLy3.1.2.2.2 i (show i < tm tab by omega)).1) dX3_putTerm_90 ?_
        refine rg_VV (As := [.long (enc (tab.1.getD i dC0).1)]) (rest := []) hE hml hH mc_X3_53 (c_Ou_word l z G iv76 jv hOu (o ++ tab.2.1.getD v [] ++ cAc tab q i ++ sW 13) hO _ (tabW_nm hW (i := i) (by omega)) (by first | omega | (simp only [List.length_append] at hll ⊢; omega))) (hOu.1.1) (hOu.1.2) (by decide) rfl ⟨Nat.le_of_ble_eq_true rfl, Nat.le_of_ble_eq_true rfl⟩ rfl hl.1 (by simp [Value.category]) dX3_putTerm_93 ⟨Nat.le_of_ble_eq_true rfl, Nat.le_of_ble_eq_true rfl⟩ (fun G93 iv93 jv93 H locs hp93 hH => ?_)
        obtain ⟨rfl, rfl, hO, hF93⟩ := hp93
        have hFr := hFr.tr hF93
        refine lv_aload_n hE.1 hE.2.1 dX3_putTerm_96 rfl (lv_at hl 1 rfl) ?_
        refine rs_ldc (i := 14) hE (by decide) rfl rfl dX3_putTerm_97 ?_
        refine rg_VV (As := [.ref (z.1 14)]) (rest := []) hE hml hH mc_X3_59 (c_Ou_text l z G iv93 jv hOu (o ++ tab.2.1.getD v [] ++ cAc tab q i ++ sW 13 ++ (tab.1.getD i dC0).1) hO 14 (by decide) (by first | omega | (simp only [List.length_append] at hll ⊢; omega))) (hOu.1.1) (hOu.1.2) (by decide) rfl ⟨Nat.le_of_ble_eq_true rfl, Nat.le_of_ble_eq_true rfl⟩ rfl hl.1 (by simp [Value.category]) dX3_putTerm_99 ⟨Nat.le_of_ble_eq_true rfl, Nat.le_of_ble_eq_true rfl⟩ (fun G99 iv99 jv99 H locs hp99 hH => ?_)
        obtain ⟨rfl, rfl, hO, hF99⟩ := hp99
        have hFr := hFr.tr hF99
        have hLy4 := hLy.fr hFr (fun lb j _ _ => by simp only [pOt]; omega)
        refine lv_aload_n hE.1 hE.2.1 dX3_putTerm_102 rfl (lv_at hl 1 rfl) ?_
        refine lv_aload_n hE.1 hE.2.1 dX3_putTerm_103 rfl (lv_at hl 2 rfl) ?_
        refine rg_getr hE hH cf_X7 fl_X3_25 rfl (mt) (kt) (v := b) (r0) dX3_putTerm_104 ?_
        refine rg_getr hE hH cf_X1 fl_X3_73 rfl (hL.1.1) (hL.1.2) (v := b + 1) (hL.2.2.2.2.1) dX3_putTerm_107 ?_
        refine lv_iload hE.1 hE.2.1 dX3_putTerm_110 (lv_at hl 5 rfl) ?_
        refine rg_aldr hE hH (hL.2.1.1) (hL.2.1.2.1) (by decide) (by decide) (by omega) (v := b + 10 + 2 * i) (hL.2.2.2.2.2.1 i (by omega)) dX3_putTerm_112 ?_
        refine lv_iload hE.1 hE.2.1 dX3_putTerm_113 (lv_at hl 0 rfl) ?_
        refine rg_VJ (As := [.int (nI x)]) (rest := [.ref (G.ad 109)]) hE hml hH mc_X3_47 (c_Co_w l z G iv99 jv (b + 10 + 2 * i) (hL.2.2.1 i (by omega)) (tab.1.getD i dC0).2 (hLy4.1.2.2.2 i (show i < tm tab by omega)).2.2 x (by unfold tf at hxl; rw [szs_get] at hxl; exact hxl)) ((hL.2.2.1 i (by omega)).1.1) ((hL.2.2.1 i (by omega)).1.2) (by decide) rfl ⟨Nat.le_of_ble_eq_true rfl, Nat.le_of_ble_eq_true rfl⟩ rfl hl.1 (by simp [Value.category]) dX3_putTerm_115 ⟨Nat.le_of_ble_eq_true rfl, Nat.le_of_ble_eq_true rfl⟩ (fun r115 G115 iv115 jv115 H locs hp115 hH => ?_)
        obtain ⟨rfl, rfl, rfl, rfl⟩ := hp115
        refine rg_VV (As := [.long (enc ((tab.1.getD i dC0).2.getD x []))]) (rest := []) hE hml hH mc_X3_53 (c_Ou_word l z G iv99 jv hOu (o ++ tab.2.1.getD v [] ++ cAc tab q i ++ sW 13 ++ (tab.1.getD i dC0).1 ++ sW 14) hO _ (tabW_v hW (i := i) (by omega) hxl) (by first | omega | (simp only [List.length_append] at hll ⊢; omega))) (hOu.1.1) (hOu.1.2) (by decide) rfl ⟨Nat.le_of_ble_eq_true rfl, Nat.le_of_ble_eq_true rfl⟩ rfl hl.1 (by simp [Value.category]) dX3_putTerm_118 ⟨Nat.le_of_ble_eq_true rfl, Nat.le_of_ble_eq_true rfl⟩ (fun G118 iv118 jv118 H locs hp118 hH => ?_)
        obtain ⟨rfl, rfl, hO, hF118⟩ := hp118
        have hFr := hFr.tr hF118
        refine lv_iconst (v := nI 1) hE.1 hE.2.1 dX3_putTerm_121 (by decide) ?_
        refine lv_istore_n (lv' := [(3, .int (nI 1)), (5, .int (nI x)), (0, .ref (G.ad 109)), (1, .ref (G.ad t)), (2, .int (nI q)), (4, .int (nI i))]) hE.1 hE.2.1 dX3_putTerm_122 rfl hl (by decide) rfl (fun ls hl => ?_)
        have hl : lv_has ls 6 [(3, .int (bI (decide (¬ tcI tab q (i + 1) = [])))), (5, .int (nI x)), (0, .ref (G.ad 109)), (1, .ref (G.ad t)), (2, .int (nI q)), (4, .int (nI i))] := by rw [decide_eq_true (tcI_ne hx)]; exact hl
        refine lv_iinc (v := nI (i + 1)) (lv' := [(4, .int (nI (i + 1))), (3, .int (bI (decide (¬ tcI tab q (i + 1) = [])))), (5, .int (nI x)), (0, .ref (G.ad 109)), (1, .ref (G.ad t)), (2, .int (nI q))]) hE.1 hE.2.1 dX3_putTerm_123 hl (k := 5) rfl (nI_1 _) (by decide) rfl (fun ls hl => ?_)
        refine lv_goto (tgt := 34) hE.1 hE.2.1 dX3_putTerm_126 (by decide) ?_
        exact ih34 (iv118, i + 1) _ _ _ (show tm tab - (i + 1) < tm tab - i by omega) ⟨by show i + 1 ≤ tm tab; omega, by rw [cAc_s hx, if_pos hte]; simp only [← List.append_assoc] at hO ⊢; exact hO, hFr⟩ (lv_sub hl [3, 4, 5, 1, 0] rfl) hH
      · have hte := of_decide_eq_true c66
        refine rs_ldc (i := 12) hE (by decide) rfl rfl dX3_putTerm_69 ?_
        refine lv_goto (tgt := 76) hE.1 hE.2.1 dX3_putTerm_71 (by decide) ?_
        refine rg_VV (As := [.ref (z.1 12)]) (rest := []) hE hml hH mc_X3_59 (c_Ou_text l z G iv2 jv hOu (o ++ tab.2.1.getD v [] ++ cAc tab q i) hO 12 (by decide) (by first | omega | (simp only [List.length_append] at hll ⊢; omega))) (hOu.1.1) (hOu.1.2) (by decide) rfl ⟨Nat.le_of_ble_eq_true rfl, Nat.le_of_ble_eq_true rfl⟩ rfl hl.1 (by simp [Value.category]) dX3_putTerm_76 ⟨Nat.le_of_ble_eq_true rfl, Nat.le_of_ble_eq_true rfl⟩ (fun G76 iv76 jv76 H locs hp76 hH => ?_)
        obtain ⟨rfl, rfl, hO, hF76⟩ := hp76
        have hFr := hFr.tr hF76
        have hLy3 := hLy.fr hFr (fun lb j _ _ => by simp only [pOt]; omega)
        refine lv_aload_n hE.1 hE.2.1 dX3_putTerm_79 rfl (lv_at hl 1 rfl) ?_
        refine lv_aload_n hE.1 hE.2.1 dX3_putTerm_80 rfl (lv_at hl 2 rfl) ?_
        refine rg_getr hE hH cf_X7 fl_X3_25 rfl (mt) (kt) (v := b) (r0) dX3_putTerm_81 ?_
        refine rg_getr hE hH cf_X1 fl_X3_73 rfl (hL.1.1) (hL.1.2) (v := b + 1) (hL.2.2.2.2.1) dX3_putTerm_84 ?_
        refine lv_iload hE.1 hE.2.1 dX3_putTerm_87 (lv_at hl 5 rfl) ?_
        refine rg_aldr hE hH (hL.2.1.1) (hL.2.1.2.1) (by decide) (by decide) (by omega) (v := b + 10 + 2 * i) (hL.2.2.2.2.2.1 i (by omega)) dX3_putTerm_89 ?_
        refine rg_getj hE hH cf_X0 fl_X3_77 rfl ((hL.2.2.1 i (by omega)).1.1) ((hL.2.2.1 i (by omega)).1.2) (v := enc (tab.1.getD i dC0).1) ((hLy3.1.2.2.2 i (show i < tm tab by omega)).1) dX3_putTerm_90 ?_
        refine rg_VV (As := [.long (enc (tab.1.getD i dC0).1)]) (rest := []) hE hml hH mc_X3_53 (c_Ou_word l z G iv76 jv hOu (o ++ tab.2.1.getD v [] ++ cAc tab q i ++ sW 12) hO _ (tabW_nm hW (i := i) (by omega)) (by first | omega | (simp only [List.length_append] at hll ⊢; omega))) (hOu.1.1) (hOu.1.2) (by decide) rfl ⟨Nat.le_of_ble_eq_true rfl, Nat.le_of_ble_eq_true rfl⟩ rfl hl.1 (by simp [Value.category]) dX3_putTerm_93 ⟨Nat.le_of_ble_eq_true rfl, Nat.le_of_ble_eq_true rfl⟩ (fun G93 iv93 jv93 H locs hp93 hH => ?_)
        obtain ⟨rfl, rfl, hO, hF93⟩ := hp93
        have hFr := hFr.tr hF93
        refine lv_aload_n hE.1 hE.2.1 dX3_putTerm_96 rfl (lv_at hl 1 rfl) ?_
        refine rs_ldc (i := 14) hE (by decide) rfl rfl dX3_putTerm_97 ?_
        refine rg_VV (As := [.ref (z.1 14)]) (rest := []) hE hml hH mc_X3_59 (c_Ou_text l z G iv93 jv hOu (o ++ tab.2.1.getD v [] ++ cAc tab q i ++ sW 12 ++ (tab.1.getD i dC0).1) hO 14 (by decide) (by first | omega | (simp only [List.length_append] at hll ⊢; omega))) (hOu.1.1) (hOu.1.2) (by decide) rfl ⟨Nat.le_of_ble_eq_true rfl, Nat.le_of_ble_eq_true rfl⟩ rfl hl.1 (by simp [Value.category]) dX3_putTerm_99 ⟨Nat.le_of_ble_eq_true rfl, Nat.le_of_ble_eq_true rfl⟩ (fun G99 iv99 jv99 H locs hp99 hH => ?_)
        obtain ⟨rfl, rfl, hO, hF99⟩ := hp99
        have hFr := hFr.tr hF99
        have hLy4 := hLy.fr hFr (fun lb j _ _ => by simp only [pOt]; omega)
        refine lv_aload_n hE.1 hE.2.1 dX3_putTerm_102 rfl (lv_at hl 1 rfl) ?_
        refine lv_aload_n hE.1 hE.2.1 dX3_putTerm_103 rfl (lv_at hl 2 rfl) ?_
        refine rg_getr hE hH cf_X7 fl_X3_25 rfl (mt) (kt) (v := b) (r0) dX3_putTerm_104 ?_
        refine rg_getr hE hH cf_X1 fl_X3_73 rfl (hL.1.1) (hL.1.2) (v := b + 1) (hL.2.2.2.2.1) dX3_putTerm_107 ?_
        refine lv_iload hE.1 hE.2.1 dX3_putTerm_110 (lv_at hl 5 rfl) ?_
        refine rg_aldr hE hH (hL.2.1.1) (hL.2.1.2.1) (by decide) (by decide) (by omega) (v := b + 10 + 2 * i) (hL.2.2.2.2.2.1 i (by omega)) dX3_putTerm_112 ?_
        refine lv_iload hE.1 hE.2.1 dX3_putTerm_113 (lv_at hl 0 rfl) ?_
        refine rg_VJ (As := [.int (nI x)]) (rest := [.ref (G.ad 109)]) hE hml hH mc_X3_47 (c_Co_w l z G iv99 jv (b + 10 + 2 * i) (hL.2.2.1 i (by omega)) (tab.1.getD i dC0).2 (hLy4.1.2.2.2 i (show i < tm tab by omega)).2.2 x (by unfold tf at hxl; rw [szs_get] at hxl; exact hxl)) ((hL.2.2.1 i (by omega)).1.1) ((hL.2.2.1 i (by omega)).1.2) (by decide) rfl ⟨Nat.le_of_ble_eq_true rfl, Nat.le_of_ble_eq_true rfl⟩ rfl hl.1 (by simp [Value.category]) dX3_putTerm_115 ⟨Nat.le_of_ble_eq_true rfl, Nat.le_of_ble_eq_true rfl⟩ (fun r115 G115 iv115 jv115 H locs hp115 hH => ?_)
        obtain ⟨rfl, rfl, rfl, rfl⟩ := hp115
        refine rg_VV (As := [.long (enc ((tab.1.getD i dC0).2.getD x []))]) (rest := []) hE hml hH mc_X3_53 (c_Ou_word l z G iv99 jv hOu (o ++ tab.2.1.getD v [] ++ cAc tab q i ++ sW 12 ++ (tab.1.getD i dC0).1 ++ sW 14) hO _ (tabW_v hW (i := i) (by omega) hxl) (by first | omega | (simp only [List.length_append] at hll ⊢; omega))) (hOu.1.1) (hOu.1.2) (by decide) rfl ⟨Nat.le_of_ble_eq_true rfl, Nat.le_of_ble_eq_true rfl⟩ rfl hl.1 (by simp [Value.category]) dX3_putTerm_118 ⟨Nat.le_of_ble_eq_true rfl, Nat.le_of_ble_eq_true rfl⟩ (fun G118 iv118 jv118 H locs hp118 hH => ?_)
        obtain ⟨rfl, rfl, hO, hF118⟩ := hp118
        have hFr := hFr.tr hF118
        refine lv_iconst (v := nI 1) hE.1 hE.2.1 dX3_putTerm_121 (by decide) ?_
        refine lv_istore_n (lv' := [(3, .int (nI 1)), (5, .int (nI x)), (0, .ref (G.ad 109)), (1, .ref (G.ad t)), (2, .int (nI q)), (4, .int (nI i))]) hE.1 hE.2.1 dX3_putTerm_122 rfl hl (by decide) rfl (fun ls hl => ?_)
        have hl : lv_has ls 6 [(3, .int (bI (decide (¬ tcI tab q (i + 1) = [])))), (5, .int (nI x)), (0, .ref (G.ad 109)), (1, .ref (G.ad t)), (2, .int (nI q)), (4, .int (nI i))] := by rw [decide_eq_true (tcI_ne hx)]; exact hl
        refine lv_iinc (v := nI (i + 1)) (lv' := [(4, .int (nI (i + 1))), (3, .int (bI (decide (¬ tcI tab q (i + 1) = [])))), (5, .int (nI x)), (0, .ref (G.ad 109)), (1, .ref (G.ad t)), (2, .int (nI q))]) hE.1 hE.2.1 dX3_putTerm_123 hl (k := 5) rfl (nI_1 _) (by decide) rfl (fun ls hl => ?_)
        refine lv_goto (tgt := 34) hE.1 hE.2.1 dX3_putTerm_126 (by decide) ?_
        exact ih34 (iv118, i + 1) _ _ _ (show tm tab - (i + 1) < tm tab - i by omega) ⟨by show i + 1 ≤ tm tab; omega, by rw [cAc_s hx, if_neg hte]; simp only [← List.append_assoc] at hO ⊢; exact hO, hFr⟩ (lv_sub hl [3, 4, 5, 1, 0] rfl) hH
set_option maxRecDepth 100000 in
set_option maxHeartbeats 4000000 in
theorem c_stepOn (l : Launch) (z : ZK) (G : GW) (iv : IV) (jv : JV) (a2 l2 m : Nat) (hA : isA G a2 13 m) (hLm : isA G l2 13 m) (hne : a2 ≠ l2) (hm : 1 ≤ m) (hm5 : m ≤ 5) (f : Nat → Nat) (hf : ∀ i, i < m → 0 < f i ∧ f i ≤ 7) (c : Nat) (hv : ∀ i, i < m → iv a2 i = nI (vOf f m c i)) (hlm : ∀ i, i < m → iv l2 i = nI (f i)) : cV l z yX10_stepOn cX10_stepOn 3 none 0 0 0 0 [.ref (G.ad a2), .ref (G.ad l2)] G iv jv (fun G' iv' jv' => G = G' ∧ jv = jv' ∧ (∀ i, i < m → iv' a2 i = nI (vOf f m (c + 1) i)) ∧ Fr iv iv' (fun lb _ => lb = a2)) := by
  intro sz
  refine rg_entry rfl (Nat.le_of_ble_eq_true rfl) ?_
  intro pq eq sq mq bq methq cq ls hE hr hlk hml hnm hl hsz hH
  have hl : lv_has ls 3 [(0, .ref (G.ad a2)), (1, .ref (G.ad l2))] := hl
  refine lv_aload_n hE.1 hE.2.1 dX10_stepOn_0 rfl (lv_at hl 0 rfl) ?_
  refine rg_alen hE hH (hA.1) (hA.2.1) (by decide) (by decide) dX10_stepOn_1 ?_
  rw [hA.2.2]
  refine lv_iconst (v := nI 1) hE.1 hE.2.1 dX10_stepOn_2 (by decide) ?_
  refine rn_isub hE dX10_stepOn_3 (by omega) ?_
  refine rn_as (v' := dwn m) (dwn_m hm) ?_
  refine lv_istore_n (lv' := [(2, .int (dwn m)), (0, .ref (G.ad a2)), (1, .ref (G.ad l2))]) hE.1 hE.2.1 dX10_stepOn_4 rfl hl (by decide) rfl (fun ls hl => ?_)
  refine rg_loop (σ := IV × Nat) (nL := 3) (fun (u : IV × Nat) => match u with | (iv2, j) => j) (fun (u : IV × Nat) => match u with | (iv2, j) => [(0, .ref (G.ad a2)), (1, .ref (G.ad l2)), (2, .int (dwn j))]) (fun (u : IV × Nat) => match u with | (iv2, j) => G) (fun (u : IV × Nat) => match u with | (iv2, j) => iv2) (fun (u : IV × Nat) => match u with | (iv2, j) => jv) (fun (u : IV × Nat) => match u with | (iv2, j) => j ≤ m ∧ (∀ i, i < j → iv2 a2 i = nI (vOf f m c i)) ∧ (∀ i, j ≤ i → i < m → iv2 a2 i = nI (vOf f m (c + 1) i)) ∧ qt f j m (c + 1) = qt f j m c + 1 ∧ Fr iv iv2 (fun lb _ => lb = a2)) ?_ ((iv, m)) ⟨Nat.le_refl _, hv, fun i h1 h2 => absurd h2 (by omega), by rw [qt_m, qt_m], Fr.rf⟩ (lv_sub hl [1, 2, 0] rfl) hH
  rintro ⟨iv2, j⟩ H locs ls ⟨hjm, hlo, hhi, hq, hFr⟩ hl hH ih5
  try dsimp only at hl hH ih5
  try dsimp only at hjm hlo hhi hq hFr
  refine lv_iload_n hE.1 hE.2.1 dX10_stepOn_5 rfl (lv_at hl 2 rfl) ?_
  refine lv_if_lt (tgt := 42) hE.1 hE.2.1 dX10_stepOn_6 (by decide) (fun c6 => ?_) (fun c6 => ?_)
  · have hj0 : j = 0 := (dwn_neg (by omega)).mp c6
    subst hj0
    exact rg_vret hE hr hlk hH ⟨rfl, rfl, fun k hk => hhi k (Nat.zero_le _) hk, hFr⟩ dX10_stepOn_42
  · obtain ⟨i, rfl⟩ : ∃ i, j = i + 1 := ⟨j - 1, by have : j ≠ 0 := fun h => c6 ((dwn_neg (by omega)).mpr h); omega⟩
    have hfi := hf i (by omega)
    have hvl : vOf f m c i < f i := Nat.mod_lt _ hfi.1
    have hl : lv_has ls 3 [(0, .ref (G.ad a2)), (1, .ref (G.ad l2)), (2, .int (nI i))] := hl
    refine lv_aload_n hE.1 hE.2.1 dX10_stepOn_9 rfl (lv_at hl 0 rfl) ?_
    refine lv_iload_n hE.1 hE.2.1 dX10_stepOn_10 rfl (lv_at hl 2 rfl) ?_
    refine lv_dup2_11 hE.1 hE.2.1 dX10_stepOn_11 rfl rfl ?_
    refine rg_iald hE hH (hA.1) (hA.2.1) (by rw [hA.2.2]; omega) (v := nI (vOf f m c i)) (hlo i (by omega)) dX10_stepOn_12 ?_
    refine lv_iconst (v := nI 1) hE.1 hE.2.1 dX10_stepOn_13 (by decide) ?_
    refine rn_iadd hE dX10_stepOn_14 ?_
    refine rg_iast hE hH (hA.1) (hA.2.1) (by rw [hA.2.2]; omega) (v := nI (vOf f m c i + 1)) dX10_stepOn_15 (fun H locs hH => ?_)
    refine lv_iload_n hE.1 hE.2.1 dX10_stepOn_16 rfl (lv_at hl 2 rfl) ?_
    refine lv_aload_n hE.1 hE.2.1 dX10_stepOn_17 rfl (lv_at hl 1 rfl) ?_
    refine rg_alen hE hH (hLm.1) (hLm.2.1) (by decide) (by decide) dX10_stepOn_18 ?_
    rw [hLm.2.2]
    refine rn_icmp_ge (tgt := 32) hE dX10_stepOn_19 (by decide) (by omega) (by omega) (fun c19 => ?_) (fun c19 => ?_)
    · omega
    · refine lv_aload_n hE.1 hE.2.1 dX10_stepOn_22 rfl (lv_at hl 0 rfl) ?_
      refine lv_iload_n hE.1 hE.2.1 dX10_stepOn_23 rfl (lv_at hl 2 rfl) ?_
      refine rg_iald hE hH (hA.1) (hA.2.1) (by rw [hA.2.2]; omega) (v := nI (vOf f m c i + 1)) (up2_s) dX10_stepOn_24 ?_
      refine lv_aload_n hE.1 hE.2.1 dX10_stepOn_25 rfl (lv_at hl 1 rfl) ?_
      refine lv_iload_n hE.1 hE.2.1 dX10_stepOn_26 rfl (lv_at hl 2 rfl) ?_
      refine rg_iald hE hH (hLm.1) (hLm.2.1) (by rw [hLm.2.2]; omega) (v := nI (f i)) ((by rw [up2_l (fun h => hne h.symm)]; exact (hFr _ _ (fun h => hne h.symm)).trans (hlm i (by omega)))) dX10_stepOn_27 ?_
      refine rn_icmp_ge (tgt := 32) hE dX10_stepOn_28 (by decide) (by omega) (by omega) (fun c28 => ?_) (fun c28 => ?_)
      · have hsn := step_n (f := f) (m := m) (c := c) (by omega) hfi.1 hq (by omega)
        refine lv_aload_n hE.1 hE.2.1 dX10_stepOn_32 rfl (lv_at hl 0 rfl) ?_
        refine lv_iload_n hE.1 hE.2.1 dX10_stepOn_33 rfl (lv_at hl 2 rfl) ?_
        refine lv_iconst (v := nI 0) hE.1 hE.2.1 dX10_stepOn_34 (by decide) ?_
        refine rg_iast hE hH (hA.1) (hA.2.1) (by rw [hA.2.2]; omega) (v := nI 0) dX10_stepOn_35 (fun H locs hH => ?_)
        refine lv_iinc (v := dwn i) (lv' := [(2, .int (dwn i)), (0, .ref (G.ad a2)), (1, .ref (G.ad l2))]) hE.1 hE.2.1 dX10_stepOn_36 hl (k := 2) rfl (dwn_dec i) (by decide) rfl (fun ls hl => ?_)
        refine lv_goto (tgt := 5) hE.1 hE.2.1 dX10_stepOn_39 (by decide) ?_
        exact ih5 (up2 (up2 iv2 a2 i (nI (vOf f m c i + 1))) a2 i (nI 0), i) _ _ _ (show i < i + 1 by omega) ⟨by show i ≤ m; omega, fun k hk => by
          dsimp only at hk ⊢
          rw [up2_k (by omega), up2_k (by omega)]; exact hlo k (by omega), fun k h1 h2 => by
          dsimp only at h1 ⊢
          by_cases hki : k = i
          · subst hki; rw [up2_s, hsn.1]
          · rw [up2_k hki, up2_k hki]; exact hhi k (by omega) h2, hsn.2, Fr.up (Fr.up hFr rfl) rfl⟩ (lv_sub hl [1, 2, 0] rfl) hH
      · have hsy := step_y (f := f) (m := m) (c := c) (by omega) hfi.1 hq c28
        exact rg_vret hE hr hlk hH ⟨rfl, rfl, fun k hk => by
          by_cases hki : k = i
          · subst hki; rw [up2_s, hsy.1]
          · rw [up2_k hki]
            by_cases hlt : k < i
            · rw [hsy.2 k hlt]; exact hlo k (by omega)
            · exact hhi k (by omega) hk, Fr.up hFr rfl⟩ dX10_stepOn_31
