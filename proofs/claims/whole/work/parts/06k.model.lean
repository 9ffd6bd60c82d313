set_option maxRecDepth 100000 in
set_option maxHeartbeats 4000000 in
theorem c_Tb_take1 (l : Launch) (z : ZK) (G : GW) (iv : IV) (jv : JV) (t b : Nat) (tab : Tab) (hk : tabOK tab) (hTb : isTb G t b (tm tab) (tC tab) (tR tab) (tT tab)) (ht : 3000 ≤ t) (hb : 1000 ≤ b) (hbt : b + 40 ≤ t) (hV : TmV iv (t + 20) tab) (hCV : CVl iv t tab) (han : ∀ c, c < tC tab → iv (t + 10) c = oI (ans tab c)) (hon : ∀ p, p < tT tab → ∃ y, iv (t + 20 + 12) p = y ∧ onR y (AV tab p)) (of : Nat) (ho : of ≤ 6) (l1 : List Nat) (hTK : TK iv t l1) (hro : l1.length + uh tab of (fun _ => false) ≤ tC tab) : cV l z yX7_takeTermsOf cX7_takeTermsOf 3 none 3 74 0 0 [.ref (G.ad t), .int (oI (wnt of))] G iv jv (fun G' iv' jv' => G = G' ∧ jv = jv' ∧ TK iv' t (l1 ++ tka tab of 400 (fun _ => false)) ∧ Fr iv iv' (fun lb j => lb = t + 17 ∨ (lb = t ∧ j = 16) ∨ lb = t + 33 ∨ lb = t + 34 ∨ (lb = t + 20 ∧ j = 9))) := by
  intro sz
  refine rg_entry rfl (Nat.le_of_ble_eq_true rfl) ?_
  intro pq eq sq mq bq methq cq ls hE hr hlk hml hnm hl hsz hH
  have hl : lv_has ls 3 [(0, .ref (G.ad t)), (1, .int (oI (wnt of)))] := hl
  have hTb0 := hTb
  obtain ⟨⟨mt, kt⟩, hL, hCa, hA10, hA11, hA12, hA13, hA14, hA15, hA16, hA17, hTm, r0, r2, r3, r4, r5, r6, r8, r9, r11, r13, r14⟩ := hTb
  have l10 := hA10.2.2
  have l11 := hA11.2.2
  have l12 := hA12.2.2
  have l13 := hA13.2.2
  have l14 := hA14.2.2
  have l15 := hA15.2.2
  have l16 := hA16.2.2
  have l17 := hA17.2.2
  have hm5 := hk.2.1
  have hm1 := hk.1
  have hC4 := hk.2.2.2.1
  have hR40 := hk.2.2.2.2.2.2.1
  have hO6 := hk.2.2.2.2.2.1
  have l32 : G.ln (b + 30 + 2) = 40 := hL.2.2.2.1.2.2.1.2.2
  have hT8 := tT_le hk
  refine lv_aload_n hE.1 hE.2.1 dX7_takeTermsOf_0 rfl (lv_at hl 0 rfl) ?_
  refine rg_getr hE hH cf_X7 fl_X7_67 rfl (mt) (kt) (v := t + 20) (r13) dX7_takeTermsOf_1 ?_
  refine lv_aload_n hE.1 hE.2.1 dX7_takeTermsOf_4 rfl (lv_at hl 0 rfl) ?_
  refine rg_getr hE hH cf_X7 fl_X7_30 rfl (mt) (kt) (v := t + 10) (r3) dX7_takeTermsOf_5 ?_
  refine lv_iload_n hE.1 hE.2.1 dX7_takeTermsOf_8 rfl (lv_at hl 1 rfl) ?_
  refine rg_VV (As := [.ref (G.ad (t + 10)), .int (oI (wnt of))]) (rest := []) hE hml hH mc_X7_161 (c_Tm_open l z G iv jv (t + 20) tab hk hTm hV (t + 10) hA10 (by omega) han of ho) (hTm.1.1) (hTm.1.2) (by decide) rfl ⟨Nat.le_of_ble_eq_true rfl, Nat.le_of_ble_eq_true rfl⟩ rfl hl.1 (by simp [Value.category]) dX7_takeTermsOf_9 ⟨Nat.le_of_ble_eq_true rfl, Nat.le_of_ble_eq_true rfl⟩ (fun G9 iv9 jv9 H locs hp9 hH => ?_)
  obtain ⟨rfl, rfl, hO, hF9⟩ := hp9
  refine rg_loop (σ := IV × List Nat × (Nat → Bool) × Nat) (nL := 3) (fun (u : IV × List Nat × (Nat → Bool) × Nat) => match u with | (iv2, l2, held, f) => uh tab of held) (fun (u : IV × List Nat × (Nat → Bool) × Nat) => match u with | (iv2, l2, held, f) => [(0, .ref (G.ad t)), (1, .int (oI (wnt of)))]) (fun (u : IV × List Nat × (Nat → Bool) × Nat) => match u with | (iv2, l2, held, f) => G) (fun (u : IV × List Nat × (Nat → Bool) × Nat) => match u with | (iv2, l2, held, f) => iv2) (fun (u : IV × List Nat × (Nat → Bool) × Nat) => match u with | (iv2, l2, held, f) => jv) (fun (u : IV × List Nat × (Nat → Bool) × Nat) => match u with | (iv2, l2, held, f) => HO iv2 (t + 20) tab of held ∧ TK iv2 t l2 ∧ l2.length + uh tab of held ≤ tC tab ∧ uh tab of held ≤ f ∧ l2 ++ tka tab of f held = l1 ++ tka tab of 400 (fun _ => false) ∧ Fr iv iv2 (fun lb j => lb = t + 17 ∨ (lb = t ∧ j = 16) ∨ lb = t + 33 ∨ lb = t + 34 ∨ (lb = t + 20 ∧ j = 9))) ?_ ((iv9, l1, fun _ => false, 400)) ⟨hO, hTK.fr hF9 (by omega) (fun c => by omega), hro, uh0_le hk, rfl, hF9.mono (fun lb j h => by omega)⟩ (lv_sub hl [0, 1] rfl) hH
  rintro ⟨iv2, l2, held, f⟩ H locs ls ⟨hO, hT2, hro2, hf2, heq, hFr⟩ hl hH ih12
  try dsimp only at hl hH ih12
  try dsimp only at hO hT2 hro2 hf2 heq hFr
  have hViv2 := hV.fr hFr (by omega) (fun lb j _ _ => by omega) hm5
  have hCViv2 := hCV.fr hFr (fun i hi c => by omega)
  have honiv2 : ∀ p, p < tT tab → ∃ y, iv2 (t + 20 + 12) p = y ∧ onR y (AV tab p) := fun p hp => by obtain ⟨y, h1, h2⟩ := hon p hp; exact ⟨y, (hFr _ _ (by omega)).trans h1, h2⟩
  refine lv_aload_n hE.1 hE.2.1 dX7_takeTermsOf_12 rfl (lv_at hl 0 rfl) ?_
  refine rg_getr hE hH cf_X7 fl_X7_67 rfl (mt) (kt) (v := t + 20) (r13) dX7_takeTermsOf_13 ?_
  refine rg_geti hE hH cf_X8 fl_X7_165 rfl (hTm.1.1) (hTm.1.2) (v := nI (uh tab of held)) (hO.1) dX7_takeTermsOf_16 ?_
  refine rn_if_le (tgt := 84) hE dX7_takeTermsOf_19 (by decide) (by omega) (fun c19 => ?_) (fun c19 => ?_)
  · have hu0 : uh tab of held = 0 := by omega
    rw [tka_0 hu0, List.append_nil] at heq
    exact rg_vret hE hr hlk hH ⟨rfl, rfl, by rw [← heq]; exact hT2, hFr⟩ dX7_takeTermsOf_84
  · refine lv_aload_n hE.1 hE.2.1 dX7_takeTermsOf_22 rfl (lv_at hl 0 rfl) ?_
    refine rg_geti hE hH cf_X7 fl_X7_155 rfl (mt) (kt) (v := nI l2.length) (hT2.1) dX7_takeTermsOf_23 ?_
    refine lv_aload_n hE.1 hE.2.1 dX7_takeTermsOf_26 rfl (lv_at hl 0 rfl) ?_
    refine rg_getr hE hH cf_X7 fl_X7_71 rfl (mt) (kt) (v := t + 17) (r14) dX7_takeTermsOf_27 ?_
    refine rg_alen hE hH (hA17.1) (hA17.2.1) (by decide) (by decide) dX7_takeTermsOf_30 ?_
    rw [l17]
    refine rn_icmp_ge (tgt := 84) hE dX7_takeTermsOf_31 (by decide) (by omega) (by omega) (fun c31 => ?_) (fun c31 => ?_)
    · omega
    · refine lv_aload_n hE.1 hE.2.1 dX7_takeTermsOf_34 rfl (lv_at hl 0 rfl) ?_
      refine rg_getr hE hH cf_X7 fl_X7_67 rfl (mt) (kt) (v := t + 20) (r13) dX7_takeTermsOf_35 ?_
      refine lv_iload_n hE.1 hE.2.1 dX7_takeTermsOf_38 rfl (lv_at hl 1 rfl) ?_
      refine rg_VI (As := [.int (oI (wnt of))]) (rest := []) hE hml hH mc_X7_168 (c_Tm_best l z G iv2 jv (t + 20) tab hk hTm hViv2 of ho held hO honiv2) (hTm.1.1) (hTm.1.2) (by decide) rfl ⟨Nat.le_of_ble_eq_true rfl, Nat.le_of_ble_eq_true rfl⟩ rfl hl.1 (by simp [Value.category]) dX7_takeTermsOf_39 ⟨Nat.le_of_ble_eq_true rfl, Nat.le_of_ble_eq_true rfl⟩ (fun r39 G39 iv39 jv39 H locs hp39 hH => ?_)
      obtain ⟨rfl, rfl, rfl, hF39⟩ := hp39
      have hO := hO.fr hF39 (by omega) (fun c => by omega)
      have hT2 := hT2.fr hF39 (by omega) (fun c => by omega)
      have hFr := hFr.tr (hF39.mono (P' := (fun lb j => lb = t + 17 ∨ (lb = t ∧ j = 16) ∨ lb = t + 33 ∨ lb = t + 34 ∨ (lb = t + 20 ∧ j = 9))) (fun lb j h => by omega))
      refine lv_istore_n (lv' := [(2, .int (oI (bst tab of held))), (0, .ref (G.ad t)), (1, .int (oI (wnt of)))]) hE.1 hE.2.1 dX7_takeTermsOf_42 rfl hl (by decide) rfl (fun ls hl => ?_)
      refine lv_iload_n hE.1 hE.2.1 dX7_takeTermsOf_43 rfl (lv_at hl 0 rfl) ?_
      refine lv_iconst (v := -1) hE.1 hE.2.1 dX7_takeTermsOf_44 (by decide) ?_
      refine lv_icmp_ne (tgt := 49) hE.1 hE.2.1 dX7_takeTermsOf_45 (by decide) (fun c45 => ?_) (fun c45 => ?_)
      · obtain ⟨q, hbq⟩ := oI_som c45
        have hqT := (bsI_g (tT tab) q hbq).1
        have hul := uh_lt hbq
        rw [tka_go hf2, hbq] at heq
        have hl : lv_has ls 3 [(2, .int (nI q)), (0, .ref (G.ad t)), (1, .int (oI (wnt of)))] := by rw [hbq] at hl; exact hl
        refine lv_aload_n hE.1 hE.2.1 dX7_takeTermsOf_49 rfl (lv_at hl 1 rfl) ?_
        refine rg_getr hE hH cf_X7 fl_X7_71 rfl (mt) (kt) (v := t + 17) (r14) dX7_takeTermsOf_50 ?_
        refine lv_aload_n hE.1 hE.2.1 dX7_takeTermsOf_53 rfl (lv_at hl 1 rfl) ?_
        refine rg_geti hE hH cf_X7 fl_X7_155 rfl (mt) (kt) (v := nI l2.length) (hT2.1) dX7_takeTermsOf_54 ?_
        refine lv_iload_n hE.1 hE.2.1 dX7_takeTermsOf_57 rfl (lv_at hl 0 rfl) ?_
        refine rg_iast hE hH (hA17.1) (hA17.2.1) (by omega) (v := nI q) dX7_takeTermsOf_58 (fun H locs hH => ?_)
        refine lv_aload_n hE.1 hE.2.1 dX7_takeTermsOf_59 rfl (lv_at hl 1 rfl) ?_
        refine lv_dup hE.1 hE.2.1 dX7_takeTermsOf_60 rfl ?_
        refine rg_geti hE hH cf_X7 fl_X7_155 rfl (mt) (kt) (v := nI l2.length) ((by rw [up2_l (by omega)]; exact hT2.1)) dX7_takeTermsOf_61 ?_
        refine lv_iconst (v := nI 1) hE.1 hE.2.1 dX7_takeTermsOf_64 (by decide) ?_
        refine rn_iadd hE dX7_takeTermsOf_65 ?_
        refine rg_puti hE hH cf_X7 fl_X7_155 rfl fn_X7_16 (mt) (kt) (v := nI (l2.length + 1)) dX7_takeTermsOf_66 (fun H locs hH => ?_)
        have hT4 := hT2.add q
        have hF4 : Fr iv39 (up2 (up2 iv39 (t + 17) l2.length (nI q)) t 16 (nI (l2.length + 1))) (fun lb j => lb = t + 17 ∨ (lb = t ∧ j = 16)) := Fr.up (Fr.up Fr.rf (Or.inl rfl)) (Or.inr ⟨rfl, rfl⟩)
        generalize up2 (up2 iv39 (t + 17) l2.length (nI q)) t 16 (nI (l2.length + 1)) = iv4 at hH hT4 hF4
        have hO := hO.fr hF4 (by omega) (fun c => by omega)
        have hFr := hFr.tr (hF4.mono (P' := (fun lb j => lb = t + 17 ∨ (lb = t ∧ j = 16) ∨ lb = t + 33 ∨ lb = t + 34 ∨ (lb = t + 20 ∧ j = 9))) (fun lb j h => by omega))
        have heq4 : l2 ++ [q] ++ tka tab of (f - 1) (hup tab q held) = l1 ++ tka tab of 400 (fun _ => false) := by rw [← heq, List.append_assoc]; rfl
        have hViv4 := hV.fr hFr (by omega) (fun lb j _ _ => by omega) hm5
        have hCViv4 := hCV.fr hFr (fun i hi c => by omega)
        have honiv4 : ∀ p, p < tT tab → ∃ y, iv4 (t + 20 + 12) p = y ∧ onR y (AV tab p) := fun p hp => by obtain ⟨y, h1, h2⟩ := hon p hp; exact ⟨y, (hFr _ _ (by omega)).trans h1, h2⟩
        refine lv_aload_n hE.1 hE.2.1 dX7_takeTermsOf_69 rfl (lv_at hl 1 rfl) ?_
        refine rg_getr hE hH cf_X7 fl_X7_67 rfl (mt) (kt) (v := t + 20) (r13) dX7_takeTermsOf_70 ?_
        refine lv_iload_n hE.1 hE.2.1 dX7_takeTermsOf_73 rfl (lv_at hl 0 rfl) ?_
        refine lv_aload_n hE.1 hE.2.1 dX7_takeTermsOf_74 rfl (lv_at hl 1 rfl) ?_
        refine rg_getr hE hH cf_X7 fl_X7_27 rfl (mt) (kt) (v := t + 1) (r2) dX7_takeTermsOf_75 ?_
        refine rg_VV (As := [.int (nI q), .ref (G.ad (t + 1))]) (rest := []) hE hml hH mc_X7_171 (c_Tm_close l z G iv4 jv (t + 20) tab hk hTm hViv4 q hqT t hCa hCViv4 (by omega) of ho held hO) (hTm.1.1) (hTm.1.2) (by decide) rfl ⟨Nat.le_of_ble_eq_true rfl, Nat.le_of_ble_eq_true rfl⟩ rfl hl.1 (by simp [Value.category]) dX7_takeTermsOf_78 ⟨Nat.le_of_ble_eq_true rfl, Nat.le_of_ble_eq_true rfl⟩ (fun G78 iv78 jv78 H locs hp78 hH => ?_)
        obtain ⟨rfl, rfl, hO, hF78⟩ := hp78
        have hT4 := hT4.fr hF78 (by omega) (fun c => by omega)
        have hFr4 := hFr.tr (hF78.mono (P' := (fun lb j => lb = t + 17 ∨ (lb = t ∧ j = 16) ∨ lb = t + 33 ∨ lb = t + 34 ∨ (lb = t + 20 ∧ j = 9))) (fun lb j h => by omega))
        refine lv_goto (tgt := 12) hE.1 hE.2.1 dX7_takeTermsOf_81 (by decide) ?_
        exact ih12 (iv78, l2 ++ [q], hup tab q held, f - 1) _ _ _ (uh_lt hbq) ⟨hO, hT4, by show (l2 ++ [q]).length + uh tab of (hup tab q held) ≤ tC tab; rw [List.length_append, List.length_singleton]; omega, by show uh tab of (hup tab q held) ≤ f - 1; omega, heq4, hFr4⟩ (lv_sub hl [1, 2] rfl) hH
      · rw [oI_m1 (fun k hk2 => by have := (bsI_g (tT tab) k hk2).1; omega)] at c45
        rw [tka_go hf2, c45, List.append_nil] at heq
        exact rg_vret hE hr hlk hH ⟨rfl, rfl, by rw [← heq]; exact hT2, hFr⟩ dX7_takeTermsOf_48
set_option maxRecDepth 100000 in
set_option maxHeartbeats 4000000 in
theorem c_Tb_take (l : Launch) (z : ZK) (G : GW) (iv : IV) (jv : JV) (t b : Nat) (tab : Tab) (hk : tabOK tab) (hTb : isTb G t b (tm tab) (tC tab) (tR tab) (tT tab)) (ht : 3000 ≤ t) (hb : 1000 ≤ b) (hbt : b + 40 ≤ t) (hV : TmV iv (t + 20) tab) (hCV : CVl iv t tab) (han : ∀ c, c < tC tab → iv (t + 10) c = oI (ans tab c)) (hon : ∀ p, p < tT tab → ∃ y, iv (t + 20 + 12) p = y ∧ onR y (AV tab p)) (hLy : LAY iv jv b tab) (hTK : TK iv t []) : cV l z yX7_takeTerms cX7_takeTerms 2 none 4 96 0 0 [.ref (G.ad t)] G iv jv (fun G' iv' jv' => G = G' ∧ jv = jv' ∧ TK iv' t ((rule tab).map (fun x => x.1) ++ offers tab) ∧ iv' t 15 = nI (rule tab).length ∧ Fr iv iv' (fun lb j => lb = t + 17 ∨ (lb = t ∧ (j = 16 ∨ j = 15)) ∨ lb = t + 33 ∨ lb = t + 34 ∨ (lb = t + 20 ∧ j = 9))) := by
  intro sz
  refine rg_entry rfl (Nat.le_of_ble_eq_true rfl) ?_
  intro pq eq sq mq bq methq cq ls hE hr hlk hml hnm hl hsz hH
  have hl : lv_has ls 2 [(0, .ref (G.ad t))] := hl
  have hTb0 := hTb
  obtain ⟨⟨mt, kt⟩, hL, hCa, hA10, hA11, hA12, hA13, hA14, hA15, hA16, hA17, hTm, r0, r2, r3, r4, r5, r6, r8, r9, r11, r13, r14⟩ := hTb
  have l10 := hA10.2.2
  have l11 := hA11.2.2
  have l12 := hA12.2.2
  have l13 := hA13.2.2
  have l14 := hA14.2.2
  have l15 := hA15.2.2
  have l16 := hA16.2.2
  have l17 := hA17.2.2
  have hm5 := hk.2.1
  have hm1 := hk.1
  have hC4 := hk.2.2.2.1
  have hR40 := hk.2.2.2.2.2.2.1
  have hO6 := hk.2.2.2.2.2.1
  have hR0 := hLy.2.2.1
  have l32 : G.ln (b + 30 + 2) = 40 := hL.2.2.2.1.2.2.1.2.2
  refine lv_iconst (v := nI 0) hE.1 hE.2.1 dX7_takeTerms_0 (by decide) ?_
  refine lv_istore_n (lv' := [(1, .int (nI 0)), (0, .ref (G.ad t))]) hE.1 hE.2.1 dX7_takeTerms_1 rfl hl (by decide) rfl (fun ls hl => ?_)
  refine rg_loop (σ := IV × Nat) (nL := 2) (fun (u : IV × Nat) => match u with | (iv2, v) => tO tab - v) (fun (u : IV × Nat) => match u with | (iv2, v) => [(0, .ref (G.ad t)), (1, .int (nI v))]) (fun (u : IV × Nat) => match u with | (iv2, v) => G) (fun (u : IV × Nat) => match u with | (iv2, v) => iv2) (fun (u : IV × Nat) => match u with | (iv2, v) => jv) (fun (u : IV × Nat) => match u with | (iv2, v) => v ≤ tO tab ∧ TK iv2 t ((ruleU tab v).map (fun x => x.1)) ∧ Fr iv iv2 (fun lb j => lb = t + 17 ∨ (lb = t ∧ j = 16) ∨ lb = t + 33 ∨ lb = t + 34 ∨ (lb = t + 20 ∧ j = 9))) ?_ ((iv, 0)) ⟨Nat.zero_le _, hTK, Fr.rf⟩ (lv_sub hl [1, 0] rfl) hH
  rintro ⟨iv2, v⟩ H locs ls ⟨hvO, hTK, hFr⟩ hl hH ih2
  try dsimp only at hl hH ih2
  try dsimp only at hvO hTK hFr
  have haniv2 : ∀ c, c < tC tab → iv2 (t + 10) c = oI (ans tab c) := fun c hc => (hFr _ _ (by omega)).trans (han c hc)
  have hLy2 := hLy.fr hFr (fun lb j _ _ => by omega)
  have hrl : ((ruleU tab v).map (fun x => x.1)).length = (ruleU tab v).length := List.length_map _
  have hViv2 := hV.fr hFr (by omega) (fun lb j _ _ => by omega) hm5
  have hCViv2 := hCV.fr hFr (fun i hi c => by omega)
  have honiv2 : ∀ p, p < tT tab → ∃ y, iv2 (t + 20 + 12) p = y ∧ onR y (AV tab p) := fun p hp => by obtain ⟨y, h1, h2⟩ := hon p hp; exact ⟨y, (hFr _ _ (by omega)).trans h1, h2⟩
  refine lv_iload_n hE.1 hE.2.1 dX7_takeTerms_2 rfl (lv_at hl 1 rfl) ?_
  refine lv_aload_n hE.1 hE.2.1 dX7_takeTerms_3 rfl (lv_at hl 0 rfl) ?_
  refine rg_getr hE hH cf_X7 fl_X7_9 rfl (mt) (kt) (v := b) (r0) dX7_takeTerms_4 ?_
  refine rg_getr hE hH cf_X1 fl_X7_147 rfl (hL.1.1) (hL.1.2) (v := b + 20) (hL.2.2.2.2.2.2.1) dX7_takeTerms_7 ?_
  refine rg_geti hE hH cf_X0 fl_X7_132 rfl ((hL.2.2.1 5 (by decide)).1.1) ((hL.2.2.1 5 (by decide)).1.2) (v := nI (tO tab)) (hLy2.2.1.1) dX7_takeTerms_10 ?_
  refine rn_icmp_ge (tgt := 27) hE dX7_takeTerms_13 (by decide) (by omega) (by omega) (fun c13 => ?_) (fun c13 => ?_)
  · have hve : v = tO tab := by omega
    subst hve
    refine lv_aload_n hE.1 hE.2.1 dX7_takeTerms_27 rfl (lv_at hl 0 rfl) ?_
    refine lv_aload_n hE.1 hE.2.1 dX7_takeTerms_28 rfl (lv_at hl 0 rfl) ?_
    refine rg_geti hE hH cf_X7 fl_X7_155 rfl (mt) (kt) (v := nI ((rule tab).length)) (hTK.1.trans (by rw [hrl]; rfl)) dX7_takeTerms_29 ?_
    refine rg_puti hE hH cf_X7 fl_X7_158 rfl fn_X7_15 (mt) (kt) (v := nI ((rule tab).length)) dX7_takeTerms_32 (fun H locs hH => ?_)
    have hF4 : Fr iv2 (up2 iv2 t 15 (nI ((rule tab).length))) (fun lb j => lb = t ∧ j = 15) := Fr.up Fr.rf ⟨rfl, rfl⟩
    have h15 : (up2 iv2 t 15 (nI ((rule tab).length))) t 15 = nI (rule tab).length := up2_s
    generalize up2 iv2 t 15 (nI ((rule tab).length)) = iv4 at hH hF4 h15
    have hTK := hTK.fr hF4 (by omega) (fun c => by omega)
    have hFr4 : Fr iv iv4 (fun lb j => lb = t + 17 ∨ (lb = t ∧ (j = 16 ∨ j = 15)) ∨ lb = t + 33 ∨ lb = t + 34 ∨ (lb = t + 20 ∧ j = 9)) := (hFr.mono (fun lb j h => by omega)).tr (hF4.mono (fun lb j h => by omega))
    have haniv4 : ∀ c, c < tC tab → iv4 (t + 10) c = oI (ans tab c) := fun c hc => (hFr4 _ _ (by omega)).trans (han c hc)
    have htr := tk_room6 hk
    have hrl2 : ((ruleU tab (tO tab)).map (fun x => x.1)).length = (rule tab).length := List.length_map _
    have hViv4 := hV.fr hFr4 (by omega) (fun lb j _ _ => by omega) hm5
    have hCViv4 := hCV.fr hFr4 (fun i hi c => by omega)
    have honiv4 : ∀ p, p < tT tab → ∃ y, iv4 (t + 20 + 12) p = y ∧ onR y (AV tab p) := fun p hp => by obtain ⟨y, h1, h2⟩ := hon p hp; exact ⟨y, (hFr4 _ _ (by omega)).trans h1, h2⟩
    refine lv_aload_n hE.1 hE.2.1 dX7_takeTerms_35 rfl (lv_at hl 0 rfl) ?_
    refine lv_iconst (v := -1) hE.1 hE.2.1 dX7_takeTerms_36 (by decide) ?_
    refine rn_as (v' := oI (wnt 6)) (rfl) ?_
    refine rg_VV (As := [.int (oI (wnt 6))]) (rest := []) hE hml hH mc_X7_151 (c_Tb_take1 l z G iv4 jv t b tab hk hTb0 ht hb hbt hViv4 hCViv4 haniv4 honiv4 6 (by omega) ((ruleU tab (tO tab)).map (fun x => x.1)) hTK (by rw [hrl2]; exact htr)) (mt) (kt) (by decide) rfl ⟨Nat.le_of_ble_eq_true rfl, Nat.le_of_ble_eq_true rfl⟩ rfl hl.1 (by simp [Value.category]) dX7_takeTerms_37 ⟨Nat.le_of_ble_eq_true rfl, Nat.le_of_ble_eq_true rfl⟩ (fun G37 iv37 jv37 H locs hp37 hH => ?_)
    obtain ⟨rfl, rfl, hTK, hF37⟩ := hp37
    have h15 : iv37 t 15 = nI (rule tab).length := (hF37 _ _ (by omega)).trans h15
    have hFr := hFr4.tr (hF37.mono (P' := (fun lb j => lb = t + 17 ∨ (lb = t ∧ (j = 16 ∨ j = 15)) ∨ lb = t + 33 ∨ lb = t + 34 ∨ (lb = t + 20 ∧ j = 9))) (fun lb j h => by omega))
    exact rg_vret hE hr hlk hH ⟨rfl, rfl, hTK, h15, hFr⟩ dX7_takeTerms_40
  · have htr := tk_room (tab := tab) v (by omega)
    refine lv_aload_n hE.1 hE.2.1 dX7_takeTerms_16 rfl (lv_at hl 0 rfl) ?_
    refine lv_iload_n hE.1 hE.2.1 dX7_takeTerms_17 rfl (lv_at hl 1 rfl) ?_
    refine rn_as (v' := oI (wnt v)) (by unfold wnt; rw [if_neg (by omega)]; rfl) ?_
    refine rg_VV (As := [.int (oI (wnt v))]) (rest := []) hE hml hH mc_X7_151 (c_Tb_take1 l z G iv2 jv t b tab hk hTb0 ht hb hbt hViv2 hCViv2 haniv2 honiv2 v (by omega) ((ruleU tab v).map (fun x => x.1)) hTK (by rw [hrl]; exact htr)) (mt) (kt) (by decide) rfl ⟨Nat.le_of_ble_eq_true rfl, Nat.le_of_ble_eq_true rfl⟩ rfl hl.1 (by simp [Value.category]) dX7_takeTerms_18 ⟨Nat.le_of_ble_eq_true rfl, Nat.le_of_ble_eq_true rfl⟩ (fun G18 iv18 jv18 H locs hp18 hH => ?_)
    obtain ⟨rfl, rfl, hTK, hF18⟩ := hp18
    have hFr := hFr.tr hF18
    refine lv_iinc (v := nI (v + 1)) (lv' := [(1, .int (nI (v + 1))), (0, .ref (G.ad t))]) hE.1 hE.2.1 dX7_takeTerms_21 hl (k := 1) rfl (nI_1 _) (by decide) rfl (fun ls hl => ?_)
    refine lv_goto (tgt := 2) hE.1 hE.2.1 dX7_takeTerms_24 (by decide) ?_
    exact ih2 (iv18, v + 1) _ _ _ (show tO tab - (v + 1) < tO tab - v by omega) ⟨by show v + 1 ≤ tO tab; omega, by rw [rU_s]; exact hTK, hFr⟩ (lv_sub hl [1, 0] rfl) hH
set_option maxRecDepth 100000 in
set_option maxHeartbeats 4000000 in
theorem c_Pg_ans (l : Launch) (z : ZK) (G : GW) (iv : IV) (jv : JV) (p t b : Nat) (tab : Tab) (hk : tabOK tab) (hTb : isTb G t b (tm tab) (tC tab) (tR tab) (tT tab)) (hPg : isPg G p t (tC tab)) (w : Nat) (hWh : isWh G w) (g : Prg) (hg : prgOK tab g) (hW : WHc iv w tab g) (hCV : CVl iv t tab) (hpw : w + 4 ≤ p ∨ p + 2 ≤ w) (hpt : p < t ∨ t + 40 ≤ p) : cV l z yX5_findAnswers cX5_findAnswers 4 none 3 71 0 0 [.ref (G.ad p), .ref (G.ad w)] G iv jv (fun G' iv' jv' => G = G' ∧ jv = jv' ∧ (∀ d, d < tC tab → iv' (p + 1) d = nI (pAns tab g d)) ∧ Fr iv iv' (fun lb j => lb = p + 1)) := by
  intro sz
  refine rg_entry rfl (Nat.le_of_ble_eq_true rfl) ?_
  intro pq eq sq mq bq methq cq ls hE hr hlk hml hnm hl hsz hH
  have hl : lv_has ls 4 [(0, .ref (G.ad p)), (1, .ref (G.ad w))] := hl
  have hTb0 := hTb
  obtain ⟨⟨mt, kt⟩, hL, hCa, hA10, hA11, hA12, hA13, hA14, hA15, hA16, hA17, hTm, r0, r2, r3, r4, r5, r6, r8, r9, r11, r13, r14⟩ := hTb
  have l10 := hA10.2.2
  have l11 := hA11.2.2
  have l12 := hA12.2.2
  have l13 := hA13.2.2
  have l14 := hA14.2.2
  have l15 := hA15.2.2
  have l16 := hA16.2.2
  have l17 := hA17.2.2
  have hm5 := hk.2.1
  have hm1 := hk.1
  have hC4 := hk.2.2.2.1
  have hR40 := hk.2.2.2.2.2.2.1
  have hO6 := hk.2.2.2.2.2.1
  have l32 : G.ln (b + 30 + 2) = 40 := hL.2.2.2.1.2.2.1.2.2
  obtain ⟨⟨mp, kp⟩, hP1, q0, q1⟩ := hPg
  have lP1 := hP1.2.2
  have l3 : G.ln (w + 1 + 2) = 40 := hWh.2.1.2.2.1.2.2
  refine lv_iconst (v := nI 0) hE.1 hE.2.1 dX5_findAnswers_0 (by decide) ?_
  refine lv_istore_n (lv' := [(2, .int (nI 0)), (0, .ref (G.ad p)), (1, .ref (G.ad w))]) hE.1 hE.2.1 dX5_findAnswers_1 rfl hl (by decide) rfl (fun ls hl => ?_)
  refine rg_loop (σ := IV × Nat) (nL := 4) (fun (u : IV × Nat) => match u with | (iv2, c) => tC tab - c) (fun (u : IV × Nat) => match u with | (iv2, c) => [(0, .ref (G.ad p)), (1, .ref (G.ad w)), (2, .int (nI c))]) (fun (u : IV × Nat) => match u with | (iv2, c) => G) (fun (u : IV × Nat) => match u with | (iv2, c) => iv2) (fun (u : IV × Nat) => match u with | (iv2, c) => jv) (fun (u : IV × Nat) => match u with | (iv2, c) => c ≤ tC tab ∧ (∀ d, d < c → iv2 (p + 1) d = nI (pAns tab g d)) ∧ Fr iv iv2 (fun lb j => lb = p + 1)) ?_ ((iv, 0)) ⟨Nat.zero_le _, fun d hd => absurd hd (Nat.not_lt_zero d), Fr.rf⟩ (lv_sub hl [1, 2, 0] rfl) hH
  rintro ⟨iv2, c⟩ H locs ls ⟨hcC, hdn, hFr⟩ hl hH ih2
  try dsimp only at hl hH ih2
  try dsimp only at hcC hdn hFr
  have hW2 := hW.fr hm5 hFr (fun lb j _ _ => by omega)
  have hCV2 := hCV.fr hFr (fun i hi c => by omega)
  refine lv_iload_n hE.1 hE.2.1 dX5_findAnswers_2 rfl (lv_at hl 2 rfl) ?_
  refine lv_aload_n hE.1 hE.2.1 dX5_findAnswers_3 rfl (lv_at hl 0 rfl) ?_
  refine rg_getr hE hH cf_X5 fl_X5_21 rfl (mp) (kp) (v := p + 1) (q1) dX5_findAnswers_4 ?_
  refine rg_alen hE hH (hP1.1) (hP1.2.1) (by decide) (by decide) dX5_findAnswers_7 ?_
  rw [lP1]
  refine rn_icmp_ge (tgt := 61) hE dX5_findAnswers_8 (by decide) (by omega) (by omega) (fun c8 => ?_) (fun c8 => ?_)
  · have hce : c = tC tab := by omega
    subst hce
    exact rg_vret hE hr hlk hH ⟨rfl, rfl, hdn, hFr⟩ dX5_findAnswers_61
  · refine lv_aload_n hE.1 hE.2.1 dX5_findAnswers_11 rfl (lv_at hl 1 rfl) ?_
    refine rg_getr hE hH cf_X9 fl_X5_25 rfl (hWh.1.1) (hWh.1.2) (v := w + 1) (hWh.2.2) dX5_findAnswers_12 ?_
    refine lv_iconst (v := nI 0) hE.1 hE.2.1 dX5_findAnswers_15 (by decide) ?_
    refine lv_aload_n hE.1 hE.2.1 dX5_findAnswers_16 rfl (lv_at hl 0 rfl) ?_
    refine rg_getr hE hH cf_X5 fl_X5_9 rfl (mp) (kp) (v := t) (q0) dX5_findAnswers_17 ?_
    refine rg_getr hE hH cf_X7 fl_X5_31 rfl (mt) (kt) (v := t + 1) (r2) dX5_findAnswers_20 ?_
    refine lv_iload_n hE.1 hE.2.1 dX5_findAnswers_23 rfl (lv_at hl 2 rfl) ?_
    refine rg_VI (As := [.int (nI 0), .ref (G.ad (t + 1)), .int (nI c)]) (rest := []) hE hml hH mc_X5_35 (c_Ro_first l z G iv2 jv (w + 1) hWh.2.1 0 g.2.1.length (by omega) hW.1.2.1 hW2.1.1 t (tm tab) (tC tab) c hCa hm5 (by omega) (vOf (tf tab) (tm tab) c) (fun i hi => ⟨hCV2 i hi c (by omega), vOf_lt hk hi⟩) (wmk tab g c) (fun k hkr => hW2.msk hk hkr)) (hWh.2.1.1.1) (hWh.2.1.1.2) (by decide) rfl ⟨Nat.le_of_ble_eq_true rfl, Nat.le_of_ble_eq_true rfl⟩ rfl hl.1 (by simp [Value.category]) dX5_findAnswers_24 ⟨Nat.le_of_ble_eq_true rfl, Nat.le_of_ble_eq_true rfl⟩ (fun r24 G24 iv24 jv24 H locs hp24 hH => ?_)
    obtain ⟨rfl, rfl, rfl, rfl⟩ := hp24
    refine rn_as (v' := oI (fnd (fun w => wh tab g c w) g.2.1.length)) (by rw [wmk_fnd hg]) ?_
    refine lv_istore_n (lv' := [(3, .int (oI (fnd (fun w => wh tab g c w) g.2.1.length))), (0, .ref (G.ad p)), (1, .ref (G.ad w)), (2, .int (nI c))]) hE.1 hE.2.1 dX5_findAnswers_27 rfl hl (by decide) rfl (fun ls hl => ?_)
    refine lv_aload_n hE.1 hE.2.1 dX5_findAnswers_28 rfl (lv_at hl 1 rfl) ?_
    refine rg_getr hE hH cf_X5 fl_X5_21 rfl (mp) (kp) (v := p + 1) (q1) dX5_findAnswers_29 ?_
    refine lv_iload_n hE.1 hE.2.1 dX5_findAnswers_32 rfl (lv_at hl 3 rfl) ?_
    refine lv_iload_n hE.1 hE.2.1 dX5_findAnswers_33 rfl (lv_at hl 0 rfl) ?_
    refine lv_iconst (v := -1) hE.1 hE.2.1 dX5_findAnswers_34 (by decide) ?_
    refine lv_icmp_ne (tgt := 45) hE.1 hE.2.1 dX5_findAnswers_35 (by decide) (fun c35 => ?_) (fun c35 => ?_)
    · obtain ⟨a, ha⟩ := oI_som c35
      have hal := (fnd_lt ha).1
      have hl : lv_has ls 4 [(3, .int (nI a)), (0, .ref (G.ad p)), (1, .ref (G.ad w)), (2, .int (nI c))] := by rw [ha] at hl; exact hl
      refine lv_aload_n hE.1 hE.2.1 dX5_findAnswers_45 rfl (lv_at hl 2 rfl) ?_
      refine rg_getr hE hH cf_X9 fl_X5_25 rfl (hWh.1.1) (hWh.1.2) (v := w + 1) (hWh.2.2) dX5_findAnswers_46 ?_
      refine rg_getr hE hH cf_X6 fl_X5_44 rfl (hWh.2.1.1.1) (hWh.2.1.1.2) (v := w + 1 + 2) (hWh.2.1.2.2.2.2) dX5_findAnswers_49 ?_
      refine lv_iload_n hE.1 hE.2.1 dX5_findAnswers_52 rfl (lv_at hl 0 rfl) ?_
      refine rg_iald hE hH (hWh.2.1.2.2.1.1) (hWh.2.1.2.2.1.2.1) (by rw [l3]; have := hW.1.2.1; omega) (v := nI ((g.2.1.getD a (0, 0)).2)) ((hW2.1.2.2 a hal).2) dX5_findAnswers_53 ?_
      refine rg_iast hE hH (hP1.1) (hP1.2.1) (by omega) (v := nI ((g.2.1.getD a (0, 0)).2)) dX5_findAnswers_54 (fun H locs hH => ?_)
      refine lv_iinc (v := nI (c + 1)) (lv' := [(2, .int (nI (c + 1))), (3, .int (nI a)), (0, .ref (G.ad p)), (1, .ref (G.ad w))]) hE.1 hE.2.1 dX5_findAnswers_55 hl (k := 3) rfl (nI_1 _) (by decide) rfl (fun ls hl => ?_)
      refine lv_goto (tgt := 2) hE.1 hE.2.1 dX5_findAnswers_58 (by decide) ?_
      exact ih2 (up2 iv2 (p + 1) c (nI ((g.2.1.getD a (0, 0)).2)), c + 1) _ _ _ (show tC tab - (c + 1) < tC tab - c by omega) ⟨by show c + 1 ≤ tC tab; omega, fun d hd => by
        dsimp only at hd ⊢
        by_cases hdc : d = c
        · subst hdc; rw [up2_s, pAns, ha]
        · rw [up2_k (by omega)]; exact hdn d (by omega), Fr.up hFr rfl⟩ (lv_sub hl [2, 3, 0] rfl) hH
    · rw [oI_m1 (fun k hk2 => by have := (fnd_lt hk2).1; have := hW.1.2.1; omega)] at c35
      refine lv_aload_n hE.1 hE.2.1 dX5_findAnswers_38 rfl (lv_at hl 2 rfl) ?_
      refine rg_geti hE hH cf_X9 fl_X5_41 rfl (hWh.1.1) (hWh.1.2) (v := nI g.2.2) (hW2.2) dX5_findAnswers_39 ?_
      refine lv_goto (tgt := 54) hE.1 hE.2.1 dX5_findAnswers_42 (by decide) ?_
      refine rg_iast hE hH (hP1.1) (hP1.2.1) (by omega) (v := nI g.2.2) dX5_findAnswers_54 (fun H locs hH => ?_)
      refine lv_iinc (v := nI (c + 1)) (lv' := [(2, .int (nI (c + 1))), (3, .int (oI (fnd (fun w => wh tab g c w) g.2.1.length))), (0, .ref (G.ad p)), (1, .ref (G.ad w))]) hE.1 hE.2.1 dX5_findAnswers_55 hl (k := 3) rfl (nI_1 _) (by decide) rfl (fun ls hl => ?_)
      refine lv_goto (tgt := 2) hE.1 hE.2.1 dX5_findAnswers_58 (by decide) ?_
      exact ih2 (up2 iv2 (p + 1) c (nI g.2.2), c + 1) _ _ _ (show tC tab - (c + 1) < tC tab - c by omega) ⟨by show c + 1 ≤ tC tab; omega, fun d hd => by
        dsimp only at hd ⊢
        by_cases hdc : d = c
        · subst hdc; rw [up2_s, pAns, c35]
        · rw [up2_k (by omega)]; exact hdn d (by omega), Fr.up hFr rfl⟩ (lv_sub hl [2, 3, 0] rfl) hH
set_option maxRecDepth 100000 in
set_option maxHeartbeats 4000000 in
theorem c_Pg_fail (l : Launch) (z : ZK) (G : GW) (iv : IV) (jv : JV) (p t b : Nat) (tab : Tab) (hk : tabOK tab) (hTb : isTb G t b (tm tab) (tC tab) (tR tab) (tT tab)) (hPg : isPg G p t (tC tab)) (g : Prg) (hg : prgOK tab g) (c : Nat) (hc : c < tC tab) (x : Int32) (hdn : iv (t + 10) c = oI (ans tab c) ∧ iv (t + 11) c = oI (frow tab c)) (hpa1 : iv (p + 1) c = nI (pAns tab g c)) : cI l z yX5_failsIn cX5_failsIn 4 (some .boolean) 0 0 0 0 [.ref (G.ad p), .int (nI c), .int (x)] G iv jv (fun r' G' iv' jv' => G = G' ∧ iv = iv' ∧ jv = jv' ∧ r' = bI (pFail tab g x c)) := by
  intro sz
  refine rg_entry rfl (Nat.le_of_ble_eq_true rfl) ?_
  intro pq eq sq mq bq methq cq ls hE hr hlk hml hnm hl hsz hH
  have hl : lv_has ls 4 [(0, .ref (G.ad p)), (1, .int (nI c)), (2, .int (x))] := hl
  have hTb0 := hTb
  obtain ⟨⟨mt, kt⟩, hL, hCa, hA10, hA11, hA12, hA13, hA14, hA15, hA16, hA17, hTm, r0, r2, r3, r4, r5, r6, r8, r9, r11, r13, r14⟩ := hTb
  have l10 := hA10.2.2
  have l11 := hA11.2.2
  have l12 := hA12.2.2
  have l13 := hA13.2.2
  have l14 := hA14.2.2
  have l15 := hA15.2.2
  have l16 := hA16.2.2
  have l17 := hA17.2.2
  have hm5 := hk.2.1
  have hm1 := hk.1
  have hC4 := hk.2.2.2.1
  have hR40 := hk.2.2.2.2.2.2.1
  have hO6 := hk.2.2.2.2.2.1
  have l32 : G.ln (b + 30 + 2) = 40 := hL.2.2.2.1.2.2.1.2.2
  obtain ⟨⟨mp, kp⟩, hP1, q0, q1⟩ := hPg
  have lP1 := hP1.2.2
  refine lv_aload_n hE.1 hE.2.1 dX5_failsIn_0 rfl (lv_at hl 0 rfl) ?_
  refine rg_getr hE hH cf_X5 fl_X5_9 rfl (mp) (kp) (v := t) (q0) dX5_failsIn_1 ?_
  refine rg_getr hE hH cf_X7 fl_X5_47 rfl (mt) (kt) (v := t + 11) (r4) dX5_failsIn_4 ?_
  refine lv_iload_n hE.1 hE.2.1 dX5_failsIn_7 rfl (lv_at hl 1 rfl) ?_
  refine rg_iald hE hH (hA11.1) (hA11.2.1) (by omega) (v := oI (frow tab c)) (hdn.2) dX5_failsIn_8 ?_
  refine lv_istore_n (lv' := [(3, .int (oI (frow tab c))), (0, .ref (G.ad p)), (1, .int (nI c)), (2, .int (x))]) hE.1 hE.2.1 dX5_failsIn_9 rfl hl (by decide) rfl (fun ls hl => ?_)
  refine lv_iload_n hE.1 hE.2.1 dX5_failsIn_10 rfl (lv_at hl 0 rfl) ?_
  refine lv_iconst (v := -1) hE.1 hE.2.1 dX5_failsIn_11 (by decide) ?_
  refine lv_icmp_eq (tgt := 25) hE.1 hE.2.1 dX5_failsIn_12 (by decide) (fun c12 => ?_) (fun c12 => ?_)
  · rw [oI_m1 (fun k hk2 => by have := frow_lt hk2; omega)] at c12
    refine lv_iconst (v := nI 0) hE.1 hE.2.1 dX5_failsIn_25 (by decide) ?_
    exact rg_iret hE hr (nz_0) hlk hH ⟨rfl, rfl, rfl, zero_bI (by unfold pFail; rw [c12])⟩ dX5_failsIn_26
  · obtain ⟨f, hf⟩ := oI_som c12
    have hfR := frow_lt hf
    have htv := (hk.2.2.2.2.2.2.2 f hfR).2
    have hpa := pAns_lt hg (c := c)
    have hl : lv_has ls 4 [(3, .int (nI f)), (0, .ref (G.ad p)), (1, .int (nI c)), (2, .int (x))] := by rw [hf] at hl; exact hl
    refine lv_iload_n hE.1 hE.2.1 dX5_failsIn_15 rfl (lv_at hl 3 rfl) ?_
    refine lv_iconst (v := -1) hE.1 hE.2.1 dX5_failsIn_16 (by decide) ?_
    refine lv_icmp_eq (tgt := 27) hE.1 hE.2.1 dX5_failsIn_17 (by decide) (fun c17 => ?_) (fun c17 => ?_)
    · refine lv_aload_n hE.1 hE.2.1 dX5_failsIn_27 rfl (lv_at hl 1 rfl) ?_
      refine rg_getr hE hH cf_X5 fl_X5_21 rfl (mp) (kp) (v := p + 1) (q1) dX5_failsIn_28 ?_
      refine lv_iload_n hE.1 hE.2.1 dX5_failsIn_31 rfl (lv_at hl 2 rfl) ?_
      refine rg_iald hE hH (hP1.1) (hP1.2.1) (by omega) (v := nI (pAns tab g c)) (hpa1) dX5_failsIn_32 ?_
      refine lv_aload_n hE.1 hE.2.1 dX5_failsIn_33 rfl (lv_at hl 1 rfl) ?_
      refine rg_getr hE hH cf_X5 fl_X5_9 rfl (mp) (kp) (v := t) (q0) dX5_failsIn_34 ?_
      refine rg_getr hE hH cf_X7 fl_X5_50 rfl (mt) (kt) (v := t + 10) (r3) dX5_failsIn_37 ?_
      refine lv_iload_n hE.1 hE.2.1 dX5_failsIn_40 rfl (lv_at hl 2 rfl) ?_
      refine rg_iald hE hH (hA10.1) (hA10.2.1) (by omega) (v := nI (tvv tab f)) (hdn.1.trans (by rw [ans, hf]; rfl)) dX5_failsIn_41 ?_
      refine rb_icmp_eq (t1 := 49) (t2 := 50) hE dX5_failsIn_42 (by decide) dX5_failsIn_45 dX5_failsIn_46 (by decide) dX5_failsIn_49 rfl (by omega) (by omega) ?_
      exact rg_iret hE hr nz_bI hlk hH ⟨rfl, rfl, rfl, by unfold pFail; rw [hf]; simp only; rw [decide_eq_true c17, Bool.true_or, Bool.true_and]⟩ dX5_failsIn_50
    · refine lv_iload_n hE.1 hE.2.1 dX5_failsIn_20 rfl (lv_at hl 3 rfl) ?_
      refine lv_iload_n hE.1 hE.2.1 dX5_failsIn_21 rfl (lv_at hl 0 rfl) ?_
      refine lv_icmp_eq (tgt := 27) hE.1 hE.2.1 dX5_failsIn_22 (by decide) (fun c22 => ?_) (fun c22 => ?_)
      · refine lv_aload_n hE.1 hE.2.1 dX5_failsIn_27 rfl (lv_at hl 1 rfl) ?_
        refine rg_getr hE hH cf_X5 fl_X5_21 rfl (mp) (kp) (v := p + 1) (q1) dX5_failsIn_28 ?_
        refine lv_iload_n hE.1 hE.2.1 dX5_failsIn_31 rfl (lv_at hl 2 rfl) ?_
        refine rg_iald hE hH (hP1.1) (hP1.2.1) (by omega) (v := nI (pAns tab g c)) (hpa1) dX5_failsIn_32 ?_
        refine lv_aload_n hE.1 hE.2.1 dX5_failsIn_33 rfl (lv_at hl 1 rfl) ?_
        refine rg_getr hE hH cf_X5 fl_X5_9 rfl (mp) (kp) (v := t) (q0) dX5_failsIn_34 ?_
        refine rg_getr hE hH cf_X7 fl_X5_50 rfl (mt) (kt) (v := t + 10) (r3) dX5_failsIn_37 ?_
        refine lv_iload_n hE.1 hE.2.1 dX5_failsIn_40 rfl (lv_at hl 2 rfl) ?_
        refine rg_iald hE hH (hA10.1) (hA10.2.1) (by omega) (v := nI (tvv tab f)) (hdn.1.trans (by rw [ans, hf]; rfl)) dX5_failsIn_41 ?_
        refine rb_icmp_eq (t1 := 49) (t2 := 50) hE dX5_failsIn_42 (by decide) dX5_failsIn_45 dX5_failsIn_46 (by decide) dX5_failsIn_49 rfl (by omega) (by omega) ?_
        exact rg_iret hE hr nz_bI hlk hH ⟨rfl, rfl, rfl, by unfold pFail; rw [hf]; simp only; rw [decide_eq_true c22.symm, Bool.or_true, Bool.true_and]⟩ dX5_failsIn_50
      · refine lv_iconst (v := nI 0) hE.1 hE.2.1 dX5_failsIn_25 (by decide) ?_
        exact rg_iret hE hr (nz_0) hlk hH ⟨rfl, rfl, rfl, zero_bI (by unfold pFail; rw [hf]; simp only; rw [decide_eq_false c17, decide_eq_false (fun h => c22 h.symm)]; rfl)⟩ dX5_failsIn_26
