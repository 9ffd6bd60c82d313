set_option maxRecDepth 100000 in
set_option maxHeartbeats 4000000 in
theorem c_Pa_refuse (l : Launch) (z : ZK) (G : GW) (hX : isPx G) (iv : IV) (jv : JV) (f : Nat) : cI l z yX4_refuse cX4_refuse 2 (some .boolean) 0 0 0 0 [.ref (G.ad 102), .int (nI f)] G iv jv (fun r G' iv' jv' => G = G' ∧ iv' = up2 iv 102 1 (nI f) ∧ jv = jv' ∧ r = nI 0) := by
  intro sz
  refine rg_entry rfl (Nat.le_of_ble_eq_true rfl) ?_
  intro pq eq sq mq bq methq cq ls hE hr hlk hml hnm hl hsz hH
  have hl : lv_has ls 2 [(0, .ref (G.ad 102)), (1, .int (nI f))] := hl
  refine lv_aload_n hE.1 hE.2.1 dX4_refuse_0 rfl (lv_at hl 0 rfl) ?_
  refine lv_iload_n hE.1 hE.2.1 dX4_refuse_1 rfl (lv_at hl 1 rfl) ?_
  refine rg_puti hE hH cf_X4 fl_X4_18 rfl fn_X4_1 (hX.1.1) (hX.1.2) (v := nI f) dX4_refuse_2 (fun H locs hH => ?_)
  refine lv_iconst (v := nI 0) hE.1 hE.2.1 dX4_refuse_5 (by decide) ?_
  exact rg_iret hE hr (nz_0) hlk hH ⟨rfl, rfl, rfl, rfl⟩ dX4_refuse_6
set_option maxRecDepth 100000 in
set_option maxHeartbeats 4000000 in
theorem c_Pa_place (l : Launch) (z : ZK) (G : GW) (hX : isPx G) (iv : IV) (jv : JV) (B : Nat → Nat) (n : Nat) (t : Tok) (hR : LR iv jv B n t) : cI l z yX4_place cX4_place 1 (some .int) 0 0 0 0 [.ref (G.ad 102)] G iv jv (fun r G' iv' jv' => G = G' ∧ iv = iv' ∧ jv = jv' ∧ r = nI (tb t)) := by
  intro sz
  refine rg_entry rfl (Nat.le_of_ble_eq_true rfl) ?_
  intro pq eq sq mq bq methq cq ls hE hr hlk hml hnm hl hsz hH
  have hl : lv_has ls 1 [(0, .ref (G.ad 102))] := hl
  refine lv_aload_n hE.1 hE.2.1 dX4_place_0 rfl (lv_at hl 0 rfl) ?_
  refine rg_getr hE hH cf_X4 fl_X4_12 rfl (hX.1.1) (hX.1.2) (v := 103) (hX.2.2.2.2.2.2.1) dX4_place_1 ?_
  refine rg_geti hE hH cf_X2 fl_X4_22 rfl (hX.2.1.1) (hX.2.1.2) (v := nI (tb t)) (hR.pl) dX4_place_4 ?_
  exact rg_iret hE hr rfl hlk hH ⟨rfl, rfl, rfl, rfl⟩ dX4_place_7
set_option maxRecDepth 100000 in
set_option maxHeartbeats 4000000 in
theorem c_Pa_pass (l : Launch) (z : ZK) (G : GW) (hX : isPx G) (iv : IV) (jv : JV) (B : Nat → Nat) (n : Nat) (t : Tok) (hR : LR iv jv B n t) (k : Nat) (hk : k < 15) : cI l z yX4_pass cX4_pass 2 (some .boolean) 1 21 0 0 [.ref (G.ad 102), .int (nI k)] G iv jv (fun r G' iv' jv' => G = G' ∧ r = bI (decide (kdT B t = k)) ∧ LR iv' jv' B n (if kdT B t = k then nx B n t else t) ∧ (¬ kdT B t = k → iv' 102 1 = nI 1) ∧ Fr iv iv' pZ ∧ FrJ jv jv' qZ) := by
  intro sz
  refine rg_entry rfl (Nat.le_of_ble_eq_true rfl) ?_
  intro pq eq sq mq bq methq cq ls hE hr hlk hml hnm hl hsz hH
  have hl : lv_has ls 2 [(0, .ref (G.ad 102)), (1, .int (nI k))] := hl
  have hFr : Fr iv iv pZ := Fr.rf
  have hFj : FrJ jv jv qZ := FrJ.rf
  refine lv_aload_n hE.1 hE.2.1 dX4_pass_0 rfl (lv_at hl 0 rfl) ?_
  refine rg_getr hE hH cf_X4 fl_X4_12 rfl (hX.1.1) (hX.1.2) (v := 103) (hX.2.2.2.2.2.2.1) dX4_pass_1 ?_
  refine rg_geti hE hH cf_X2 fl_X4_59 rfl (hX.2.1.1) (hX.2.1.2) (v := nI (kdT B t)) (hR.kd) dX4_pass_4 ?_
  refine lv_iload_n hE.1 hE.2.1 dX4_pass_7 rfl (lv_at hl 1 rfl) ?_
  refine rn_icmp_eq (tgt := 17) hE dX4_pass_8 (by decide) (by have := hR.k16; omega) (by omega) (fun c8 => ?_) (fun c8 => ?_)
  · refine lv_aload_n hE.1 hE.2.1 dX4_pass_17 rfl (lv_at hl 0 rfl) ?_
    refine rg_getr hE hH cf_X4 fl_X4_12 rfl (hX.1.1) (hX.1.2) (v := 103) (hX.2.2.2.2.2.2.1) dX4_pass_18 ?_
    refine rg_VV (As := []) (rest := []) hE hml hH mc_X4_66 (c_Lx_next l z G hX iv jv B n t hR (nx_ne hR.tv c8 (by omega))) (hX.2.1.1) (hX.2.1.2) (by decide) rfl ⟨Nat.le_of_ble_eq_true rfl, Nat.le_of_ble_eq_true rfl⟩ rfl hl.1 (by simp [Value.category]) dX4_pass_21 ⟨Nat.le_of_ble_eq_true rfl, Nat.le_of_ble_eq_true rfl⟩ (fun G21 iv21 jv21 H locs hp21 hH => ?_)
    obtain ⟨rfl, hR, hF21, hJ21⟩ := hp21
    have hJ21 : FrJ jv jv21 qZ := hJ21
    have hF21 : Fr iv iv21 pZ := hF21.mono (fun _ _ h => Or.inr h)
    have hFr := hFr.tr (hF21.mono (fun _ _ h => h))
    have hFj := hFj.tr (hJ21.mono (fun _ _ h => h))
    refine lv_iconst (v := nI 1) hE.1 hE.2.1 dX4_pass_24 (by decide) ?_
    exact rg_iret hE hr (nz_1) hlk hH ⟨rfl, one_bI (decide_eq_true c8), by rw [if_pos c8]; exact hR, fun h => absurd c8 h, hFr, hFj⟩ dX4_pass_25
  · refine lv_aload_n hE.1 hE.2.1 dX4_pass_11 rfl (lv_at hl 0 rfl) ?_
    refine lv_iconst (v := nI 1) hE.1 hE.2.1 dX4_pass_12 (by decide) ?_
    refine rg_VI (As := [.int (nI 1)]) (rest := []) hE hml hH mc_X4_62 (c_Pa_refuse l z G hX iv jv 1) (hX.1.1) (hX.1.2) (by decide) rfl ⟨Nat.le_of_ble_eq_true rfl, Nat.le_of_ble_eq_true rfl⟩ rfl hl.1 (by simp [Value.category]) dX4_pass_13 ⟨Nat.le_of_ble_eq_true rfl, Nat.le_of_ble_eq_true rfl⟩ (fun r13 G13 iv13 jv13 H locs hp13 hH => ?_)
    obtain ⟨rfl, hiv13, rfl, rfl⟩ := hp13
    have hF13 : Fr iv iv13 pZ := by rw [hiv13]; exact Fr.up Fr.rf (Or.inl ⟨rfl, rfl⟩)
    have hFr := hFr.tr (hF13.mono (fun _ _ h => h))
    have hR : LR iv13 jv B n t := by rw [hiv13]; exact hR.up (by decide) (by decide) (by decide)
    have hfd : iv13 102 1 = nI 1 := by rw [hiv13]; rfl
    exact rg_iret hE hr (nz_0) hlk hH ⟨rfl, zero_bI (decide_eq_false c8), by rw [if_neg c8]; exact hR, fun _ => hfd, hFr, hFj⟩ dX4_pass_16
set_option maxRecDepth 100000 in
set_option maxHeartbeats 4000000 in
theorem c_Pa_word (l : Launch) (z : ZK) (G : GW) (hX : isPx G) (iv : IV) (jv : JV) (B : Nat → Nat) (n : Nat) (t : Tok) (hR : LR iv jv B n t) : cI l z yX4_wordIsHere cX4_wordIsHere 1 (some .boolean) 1 21 0 0 [.ref (G.ad 102)] G iv jv (fun r G' iv' jv' => G = G' ∧ r = bI (decide (frF B t = 0)) ∧ LR iv' jv' B n t ∧ (frF B t ≠ 0 → iv' 102 1 = nI (frF B t)) ∧ Fr iv iv' pZ ∧ FrJ jv jv' qZ) := by
  intro sz
  refine rg_entry rfl (Nat.le_of_ble_eq_true rfl) ?_
  intro pq eq sq mq bq methq cq ls hE hr hlk hml hnm hl hsz hH
  have hl : lv_has ls 1 [(0, .ref (G.ad 102))] := hl
  have hFr : Fr iv iv pZ := Fr.rf
  have hFj : FrJ jv jv qZ := FrJ.rf
  refine lv_aload_n hE.1 hE.2.1 dX4_wordIsHere_0 rfl (lv_at hl 0 rfl) ?_
  refine rg_getr hE hH cf_X4 fl_X4_12 rfl (hX.1.1) (hX.1.2) (v := 103) (hX.2.2.2.2.2.2.1) dX4_wordIsHere_1 ?_
  refine rg_geti hE hH cf_X2 fl_X4_59 rfl (hX.2.1.1) (hX.2.1.2) (v := nI (kdT B t)) (hR.kd) dX4_wordIsHere_4 ?_
  refine lv_bipush (v := nI 14) hE.1 hE.2.1 dX4_wordIsHere_7 (by decide) ?_
  refine rn_icmp_ne (tgt := 18) hE dX4_wordIsHere_9 (by decide) (by have := hR.k16; omega) (by have := hR.k16; omega) (fun c9 => ?_) (fun c9 => ?_)
  · refine lv_aload_n hE.1 hE.2.1 dX4_wordIsHere_18 rfl (lv_at hl 0 rfl) ?_
    refine rg_getr hE hH cf_X4 fl_X4_12 rfl (hX.1.1) (hX.1.2) (v := 103) (hX.2.2.2.2.2.2.1) dX4_wordIsHere_19 ?_
    refine rg_geti hE hH cf_X2 fl_X4_59 rfl (hX.2.1.1) (hX.2.1.2) (v := nI (kdT B t)) (hR.kd) dX4_wordIsHere_22 ?_
    refine rn_if_eq (tgt := 36) hE dX4_wordIsHere_25 (by decide) (by have := hR.k16; omega) (fun c25 => ?_) (fun c25 => ?_)
    · refine lv_iconst (v := nI 1) hE.1 hE.2.1 dX4_wordIsHere_36 (by decide) ?_
      refine lv_goto (tgt := 41) hE.1 hE.2.1 dX4_wordIsHere_37 (by decide) ?_
      exact rg_iret hE hr (nz_1) hlk hH ⟨rfl, one_bI (decide_eq_true (by rw [kd_fr hR.tv, if_neg c9, if_pos c25])), hR, fun h => absurd (by rw [kd_fr hR.tv, if_neg c9, if_pos c25]) h, hFr, hFj⟩ dX4_wordIsHere_41
    · refine lv_aload_n hE.1 hE.2.1 dX4_wordIsHere_28 rfl (lv_at hl 0 rfl) ?_
      refine lv_iconst (v := nI 1) hE.1 hE.2.1 dX4_wordIsHere_29 (by decide) ?_
      refine rg_VI (As := [.int (nI 1)]) (rest := []) hE hml hH mc_X4_62 (c_Pa_refuse l z G hX iv jv 1) (hX.1.1) (hX.1.2) (by decide) rfl ⟨Nat.le_of_ble_eq_true rfl, Nat.le_of_ble_eq_true rfl⟩ rfl hl.1 (by simp [Value.category]) dX4_wordIsHere_30 ⟨Nat.le_of_ble_eq_true rfl, Nat.le_of_ble_eq_true rfl⟩ (fun r30 G30 iv30 jv30 H locs hp30 hH => ?_)
      obtain ⟨rfl, hiv30, rfl, rfl⟩ := hp30
      have hF30 : Fr iv iv30 pZ := by rw [hiv30]; exact Fr.up Fr.rf (Or.inl ⟨rfl, rfl⟩)
      have hFr := hFr.tr (hF30.mono (fun _ _ h => h))
      have hR : LR iv30 jv B n t := by rw [hiv30]; exact hR.up (by decide) (by decide) (by decide)
      have hfd : iv30 102 1 = nI 1 := by rw [hiv30]; rfl
      refine rn_if_eq (tgt := 40) hE dX4_wordIsHere_33 (by decide) (by omega) (fun c33 => ?_) (fun c33 => ?_)
      · refine lv_iconst (v := nI 0) hE.1 hE.2.1 dX4_wordIsHere_40 (by decide) ?_
        exact rg_iret hE hr (nz_0) hlk hH ⟨rfl, zero_bI (decide_eq_false (by rw [kd_fr hR.tv, if_neg c9, if_neg c25]; decide)), hR, fun _ => by rw [kd_fr hR.tv, if_neg c9, if_neg c25]; exact hfd, hFr, hFj⟩ dX4_wordIsHere_41
      · omega
  · refine lv_aload_n hE.1 hE.2.1 dX4_wordIsHere_12 rfl (lv_at hl 0 rfl) ?_
    refine lv_iconst (v := nI 2) hE.1 hE.2.1 dX4_wordIsHere_13 (by decide) ?_
    refine rg_VI (As := [.int (nI 2)]) (rest := []) hE hml hH mc_X4_62 (c_Pa_refuse l z G hX iv jv 2) (hX.1.1) (hX.1.2) (by decide) rfl ⟨Nat.le_of_ble_eq_true rfl, Nat.le_of_ble_eq_true rfl⟩ rfl hl.1 (by simp [Value.category]) dX4_wordIsHere_14 ⟨Nat.le_of_ble_eq_true rfl, Nat.le_of_ble_eq_true rfl⟩ (fun r14 G14 iv14 jv14 H locs hp14 hH => ?_)
    obtain ⟨rfl, hiv14, rfl, rfl⟩ := hp14
    have hF14 : Fr iv iv14 pZ := by rw [hiv14]; exact Fr.up Fr.rf (Or.inl ⟨rfl, rfl⟩)
    have hFr := hFr.tr (hF14.mono (fun _ _ h => h))
    have hR : LR iv14 jv B n t := by rw [hiv14]; exact hR.up (by decide) (by decide) (by decide)
    have hfd : iv14 102 1 = nI 2 := by rw [hiv14]; rfl
    exact rg_iret hE hr (nz_0) hlk hH ⟨rfl, zero_bI (decide_eq_false (by rw [kd_fr hR.tv, if_pos c9]; decide)), hR, fun _ => by rw [kd_fr hR.tv, if_pos c9]; exact hfd, hFr, hFj⟩ dX4_wordIsHere_17
set_option maxRecDepth 100000 in
set_option maxHeartbeats 4000000 in
theorem c_Pa_told (l : Launch) (z : ZK) (G : GW) (hX : isPx G) (iv : IV) (jv : JV) (B : Nat → Nat) (n : Nat) (t : Tok) (hR : LR iv jv B n t) (c : Nat) (hC : isCo G c) (hc : 1000 ≤ c) (vs : List Wd) (hV : CV iv jv c vs) : cI l z yX4_toldHere cX4_toldHere 3 (some .int) 2 44 0 0 [.ref (G.ad 102), .ref (G.ad c)] G iv jv (fun r G' iv' jv' => G = G' ∧ r = oI (tH B vs t).2 ∧ LR iv' jv' B n t ∧ ((tH B vs t).1 ≠ 0 → iv' 102 1 = nI (tH B vs t).1) ∧ Fr iv iv' pZ ∧ FrJ jv jv' qZ) := by
  intro sz
  refine rg_entry rfl (Nat.le_of_ble_eq_true rfl) ?_
  intro pq eq sq mq bq methq cq ls hE hr hlk hml hnm hl hsz hH
  have hl : lv_has ls 3 [(0, .ref (G.ad 102)), (1, .ref (G.ad c))] := hl
  have hFr : Fr iv iv pZ := Fr.rf
  have hFj : FrJ jv jv qZ := FrJ.rf
  refine lv_aload_n hE.1 hE.2.1 dX4_toldHere_0 rfl (lv_at hl 0 rfl) ?_
  refine rg_VI (As := []) (rest := []) hE hml hH mc_X4_95 (c_Pa_word l z G hX iv jv B n t hR) (hX.1.1) (hX.1.2) (by decide) rfl ⟨Nat.le_of_ble_eq_true rfl, Nat.le_of_ble_eq_true rfl⟩ rfl hl.1 (by simp [Value.category]) dX4_toldHere_1 ⟨Nat.le_of_ble_eq_true rfl, Nat.le_of_ble_eq_true rfl⟩ (fun r1 G1 iv1 jv1 H locs hp1 hH => ?_)
  obtain ⟨rfl, rfl, hR, hfd1, hF1, hJ1⟩ := hp1
  have hFr := hFr.tr (hF1.mono (fun _ _ h => h))
  have hFj := hFj.tr (hJ1.mono (fun _ _ h => h))
  refine rn_ifb_ne (tgt := 9) hE dX4_toldHere_4 (by decide) (fun c4 => ?_) (fun c4 => ?_)
  · have hf := of_decide_eq_true c4
    have hV := hV.fr hF1 hJ1 (by simp only [pZ]; omega) (fun v => by simp only [qZ]; omega)
    refine lv_aload_n hE.1 hE.2.1 dX4_toldHere_9 rfl (lv_at hl 1 rfl) ?_
    refine lv_aload_n hE.1 hE.2.1 dX4_toldHere_10 rfl (lv_at hl 0 rfl) ?_
    refine rg_getr hE hH cf_X4 fl_X4_12 rfl (hX.1.1) (hX.1.2) (v := 103) (hX.2.2.2.2.2.2.1) dX4_toldHere_11 ?_
    refine rg_getj hE hH cf_X2 fl_X4_99 rfl (hX.2.1.1) (hX.2.1.2) (v := enc (wd B t)) (hR.wf hf) dX4_toldHere_14 ?_
    refine rg_VI (As := [.long (enc (wd B t))]) (rest := []) hE hml hH mc_X4_114 (c_Co_ix l z G iv1 jv1 c hC vs hV (wd B t) (wOK_wd hR.tv hf)) (hC.1.1) (hC.1.2) (by decide) rfl ⟨Nat.le_of_ble_eq_true rfl, Nat.le_of_ble_eq_true rfl⟩ rfl hl.1 (by simp [Value.category]) dX4_toldHere_17 ⟨Nat.le_of_ble_eq_true rfl, Nat.le_of_ble_eq_true rfl⟩ (fun r17 G17 iv17 jv17 H locs hp17 hH => ?_)
    obtain ⟨rfl, rfl, rfl, rfl⟩ := hp17
    refine lv_istore_n (lv' := [(2, .int (oI (ixW vs (wd B t)))), (0, .ref (G.ad 102)), (1, .ref (G.ad c))]) hE.1 hE.2.1 dX4_toldHere_20 rfl hl (by decide) rfl (fun ls hl => ?_)
    refine lv_iload_n hE.1 hE.2.1 dX4_toldHere_21 rfl (lv_at hl 0 rfl) ?_
    refine lv_iconst (v := -1) hE.1 hE.2.1 dX4_toldHere_22 (by decide) ?_
    refine lv_icmp_ne (tgt := 31) hE.1 hE.2.1 dX4_toldHere_23 (by decide) (fun c23 => ?_) (fun c23 => ?_)
    · obtain ⟨v, hv⟩ := oI_som c23
      refine lv_iload_n hE.1 hE.2.1 dX4_toldHere_31 rfl (lv_at hl 0 rfl) ?_
      exact rg_iret hE hr rfl hlk hH ⟨rfl, by rw [tH_s hf hv, hv], hR, fun h => absurd (by rw [tH_s hf hv]) h, hFr, hFj⟩ dX4_toldHere_32
    · rw [oI_m1 (fun k hk => by have := (ixW_lt hk).1; have := hV.2.1; omega)] at c23
      refine lv_aload_n hE.1 hE.2.1 dX4_toldHere_26 rfl (lv_at hl 1 rfl) ?_
      refine lv_iconst (v := nI 3) hE.1 hE.2.1 dX4_toldHere_27 (by decide) ?_
      refine rg_puti hE hH cf_X4 fl_X4_18 rfl fn_X4_1 (hX.1.1) (hX.1.2) (v := nI 3) dX4_toldHere_28 (fun H locs hH => ?_)
      have hR : LR (up2 iv1 102 1 (nI 3)) jv1 B n t := hR.up (by decide) (by decide) (by decide)
      have hFr : Fr iv (up2 iv1 102 1 (nI 3)) pZ := Fr.up hFr (Or.inl ⟨rfl, rfl⟩)
      refine lv_iload_n hE.1 hE.2.1 dX4_toldHere_31 rfl (lv_at hl 0 rfl) ?_
      exact rg_iret hE hr rfl hlk hH ⟨rfl, by rw [tH_n hf c23, c23], hR, fun _ => by rw [tH_n hf c23]; rfl, hFr, hFj⟩ dX4_toldHere_32
  · have hf := of_decide_eq_false c4
    refine lv_iconst (v := -1) hE.1 hE.2.1 dX4_toldHere_7 (by decide) ?_
    exact rg_iret hE hr rfl hlk hH ⟨rfl, by rw [tH_f hf]; rfl, hR, fun _ => by rw [tH_f hf]; exact hfd1 hf, hFr, hFj⟩ dX4_toldHere_8
