set_option maxRecDepth 100000 in
set_option maxHeartbeats 4000000 in
theorem c_Pa_vals (l : Launch) (z : ZK) (G : GW) (hX : isPx G) (iv : IV) (jv : JV) (B : Nat → Nat) (n : Nat) (t : Tok) (hR : LR iv jv B n t) (c : Nat) (hC : isCo G c) (hc : 1000 ≤ c) (hV : CV iv jv c []) (a : Nat) (ha : a ≤ 400) : cI l z yX4_readValues cX4_readValues 4 (some .boolean) 2 44 0 0 [.ref (G.ad 102), .ref (G.ad c), .int (nI a)] G iv jv (fun r G' iv' jv' => G = G' ∧ r = bI (decide ((rdVals B n a 8 [] t).1 = 0)) ∧ LR iv' jv' B n (rdVals B n a 8 [] t).2.2 ∧ ((rdVals B n a 8 [] t).1 ≠ 0 → iv' 102 1 = nI (rdVals B n a 8 [] t).1) ∧ ((rdVals B n a 8 [] t).1 = 0 → CV iv' jv' c (rdVals B n a 8 [] t).2.1) ∧ Fr iv iv' (pCo c) ∧ FrJ jv jv' (qCv c)) := by
  intro sz
  refine rg_entry rfl (Nat.le_of_ble_eq_true rfl) ?_
  intro pq eq sq mq bq methq cq ls hE hr hlk hml hnm hl hsz hH
  have hl : lv_has ls 4 [(0, .ref (G.ad 102)), (1, .ref (G.ad c)), (2, .int (nI a))] := hl
  refine lv_iconst (v := nI 0) hE.1 hE.2.1 dX4_readValues_0 (by decide) ?_
  refine lv_istore_n (lv' := [(3, .int (nI 0)), (0, .ref (G.ad 102)), (1, .ref (G.ad c)), (2, .int (nI a))]) hE.1 hE.2.1 dX4_readValues_1 rfl hl (by decide) rfl (fun ls hl => ?_)
  refine rg_loop (σ := IV × JV × List Wd × Tok) (nL := 4) (fun (u : IV × JV × List Wd × Tok) => match u with | (iv2, jv2, acc, t5) => 8 - acc.length) (fun (u : IV × JV × List Wd × Tok) => match u with | (iv2, jv2, acc, t5) => [(0, .ref (G.ad 102)), (1, .ref (G.ad c)), (2, .int (nI a)), (3, .int (nI acc.length))]) (fun (u : IV × JV × List Wd × Tok) => match u with | (iv2, jv2, acc, t5) => G) (fun (u : IV × JV × List Wd × Tok) => match u with | (iv2, jv2, acc, t5) => iv2) (fun (u : IV × JV × List Wd × Tok) => match u with | (iv2, jv2, acc, t5) => jv2) (fun (u : IV × JV × List Wd × Tok) => match u with | (iv2, jv2, acc, t5) => acc.length ≤ 6 ∧ LR iv2 jv2 B n t5 ∧ CV iv2 jv2 c acc ∧ rdVals B n a (8 - acc.length) acc t5 = rdVals B n a 8 [] t ∧ Fr iv iv2 (pCo c) ∧ FrJ jv jv2 (qCv c)) ?_ ((iv, jv, [], t)) ⟨Nat.zero_le _, hR, hV, rfl, Fr.rf, FrJ.rf⟩ (lv_sub hl [1, 2, 3, 0] rfl) hH
  rintro ⟨iv2, jv2, acc, t5⟩ H locs ls ⟨hk6, hR, hV, hrv, hFr, hFj⟩ hl hH ih2
  try dsimp only at hl hH ih2
  try dsimp only at hk6 hR hV hrv hFr hFj
  rw [rdVals_ad hk6] at hrv
  refine lv_iload_n hE.1 hE.2.1 dX4_readValues_2 rfl (lv_at hl 3 rfl) ?_
  refine lv_bipush (v := nI 6) hE.1 hE.2.1 dX4_readValues_3 (by decide) ?_
  refine rn_icmp_gt (tgt := 111) hE dX4_readValues_5 (by decide) (by omega) (by omega) (fun c5 => ?_) (fun c5 => ?_)
  · omega
  · refine lv_iload_n hE.1 hE.2.1 dX4_readValues_8 rfl (lv_at hl 3 rfl) ?_
    refine lv_iconst (v := nI 2) hE.1 hE.2.1 dX4_readValues_9 (by decide) ?_
    refine rn_icmp_lt (tgt := 34) hE dX4_readValues_10 (by decide) (by omega) (by omega) (fun c10 => ?_) (fun c10 => ?_)
    · rw [if_neg (by omega)] at hrv
      refine lv_aload_n hE.1 hE.2.1 dX4_readValues_34 rfl (lv_at hl 0 rfl) ?_
      refine rg_VI (As := []) (rest := []) hE hml hH mc_X4_95 (c_Pa_word l z G hX iv2 jv2 B n t5 hR) (hX.1.1) (hX.1.2) (by decide) rfl ⟨Nat.le_of_ble_eq_true rfl, Nat.le_of_ble_eq_true rfl⟩ rfl hl.1 (by simp [Value.category]) dX4_readValues_35 ⟨Nat.le_of_ble_eq_true rfl, Nat.le_of_ble_eq_true rfl⟩ (fun r35 G35 iv35 jv35 H locs hp35 hH => ?_)
      obtain ⟨rfl, rfl, hR, hfd35, hF35, hJ35⟩ := hp35
      have hFr := hFr.tr (hF35.mono (fun _ _ h => Or.inl h))
      have hFj := hFj.tr (hJ35.mono (fun _ _ h => Or.inl h))
      refine rn_ifb_ne (tgt := 43) hE dX4_readValues_38 (by decide) (fun c38 => ?_) (fun c38 => ?_)
      · have hf := of_decide_eq_true c38
        rw [if_neg (by simp [hf])] at hrv
        have hV := hV.fr hF35 hJ35 (by simp only [pZ]; omega) (fun v => by simp only [qZ]; omega)
        refine lv_iload_n hE.1 hE.2.1 dX4_readValues_43 rfl (lv_at hl 3 rfl) ?_
        refine lv_bipush (v := nI 6) hE.1 hE.2.1 dX4_readValues_44 (by decide) ?_
        refine rn_icmp_ge (tgt := 60) hE dX4_readValues_46 (by decide) (by omega) (by omega) (fun c46 => ?_) (fun c46 => ?_)
        · rw [if_pos (Or.inl (by omega))] at hrv
          refine lv_aload_n hE.1 hE.2.1 dX4_readValues_60 rfl (lv_at hl 0 rfl) ?_
          refine lv_iconst (v := nI 2) hE.1 hE.2.1 dX4_readValues_61 (by decide) ?_
          refine rg_VI (As := [.int (nI 2)]) (rest := []) hE hml hH mc_X4_62 (c_Pa_refuse l z G hX iv35 jv35 2) (hX.1.1) (hX.1.2) (by decide) rfl ⟨Nat.le_of_ble_eq_true rfl, Nat.le_of_ble_eq_true rfl⟩ rfl hl.1 (by simp [Value.category]) dX4_readValues_62 ⟨Nat.le_of_ble_eq_true rfl, Nat.le_of_ble_eq_true rfl⟩ (fun r62 G62 iv62 jv62 H locs hp62 hH => ?_)
          obtain ⟨rfl, hiv62, rfl, rfl⟩ := hp62
          have hF62 : Fr iv35 iv62 pZ := by rw [hiv62]; exact Fr.up Fr.rf (Or.inl ⟨rfl, rfl⟩)
          have hFr := hFr.tr (hF62.mono (fun _ _ h => Or.inl h))
          have hR : LR iv62 jv35 B n t5 := by rw [hiv62]; exact hR.up (by decide) (by decide) (by decide)
          have hfd : iv62 102 1 = nI 2 := by rw [hiv62]; rfl
          exact rg_iret hE hr (nz_0) hlk hH ⟨rfl, zero_bI (by rw [← hrv]; exact decide_eq_false (by simp)), by rw [← hrv]; exact hR, fun _ => by rw [← hrv]; exact hfd, fun h => absurd (by rw [← hrv] at h; exact h) (by simp), hFr, hFj⟩ dX4_readValues_65
        · refine lv_iload_n hE.1 hE.2.1 dX4_readValues_49 rfl (lv_at hl 3 rfl) ?_
          refine lv_iconst (v := nI 1) hE.1 hE.2.1 dX4_readValues_50 (by decide) ?_
          refine rn_iadd hE dX4_readValues_51 ?_
          refine lv_iload_n hE.1 hE.2.1 dX4_readValues_52 rfl (lv_at hl 2 rfl) ?_
          refine rn_imul hE dX4_readValues_53 ?_
          refine lv_sipush (v := nI 400) hE.1 hE.2.1 dX4_readValues_54 (by decide) ?_
          refine rn_icmp_le (tgt := 66) hE dX4_readValues_57 (by decide) (by have := Nat.mul_le_mul (show acc.length + 1 ≤ 7 by omega) ha; omega) (by have := Nat.mul_le_mul (show acc.length + 1 ≤ 7 by omega) ha; omega) (fun c57 => ?_) (fun c57 => ?_)
          · rw [if_neg (fun h => by rw [Nat.mul_comm] at h; omega)] at hrv
            refine lv_aload_n hE.1 hE.2.1 dX4_readValues_66 rfl (lv_at hl 1 rfl) ?_
            refine lv_aload_n hE.1 hE.2.1 dX4_readValues_67 rfl (lv_at hl 0 rfl) ?_
            refine rg_getr hE hH cf_X4 fl_X4_12 rfl (hX.1.1) (hX.1.2) (v := 103) (hX.2.2.2.2.2.2.1) dX4_readValues_68 ?_
            refine rg_getj hE hH cf_X2 fl_X4_99 rfl (hX.2.1.1) (hX.2.1.2) (v := enc (wd B t5)) (hR.wf hf) dX4_readValues_71 ?_
            refine rg_VI (As := [.long (enc (wd B t5))]) (rest := []) hE hml hH mc_X4_114 (c_Co_ix l z G iv35 jv35 c hC acc hV (wd B t5) (wOK_wd hR.tv hf)) (hC.1.1) (hC.1.2) (by decide) rfl ⟨Nat.le_of_ble_eq_true rfl, Nat.le_of_ble_eq_true rfl⟩ rfl hl.1 (by simp [Value.category]) dX4_readValues_74 ⟨Nat.le_of_ble_eq_true rfl, Nat.le_of_ble_eq_true rfl⟩ (fun r74 G74 iv74 jv74 H locs hp74 hH => ?_)
            obtain ⟨rfl, rfl, rfl, rfl⟩ := hp74
            refine lv_iconst (v := -1) hE.1 hE.2.1 dX4_readValues_77 (by decide) ?_
            refine lv_icmp_eq (tgt := 87) hE.1 hE.2.1 dX4_readValues_78 (by decide) (fun c78 => ?_) (fun c78 => ?_)
            · rw [oI_m1 (fun k hk => by have := (ixW_lt hk).1; omega), ixW_eq_none] at c78
              rw [if_neg c78] at hrv
              refine lv_aload_n hE.1 hE.2.1 dX4_readValues_87 rfl (lv_at hl 1 rfl) ?_
              refine lv_aload_n hE.1 hE.2.1 dX4_readValues_88 rfl (lv_at hl 0 rfl) ?_
              refine rg_getr hE hH cf_X4 fl_X4_12 rfl (hX.1.1) (hX.1.2) (v := 103) (hX.2.2.2.2.2.2.1) dX4_readValues_89 ?_
              refine rg_getj hE hH cf_X2 fl_X4_99 rfl (hX.2.1.1) (hX.2.1.2) (v := enc (wd B t5)) (hR.wf hf) dX4_readValues_92 ?_
              refine rg_VV (As := [.long (enc (wd B t5))]) (rest := []) hE hml hH mc_X4_117 (c_Co_add l z G iv35 jv35 c hC acc hV (by omega) (wd B t5) (wOK_wd hR.tv hf)) (hC.1.1) (hC.1.2) (by decide) rfl ⟨Nat.le_of_ble_eq_true rfl, Nat.le_of_ble_eq_true rfl⟩ rfl hl.1 (by simp [Value.category]) dX4_readValues_95 ⟨Nat.le_of_ble_eq_true rfl, Nat.le_of_ble_eq_true rfl⟩ (fun G95 iv95 jv95 H locs hp95 hH => ?_)
              obtain ⟨rfl, hV2, hF95, hJ95⟩ := hp95
              have hR := hR.fr hF95 hJ95 (fun j => by omega) (fun j => by omega) (fun j => by omega) (fun j => by omega) (by omega)
              have hFr := hFr.tr (hF95.mono (fun lb j h => Or.inr h))
              have hFj := hFj.tr (hJ95.mono (fun lb j h => Or.inr h))
              refine lv_aload_n hE.1 hE.2.1 dX4_readValues_98 rfl (lv_at hl 0 rfl) ?_
              refine rg_getr hE hH cf_X4 fl_X4_12 rfl (hX.1.1) (hX.1.2) (v := 103) (hX.2.2.2.2.2.2.1) dX4_readValues_99 ?_
              refine rg_VV (As := []) (rest := []) hE hml hH mc_X4_66 (c_Lx_next l z G hX iv95 jv95 B n t5 hR (fr_ne hf)) (hX.2.1.1) (hX.2.1.2) (by decide) rfl ⟨Nat.le_of_ble_eq_true rfl, Nat.le_of_ble_eq_true rfl⟩ rfl hl.1 (by simp [Value.category]) dX4_readValues_102 ⟨Nat.le_of_ble_eq_true rfl, Nat.le_of_ble_eq_true rfl⟩ (fun G102 iv102 jv102 H locs hp102 hH => ?_)
              obtain ⟨rfl, hR, hF102, hJ102⟩ := hp102
              have hJ102 : FrJ jv95 jv102 qZ := hJ102
              have hF102 : Fr iv95 iv102 pZ := hF102.mono (fun _ _ h => Or.inr h)
              have hFr := hFr.tr (hF102.mono (fun _ _ h => Or.inl h))
              have hFj := hFj.tr (hJ102.mono (fun _ _ h => Or.inl h))
              have hV2 := hV2.fr hF102 hJ102 (by simp only [pZ]; omega) (fun v => by simp only [qZ]; omega)
              refine lv_iinc (v := nI (acc.length + 1)) (lv' := [(3, .int (nI (acc.length + 1))), (0, .ref (G.ad 102)), (1, .ref (G.ad c)), (2, .int (nI a))]) hE.1 hE.2.1 dX4_readValues_105 hl (k := 3) rfl (nI_1 _) (by decide) rfl (fun ls hl => ?_)
              have hl : lv_has ls 4 [(3, .int (nI ((acc ++ [wd B t5]).length))), (0, .ref (G.ad 102)), (1, .ref (G.ad c)), (2, .int (nI a))] := by rw [List.length_append]; exact hl
              refine lv_goto (tgt := 2) hE.1 hE.2.1 dX4_readValues_108 (by decide) ?_
              exact ih2 (iv102, jv102, acc ++ [wd B t5], nx B n t5) _ _ _ (show 8 - (acc ++ [wd B t5]).length < 8 - acc.length by rw [List.length_append, List.length_singleton]; omega) ⟨by rw [List.length_append, List.length_singleton]; omega, hR, hV2, hrv, hFr, hFj⟩ (lv_sub hl [1, 2, 3, 0] rfl) hH
            · rw [oI_m1 (fun k hk => by have := (ixW_lt hk).1; omega), ixW_eq_none, Classical.not_not] at c78
              rw [if_pos c78] at hrv
              refine lv_aload_n hE.1 hE.2.1 dX4_readValues_81 rfl (lv_at hl 0 rfl) ?_
              refine lv_iconst (v := nI 4) hE.1 hE.2.1 dX4_readValues_82 (by decide) ?_
              refine rg_VI (As := [.int (nI 4)]) (rest := []) hE hml hH mc_X4_62 (c_Pa_refuse l z G hX iv35 jv35 4) (hX.1.1) (hX.1.2) (by decide) rfl ⟨Nat.le_of_ble_eq_true rfl, Nat.le_of_ble_eq_true rfl⟩ rfl hl.1 (by simp [Value.category]) dX4_readValues_83 ⟨Nat.le_of_ble_eq_true rfl, Nat.le_of_ble_eq_true rfl⟩ (fun r83 G83 iv83 jv83 H locs hp83 hH => ?_)
              obtain ⟨rfl, hiv83, rfl, rfl⟩ := hp83
              have hF83 : Fr iv35 iv83 pZ := by rw [hiv83]; exact Fr.up Fr.rf (Or.inl ⟨rfl, rfl⟩)
              have hFr := hFr.tr (hF83.mono (fun _ _ h => Or.inl h))
              have hR : LR iv83 jv35 B n t5 := by rw [hiv83]; exact hR.up (by decide) (by decide) (by decide)
              have hfd : iv83 102 1 = nI 4 := by rw [hiv83]; rfl
              exact rg_iret hE hr (nz_0) hlk hH ⟨rfl, zero_bI (by rw [← hrv]; exact decide_eq_false (by simp)), by rw [← hrv]; exact hR, fun _ => by rw [← hrv]; exact hfd, fun h => absurd (by rw [← hrv] at h; exact h) (by simp), hFr, hFj⟩ dX4_readValues_86
          · rw [if_pos (Or.inr (by rw [Nat.mul_comm]; omega))] at hrv
            refine lv_aload_n hE.1 hE.2.1 dX4_readValues_60 rfl (lv_at hl 0 rfl) ?_
            refine lv_iconst (v := nI 2) hE.1 hE.2.1 dX4_readValues_61 (by decide) ?_
            refine rg_VI (As := [.int (nI 2)]) (rest := []) hE hml hH mc_X4_62 (c_Pa_refuse l z G hX iv35 jv35 2) (hX.1.1) (hX.1.2) (by decide) rfl ⟨Nat.le_of_ble_eq_true rfl, Nat.le_of_ble_eq_true rfl⟩ rfl hl.1 (by simp [Value.category]) dX4_readValues_62 ⟨Nat.le_of_ble_eq_true rfl, Nat.le_of_ble_eq_true rfl⟩ (fun r62 G62 iv62 jv62 H locs hp62 hH => ?_)
            obtain ⟨rfl, hiv62, rfl, rfl⟩ := hp62
            have hF62 : Fr iv35 iv62 pZ := by rw [hiv62]; exact Fr.up Fr.rf (Or.inl ⟨rfl, rfl⟩)
            have hFr := hFr.tr (hF62.mono (fun _ _ h => Or.inl h))
            have hR : LR iv62 jv35 B n t5 := by rw [hiv62]; exact hR.up (by decide) (by decide) (by decide)
            have hfd : iv62 102 1 = nI 2 := by rw [hiv62]; rfl
            exact rg_iret hE hr (nz_0) hlk hH ⟨rfl, zero_bI (by rw [← hrv]; exact decide_eq_false (by simp)), by rw [← hrv]; exact hR, fun _ => by rw [← hrv]; exact hfd, fun h => absurd (by rw [← hrv] at h; exact h) (by simp), hFr, hFj⟩ dX4_readValues_65
      · have hf := of_decide_eq_false c38
        rw [if_pos hf] at hrv
        refine lv_iconst (v := nI 0) hE.1 hE.2.1 dX4_readValues_41 (by decide) ?_
        exact rg_iret hE hr (nz_0) hlk hH ⟨rfl, zero_bI (by rw [← hrv]; exact decide_eq_false hf), by rw [← hrv]; exact hR, fun _ => by rw [← hrv]; exact hfd35 hf, fun h => absurd (by rw [← hrv] at h; exact h) hf, hFr, hFj⟩ dX4_readValues_42
    · refine lv_aload_n hE.1 hE.2.1 dX4_readValues_13 rfl (lv_at hl 0 rfl) ?_
      refine rg_getr hE hH cf_X4 fl_X4_12 rfl (hX.1.1) (hX.1.2) (v := 103) (hX.2.2.2.2.2.2.1) dX4_readValues_14 ?_
      refine rg_geti hE hH cf_X2 fl_X4_59 rfl (hX.2.1.1) (hX.2.1.2) (v := nI (kdT B t5)) (hR.kd) dX4_readValues_17 ?_
      refine lv_bipush (v := nI 11) hE.1 hE.2.1 dX4_readValues_20 (by decide) ?_
      refine rn_icmp_ne (tgt := 34) hE dX4_readValues_22 (by decide) (by have := hR.k16; omega) (by have := hR.k16; omega) (fun c22 => ?_) (fun c22 => ?_)
      · rw [if_neg (fun h => c22 ((kd_sg hR.tv (by decide)).mpr h.2))] at hrv
        refine lv_aload_n hE.1 hE.2.1 dX4_readValues_34 rfl (lv_at hl 0 rfl) ?_
        refine rg_VI (As := []) (rest := []) hE hml hH mc_X4_95 (c_Pa_word l z G hX iv2 jv2 B n t5 hR) (hX.1.1) (hX.1.2) (by decide) rfl ⟨Nat.le_of_ble_eq_true rfl, Nat.le_of_ble_eq_true rfl⟩ rfl hl.1 (by simp [Value.category]) dX4_readValues_35 ⟨Nat.le_of_ble_eq_true rfl, Nat.le_of_ble_eq_true rfl⟩ (fun r35 G35 iv35 jv35 H locs hp35 hH => ?_)
        obtain ⟨rfl, rfl, hR, hfd35, hF35, hJ35⟩ := hp35
        have hFr := hFr.tr (hF35.mono (fun _ _ h => Or.inl h))
        have hFj := hFj.tr (hJ35.mono (fun _ _ h => Or.inl h))
        refine rn_ifb_ne (tgt := 43) hE dX4_readValues_38 (by decide) (fun c38 => ?_) (fun c38 => ?_)
        · have hf := of_decide_eq_true c38
          rw [if_neg (by simp [hf])] at hrv
          have hV := hV.fr hF35 hJ35 (by simp only [pZ]; omega) (fun v => by simp only [qZ]; omega)
          refine lv_iload_n hE.1 hE.2.1 dX4_readValues_43 rfl (lv_at hl 3 rfl) ?_
          refine lv_bipush (v := nI 6) hE.1 hE.2.1 dX4_readValues_44 (by decide) ?_
          refine rn_icmp_ge (tgt := 60) hE dX4_readValues_46 (by decide) (by omega) (by omega) (fun c46 => ?_) (fun c46 => ?_)
          · rw [if_pos (Or.inl (by omega))] at hrv
            refine lv_aload_n hE.1 hE.2.1 dX4_readValues_60 rfl (lv_at hl 0 rfl) ?_
            refine lv_iconst (v := nI 2) hE.1 hE.2.1 dX4_readValues_61 (by decide) ?_
            refine rg_VI (As := [.int (nI 2)]) (rest := []) hE hml hH mc_X4_62 (c_Pa_refuse l z G hX iv35 jv35 2) (hX.1.1) (hX.1.2) (by decide) rfl ⟨Nat.le_of_ble_eq_true rfl, Nat.le_of_ble_eq_true rfl⟩ rfl hl.1 (by simp [Value.category]) dX4_readValues_62 ⟨Nat.le_of_ble_eq_true rfl, Nat.le_of_ble_eq_true rfl⟩ (fun r62 G62 iv62 jv62 H locs hp62 hH => ?_)
            obtain ⟨rfl, hiv62, rfl, rfl⟩ := hp62
            have hF62 : Fr iv35 iv62 pZ := by rw [hiv62]; exact Fr.up Fr.rf (Or.inl ⟨rfl, rfl⟩)
            have hFr := hFr.tr (hF62.mono (fun _ _ h => Or.inl h))
            have hR : LR iv62 jv35 B n t5 := by rw [hiv62]; exact hR.up (by decide) (by decide) (by decide)
            have hfd : iv62 102 1 = nI 2 := by rw [hiv62]; rfl
            exact rg_iret hE hr (nz_0) hlk hH ⟨rfl, zero_bI (by rw [← hrv]; exact decide_eq_false (by simp)), by rw [← hrv]; exact hR, fun _ => by rw [← hrv]; exact hfd, fun h => absurd (by rw [← hrv] at h; exact h) (by simp), hFr, hFj⟩ dX4_readValues_65
          · refine lv_iload_n hE.1 hE.2.1 dX4_readValues_49 rfl (lv_at hl 3 rfl) ?_
            refine lv_iconst (v := nI 1) hE.1 hE.2.1 dX4_readValues_50 (by decide) ?_
            refine rn_iadd hE dX4_readValues_51 ?_
            refine lv_iload_n hE.1 hE.2.1 dX4_readValues_52 rfl (lv_at hl 2 rfl) ?_
            refine rn_imul hE dX4_readValues_53 ?_
            refine lv_sipush (v := nI 400) hE.1 hE.2.1 dX4_readValues_54 (by decide) ?_
            refine rn_icmp_le (tgt := 66) hE dX4_readValues_57 (by decide) (by have := Nat.mul_le_mul (show acc.length + 1 ≤ 7 by omega) ha; omega) (by have := Nat.mul_le_mul (show acc.length + 1 ≤ 7 by omega) ha; omega) (fun c57 => ?_) (fun c57 => ?_)
            · rw [if_neg (fun h => by rw [Nat.mul_comm] at h; omega)] at hrv
              refine lv_aload_n hE.1 hE.2.1 dX4_readValues_66 rfl (lv_at hl 1 rfl) ?_
              refine lv_aload_n hE.1 hE.2.1 dX4_readValues_67 rfl (lv_at hl 0 rfl) ?_
              refine rg_getr hE hH cf_X4 fl_X4_12 rfl (hX.1.1) (hX.1.2) (v := 103) (hX.2.2.2.2.2.2.1) dX4_readValues_68 ?_
              refine rg_getj hE hH cf_X2 fl_X4_99 rfl (hX.2.1.1) (hX.2.1.2) (v := enc (wd B t5)) (hR.wf hf) dX4_readValues_71 ?_
              refine rg_VI (As := [.long (enc (wd B t5))]) (rest := []) hE hml hH mc_X4_114 (c_Co_ix l z G iv35 jv35 c hC acc hV (wd B t5) (wOK_wd hR.tv hf)) (hC.1.1) (hC.1.2) (by decide) rfl ⟨Nat.le_of_ble_eq_true rfl, Nat.le_of_ble_eq_true rfl⟩ rfl hl.1 (by simp [Value.category]) dX4_readValues_74 ⟨Nat.le_of_ble_eq_true rfl, Nat.le_of_ble_eq_true rfl⟩ (fun r74 G74 iv74 jv74 H locs hp74 hH => ?_)
              obtain ⟨rfl, rfl, rfl, rfl⟩ := hp74
              refine lv_iconst (v := -1) hE.1 hE.2.1 dX4_readValues_77 (by decide) ?_
              refine lv_icmp_eq (tgt := 87) hE.1 hE.2.1 dX4_readValues_78 (by decide) (fun c78 => ?_) (fun c78 => ?_)
              · rw [oI_m1 (fun k hk => by have := (ixW_lt hk).1; omega), ixW_eq_none] at c78
                rw [if_neg c78] at hrv
                refine lv_aload_n hE.1 hE.2.1 dX4_readValues_87 rfl (lv_at hl 1 rfl) ?_
                refine lv_aload_n hE.1 hE.2.1 dX4_readValues_88 rfl (lv_at hl 0 rfl) ?_
                refine rg_getr hE hH cf_X4 fl_X4_12 rfl (hX.1.1) (hX.1.2) (v := 103) (hX.2.2.2.2.2.2.1) dX4_readValues_89 ?_
                refine rg_getj hE hH cf_X2 fl_X4_99 rfl (hX.2.1.1) (hX.2.1.2) (v := enc (wd B t5)) (hR.wf hf) dX4_readValues_92 ?_
                refine rg_VV (As := [.long (enc (wd B t5))]) (rest := []) hE hml hH mc_X4_117 (c_Co_add l z G iv35 jv35 c hC acc hV (by omega) (wd B t5) (wOK_wd hR.tv hf)) (hC.1.1) (hC.1.2) (by decide) rfl ⟨Nat.le_of_ble_eq_true rfl, Nat.le_of_ble_eq_true rfl⟩ rfl hl.1 (by simp [Value.category]) dX4_readValues_95 ⟨Nat.le_of_ble_eq_true rfl, Nat.le_of_ble_eq_true rfl⟩ (fun G95 iv95 jv95 H locs hp95 hH => ?_)
                obtain ⟨rfl, hV2, hF95, hJ95⟩ := hp95
                have hR := hR.fr hF95 hJ95 (fun j => by omega) (fun j => by omega) (fun j => by omega) (fun j => by omega) (by omega)
                have hFr := hFr.tr (hF95.mono (fun lb j h => Or.inr h))
                have hFj := hFj.tr (hJ95.mono (fun lb j h => Or.inr h))
                refine lv_aload_n hE.1 hE.2.1 dX4_readValues_98 rfl (lv_at hl 0 rfl) ?_
                refine rg_getr hE hH cf_X4 fl_X4_12 rfl (hX.1.1) (hX.1.2) (v := 103) (hX.2.2.2.2.2.2.1) dX4_readValues_99 ?_
                refine rg_VV (As := []) (rest := []) hE hml hH mc_X4_66 (c_Lx_next l z G hX iv95 jv95 B n t5 hR (fr_ne hf)) (hX.2.1.1) (hX.2.1.2) (by decide) rfl ⟨Nat.le_of_ble_eq_true rfl, Nat.le_of_ble_eq_true rfl⟩ rfl hl.1 (by simp [Value.category]) dX4_readValues_102 ⟨Nat.le_of_ble_eq_true rfl, Nat.le_of_ble_eq_true rfl⟩ (fun G102 iv102 jv102 H locs hp102 hH => ?_)
                obtain ⟨rfl, hR, hF102, hJ102⟩ := hp102
                have hJ102 : FrJ jv95 jv102 qZ := hJ102
                have hF102 : Fr iv95 iv102 pZ := hF102.mono (fun _ _ h => Or.inr h)
                have hFr := hFr.tr (hF102.mono (fun _ _ h => Or.inl h))
                have hFj := hFj.tr (hJ102.mono (fun _ _ h => Or.inl h))
                have hV2 := hV2.fr hF102 hJ102 (by simp only [pZ]; omega) (fun v => by simp only [qZ]; omega)
                refine lv_iinc (v := nI (acc.length + 1)) (lv' := [(3, .int (nI (acc.length + 1))), (0, .ref (G.ad 102)), (1, .ref (G.ad c)), (2, .int (nI a))]) hE.1 hE.2.1 dX4_readValues_105 hl (k := 3) rfl (nI_1 _) (by decide) rfl (fun ls hl => ?_)
                have hl : lv_has ls 4 [(3, .int (nI ((acc ++ [wd B t5]).length))), (0, .ref (G.ad 102)), (1, .ref (G.ad c)), (2, .int (nI a))] := by rw [List.length_append]; exact hl
                refine lv_goto (tgt := 2) hE.1 hE.2.1 dX4_readValues_108 (by decide) ?_
                exact ih2 (iv102, jv102, acc ++ [wd B t5], nx B n t5) _ _ _ (show 8 - (acc ++ [wd B t5]).length < 8 - acc.length by rw [List.length_append, List.length_singleton]; omega) ⟨by rw [List.length_append, List.length_singleton]; omega, hR, hV2, hrv, hFr, hFj⟩ (lv_sub hl [1, 2, 3, 0] rfl) hH
              · rw [oI_m1 (fun k hk => by have := (ixW_lt hk).1; omega), ixW_eq_none, Classical.not_not] at c78
                rw [if_pos c78] at hrv
                refine lv_aload_n hE.1 hE.2.1 dX4_readValues_81 rfl (lv_at hl 0 rfl) ?_
                refine lv_iconst (v := nI 4) hE.1 hE.2.1 dX4_readValues_82 (by decide) ?_
                refine rg_VI (As := [.int (nI 4)]) (rest := []) hE hml hH mc_X4_62 (c_Pa_refuse l z G hX iv35 jv35 4) (hX.1.1) (hX.1.2) (by decide) rfl ⟨Nat.le_of_ble_eq_true rfl, Nat.le_of_ble_eq_true rfl⟩ rfl hl.1 (by simp [Value.category]) dX4_readValues_83 ⟨Nat.le_of_ble_eq_true rfl, Nat.le_of_ble_eq_true rfl⟩ (fun r83 G83 iv83 jv83 H locs hp83 hH => ?_)
                obtain ⟨rfl, hiv83, rfl, rfl⟩ := hp83
                have hF83 : Fr iv35 iv83 pZ := by rw [hiv83]; exact Fr.up Fr.rf (Or.inl ⟨rfl, rfl⟩)
                have hFr := hFr.tr (hF83.mono (fun _ _ h => Or.inl h))
                have hR : LR iv83 jv35 B n t5 := by rw [hiv83]; exact hR.up (by decide) (by decide) (by decide)
                have hfd : iv83 102 1 = nI 4 := by rw [hiv83]; rfl
                exact rg_iret hE hr (nz_0) hlk hH ⟨rfl, zero_bI (by rw [← hrv]; exact decide_eq_false (by simp)), by rw [← hrv]; exact hR, fun _ => by rw [← hrv]; exact hfd, fun h => absurd (by rw [← hrv] at h; exact h) (by simp), hFr, hFj⟩ dX4_readValues_86
            · rw [if_pos (Or.inr (by rw [Nat.mul_comm]; omega))] at hrv
              refine lv_aload_n hE.1 hE.2.1 dX4_readValues_60 rfl (lv_at hl 0 rfl) ?_
              refine lv_iconst (v := nI 2) hE.1 hE.2.1 dX4_readValues_61 (by decide) ?_
              refine rg_VI (As := [.int (nI 2)]) (rest := []) hE hml hH mc_X4_62 (c_Pa_refuse l z G hX iv35 jv35 2) (hX.1.1) (hX.1.2) (by decide) rfl ⟨Nat.le_of_ble_eq_true rfl, Nat.le_of_ble_eq_true rfl⟩ rfl hl.1 (by simp [Value.category]) dX4_readValues_62 ⟨Nat.le_of_ble_eq_true rfl, Nat.le_of_ble_eq_true rfl⟩ (fun r62 G62 iv62 jv62 H locs hp62 hH => ?_)
              obtain ⟨rfl, hiv62, rfl, rfl⟩ := hp62
              have hF62 : Fr iv35 iv62 pZ := by rw [hiv62]; exact Fr.up Fr.rf (Or.inl ⟨rfl, rfl⟩)
              have hFr := hFr.tr (hF62.mono (fun _ _ h => Or.inl h))
              have hR : LR iv62 jv35 B n t5 := by rw [hiv62]; exact hR.up (by decide) (by decide) (by decide)
              have hfd : iv62 102 1 = nI 2 := by rw [hiv62]; rfl
              exact rg_iret hE hr (nz_0) hlk hH ⟨rfl, zero_bI (by rw [← hrv]; exact decide_eq_false (by simp)), by rw [← hrv]; exact hR, fun _ => by rw [← hrv]; exact hfd, fun h => absurd (by rw [← hrv] at h; exact h) (by simp), hFr, hFj⟩ dX4_readValues_65
        · have hf := of_decide_eq_false c38
          rw [if_pos hf] at hrv
          refine lv_iconst (v := nI 0) hE.1 hE.2.1 dX4_readValues_41 (by decide) ?_
          exact rg_iret hE hr (nz_0) hlk hH ⟨rfl, zero_bI (by rw [← hrv]; exact decide_eq_false hf), by rw [← hrv]; exact hR, fun _ => by rw [← hrv]; exact hfd35 hf, fun h => absurd (by rw [← hrv] at h; exact h) hf, hFr, hFj⟩ dX4_readValues_42
      · have h59 := (kd_sg (c := 59) hR.tv (by decide)).mp c22
        rw [if_pos ⟨c10, h59⟩] at hrv
        refine lv_aload_n hE.1 hE.2.1 dX4_readValues_25 rfl (lv_at hl 0 rfl) ?_
        refine rg_getr hE hH cf_X4 fl_X4_12 rfl (hX.1.1) (hX.1.2) (v := 103) (hX.2.2.2.2.2.2.1) dX4_readValues_26 ?_
        refine rg_VV (As := []) (rest := []) hE hml hH mc_X4_66 (c_Lx_next l z G hX iv2 jv2 B n t5 hR (nx_ne hR.tv c22 (by decide))) (hX.2.1.1) (hX.2.1.2) (by decide) rfl ⟨Nat.le_of_ble_eq_true rfl, Nat.le_of_ble_eq_true rfl⟩ rfl hl.1 (by simp [Value.category]) dX4_readValues_29 ⟨Nat.le_of_ble_eq_true rfl, Nat.le_of_ble_eq_true rfl⟩ (fun G29 iv29 jv29 H locs hp29 hH => ?_)
        obtain ⟨rfl, hR, hF29, hJ29⟩ := hp29
        have hJ29 : FrJ jv2 jv29 qZ := hJ29
        have hF29 : Fr iv2 iv29 pZ := hF29.mono (fun _ _ h => Or.inr h)
        have hFr := hFr.tr (hF29.mono (fun _ _ h => Or.inl h))
        have hFj := hFj.tr (hJ29.mono (fun _ _ h => Or.inl h))
        have hV := hV.fr hF29 hJ29 (by simp only [pZ]; omega) (fun v => by simp only [qZ]; omega)
        refine lv_iconst (v := nI 1) hE.1 hE.2.1 dX4_readValues_32 (by decide) ?_
        exact rg_iret hE hr (nz_1) hlk hH ⟨rfl, one_bI (by rw [← hrv]; rfl), by rw [← hrv]; exact hR, fun h => absurd (by rw [← hrv]) h, fun _ => by rw [← hrv]; exact hV, hFr, hFj⟩ dX4_readValues_33
