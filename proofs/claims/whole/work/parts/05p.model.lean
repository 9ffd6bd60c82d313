set_option maxRecDepth 100000 in
set_option maxHeartbeats 4000000 in
theorem c_Pa_rows (l : Launch) (z : ZK) (G : GW) (hX : isPx G) (iv : IV) (jv : JV) (B : Nat → Nat) (n : Nat) (t : Tok) (hR : LR iv jv B n t) (b : Nat) (hL : isLa G b) (hb : 1000 ≤ b) (ins : List Col) (hI : LI iv jv b ins) (outs : List Wd) (hV : CV iv jv (b + 20) outs) (h0 : iv (b + 30) 0 = nI 0) : cI l z yX4_readRows cX4_readRows 3 (some .boolean) 5 115 0 0 [.ref (G.ad 102), .ref (G.ad b)] G iv jv (fun r' G' iv' jv' => G = G' ∧ r' = bI (decide ((rdRows B n ins outs 41 [] t).1 = 0)) ∧ LR iv' jv' B n (rdRows B n ins outs 41 [] t).2.2 ∧ ((rdRows B n ins outs 41 [] t).1 ≠ 0 → iv' 102 1 = nI (rdRows B n ins outs 41 [] t).1) ∧ ((rdRows B n ins outs 41 [] t).1 = 0 → LI iv' jv' b ins ∧ CV iv' jv' (b + 20) outs ∧ RWc iv' (b + 30) ins.length (fun i => (colsOf ins i).length) (rdRows B n ins outs 41 [] t).2.1) ∧ Fr iv iv' (pB b) ∧ FrJ jv jv' (qB b)) := by
  intro sz
  refine rg_entry rfl (Nat.le_of_ble_eq_true rfl) ?_
  intro pq eq sq mq bq methq cq ls hE hr hlk hml hnm hl hsz hH
  have hl : lv_has ls 3 [(0, .ref (G.ad 102)), (1, .ref (G.ad b))] := hl
  refine lv_iconst (v := nI 0) hE.1 hE.2.1 dX4_readRows_0 (by decide) ?_
  refine lv_istore_n (lv' := [(2, .int (nI 0)), (0, .ref (G.ad 102)), (1, .ref (G.ad b))]) hE.1 hE.2.1 dX4_readRows_1 rfl hl (by decide) rfl (fun ls hl => ?_)
  refine rg_loop (σ := IV × JV × List Row × Tok) (nL := 3) (fun (u : IV × JV × List Row × Tok) => match u with | (iv2, jv2, rows, t5) => 41 - rows.length) (fun (u : IV × JV × List Row × Tok) => match u with | (iv2, jv2, rows, t5) => [(0, .ref (G.ad 102)), (1, .ref (G.ad b)), (2, .int (nI rows.length))]) (fun (u : IV × JV × List Row × Tok) => match u with | (iv2, jv2, rows, t5) => G) (fun (u : IV × JV × List Row × Tok) => match u with | (iv2, jv2, rows, t5) => iv2) (fun (u : IV × JV × List Row × Tok) => match u with | (iv2, jv2, rows, t5) => jv2) (fun (u : IV × JV × List Row × Tok) => match u with | (iv2, jv2, rows, t5) => LR iv2 jv2 B n t5 ∧ LI iv2 jv2 b ins ∧ CV iv2 jv2 (b + 20) outs ∧ RWc iv2 (b + 30) ins.length (fun i => (colsOf ins i).length) rows ∧ rdRows B n ins outs (41 - rows.length) rows t5 = rdRows B n ins outs 41 [] t ∧ Fr iv iv2 (pB b) ∧ FrJ jv jv2 (qB b)) ?_ ((iv, jv, [], t)) ⟨hR, hI, hV, ⟨h0, by decide, fun k hk => absurd hk (Nat.not_lt_zero k)⟩, rfl, Fr.rf, FrJ.rf⟩ (lv_sub hl [1, 2, 0] rfl) hH
  rintro ⟨iv2, jv2, rows, t5⟩ H locs ls ⟨hR, hI, hV, hRw, hri, hFr, hFj⟩ hl hH ih2
  try dsimp only at hl hH ih2
  try dsimp only at hR hI hV hRw hri hFr hFj
  have h40 := hRw.2.1
  rw [rdRows_go h40] at hri
  refine lv_iload_n hE.1 hE.2.1 dX4_readRows_2 rfl (lv_at hl 2 rfl) ?_
  refine lv_bipush (v := nI 40) hE.1 hE.2.1 dX4_readRows_3 (by decide) ?_
  refine rn_icmp_gt (tgt := 74) hE dX4_readRows_5 (by decide) (by omega) (by omega) (fun c5 => ?_) (fun c5 => ?_)
  · omega
  · refine lv_aload_n hE.1 hE.2.1 dX4_readRows_8 rfl (lv_at hl 0 rfl) ?_
    refine rg_getr hE hH cf_X4 fl_X4_12 rfl (hX.1.1) (hX.1.2) (v := 103) (hX.2.2.2.2.2.2.1) dX4_readRows_9 ?_
    refine rg_geti hE hH cf_X2 fl_X4_59 rfl (hX.2.1.1) (hX.2.1.2) (v := nI (kdT B t5)) (hR.kd) dX4_readRows_12 ?_
    refine lv_bipush (v := nI 15) hE.1 hE.2.1 dX4_readRows_15 (by decide) ?_
    refine rn_icmp_ne (tgt := 22) hE dX4_readRows_17 (by decide) (by have := hR.k16; omega) (by have := hR.k16; omega) (fun c17 => ?_) (fun c17 => ?_)
    · rw [if_neg (fun h => c17 ((kd_end hR.tv).mpr h))] at hri
      refine lv_aload_n hE.1 hE.2.1 dX4_readRows_22 rfl (lv_at hl 0 rfl) ?_
      refine rg_getr hE hH cf_X4 fl_X4_12 rfl (hX.1.1) (hX.1.2) (v := 103) (hX.2.2.2.2.2.2.1) dX4_readRows_23 ?_
      refine rg_geti hE hH cf_X2 fl_X4_59 rfl (hX.2.1.1) (hX.2.1.2) (v := nI (kdT B t5)) (hR.kd) dX4_readRows_26 ?_
      refine lv_iconst (v := nI 3) hE.1 hE.2.1 dX4_readRows_29 (by decide) ?_
      refine rn_icmp_eq (tgt := 39) hE dX4_readRows_30 (by decide) (by have := hR.k16; omega) (by have := hR.k16; omega) (fun c30 => ?_) (fun c30 => ?_)
      · rw [if_neg (by rw [(kd_kw (i := 21) hR.tv (by decide)).mp c30]; decide)] at hri
        refine lv_iload_n hE.1 hE.2.1 dX4_readRows_39 rfl (lv_at hl 2 rfl) ?_
        refine lv_bipush (v := nI 40) hE.1 hE.2.1 dX4_readRows_40 (by decide) ?_
        refine rn_icmp_lt (tgt := 51) hE dX4_readRows_42 (by decide) (by omega) (by omega) (fun c42 => ?_) (fun c42 => ?_)
        · rw [if_neg (by omega)] at hri
          refine lv_aload_n hE.1 hE.2.1 dX4_readRows_51 rfl (lv_at hl 0 rfl) ?_
          refine rg_getr hE hH cf_X4 fl_X4_12 rfl (hX.1.1) (hX.1.2) (v := 103) (hX.2.2.2.2.2.2.1) dX4_readRows_52 ?_
          refine rg_VV (As := []) (rest := []) hE hml hH mc_X4_66 (c_Lx_next l z G hX iv2 jv2 B n t5 hR (nx_ne hR.tv c30 (by decide))) (hX.2.1.1) (hX.2.1.2) (by decide) rfl ⟨Nat.le_of_ble_eq_true rfl, Nat.le_of_ble_eq_true rfl⟩ rfl hl.1 (by simp [Value.category]) dX4_readRows_55 ⟨Nat.le_of_ble_eq_true rfl, Nat.le_of_ble_eq_true rfl⟩ (fun G55 iv55 jv55 H locs hp55 hH => ?_)
          obtain ⟨rfl, hR, hF55, hJ55⟩ := hp55
          have hJ55 : FrJ jv2 jv55 qZ := hJ55
          have hF55 : Fr iv2 iv55 pZ := hF55.mono (fun _ _ h => Or.inr h)
          have hFr := hFr.tr (hF55.mono (fun _ _ h => Or.inl h))
          have hFj := hFj.tr (hJ55.mono (fun _ _ h => Or.inl h))
          have hI := hI.frZ hb hF55 hJ55
          have hV := hV.fr hF55 hJ55 (by simp only [pZ]; omega) (fun v => by simp only [qZ]; omega)
          have h5 := hI.2.2.1
          have hRw := hRw.fr h5 hF55 (by simp only [pZ]; omega) (fun j hj => by simp only [pZ]; omega) (fun j hj => by simp only [pZ]; omega)
          refine lv_aload_n hE.1 hE.2.1 dX4_readRows_58 rfl (lv_at hl 0 rfl) ?_
          refine lv_aload_n hE.1 hE.2.1 dX4_readRows_59 rfl (lv_at hl 1 rfl) ?_
          refine rg_VI (As := [.ref (G.ad b)]) (rest := []) hE hml hH mc_X4_121 (c_Pa_row l z G hX iv55 jv55 B n (nx B n t5) hR b hL hb ins hI outs hV rows.length (by omega) hRw.1) (hX.1.1) (hX.1.2) (by decide) rfl ⟨Nat.le_of_ble_eq_true rfl, Nat.le_of_ble_eq_true rfl⟩ rfl hl.1 (by simp [Value.category]) dX4_readRows_60 ⟨Nat.le_of_ble_eq_true rfl, Nat.le_of_ble_eq_true rfl⟩ (fun r60 G60 iv60 jv60 H locs hp60 hH => ?_)
          obtain ⟨rfl, rfl, hR, hfd60, hrr60, hF60, hJ60⟩ := hp60
          have hFr := hFr.tr (hF60.mono (fun lb j h => pRw_B h))
          have hFj := hFj.tr (hJ60.mono (fun lb j h => Or.inl h))
          refine rn_ifb_ne (tgt := 68) hE dX4_readRows_63 (by decide) (fun c63 => ?_) (fun c63 => ?_)
          · have hc0 := of_decide_eq_true c63
            rw [if_neg (by simp [hc0])] at hri
            have hrr := hrr60 hc0
            have hI := hI.frR hb hF60 hJ60
            have hV := hV.frR hb hF60 hJ60
            have hRw2 : RWc iv60 (b + 30) ins.length (fun i => (colsOf ins i).length) (rows ++ [(rdRow B n (colsOf ins) ins.length outs (nx B n t5)).2.1]) := RWc.add (fun k hk => ⟨fun i hi => by
              obtain ⟨a, h1, h2⟩ := (hRw.2.2 k hk).1 i hi
              exact ⟨a, (hF60 _ _ (by simp only [pRw, pZ]; omega)).trans h1, h2⟩, (hF60 _ _ (by simp only [pRw, pZ]; omega)).trans (hRw.2.2 k hk).2⟩) (by omega) hrr.1 hrr.2.1 hrr.2.2
            refine lv_iinc (v := nI (rows.length + 1)) (lv' := [(2, .int (nI (rows.length + 1))), (0, .ref (G.ad 102)), (1, .ref (G.ad b))]) hE.1 hE.2.1 dX4_readRows_68 hl (k := 2) rfl (nI_1 _) (by decide) rfl (fun ls hl => ?_)
            have hl : lv_has ls 3 [(2, .int (nI ((rows ++ [(rdRow B n (colsOf ins) ins.length outs (nx B n t5)).2.1]).length))), (0, .ref (G.ad 102)), (1, .ref (G.ad b))] := by rw [List.length_append]; exact hl
            refine lv_goto (tgt := 2) hE.1 hE.2.1 dX4_readRows_71 (by decide) ?_
            exact ih2 (iv60, jv60, rows ++ [(rdRow B n (colsOf ins) ins.length outs (nx B n t5)).2.1], (rdRow B n (colsOf ins) ins.length outs (nx B n t5)).2.2) _ _ _ (show 41 - (rows ++ [_]).length < 41 - rows.length by rw [List.length_append, List.length_singleton]; omega) ⟨hR, hI, hV, hRw2, hri, hFr, hFj⟩ (lv_sub hl [1, 2, 0] rfl) hH
          · have hc0 := of_decide_eq_false c63
            rw [if_pos hc0] at hri
            refine lv_iconst (v := nI 0) hE.1 hE.2.1 dX4_readRows_66 (by decide) ?_
            exact rg_iret hE hr (nz_0) hlk hH ⟨rfl, zero_bI (by rw [← hri]; exact decide_eq_false hc0), by rw [← hri]; exact hR, fun _ => by rw [← hri]; exact hfd60 hc0, fun h => absurd (by rw [← hri] at h; exact h) hc0, hFr, hFj⟩ dX4_readRows_67
        · rw [if_pos (by omega)] at hri
          refine lv_aload_n hE.1 hE.2.1 dX4_readRows_45 rfl (lv_at hl 0 rfl) ?_
          refine lv_iconst (v := nI 2) hE.1 hE.2.1 dX4_readRows_46 (by decide) ?_
          refine rg_VI (As := [.int (nI 2)]) (rest := []) hE hml hH mc_X4_62 (c_Pa_refuse l z G hX iv2 jv2 2) (hX.1.1) (hX.1.2) (by decide) rfl ⟨Nat.le_of_ble_eq_true rfl, Nat.le_of_ble_eq_true rfl⟩ rfl hl.1 (by simp [Value.category]) dX4_readRows_47 ⟨Nat.le_of_ble_eq_true rfl, Nat.le_of_ble_eq_true rfl⟩ (fun r47 G47 iv47 jv47 H locs hp47 hH => ?_)
          obtain ⟨rfl, hiv47, rfl, rfl⟩ := hp47
          have hF47 : Fr iv2 iv47 pZ := by rw [hiv47]; exact Fr.up Fr.rf (Or.inl ⟨rfl, rfl⟩)
          have hFr := hFr.tr (hF47.mono (fun _ _ h => Or.inl h))
          have hR : LR iv47 jv2 B n t5 := by rw [hiv47]; exact hR.up (by decide) (by decide) (by decide)
          have hfd : iv47 102 1 = nI 2 := by rw [hiv47]; rfl
          exact rg_iret hE hr (nz_0) hlk hH ⟨rfl, zero_bI (by rw [← hri]; exact decide_eq_false (by simp)), by rw [← hri]; exact hR, fun _ => by rw [← hri]; exact hfd, fun h => absurd (by rw [← hri] at h; exact h) (by simp), hFr, hFj⟩ dX4_readRows_50
      · rw [if_pos (by cases hq : kwP B t5 21 with | false => rfl | true => exact absurd ((kd_kw (i := 21) hR.tv (by decide)).mpr hq) c30)] at hri
        refine lv_aload_n hE.1 hE.2.1 dX4_readRows_33 rfl (lv_at hl 0 rfl) ?_
        refine lv_iconst (v := nI 1) hE.1 hE.2.1 dX4_readRows_34 (by decide) ?_
        refine rg_VI (As := [.int (nI 1)]) (rest := []) hE hml hH mc_X4_62 (c_Pa_refuse l z G hX iv2 jv2 1) (hX.1.1) (hX.1.2) (by decide) rfl ⟨Nat.le_of_ble_eq_true rfl, Nat.le_of_ble_eq_true rfl⟩ rfl hl.1 (by simp [Value.category]) dX4_readRows_35 ⟨Nat.le_of_ble_eq_true rfl, Nat.le_of_ble_eq_true rfl⟩ (fun r35 G35 iv35 jv35 H locs hp35 hH => ?_)
        obtain ⟨rfl, hiv35, rfl, rfl⟩ := hp35
        have hF35 : Fr iv2 iv35 pZ := by rw [hiv35]; exact Fr.up Fr.rf (Or.inl ⟨rfl, rfl⟩)
        have hFr := hFr.tr (hF35.mono (fun _ _ h => Or.inl h))
        have hR : LR iv35 jv2 B n t5 := by rw [hiv35]; exact hR.up (by decide) (by decide) (by decide)
        have hfd : iv35 102 1 = nI 1 := by rw [hiv35]; rfl
        exact rg_iret hE hr (nz_0) hlk hH ⟨rfl, zero_bI (by rw [← hri]; exact decide_eq_false (by simp)), by rw [← hri]; exact hR, fun _ => by rw [← hri]; exact hfd, fun h => absurd (by rw [← hri] at h; exact h) (by simp), hFr, hFj⟩ dX4_readRows_38
    · have h15 := (kd_end hR.tv).mp c17
      rw [if_pos h15] at hri
      refine lv_iconst (v := nI 1) hE.1 hE.2.1 dX4_readRows_20 (by decide) ?_
      exact rg_iret hE hr (nz_1) hlk hH ⟨rfl, one_bI (by rw [← hri]; rfl), by rw [← hri]; exact hR, fun h => absurd (by rw [← hri]) h, fun _ => by rw [← hri]; exact ⟨hI, hV, hRw⟩, hFr, hFj⟩ dX4_readRows_21
