set_option maxRecDepth 100000 in
set_option maxHeartbeats 4000000 in
theorem c_Pa_whens (l : Launch) (z : ZK) (G : GW) (hX : isPx G) (iv : IV) (jv : JV) (B : Nat → Nat) (n : Nat) (t : Tok) (hR : LR iv jv B n t) (b : Nat) (hL : isLa G b) (hb : 1000 ≤ b) (ins : List Col) (hI : LI iv jv b ins) (hok : insOK ins) (outs : List Wd) (hV : CV iv jv (b + 20) outs) (r : Nat) (hRo : isRo G r) (hr1 : 1000 ≤ r) (hdis : r + 3 ≤ b ∨ b + 40 ≤ r) (h0 : iv r 0 = nI 0) : cI l z yX4_readWhens cX4_readWhens 4 (some .boolean) 5 117 0 0 [.ref (G.ad 102), .ref (G.ad b), .ref (G.ad r)] G iv jv (fun r' G' iv' jv' => G = G' ∧ r' = bI (decide ((rdWhens B n ins outs 41 [] [] t).1 = 0)) ∧ LR iv' jv' B n (rdWhens B n ins outs 41 [] [] t).2.2 ∧ ((rdWhens B n ins outs 41 [] [] t).1 ≠ 0 → iv' 102 1 = nI (rdWhens B n ins outs 41 [] [] t).1) ∧ ((rdWhens B n ins outs 41 [] [] t).1 = 0 → LI iv' jv' b ins ∧ CV iv' jv' (b + 20) outs ∧ RWp iv' r ins.length (fun i => (colsOf ins i).length) (rdWhens B n ins outs 41 [] [] t).2.1.1 (rdWhens B n ins outs 41 [] [] t).2.1.2 ∧ kdT B (rdWhens B n ins outs 41 [] [] t).2.2 = 7) ∧ Fr iv iv' (fun lb j => pZ lb j ∨ (r ≤ lb ∧ lb < r + 3)) ∧ FrJ jv jv' qZ) := by
  intro sz
  refine rg_entry rfl (Nat.le_of_ble_eq_true rfl) ?_
  intro pq eq sq mq bq methq cq ls hE hr hlk hml hnm hl hsz hH
  have hl : lv_has ls 4 [(0, .ref (G.ad 102)), (1, .ref (G.ad b)), (2, .ref (G.ad r))] := hl
  refine lv_iconst (v := nI 0) hE.1 hE.2.1 dX4_readWhens_0 (by decide) ?_
  refine lv_istore_n (lv' := [(3, .int (nI 0)), (0, .ref (G.ad 102)), (1, .ref (G.ad b)), (2, .ref (G.ad r))]) hE.1 hE.2.1 dX4_readWhens_1 rfl hl (by decide) rfl (fun ls hl => ?_)
  refine rg_loop (σ := IV × JV × List (Nat × Nat) × List (Nat × Nat) × Tok) (nL := 4) (fun (u : IV × JV × List (Nat × Nat) × List (Nat × Nat) × Tok) => match u with | (iv2, jv2, fs, ws, t5) => 41 - ws.length) (fun (u : IV × JV × List (Nat × Nat) × List (Nat × Nat) × Tok) => match u with | (iv2, jv2, fs, ws, t5) => [(0, .ref (G.ad 102)), (1, .ref (G.ad b)), (2, .ref (G.ad r)), (3, .int (nI ws.length))]) (fun (u : IV × JV × List (Nat × Nat) × List (Nat × Nat) × Tok) => match u with | (iv2, jv2, fs, ws, t5) => G) (fun (u : IV × JV × List (Nat × Nat) × List (Nat × Nat) × Tok) => match u with | (iv2, jv2, fs, ws, t5) => iv2) (fun (u : IV × JV × List (Nat × Nat) × List (Nat × Nat) × Tok) => match u with | (iv2, jv2, fs, ws, t5) => jv2) (fun (u : IV × JV × List (Nat × Nat) × List (Nat × Nat) × Tok) => match u with | (iv2, jv2, fs, ws, t5) => LR iv2 jv2 B n t5 ∧ LI iv2 jv2 b ins ∧ CV iv2 jv2 (b + 20) outs ∧ RWp iv2 r ins.length (fun i => (colsOf ins i).length) fs ws ∧ wsOK outs fs ws ∧ fsOK ins fs ∧ 6 * fs.length ≤ tb t5 ∧ rdWhens B n ins outs (41 - ws.length) fs ws t5 = rdWhens B n ins outs 41 [] [] t ∧ Fr iv iv2 (fun lb j => pZ lb j ∨ (r ≤ lb ∧ lb < r + 3)) ∧ FrJ jv jv2 qZ) ?_ ((iv, jv, [], [], t)) ⟨hR, hI, hV, ⟨h0, by decide, fun k hk => absurd hk (Nat.not_lt_zero k)⟩, ⟨Nat.zero_le _, fun w hw => absurd hw (Nat.not_lt_zero w), fun w hw => absurd hw (Nat.not_lt_zero _)⟩, fun q hq => absurd hq (Nat.not_lt_zero q), Nat.zero_le _, rfl, Fr.rf, FrJ.rf⟩ (lv_sub hl [1, 2, 3, 0] rfl) hH
  rintro ⟨iv2, jv2, fs, ws, t5⟩ H locs ls ⟨hR, hI, hV, hRw, hws, hfs, h6, hri, hFr, hFj⟩ hl hH ih2
  try dsimp only at hl hH ih2
  try dsimp only at hR hI hV hRw hws hfs h6 hri hFr hFj
  have h40 := hRw.2.1
  rw [rdWhens_go h40] at hri
  have hn1 := hR.2.1
  refine lv_iload_n hE.1 hE.2.1 dX4_readWhens_2 rfl (lv_at hl 3 rfl) ?_
  refine lv_bipush (v := nI 40) hE.1 hE.2.1 dX4_readWhens_3 (by decide) ?_
  refine rn_icmp_gt (tgt := 75) hE dX4_readWhens_5 (by decide) (by omega) (by omega) (fun c5 => ?_) (fun c5 => ?_)
  · omega
  · refine lv_aload_n hE.1 hE.2.1 dX4_readWhens_8 rfl (lv_at hl 0 rfl) ?_
    refine rg_getr hE hH cf_X4 fl_X4_12 rfl (hX.1.1) (hX.1.2) (v := 103) (hX.2.2.2.2.2.2.1) dX4_readWhens_9 ?_
    refine rg_geti hE hH cf_X2 fl_X4_59 rfl (hX.2.1.1) (hX.2.1.2) (v := nI (kdT B t5)) (hR.kd) dX4_readWhens_12 ?_
    refine lv_bipush (v := nI 7) hE.1 hE.2.1 dX4_readWhens_15 (by decide) ?_
    refine rn_icmp_ne (tgt := 22) hE dX4_readWhens_17 (by decide) (by have := hR.k16; omega) (by have := hR.k16; omega) (fun c17 => ?_) (fun c17 => ?_)
    · rw [if_neg (fun h => c17 ((kd_kw (i := 25) hR.tv (by decide)).mpr h))] at hri
      refine lv_aload_n hE.1 hE.2.1 dX4_readWhens_22 rfl (lv_at hl 0 rfl) ?_
      refine rg_getr hE hH cf_X4 fl_X4_12 rfl (hX.1.1) (hX.1.2) (v := 103) (hX.2.2.2.2.2.2.1) dX4_readWhens_23 ?_
      refine rg_geti hE hH cf_X2 fl_X4_59 rfl (hX.2.1.1) (hX.2.1.2) (v := nI (kdT B t5)) (hR.kd) dX4_readWhens_26 ?_
      refine lv_iconst (v := nI 4) hE.1 hE.2.1 dX4_readWhens_29 (by decide) ?_
      refine rn_icmp_eq (tgt := 39) hE dX4_readWhens_30 (by decide) (by have := hR.k16; omega) (by have := hR.k16; omega) (fun c30 => ?_) (fun c30 => ?_)
      · rw [if_neg (by rw [(kd_kw (i := 22) hR.tv (by decide)).mp c30]; decide)] at hri
        refine lv_iload_n hE.1 hE.2.1 dX4_readWhens_39 rfl (lv_at hl 3 rfl) ?_
        refine lv_bipush (v := nI 40) hE.1 hE.2.1 dX4_readWhens_40 (by decide) ?_
        refine rn_icmp_lt (tgt := 51) hE dX4_readWhens_42 (by decide) (by omega) (by omega) (fun c42 => ?_) (fun c42 => ?_)
        · rw [if_neg (by omega)] at hri
          have htv5 := hR.tv
          have h6e : 6 * fs.length ≤ te t5 := Nat.le_trans h6 (TV_b htv5).1
          have hwo := (rdWhen_ok (outs := outs) hn1 hok htv5 h6e hfs)
          refine lv_aload_n hE.1 hE.2.1 dX4_readWhens_51 rfl (lv_at hl 0 rfl) ?_
          refine rg_getr hE hH cf_X4 fl_X4_12 rfl (hX.1.1) (hX.1.2) (v := 103) (hX.2.2.2.2.2.2.1) dX4_readWhens_52 ?_
          refine rg_VV (As := []) (rest := []) hE hml hH mc_X4_66 (c_Lx_next l z G hX iv2 jv2 B n t5 hR (nx_ne hR.tv c30 (by decide))) (hX.2.1.1) (hX.2.1.2) (by decide) rfl ⟨Nat.le_of_ble_eq_true rfl, Nat.le_of_ble_eq_true rfl⟩ rfl hl.1 (by simp [Value.category]) dX4_readWhens_55 ⟨Nat.le_of_ble_eq_true rfl, Nat.le_of_ble_eq_true rfl⟩ (fun G55 iv55 jv55 H locs hp55 hH => ?_)
          obtain ⟨rfl, hR, hF55, hJ55⟩ := hp55
          have hJ55 : FrJ jv2 jv55 qZ := hJ55
          have hF55 : Fr iv2 iv55 pZ := hF55.mono (fun _ _ h => Or.inr h)
          have hFr := hFr.tr (hF55.mono (fun _ _ h => Or.inl h))
          have hFj := hFj.tr (hJ55.mono (fun _ _ h => h))
          have hI := hI.frZ hb hF55 hJ55
          have hV := hV.fr hF55 hJ55 (by simp only [pZ]; omega) (fun v => by simp only [qZ]; omega)
          have h5 := hI.2.2.1
          have hRw := hRw.fr h5 hF55 (by simp only [pZ]; omega) (fun j hj => by simp only [pZ]; omega) (fun j hj => by simp only [pZ]; omega)
          refine lv_aload_n hE.1 hE.2.1 dX4_readWhens_58 rfl (lv_at hl 0 rfl) ?_
          refine lv_aload_n hE.1 hE.2.1 dX4_readWhens_59 rfl (lv_at hl 1 rfl) ?_
          refine lv_aload_n hE.1 hE.2.1 dX4_readWhens_60 rfl (lv_at hl 2 rfl) ?_
          refine rg_VI (As := [.ref (G.ad b), .ref (G.ad r)]) (rest := []) hE hml hH mc_X4_148 (c_Pa_when l z G hX iv55 jv55 B n t5 htv5 hR b hL hb ins hI hok outs hV r hRo hr1 ws.length (by omega) hRw.1 hdis fs h6e) (hX.1.1) (hX.1.2) (by decide) rfl ⟨Nat.le_of_ble_eq_true rfl, Nat.le_of_ble_eq_true rfl⟩ rfl hl.1 (by simp [Value.category]) dX4_readWhens_61 ⟨Nat.le_of_ble_eq_true rfl, Nat.le_of_ble_eq_true rfl⟩ (fun r61 G61 iv61 jv61 H locs hp61 hH => ?_)
          obtain ⟨rfl, rfl, hR, hfd61, hrr61, hF61, hJ61⟩ := hp61
          have hFr := hFr.tr (hF61.mono (P' := (fun lb j => pZ lb j ∨ (r ≤ lb ∧ lb < r + 3))) (fun lb j h => by rcases h with h | h | h | h; exact Or.inl h; exact Or.inr (by omega); exact Or.inr (by omega); exact Or.inr (by omega)))
          have hFj := hFj.tr hJ61
          refine rn_ifb_ne (tgt := 69) hE dX4_readWhens_64 (by decide) (fun c64 => ?_) (fun c64 => ?_)
          · have hc0 := of_decide_eq_true c64
            rw [if_neg (by simp [hc0])] at hri
            have hrr := hrr61 hc0
            have hwo := hwo.2 hc0
            have hI := hI.frQ hb hdis hF61 hJ61
            have hV := hV.frQ hb hdis hF61 hJ61
            have hRw2 : RWp iv61 r ins.length (fun i => (colsOf ins i).length) (rdWhen B n ins outs fs t5).2.1.1 (ws ++ [(fs.length, (rdWhen B n ins outs fs t5).2.1.2)]) := RWp.add hwo.2.2.2.1 hws (by have := hwo.2.2.1; omega) (fun k hk => ⟨fun i hi => ((hRw.2.2 k hk).1 i hi).fr hF61 (by simp only [pRw, pZ]; omega), (hF61 _ _ (by simp only [pRw, pZ]; omega)).trans (hRw.2.2 k hk).2⟩) (by omega) hrr.1 (fun i hi => hrr.2.1 i (by omega)) hrr.2.2
            refine lv_iinc (v := nI (ws.length + 1)) (lv' := [(3, .int (nI (ws.length + 1))), (0, .ref (G.ad 102)), (1, .ref (G.ad b)), (2, .ref (G.ad r))]) hE.1 hE.2.1 dX4_readWhens_69 hl (k := 3) rfl (nI_1 _) (by decide) rfl (fun ls hl => ?_)
            have hl : lv_has ls 4 [(3, .int (nI ((ws ++ [(fs.length, (rdWhen B n ins outs fs t5).2.1.2)]).length))), (0, .ref (G.ad 102)), (1, .ref (G.ad b)), (2, .ref (G.ad r))] := by rw [List.length_append]; exact hl
            refine lv_goto (tgt := 2) hE.1 hE.2.1 dX4_readWhens_72 (by decide) ?_
            exact ih2 (iv61, jv61, (rdWhen B n ins outs fs t5).2.1.1, ws ++ [(fs.length, (rdWhen B n ins outs fs t5).2.1.2)], (rdWhen B n ins outs fs t5).2.2) _ _ _ (show 41 - (ws ++ [_]).length < 41 - ws.length by rw [List.length_append, List.length_singleton]; omega) ⟨hR, hI, hV, hRw2, wsOK_add hws (by omega) (Nat.le_of_lt hwo.2.2.1) hwo.2.2.2.2, hwo.2.1, hwo.1, hri, hFr, hFj⟩ (lv_sub hl [1, 2, 3, 0] rfl) hH
          · have hc0 := of_decide_eq_false c64
            rw [if_pos hc0] at hri
            refine lv_iconst (v := nI 0) hE.1 hE.2.1 dX4_readWhens_67 (by decide) ?_
            exact rg_iret hE hr (nz_0) hlk hH ⟨rfl, zero_bI (by rw [← hri]; exact decide_eq_false hc0), by rw [← hri]; exact hR, fun _ => by rw [← hri]; exact hfd61 hc0, fun h => absurd (by rw [← hri] at h; exact h) hc0, hFr, hFj⟩ dX4_readWhens_68
        · rw [if_pos (by omega)] at hri
          refine lv_aload_n hE.1 hE.2.1 dX4_readWhens_45 rfl (lv_at hl 0 rfl) ?_
          refine lv_iconst (v := nI 2) hE.1 hE.2.1 dX4_readWhens_46 (by decide) ?_
          refine rg_VI (As := [.int (nI 2)]) (rest := []) hE hml hH mc_X4_62 (c_Pa_refuse l z G hX iv2 jv2 2) (hX.1.1) (hX.1.2) (by decide) rfl ⟨Nat.le_of_ble_eq_true rfl, Nat.le_of_ble_eq_true rfl⟩ rfl hl.1 (by simp [Value.category]) dX4_readWhens_47 ⟨Nat.le_of_ble_eq_true rfl, Nat.le_of_ble_eq_true rfl⟩ (fun r47 G47 iv47 jv47 H locs hp47 hH => ?_)
          obtain ⟨rfl, hiv47, rfl, rfl⟩ := hp47
          have hF47 : Fr iv2 iv47 pZ := by rw [hiv47]; exact Fr.up Fr.rf (Or.inl ⟨rfl, rfl⟩)
          have hFr := hFr.tr (hF47.mono (fun _ _ h => Or.inl h))
          have hR : LR iv47 jv2 B n t5 := by rw [hiv47]; exact hR.up (by decide) (by decide) (by decide)
          have hfd : iv47 102 1 = nI 2 := by rw [hiv47]; rfl
          exact rg_iret hE hr (nz_0) hlk hH ⟨rfl, zero_bI (by rw [← hri]; exact decide_eq_false (by simp)), by rw [← hri]; exact hR, fun _ => by rw [← hri]; exact hfd, fun h => absurd (by rw [← hri] at h; exact h) (by simp), hFr, hFj⟩ dX4_readWhens_50
      · rw [if_pos (by cases hq : kwP B t5 22 with | false => rfl | true => exact absurd ((kd_kw (i := 22) hR.tv (by decide)).mpr hq) c30)] at hri
        refine lv_aload_n hE.1 hE.2.1 dX4_readWhens_33 rfl (lv_at hl 0 rfl) ?_
        refine lv_iconst (v := nI 1) hE.1 hE.2.1 dX4_readWhens_34 (by decide) ?_
        refine rg_VI (As := [.int (nI 1)]) (rest := []) hE hml hH mc_X4_62 (c_Pa_refuse l z G hX iv2 jv2 1) (hX.1.1) (hX.1.2) (by decide) rfl ⟨Nat.le_of_ble_eq_true rfl, Nat.le_of_ble_eq_true rfl⟩ rfl hl.1 (by simp [Value.category]) dX4_readWhens_35 ⟨Nat.le_of_ble_eq_true rfl, Nat.le_of_ble_eq_true rfl⟩ (fun r35 G35 iv35 jv35 H locs hp35 hH => ?_)
        obtain ⟨rfl, hiv35, rfl, rfl⟩ := hp35
        have hF35 : Fr iv2 iv35 pZ := by rw [hiv35]; exact Fr.up Fr.rf (Or.inl ⟨rfl, rfl⟩)
        have hFr := hFr.tr (hF35.mono (fun _ _ h => Or.inl h))
        have hR : LR iv35 jv2 B n t5 := by rw [hiv35]; exact hR.up (by decide) (by decide) (by decide)
        have hfd : iv35 102 1 = nI 1 := by rw [hiv35]; rfl
        exact rg_iret hE hr (nz_0) hlk hH ⟨rfl, zero_bI (by rw [← hri]; exact decide_eq_false (by simp)), by rw [← hri]; exact hR, fun _ => by rw [← hri]; exact hfd, fun h => absurd (by rw [← hri] at h; exact h) (by simp), hFr, hFj⟩ dX4_readWhens_38
    · have h25 := (kd_kw (i := 25) hR.tv (by decide)).mp c17
      rw [if_pos h25] at hri
      refine lv_iconst (v := nI 1) hE.1 hE.2.1 dX4_readWhens_20 (by decide) ?_
      exact rg_iret hE hr (nz_1) hlk hH ⟨rfl, one_bI (by rw [← hri]; rfl), by rw [← hri]; exact hR, fun h => absurd (by rw [← hri]) h, fun _ => by rw [← hri]; exact ⟨hI, hV, hRw, c17⟩, hFr, hFj⟩ dX4_readWhens_21
set_option maxRecDepth 100000 in
set_option maxHeartbeats 4000000 in
theorem c_Pa_else (l : Launch) (z : ZK) (G : GW) (hX : isPx G) (iv : IV) (jv : JV) (B : Nat → Nat) (n : Nat) (t : Tok) (hR : LR iv jv B n t) (b : Nat) (hL : isLa G b) (hb : 1000 ≤ b) (outs : List Wd) (hV : CV iv jv (b + 20) outs) (hk7 : kdT B t = 7) (w : Nat) (hWh : isWh G w) (hw : 1000 ≤ w) (F : Nat × Nat × Tok) (hFE : F = (if (nd B n (rdV B n outs 0 (nx B n t)).1 (rdV B n outs 0 (nx B n t)).2.2 59).1 ≠ 0 then ((nd B n (rdV B n outs 0 (nx B n t)).1 (rdV B n outs 0 (nx B n t)).2.2 59).1, 0, (nd B n (rdV B n outs 0 (nx B n t)).1 (rdV B n outs 0 (nx B n t)).2.2 59).2) else if tk (nd B n (rdV B n outs 0 (nx B n t)).1 (rdV B n outs 0 (nx B n t)).2.2 59).2 ≠ 0 then (1, 0, (nd B n (rdV B n outs 0 (nx B n t)).1 (rdV B n outs 0 (nx B n t)).2.2 59).2) else (0, (rdV B n outs 0 (nx B n t)).2.1, (nd B n (rdV B n outs 0 (nx B n t)).1 (rdV B n outs 0 (nx B n t)).2.2 59).2))) : cI l z yX4_readElse cX4_readElse 3 (some .boolean) 3 66 0 0 [.ref (G.ad 102), .ref (G.ad b), .ref (G.ad w)] G iv jv (fun r' G' iv' jv' => G = G' ∧ r' = bI (decide (F.1 = 0)) ∧ LR iv' jv' B n F.2.2 ∧ (F.1 ≠ 0 → iv' 102 1 = nI F.1) ∧ (F.1 = 0 → iv' w 1 = nI F.2.1) ∧ Fr iv iv' (fun lb j => pZ lb j ∨ (lb = w ∧ j = 1)) ∧ FrJ jv jv' qZ) := by
  intro sz
  refine rg_entry rfl (Nat.le_of_ble_eq_true rfl) ?_
  intro pq eq sq mq bq methq cq ls hE hr hlk hml hnm hl hsz hH
  have hl : lv_has ls 3 [(0, .ref (G.ad 102)), (1, .ref (G.ad b)), (2, .ref (G.ad w))] := hl
  have hFr : Fr iv iv (fun lb j => pZ lb j ∨ (lb = w ∧ j = 1)) := Fr.rf
  have hFj : FrJ jv jv qZ := FrJ.rf
  have htv := hR.tv
  refine lv_aload_n hE.1 hE.2.1 dX4_readElse_0 rfl (lv_at hl 0 rfl) ?_
  refine lv_bipush (v := nI 7) hE.1 hE.2.1 dX4_readElse_1 (by decide) ?_
  refine rg_VI (As := [.int (nI 7)]) (rest := []) hE hml hH mc_X4_88 (c_Pa_pass l z G hX iv jv B n t hR 7 (by decide)) (hX.1.1) (hX.1.2) (by decide) rfl ⟨Nat.le_of_ble_eq_true rfl, Nat.le_of_ble_eq_true rfl⟩ rfl hl.1 (by simp [Value.category]) dX4_readElse_3 ⟨Nat.le_of_ble_eq_true rfl, Nat.le_of_ble_eq_true rfl⟩ (fun r3 G3 iv3 jv3 H locs hp3 hH => ?_)
  obtain ⟨rfl, rfl, hR, hfd3, hF3, hJ3⟩ := hp3
  have hFr := hFr.tr (hF3.mono (fun _ _ h => Or.inl h))
  have hFj := hFj.tr (hJ3.mono (fun _ _ h => h))
  refine rn_ifb_ne (tgt := 11) hE dX4_readElse_6 (by decide) (fun c6 => ?_) (fun c6 => ?_)
  · rw [if_pos hk7] at hR
    have hV := hV.fr hF3 hJ3 (by simp only [pZ]; omega) (fun v => by simp only [qZ]; omega)
    refine lv_aload_n hE.1 hE.2.1 dX4_readElse_11 rfl (lv_at hl 2 rfl) ?_
    refine lv_aload_n hE.1 hE.2.1 dX4_readElse_12 rfl (lv_at hl 0 rfl) ?_
    refine lv_aload_n hE.1 hE.2.1 dX4_readElse_13 rfl (lv_at hl 1 rfl) ?_
    refine rg_getr hE hH cf_X1 fl_X4_91 rfl (hL.1.1) (hL.1.2) (v := b + 20) (hL.2.2.2.2.2.2.1) dX4_readElse_14 ?_
    refine rg_VI (As := [.ref (G.ad (b + 20))]) (rest := [.ref (G.ad w)]) hE hml hH mc_X4_136 (c_Pa_told l z G hX iv3 jv3 B n (nx B n t) hR (b + 20) (hL.2.2.1 5 (by decide)) (by omega) outs hV) (hX.1.1) (hX.1.2) (by decide) rfl ⟨Nat.le_of_ble_eq_true rfl, Nat.le_of_ble_eq_true rfl⟩ rfl hl.1 (by simp [Value.category]) dX4_readElse_17 ⟨Nat.le_of_ble_eq_true rfl, Nat.le_of_ble_eq_true rfl⟩ (fun r17 G17 iv17 jv17 H locs hp17 hH => ?_)
    obtain ⟨rfl, rfl, hR, hfd17, hF17, hJ17⟩ := hp17
    have hFr := hFr.tr (hF17.mono (fun _ _ h => Or.inl h))
    have hFj := hFj.tr (hJ17.mono (fun _ _ h => h))
    refine rg_puti hE hH cf_X9 fl_X4_151 rfl fn_X9_1 (hWh.1.1) (hWh.1.2) (v := oI (tH B outs (nx B n t)).2) dX4_readElse_20 (fun H locs hH => ?_)
    have hR : LR (up2 iv17 w 1 (oI (tH B outs (nx B n t)).2)) jv17 B n (nx B n t) := hR.up (by omega) (by omega) (by omega)
    have hFr : Fr iv (up2 iv17 w 1 (oI (tH B outs (nx B n t)).2)) (fun lb j => pZ lb j ∨ (lb = w ∧ j = 1)) := Fr.up hFr (Or.inr ⟨rfl, rfl⟩)
    have hwv : (up2 iv17 w 1 (oI (tH B outs (nx B n t)).2)) w 1 = oI (tH B outs (nx B n t)).2 := up2_s
    refine lv_aload_n hE.1 hE.2.1 dX4_readElse_23 rfl (lv_at hl 2 rfl) ?_
    refine rg_geti hE hH cf_X9 fl_X4_151 rfl (hWh.1.1) (hWh.1.2) (v := oI (tH B outs (nx B n t)).2) (up2_s) dX4_readElse_24 ?_
    refine lv_iconst (v := -1) hE.1 hE.2.1 dX4_readElse_27 (by decide) ?_
    refine lv_icmp_ne (tgt := 33) hE.1 hE.2.1 dX4_readElse_28 (by decide) (fun c28 => ?_) (fun c28 => ?_)
    · obtain ⟨v, hvl, hf0, hix, hth⟩ : ∃ v, v < outs.length ∧ frF B (nx B n t) = 0 ∧ ixW outs (wd B (nx B n t)) = some v ∧ tH B outs (nx B n t) = (0, some v) := by
        rcases tH_c (B := B) (vs := outs) (t := nx B n t) with h | h
        · exact h
        · rw [h.2.1] at c28; exact absurd rfl c28
      have hwv := hwv.trans (show oI (tH B outs (nx B n t)).2 = nI v by rw [hth]; rfl)
      have hEE : nd B n (rdV B n outs 0 (nx B n t)).1 (rdV B n outs 0 (nx B n t)).2.2 59 = nd B n 0 (nx B n (nx B n t)) 59 := by rw [rdV_tS hf0 hix]
      have hVE : (rdV B n outs 0 (nx B n t)).2.1 = v := by rw [rdV_tS hf0 hix]
      rw [hEE, hVE] at hFE
      refine lv_aload_n hE.1 hE.2.1 dX4_readElse_33 rfl (lv_at hl 0 rfl) ?_
      refine rg_getr hE hH cf_X4 fl_X4_12 rfl (hX.1.1) (hX.1.2) (v := 103) (hX.2.2.2.2.2.2.1) dX4_readElse_34 ?_
      refine rg_VV (As := []) (rest := []) hE hml hH mc_X4_66 (c_Lx_next l z G hX (up2 iv17 w 1 (oI (tH B outs (nx B n t)).2)) jv17 B n (nx B n t) hR (fr_ne hf0)) (hX.2.1.1) (hX.2.1.2) (by decide) rfl ⟨Nat.le_of_ble_eq_true rfl, Nat.le_of_ble_eq_true rfl⟩ rfl hl.1 (by simp [Value.category]) dX4_readElse_37 ⟨Nat.le_of_ble_eq_true rfl, Nat.le_of_ble_eq_true rfl⟩ (fun G37 iv37 jv37 H locs hp37 hH => ?_)
      obtain ⟨rfl, hR, hF37, hJ37⟩ := hp37
      have hJ37 : FrJ jv17 jv37 qZ := hJ37
      have hF37 : Fr (up2 iv17 w 1 (oI (tH B outs (nx B n t)).2)) iv37 pZ := hF37.mono (fun _ _ h => Or.inr h)
      have hFr := hFr.tr (hF37.mono (fun _ _ h => Or.inl h))
      have hFj := hFj.tr (hJ37.mono (fun _ _ h => h))
      have hwv : iv37 w 1 = nI v := (hF37 _ _ (by simp only [pZ]; omega)).trans hwv
      refine lv_aload_n hE.1 hE.2.1 dX4_readElse_40 rfl (lv_at hl 0 rfl) ?_
      refine lv_bipush (v := nI 11) hE.1 hE.2.1 dX4_readElse_41 (by decide) ?_
      refine rg_VI (As := [.int (nI 11)]) (rest := []) hE hml hH mc_X4_88 (c_Pa_pass l z G hX iv37 jv37 B n (nx B n (nx B n t)) hR 11 (by decide)) (hX.1.1) (hX.1.2) (by decide) rfl ⟨Nat.le_of_ble_eq_true rfl, Nat.le_of_ble_eq_true rfl⟩ rfl hl.1 (by simp [Value.category]) dX4_readElse_43 ⟨Nat.le_of_ble_eq_true rfl, Nat.le_of_ble_eq_true rfl⟩ (fun r43 G43 iv43 jv43 H locs hp43 hH => ?_)
      obtain ⟨rfl, rfl, hR, hfd43, hF43, hJ43⟩ := hp43
      have hFr := hFr.tr (hF43.mono (fun _ _ h => Or.inl h))
      have hFj := hFj.tr (hJ43.mono (fun _ _ h => h))
      have hwv : iv43 w 1 = nI v := (hF43 _ _ (by simp only [pZ]; omega)).trans hwv
      refine rn_ifb_eq (tgt := 73) hE dX4_readElse_46 (by decide) (fun c46 => ?_) (fun c46 => ?_)
      · have hn11 := of_decide_eq_false c46
        rw [if_neg hn11] at hR
        rw [nd_n (fun h => hn11 ((kd_sg (c := 59) hR.tv (by decide)).mpr h)), if_pos (by simp)] at hFE
        refine lv_iconst (v := nI 0) hE.1 hE.2.1 dX4_readElse_73 (by decide) ?_
        exact rg_iret hE hr (nz_0) hlk hH ⟨rfl, zero_bI (by rw [hFE]; exact decide_eq_false (by simp)), by rw [hFE]; exact hR, fun _ => by rw [hFE]; exact hfd43 hn11, fun h => absurd (by rw [hFE] at h; exact h) (by simp), hFr, hFj⟩ dX4_readElse_74
      · have h11 := of_decide_eq_true c46
        rw [if_pos h11] at hR
        rw [nd_y ((kd_sg (c := 59) (TV_nx (TV_nx htv)) (by decide)).mp h11), if_neg (by simp)] at hFE
        refine lv_aload_n hE.1 hE.2.1 dX4_readElse_49 rfl (lv_at hl 0 rfl) ?_
        refine rg_getr hE hH cf_X4 fl_X4_12 rfl (hX.1.1) (hX.1.2) (v := 103) (hX.2.2.2.2.2.2.1) dX4_readElse_50 ?_
        refine rg_geti hE hH cf_X2 fl_X4_59 rfl (hX.2.1.1) (hX.2.1.2) (v := nI (kdT B (nx B n (nx B n (nx B n t))))) (hR.kd) dX4_readElse_53 ?_
        refine lv_bipush (v := nI 15) hE.1 hE.2.1 dX4_readElse_56 (by decide) ?_
        refine rn_icmp_eq (tgt := 69) hE dX4_readElse_58 (by decide) (by have := hR.k16; omega) (by have := hR.k16; omega) (fun c58 => ?_) (fun c58 => ?_)
        · have h15 := (kd_end hR.tv).mp c58
          rw [if_neg (by simp [h15])] at hFE
          refine lv_iconst (v := nI 1) hE.1 hE.2.1 dX4_readElse_69 (by decide) ?_
          refine lv_goto (tgt := 74) hE.1 hE.2.1 dX4_readElse_70 (by decide) ?_
          exact rg_iret hE hr (nz_1) hlk hH ⟨rfl, one_bI (by rw [hFE]; rfl), by rw [hFE]; exact hR, fun h => absurd (by rw [hFE]) h, fun _ => by rw [hFE]; exact hwv, hFr, hFj⟩ dX4_readElse_74
        · rw [if_pos (fun h => c58 ((kd_end hR.tv).mpr h))] at hFE
          refine lv_aload_n hE.1 hE.2.1 dX4_readElse_61 rfl (lv_at hl 0 rfl) ?_
          refine lv_iconst (v := nI 1) hE.1 hE.2.1 dX4_readElse_62 (by decide) ?_
          refine rg_VI (As := [.int (nI 1)]) (rest := []) hE hml hH mc_X4_62 (c_Pa_refuse l z G hX iv43 jv43 1) (hX.1.1) (hX.1.2) (by decide) rfl ⟨Nat.le_of_ble_eq_true rfl, Nat.le_of_ble_eq_true rfl⟩ rfl hl.1 (by simp [Value.category]) dX4_readElse_63 ⟨Nat.le_of_ble_eq_true rfl, Nat.le_of_ble_eq_true rfl⟩ (fun r63 G63 iv63 jv63 H locs hp63 hH => ?_)
          obtain ⟨rfl, hiv63, rfl, rfl⟩ := hp63
          have hF63 : Fr iv43 iv63 pZ := by rw [hiv63]; exact Fr.up Fr.rf (Or.inl ⟨rfl, rfl⟩)
          have hFr := hFr.tr (hF63.mono (fun _ _ h => Or.inl h))
          have hR : LR iv63 jv43 B n (nx B n (nx B n (nx B n t))) := by rw [hiv63]; exact hR.up (by decide) (by decide) (by decide)
          have hfd : iv63 102 1 = nI 1 := by rw [hiv63]; rfl
          refine rn_if_eq (tgt := 73) hE dX4_readElse_66 (by decide) (by omega) (fun c66 => ?_) (fun c66 => ?_)
          · refine lv_iconst (v := nI 0) hE.1 hE.2.1 dX4_readElse_73 (by decide) ?_
            exact rg_iret hE hr (nz_0) hlk hH ⟨rfl, zero_bI (by rw [hFE]; exact decide_eq_false (by simp)), by rw [hFE]; exact hR, fun _ => by rw [hFE]; exact hfd, fun h => absurd (by rw [hFE] at h; exact h) (by simp), hFr, hFj⟩ dX4_readElse_74
          · omega
    · have hth : (tH B outs (nx B n t)).1 ≠ 0 := by
        rcases tH_c (B := B) (vs := outs) (t := nx B n t) with ⟨v, hvl, _, _, h⟩ | h
        · rw [h] at c28; exact absurd c28 (nI_ne_m1 (by have := hV.2.1; omega))
        · exact h.1
      have hEE : nd B n (rdV B n outs 0 (nx B n t)).1 (rdV B n outs 0 (nx B n t)).2.2 59 = ((tH B outs (nx B n t)).1, nx B n t) := by rw [rdV_tH hth, nd, if_pos hth]
      rw [hEE, if_pos hth] at hFE
      have hfd : iv17 102 1 = nI (tH B outs (nx B n t)).1 := hfd17 hth
      refine lv_iconst (v := nI 0) hE.1 hE.2.1 dX4_readElse_31 (by decide) ?_
      exact rg_iret hE hr (nz_0) hlk hH ⟨rfl, zero_bI (by rw [hFE]; exact decide_eq_false hth), by rw [hFE]; exact hR, fun _ => by rw [hFE]; exact (by rw [up2_l (by omega)]; exact hfd), fun h => absurd (by rw [hFE] at h; exact h) hth, hFr, hFj⟩ dX4_readElse_32
  · exact absurd hk7 (of_decide_eq_false c6)
