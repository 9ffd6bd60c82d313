set_option maxRecDepth 100000 in
set_option maxHeartbeats 4000000 in
theorem c_Pa_oc (l : Launch) (z : ZK) (G : GW) (hX : isPx G) (iv : IV) (jv : JV) (B : Nat → Nat) (n : Nat) (t : Tok) (hR : LR iv jv B n t) (b : Nat) (hL : isLa G b) (hb : 1000 ≤ b) (outs : List Wd) (hV : CV iv jv (b + 20) outs) (r : Nat) (hRo : isRo G r) (hr1 : 1000 ≤ r) (k : Nat) (hk : k < 40) (h0 : iv r 0 = nI k) : cI l z yX4_readOutcome cX4_readOutcome 4 (some .boolean) 3 66 0 0 [.ref (G.ad 102), .ref (G.ad b), .ref (G.ad r)] G iv jv (fun r' G' iv' jv' => G = G' ∧ r' = bI (decide ((rdO B n outs t).1 = 0)) ∧ LR iv' jv' B n (rdO B n outs t).2.2 ∧ ((rdO B n outs t).1 ≠ 0 → iv' 102 1 = nI (rdO B n outs t).1) ∧ ((rdO B n outs t).1 = 0 → iv' r 0 = nI (k + 1) ∧ iv' (r + 2) k = nI (rdO B n outs t).2.1) ∧ Fr iv iv' (pOc r k) ∧ FrJ jv jv' qZ) := by
  intro sz
  refine rg_entry rfl (Nat.le_of_ble_eq_true rfl) ?_
  intro pq eq sq mq bq methq cq ls hE hr hlk hml hnm hl hsz hH
  have hl : lv_has ls 4 [(0, .ref (G.ad 102)), (1, .ref (G.ad b)), (2, .ref (G.ad r))] := hl
  have hFr : Fr iv iv (pOc r k) := Fr.rf
  have hFj : FrJ jv jv qZ := FrJ.rf
  have htv2 := TV_nx hR.tv
  refine lv_aload_n hE.1 hE.2.1 dX4_readOutcome_0 rfl (lv_at hl 0 rfl) ?_
  refine lv_aload_n hE.1 hE.2.1 dX4_readOutcome_1 rfl (lv_at hl 1 rfl) ?_
  refine rg_getr hE hH cf_X1 fl_X4_91 rfl (hL.1.1) (hL.1.2) (v := b + 20) (hL.2.2.2.2.2.2.1) dX4_readOutcome_2 ?_
  refine rg_VI (As := [.ref (G.ad (b + 20))]) (rest := []) hE hml hH mc_X4_136 (c_Pa_told l z G hX iv jv B n t hR (b + 20) (hL.2.2.1 5 (by decide)) (by omega) outs hV) (hX.1.1) (hX.1.2) (by decide) rfl ⟨Nat.le_of_ble_eq_true rfl, Nat.le_of_ble_eq_true rfl⟩ rfl hl.1 (by simp [Value.category]) dX4_readOutcome_5 ⟨Nat.le_of_ble_eq_true rfl, Nat.le_of_ble_eq_true rfl⟩ (fun r5 G5 iv5 jv5 H locs hp5 hH => ?_)
  obtain ⟨rfl, rfl, hR, hfd5, hF5, hJ5⟩ := hp5
  have hFr := hFr.tr (hF5.mono (fun _ _ h => Or.inl h))
  have hFj := hFj.tr (hJ5.mono (fun _ _ h => h))
  have h0 : iv5 r 0 = nI k := (hF5 _ _ (by simp only [pZ]; omega)).trans h0
  refine lv_istore_n (lv' := [(3, .int (oI (tH B outs t).2)), (0, .ref (G.ad 102)), (1, .ref (G.ad b)), (2, .ref (G.ad r))]) hE.1 hE.2.1 dX4_readOutcome_8 rfl hl (by decide) rfl (fun ls hl => ?_)
  refine lv_iload_n hE.1 hE.2.1 dX4_readOutcome_9 rfl (lv_at hl 0 rfl) ?_
  refine lv_iconst (v := -1) hE.1 hE.2.1 dX4_readOutcome_10 (by decide) ?_
  refine lv_icmp_ne (tgt := 16) hE.1 hE.2.1 dX4_readOutcome_11 (by decide) (fun c11 => ?_) (fun c11 => ?_)
  · obtain ⟨v, hvl, hf0, hix, hth⟩ : ∃ v, v < outs.length ∧ frF B t = 0 ∧ ixW outs (wd B t) = some v ∧ tH B outs t = (0, some v) := by
      rcases tH_c (B := B) (vs := outs) (t := t) with h | h
      · exact h
      · rw [h.2.1] at c11; exact absurd rfl c11
    have hl : lv_has ls 4 [(3, .int (nI v)), (0, .ref (G.ad 102)), (1, .ref (G.ad b)), (2, .ref (G.ad r))] := by rw [hth] at hl; exact hl
    refine lv_aload_n hE.1 hE.2.1 dX4_readOutcome_16 rfl (lv_at hl 1 rfl) ?_
    refine rg_getr hE hH cf_X4 fl_X4_12 rfl (hX.1.1) (hX.1.2) (v := 103) (hX.2.2.2.2.2.2.1) dX4_readOutcome_17 ?_
    refine rg_VV (As := []) (rest := []) hE hml hH mc_X4_66 (c_Lx_next l z G hX iv5 jv5 B n t hR (fr_ne hf0)) (hX.2.1.1) (hX.2.1.2) (by decide) rfl ⟨Nat.le_of_ble_eq_true rfl, Nat.le_of_ble_eq_true rfl⟩ rfl hl.1 (by simp [Value.category]) dX4_readOutcome_20 ⟨Nat.le_of_ble_eq_true rfl, Nat.le_of_ble_eq_true rfl⟩ (fun G20 iv20 jv20 H locs hp20 hH => ?_)
    obtain ⟨rfl, hR, hF20, hJ20⟩ := hp20
    have hJ20 : FrJ jv5 jv20 qZ := hJ20
    have hF20 : Fr iv5 iv20 pZ := hF20.mono (fun _ _ h => Or.inr h)
    have hFr := hFr.tr (hF20.mono (fun _ _ h => Or.inl h))
    have hFj := hFj.tr (hJ20.mono (fun _ _ h => h))
    have h0 : iv20 r 0 = nI k := (hF20 _ _ (by simp only [pZ]; omega)).trans h0
    refine lv_aload_n hE.1 hE.2.1 dX4_readOutcome_23 rfl (lv_at hl 3 rfl) ?_
    refine lv_iload_n hE.1 hE.2.1 dX4_readOutcome_24 rfl (lv_at hl 0 rfl) ?_
    refine rg_VV (As := [.int (nI v)]) (rest := []) hE hml hH mc_X4_140 (c_Ro_close l z G iv20 jv20 r hRo k v hk h0) (hRo.1.1) (hRo.1.2) (by decide) rfl ⟨Nat.le_of_ble_eq_true rfl, Nat.le_of_ble_eq_true rfl⟩ rfl hl.1 (by simp [Value.category]) dX4_readOutcome_25 ⟨Nat.le_of_ble_eq_true rfl, Nat.le_of_ble_eq_true rfl⟩ (fun G25 iv25 jv25 H locs hp25 hH => ?_)
    obtain ⟨rfl, hiv25, rfl⟩ := hp25
    have hFc : Fr iv20 iv25 (fun lb j => (lb = r ∧ j = 0) ∨ (lb = r + 2 ∧ j = k)) := by rw [hiv25]; exact Fr.up (Fr.up Fr.rf (Or.inr ⟨rfl, rfl⟩)) (Or.inl ⟨rfl, rfl⟩)
    have hFr := hFr.tr (hFc.mono (P' := pOc r k) (fun lb j h => Or.inr h))
    have hR := hR.fr (Q := fun _ _ => False) hFc FrJ.rf (fun j => by omega) (fun j => by omega) (fun j => by omega) (fun j h => h) (fun h => h)
    have h0 : iv25 r 0 = nI (k + 1) := by rw [hiv25]; exact up2_s
    have hov : iv25 (r + 2) k = nI v := by rw [hiv25, up2_l (by omega)]; exact up2_s
    refine lv_aload_n hE.1 hE.2.1 dX4_readOutcome_28 rfl (lv_at hl 1 rfl) ?_
    refine lv_bipush (v := nI 11) hE.1 hE.2.1 dX4_readOutcome_29 (by decide) ?_
    refine rg_VI (As := [.int (nI 11)]) (rest := []) hE hml hH mc_X4_88 (c_Pa_pass l z G hX iv25 jv20 B n (nx B n t) hR 11 (by decide)) (hX.1.1) (hX.1.2) (by decide) rfl ⟨Nat.le_of_ble_eq_true rfl, Nat.le_of_ble_eq_true rfl⟩ rfl hl.1 (by simp [Value.category]) dX4_readOutcome_31 ⟨Nat.le_of_ble_eq_true rfl, Nat.le_of_ble_eq_true rfl⟩ (fun r31 G31 iv31 jv31 H locs hp31 hH => ?_)
    obtain ⟨rfl, rfl, hR, hfd31, hF31, hJ31⟩ := hp31
    have hFr := hFr.tr (hF31.mono (fun _ _ h => Or.inl h))
    have hFj := hFj.tr (hJ31.mono (fun _ _ h => h))
    have h0 : iv31 r 0 = nI (k + 1) := (hF31 _ _ (by simp only [pZ]; omega)).trans h0
    have hov : iv31 (r + 2) k = nI v := (hF31 _ _ (by simp only [pZ]; omega)).trans hov
    by_cases hk11 : kdT B (nx B n t) = 11
    · rw [if_pos hk11] at hR
      have he : rdO B n outs t = (0, v, nx B n (nx B n t)) := by rw [rdO_s hf0 hix, nd_y ((kd_sg (c := 59) htv2 (by decide)).mp hk11)]
      exact rg_iret hE hr nz_bI hlk hH ⟨rfl, by rw [he, decide_eq_true hk11]; rfl, by rw [he]; exact hR, fun h => absurd (by rw [he]) h, fun _ => by rw [he]; exact ⟨h0, hov⟩, hFr, hFj⟩ dX4_readOutcome_34
    · rw [if_neg hk11] at hR
      have he : rdO B n outs t = (1, v, nx B n t) := by rw [rdO_s hf0 hix, nd_n (fun h => hk11 ((kd_sg (c := 59) htv2 (by decide)).mpr h))]
      exact rg_iret hE hr nz_bI hlk hH ⟨rfl, by rw [he, decide_eq_false hk11]; rfl, by rw [he]; exact hR, fun _ => by rw [he]; exact hfd31 hk11, fun h => absurd (by rw [he] at h; exact h) (by simp), hFr, hFj⟩ dX4_readOutcome_34
  · have hth : (tH B outs t).1 ≠ 0 := by
      rcases tH_c (B := B) (vs := outs) (t := t) with ⟨v, hvl, _, _, h⟩ | h
      · rw [h] at c11; exact absurd c11 (nI_ne_m1 (by have := hV.2.1; omega))
      · exact h.1
    refine lv_iconst (v := nI 0) hE.1 hE.2.1 dX4_readOutcome_14 (by decide) ?_
    exact rg_iret hE hr (nz_0) hlk hH ⟨rfl, zero_bI (by rw [rdO_f hth]; exact decide_eq_false hth), by rw [rdO_f hth]; exact hR, fun _ => by rw [rdO_f hth]; exact hfd5 hth, fun h => absurd (by rw [rdO_f hth] at h; exact h) hth, hFr, hFj⟩ dX4_readOutcome_15
set_option maxRecDepth 100000 in
set_option maxHeartbeats 4000000 in
theorem c_Pa_row (l : Launch) (z : ZK) (G : GW) (hX : isPx G) (iv : IV) (jv : JV) (B : Nat → Nat) (n : Nat) (t : Tok) (hR : LR iv jv B n t) (b : Nat) (hL : isLa G b) (hb : 1000 ≤ b) (ins : List Col) (hI : LI iv jv b ins) (outs : List Wd) (hV : CV iv jv (b + 20) outs) (k : Nat) (hk : k < 40) (h0 : iv (b + 30) 0 = nI k) : cI l z yX4_readRow cX4_readRow 3 (some .boolean) 4 93 0 0 [.ref (G.ad 102), .ref (G.ad b)] G iv jv (fun r' G' iv' jv' => G = G' ∧ r' = bI (decide ((rdRow B n (colsOf ins) ins.length outs t).1 = 0)) ∧ LR iv' jv' B n (rdRow B n (colsOf ins) ins.length outs t).2.2 ∧ ((rdRow B n (colsOf ins) ins.length outs t).1 ≠ 0 → iv' 102 1 = nI (rdRow B n (colsOf ins) ins.length outs t).1) ∧ ((rdRow B n (colsOf ins) ins.length outs t).1 = 0 → iv' (b + 30) 0 = nI (k + 1) ∧ (∀ i, i < ins.length → ∃ a, iv' (b + 30 + 1) (k * 5 + i) = nI a ∧ mkE (colsOf ins i).length a ((rdRow B n (colsOf ins) ins.length outs t).2.1.1.getD i 0)) ∧ iv' (b + 30 + 2) k = nI (rdRow B n (colsOf ins) ins.length outs t).2.1.2) ∧ Fr iv iv' (pRw (b + 30) k) ∧ FrJ jv jv' qZ) := by
  intro sz
  refine rg_entry rfl (Nat.le_of_ble_eq_true rfl) ?_
  intro pq eq sq mq bq methq cq ls hE hr hlk hml hnm hl hsz hH
  have hl : lv_has ls 3 [(0, .ref (G.ad 102)), (1, .ref (G.ad b))] := hl
  have hFj : FrJ jv jv qZ := FrJ.rf
  have hl1 : G.ln (b + 1) = 5 := hL.2.1.2.2
  refine lv_aload_n hE.1 hE.2.1 dX4_readRow_0 rfl (lv_at hl 1 rfl) ?_
  refine rg_getr hE hH cf_X1 fl_X4_124 rfl (hL.1.1) (hL.1.2) (v := b + 30) (hL.2.2.2.2.2.2.2) dX4_readRow_1 ?_
  refine rg_VV (As := []) (rest := []) hE hml hH mc_X4_125 (c_Ro_open l z G iv jv (b + 30) hL.2.2.2.1 k hk h0) (hL.2.2.2.1.1.1) (hL.2.2.2.1.1.2) (by decide) rfl ⟨Nat.le_of_ble_eq_true rfl, Nat.le_of_ble_eq_true rfl⟩ rfl hl.1 (by simp [Value.category]) dX4_readRow_4 ⟨Nat.le_of_ble_eq_true rfl, Nat.le_of_ble_eq_true rfl⟩ (fun G4 iv4 jv4 H locs hp4 hH => ?_)
  obtain ⟨rfl, rfl, h63, hF4⟩ := hp4
  have hR := hR.fr (Q := fun _ _ => False) hF4 FrJ.rf (fun j => by omega) (fun j => by omega) (fun j => by omega) (fun j h => h) (fun h => h)
  have hFr : Fr iv iv4 (pRw (b + 30) k) := hF4.mono (fun lb j h => Or.inr (Or.inr (Or.inl h)))
  have h0 : iv4 (b + 30) 0 = nI k := (hF4 _ _ (by omega)).trans h0
  have hI := hI.frR hb hFr hFj
  have hV := hV.frR hb hFr hFj
  have h5 := hI.2.2.1
  refine lv_iconst (v := nI 0) hE.1 hE.2.1 dX4_readRow_7 (by decide) ?_
  refine lv_istore_n (lv' := [(2, .int (nI 0)), (0, .ref (G.ad 102)), (1, .ref (G.ad b))]) hE.1 hE.2.1 dX4_readRow_8 rfl hl (by decide) rfl (fun ls hl => ?_)
  refine rg_loop (σ := IV × JV × Nat) (nL := 3) (fun (u : IV × JV × Nat) => match u with | (iv2, jv2, i) => ins.length - i) (fun (u : IV × JV × Nat) => match u with | (iv2, jv2, i) => [(0, .ref (G.ad 102)), (1, .ref (G.ad b)), (2, .int (nI i))]) (fun (u : IV × JV × Nat) => match u with | (iv2, jv2, i) => G) (fun (u : IV × JV × Nat) => match u with | (iv2, jv2, i) => iv2) (fun (u : IV × JV × Nat) => match u with | (iv2, jv2, i) => jv2) (fun (u : IV × JV × Nat) => match u with | (iv2, jv2, i) => i ≤ ins.length ∧ LR iv2 jv2 B n (rcI B n (colsOf ins) i 0 t).2.2 ∧ (rcI B n (colsOf ins) i 0 t).1 = 0 ∧ LI iv2 jv2 b ins ∧ CV iv2 jv2 (b + 20) outs ∧ iv2 (b + 30) 0 = nI k ∧ (∀ j, j < i → ∃ a, iv2 (b + 30 + 1) (k * 5 + j) = nI a ∧ mkE (colsOf ins j).length a ((rcI B n (colsOf ins) i 0 t).2.1.getD j 0)) ∧ (∀ j, i ≤ j → j < 5 → iv2 (b + 30 + 1) (k * 5 + j) = nI 63) ∧ Fr iv iv2 (pRw (b + 30) k) ∧ FrJ jv jv2 qZ) ?_ ((iv4, jv, 0)) ⟨Nat.zero_le _, hR, rfl, hI, hV, h0, fun j hj => absurd hj (Nat.not_lt_zero j), fun j _ hj => h63 j hj, hFr, hFj⟩ (lv_sub hl [1, 2, 0] rfl) hH
  rintro ⟨iv2, jv2, i⟩ H locs ls ⟨him, hR, hq0, hI, hV, h0, hcl, h63, hFr, hFj⟩ hl hH ih9
  try dsimp only at hl hH ih9
  try dsimp only at him hR hq0 hI hV h0 hcl h63 hFr hFj
  refine lv_iload_n hE.1 hE.2.1 dX4_readRow_9 rfl (lv_at hl 2 rfl) ?_
  refine lv_aload_n hE.1 hE.2.1 dX4_readRow_10 rfl (lv_at hl 1 rfl) ?_
  refine rg_geti hE hH cf_X1 fl_X4_80 rfl (hL.1.1) (hL.1.2) (v := nI ins.length) (hI.1) dX4_readRow_11 ?_
  refine rn_icmp_ge (tgt := 43) hE dX4_readRow_14 (by decide) (by omega) (by omega) (fun c14 => ?_) (fun c14 => ?_)
  · have hie : i = ins.length := by omega
    subst hie
    refine lv_aload_n hE.1 hE.2.1 dX4_readRow_43 rfl (lv_at hl 0 rfl) ?_
    have htvm := hR.tv
    refine lv_bipush (v := nI 13) hE.1 hE.2.1 dX4_readRow_44 (by decide) ?_
    refine rg_VI (As := [.int (nI 13)]) (rest := []) hE hml hH mc_X4_88 (c_Pa_pass l z G hX iv2 jv2 B n ((rcI B n (colsOf ins) ins.length 0 t).2.2) hR 13 (by decide)) (hX.1.1) (hX.1.2) (by decide) rfl ⟨Nat.le_of_ble_eq_true rfl, Nat.le_of_ble_eq_true rfl⟩ rfl hl.1 (by simp [Value.category]) dX4_readRow_46 ⟨Nat.le_of_ble_eq_true rfl, Nat.le_of_ble_eq_true rfl⟩ (fun r46 G46 iv46 jv46 H locs hp46 hH => ?_)
    obtain ⟨rfl, rfl, hR, hfd46, hF46, hJ46⟩ := hp46
    have hFr := hFr.tr (hF46.mono (fun _ _ h => Or.inl h))
    have hFj := hFj.tr (hJ46.mono (fun _ _ h => h))
    have hV := hV.fr hF46 hJ46 (by simp only [pZ]; omega) (fun v => by simp only [qZ]; omega)
    have h0 : iv46 (b + 30) 0 = nI k := (hF46 _ _ (by simp only [pZ]; omega)).trans h0
    have hcl : ∀ j, j < ins.length → ∃ a, iv46 (b + 30 + 1) (k * 5 + j) = nI a ∧ mkE (colsOf ins j).length a ((rcI B n (colsOf ins) ins.length 0 t).2.1.getD j 0) := fun j hj => by
      obtain ⟨a, h1, h2⟩ := hcl j hj
      exact ⟨a, (hF46 _ _ (by simp only [pZ]; omega)).trans h1, h2⟩
    refine rn_ifb_eq (tgt := 68) hE dX4_readRow_49 (by decide) (fun c49 => ?_) (fun c49 => ?_)
    · have hn13 := of_decide_eq_false c49
      rw [if_neg hn13] at hR
      have hra := rdRow_a (outs := outs) hq0 (fun h => hn13 ((kd_sg (c := 256) hR.tv (by decide)).mpr h))
      refine lv_iconst (v := nI 0) hE.1 hE.2.1 dX4_readRow_68 (by decide) ?_
      exact rg_iret hE hr (nz_0) hlk hH ⟨rfl, zero_bI (by rw [hra.1]; rfl), by rw [hra.2]; exact hR, fun _ => by rw [hra.1]; exact hfd46 hn13, fun h => absurd (by rw [hra.1] at h; exact h) (by decide), hFr, hFj⟩ dX4_readRow_69
    · have h13 := of_decide_eq_true c49
      rw [if_pos h13] at hR
      have hro := rdRow_o (outs := outs) hq0 ((kd_sg (c := 256) htvm (by decide)).mp h13)
      refine lv_aload_n hE.1 hE.2.1 dX4_readRow_52 rfl (lv_at hl 0 rfl) ?_
      refine lv_aload_n hE.1 hE.2.1 dX4_readRow_53 rfl (lv_at hl 1 rfl) ?_
      refine lv_aload_n hE.1 hE.2.1 dX4_readRow_54 rfl (lv_at hl 1 rfl) ?_
      refine rg_getr hE hH cf_X1 fl_X4_124 rfl (hL.1.1) (hL.1.2) (v := b + 30) (hL.2.2.2.2.2.2.2) dX4_readRow_55 ?_
      refine rg_VI (As := [.ref (G.ad b), .ref (G.ad (b + 30))]) (rest := []) hE hml hH mc_X4_133 (c_Pa_oc l z G hX iv46 jv46 B n (nx B n (rcI B n (colsOf ins) ins.length 0 t).2.2) hR b hL hb outs hV (b + 30) hL.2.2.2.1 (by omega) k hk h0) (hX.1.1) (hX.1.2) (by decide) rfl ⟨Nat.le_of_ble_eq_true rfl, Nat.le_of_ble_eq_true rfl⟩ rfl hl.1 (by simp [Value.category]) dX4_readRow_58 ⟨Nat.le_of_ble_eq_true rfl, Nat.le_of_ble_eq_true rfl⟩ (fun r58 G58 iv58 jv58 H locs hp58 hH => ?_)
      obtain ⟨rfl, rfl, hR, hfd58, hoc58, hF58, hJ58⟩ := hp58
      have hFr := hFr.tr (hF58.mono (fun lb j h => pOc_R h))
      have hFj := hFj.tr hJ58
      refine rn_ifb_eq (tgt := 68) hE dX4_readRow_61 (by decide) (fun c61 => ?_) (fun c61 => ?_)
      · refine lv_iconst (v := nI 0) hE.1 hE.2.1 dX4_readRow_68 (by decide) ?_
        exact rg_iret hE hr (nz_0) hlk hH ⟨rfl, zero_bI (by rw [hro]; exact c61), by rw [hro]; exact hR, fun _ => by rw [hro]; exact hfd58 (of_decide_eq_false c61), fun h => absurd (by rw [hro] at h; exact h) (of_decide_eq_false c61), hFr, hFj⟩ dX4_readRow_69
      · refine lv_iconst (v := nI 1) hE.1 hE.2.1 dX4_readRow_64 (by decide) ?_
        refine lv_goto (tgt := 69) hE.1 hE.2.1 dX4_readRow_65 (by decide) ?_
        exact rg_iret hE hr (nz_1) hlk hH ⟨rfl, one_bI (by rw [hro]; exact c61), by rw [hro]; exact hR, fun h => absurd (by rw [hro]; exact of_decide_eq_true c61) h, fun _ => by
          rw [hro]
          have ho := hoc58 (of_decide_eq_true c61)
          refine ⟨ho.1, fun i hi => ?_, ho.2⟩
          obtain ⟨a, h1, h2⟩ := hcl i hi
          exact ⟨a, (hF58 _ _ (by simp only [pOc, pZ]; omega)).trans h1, h2⟩, hFr, hFj⟩ dX4_readRow_69
  · have hs1 := rcI_s1 hq0
    refine lv_aload_n hE.1 hE.2.1 dX4_readRow_17 rfl (lv_at hl 0 rfl) ?_
    refine lv_aload_n hE.1 hE.2.1 dX4_readRow_18 rfl (lv_at hl 1 rfl) ?_
    refine rg_getr hE hH cf_X1 fl_X4_69 rfl (hL.1.1) (hL.1.2) (v := b + 1) (hL.2.2.2.2.1) dX4_readRow_19 ?_
    refine lv_iload_n hE.1 hE.2.1 dX4_readRow_22 rfl (lv_at hl 2 rfl) ?_
    refine rg_aldr hE hH (hL.2.1.1) (hL.2.1.2.1) (by decide) (by decide) (by omega) (v := b + 10 + 2 * i) (hL.2.2.2.2.2.1 i (by omega)) dX4_readRow_23 ?_
    refine lv_aload_n hE.1 hE.2.1 dX4_readRow_24 rfl (lv_at hl 1 rfl) ?_
    refine rg_getr hE hH cf_X1 fl_X4_124 rfl (hL.1.1) (hL.1.2) (v := b + 30) (hL.2.2.2.2.2.2.2) dX4_readRow_25 ?_
    refine lv_iload_n hE.1 hE.2.1 dX4_readRow_28 rfl (lv_at hl 2 rfl) ?_
    refine rg_VI (As := [.ref (G.ad (b + 10 + 2 * i)), .ref (G.ad (b + 30)), .int (nI i)]) (rest := []) hE hml hH mc_X4_129 (c_Pa_cell l z G hX iv2 jv2 B n (rcI B n (colsOf ins) i 0 t).2.2 hR (b + 10 + 2 * i) (hL.2.2.1 i (by omega)) (by omega) (colsOf ins i) (hI.2.2.2 i (by omega)).2.2 (b + 30) hL.2.2.2.1 (by omega) k i 63 hk (by omega) (by decide) h0 (h63 i (Nat.le_refl _) (by omega))) (hX.1.1) (hX.1.2) (by decide) rfl ⟨Nat.le_of_ble_eq_true rfl, Nat.le_of_ble_eq_true rfl⟩ rfl hl.1 (by simp [Value.category]) dX4_readRow_29 ⟨Nat.le_of_ble_eq_true rfl, Nat.le_of_ble_eq_true rfl⟩ (fun r29 G29 iv29 jv29 H locs hp29 hH => ?_)
    obtain ⟨rfl, rfl, hR, hfd29, hcc29, hF29, hJ29⟩ := hp29
    have hF29w : Fr iv2 iv29 (pRw (b + 30) k) := hF29.mono (fun lb j h => pRc_R (by omega) h)
    have hFr := hFr.tr hF29w
    have hFj := hFj.tr hJ29
    have hI := hI.frR hb hF29w hJ29
    have hV := hV.frR hb hF29w hJ29
    have h0 : iv29 (b + 30) 0 = nI k := (hF29 _ _ (by simp only [pRc, pZ]; omega)).trans h0
    refine rn_ifb_ne (tgt := 37) hE dX4_readRow_32 (by decide) (fun c32 => ?_) (fun c32 => ?_)
    · have hc0 := of_decide_eq_true c32
      obtain ⟨a, ha1, ha2⟩ := hcc29 hc0
      rw [and63' a ha1.1] at ha2
      refine lv_iinc (v := nI (i + 1)) (lv' := [(2, .int (nI (i + 1))), (0, .ref (G.ad 102)), (1, .ref (G.ad b))]) hE.1 hE.2.1 dX4_readRow_37 hl (k := 2) rfl (nI_1 _) (by decide) rfl (fun ls hl => ?_)
      refine lv_goto (tgt := 9) hE.1 hE.2.1 dX4_readRow_40 (by decide) ?_
      exact ih9 (iv29, jv29, i + 1) _ _ _ (show ins.length - (i + 1) < ins.length - i by omega) ⟨by show i + 1 ≤ ins.length; omega, by dsimp only; rw [hs1]; exact hR, by dsimp only; rw [hs1]; exact hc0, hI, hV, h0, fun j hj => by
        dsimp only at hj ⊢
        rw [hs1]
        by_cases hji : j = i
        · subst hji; exact ⟨a, ha2, by rw [getD_app_len (rcI_len j)]; exact ha1⟩
        · rw [getD_app_lt (by rw [rcI_len]; omega)]
          obtain ⟨a2, h1, h2⟩ := hcl j (by omega)
          exact ⟨a2, (hF29 _ _ (by simp only [pRc, pZ]; omega)).trans h1, h2⟩, fun j h1 h2 => by dsimp only at h1 ⊢; exact (hF29 _ _ (by simp only [pRc, pZ]; omega)).trans (h63 j (by omega) h2), hFr, hFj⟩ (lv_sub hl [1, 2, 0] rfl) hH
    · have hc0 := of_decide_eq_false c32
      have hne : (rcI B n (colsOf ins) (i + 1) 0 t).1 ≠ 0 := by rw [hs1]; exact hc0
      have hrb := rdRow_b (outs := outs) (show i + 1 ≤ ins.length by omega) hne
      rw [hs1] at hrb
      refine lv_iconst (v := nI 0) hE.1 hE.2.1 dX4_readRow_35 (by decide) ?_
      exact rg_iret hE hr (nz_0) hlk hH ⟨rfl, zero_bI (by rw [hrb.1]; exact decide_eq_false hc0), by rw [hrb.2]; exact hR, fun _ => by rw [hrb.1]; exact hfd29 hc0, fun h => absurd (by rw [hrb.1] at h; exact h) hc0, hFr, hFj⟩ dX4_readRow_36
