set_option maxRecDepth 100000 in
set_option maxHeartbeats 4000000 in
theorem c_Tm_any (l : Launch) (z : ZK) (G : GW) (iv : IV) (jv : JV) (ut : Nat) (tab : Tab) (hk : tabOK tab) (hTm : isTm G ut (tm tab) (tC tab) (tT tab)) (hV : TmV iv ut tab) (q : Nat) (hq : q < tT tab) : cI l z yX8_firstAny cX8_firstAny 3 (some .int) 0 0 0 0 [.ref (G.ad ut), .int (nI q)] G iv jv (fun r' G' iv' jv' => G = G' ∧ iv = iv' ∧ jv = jv' ∧ r' = oI (fA tab q)) := by
  intro sz
  refine rg_entry rfl (Nat.le_of_ble_eq_true rfl) ?_
  intro pq eq sq mq bq methq cq ls hE hr hlk hml hnm hl hsz hH
  have hl : lv_has ls 3 [(0, .ref (G.ad ut)), (1, .int (nI q))] := hl
  have hTm0 := hTm
  obtain ⟨⟨mu, ku⟩, hB1, hB2, hB3, hBi, hB10, hB11, hB12, hB13, hB14, s0, s1, s3, s4, s5, s6, s7, s8⟩ := hTm
  have l1 := hB1.2.2
  have l2 := hB2.2.2
  have l3 := hB3.2.2
  have l10 := hB10.2.2
  have l11 := hB11.2.2
  have l12 := hB12.2.2
  have l13 := hB13.2.2
  have l14 := hB14.2.2
  have hm5 := hk.2.1
  have hm1 := hk.1
  have hC4 := hk.2.2.2.1
  have hO6 := hk.2.2.2.2.2.1
  have hT8 := tT_le hk
  refine lv_iconst (v := nI 0) hE.1 hE.2.1 dX8_firstAny_0 (by decide) ?_
  refine lv_istore_n (lv' := [(2, .int (nI 0)), (0, .ref (G.ad ut)), (1, .int (nI q))]) hE.1 hE.2.1 dX8_firstAny_1 rfl hl (by decide) rfl (fun ls hl => ?_)
  refine rg_loop (σ := Nat) (nL := 3) (fun (i : Nat) => tm tab - i) (fun (i : Nat) => [(0, .ref (G.ad ut)), (1, .int (nI q)), (2, .int (nI i))]) (fun (i : Nat) => G) (fun (i : Nat) => iv) (fun (i : Nat) => jv) (fun (i : Nat) => i ≤ tm tab ∧ ∀ j, j < i → (tAt tab q j).isNone = false) ?_ (0) ⟨Nat.zero_le _, fun j hj => absurd hj (Nat.not_lt_zero j)⟩ (lv_sub hl [1, 2, 0] rfl) hH
  rintro i H locs ls ⟨him, hno⟩ hl hH ih2
  try dsimp only at hl hH ih2
  refine lv_iload_n hE.1 hE.2.1 dX8_firstAny_2 rfl (lv_at hl 2 rfl) ?_
  refine lv_aload_n hE.1 hE.2.1 dX8_firstAny_3 rfl (lv_at hl 0 rfl) ?_
  refine rg_getr hE hH cf_X8 fl_X8_15 rfl (mu) (ku) (v := ut + 1) (s0) dX8_firstAny_4 ?_
  refine rg_alen hE hH (hB1.1) (hB1.2.1) (by decide) (by decide) dX8_firstAny_7 ?_
  rw [l1]
  refine rn_icmp_ge (tgt := 36) hE dX8_firstAny_8 (by decide) (by omega) (by omega) (fun c8 => ?_) (fun c8 => ?_)
  · refine lv_iconst (v := -1) hE.1 hE.2.1 dX8_firstAny_36 (by decide) ?_
    exact rg_iret hE hr rfl hlk hH ⟨rfl, rfl, rfl, by rw [show fA tab q = none from fnd_none (fun j hj => hno j (by omega))]; rfl⟩ dX8_firstAny_37
  · have hfi := hk.2.2.1 i (by omega)
    have hdi : vOf (g1 tab) (tm tab) q i < tf tab i + 1 := Nat.mod_lt _ (Nat.succ_pos _)
    have lBi : G.ln (ut + 4 + i) = tT tab := (hBi i (by omega)).1.2.2
    refine lv_aload_n hE.1 hE.2.1 dX8_firstAny_11 rfl (lv_at hl 0 rfl) ?_
    refine rg_getr hE hH cf_X8 fl_X8_29 rfl (mu) (ku) (v := ut + 3) (s3) dX8_firstAny_12 ?_
    refine lv_iload_n hE.1 hE.2.1 dX8_firstAny_15 rfl (lv_at hl 2 rfl) ?_
    refine rg_aldr hE hH (hB3.1) (hB3.2.1) (by decide) (by decide) (by omega) (v := ut + 4 + i) ((hBi i (by omega)).2) dX8_firstAny_16 ?_
    refine lv_iload_n hE.1 hE.2.1 dX8_firstAny_17 rfl (lv_at hl 1 rfl) ?_
    refine rg_iald hE hH ((hBi i (by omega)).1.1) ((hBi i (by omega)).1.2.1) (by omega) (v := nI (vOf (g1 tab) (tm tab) q i)) (hV.2.2.1 i (by omega) q hq) dX8_firstAny_18 ?_
    refine lv_aload_n hE.1 hE.2.1 dX8_firstAny_19 rfl (lv_at hl 0 rfl) ?_
    refine rg_getr hE hH cf_X8 fl_X8_15 rfl (mu) (ku) (v := ut + 1) (s0) dX8_firstAny_20 ?_
    refine lv_iload_n hE.1 hE.2.1 dX8_firstAny_23 rfl (lv_at hl 2 rfl) ?_
    refine rg_iald hE hH (hB1.1) (hB1.2.1) (by omega) (v := nI (tf tab i)) ((hV.1 i (by omega)).1) dX8_firstAny_24 ?_
    refine rn_icmp_ne (tgt := 30) hE dX8_firstAny_25 (by decide) (by omega) (by omega) (fun c25 => ?_) (fun c25 => ?_)
    · refine lv_iinc (v := nI (i + 1)) (lv' := [(2, .int (nI (i + 1))), (0, .ref (G.ad ut)), (1, .int (nI q))]) hE.1 hE.2.1 dX8_firstAny_30 hl (k := 2) rfl (nI_1 _) (by decide) rfl (fun ls hl => ?_)
      refine lv_goto (tgt := 2) hE.1 hE.2.1 dX8_firstAny_33 (by decide) ?_
      exact ih2 (i + 1) _ _ _ (by omega) ⟨by omega, fun j hj => by
        by_cases hji : j = i
        · subst hji; rw [tAt_v c25]; rfl
        · exact hno j (by omega)⟩ (lv_sub hl [1, 2, 0] rfl) hH
    · refine lv_iload_n hE.1 hE.2.1 dX8_firstAny_28 rfl (lv_at hl 2 rfl) ?_
      exact rg_iret hE hr rfl hlk hH ⟨rfl, rfl, rfl, by rw [show fA tab q = some i from fnd_some (by omega) (by rw [tAt_n.mpr c25]; rfl) hno]; rfl⟩ dX8_firstAny_29
set_option maxRecDepth 100000 in
set_option maxHeartbeats 4000000 in
theorem c_Tm_nar (l : Launch) (z : ZK) (G : GW) (iv : IV) (jv : JV) (ut : Nat) (tab : Tab) (hk : tabOK tab) (hTm : isTm G ut (tm tab) (tC tab) (tT tab)) (hV : TmV iv ut tab) (q i : Nat) (hi : i < tm tab) (hqi : tAt tab q i = none) : cI l z yX8_firstNarrower cX8_firstNarrower 3 (some .int) 0 0 0 0 [.ref (G.ad ut), .int (nI q), .int (nI i)] G iv jv (fun r' G' iv' jv' => G = G' ∧ iv = iv' ∧ jv = jv' ∧ r' = nI (nrw tab q i 0)) := by
  intro sz
  refine rg_entry rfl (Nat.le_of_ble_eq_true rfl) ?_
  intro pq eq sq mq bq methq cq ls hE hr hlk hml hnm hl hsz hH
  have hl : lv_has ls 3 [(0, .ref (G.ad ut)), (1, .int (nI q)), (2, .int (nI i))] := hl
  have hTm0 := hTm
  obtain ⟨⟨mu, ku⟩, hB1, hB2, hB3, hBi, hB10, hB11, hB12, hB13, hB14, s0, s1, s3, s4, s5, s6, s7, s8⟩ := hTm
  have l1 := hB1.2.2
  have l2 := hB2.2.2
  have l3 := hB3.2.2
  have l10 := hB10.2.2
  have l11 := hB11.2.2
  have l12 := hB12.2.2
  have l13 := hB13.2.2
  have l14 := hB14.2.2
  have hm5 := hk.2.1
  have hm1 := hk.1
  have hC4 := hk.2.2.2.1
  have hO6 := hk.2.2.2.2.2.1
  have hT8 := tT_le hk
  have hfi := hk.2.2.1 i hi
  have hnr := nrw_ok hi hqi (show 0 < tf tab i by omega)
  refine lv_iload_n hE.1 hE.2.1 dX8_firstNarrower_0 rfl (lv_at hl 1 rfl) ?_
  refine lv_aload_n hE.1 hE.2.1 dX8_firstNarrower_1 rfl (lv_at hl 0 rfl) ?_
  refine rg_getr hE hH cf_X8 fl_X8_15 rfl (mu) (ku) (v := ut + 1) (s0) dX8_firstNarrower_2 ?_
  refine lv_iload_n hE.1 hE.2.1 dX8_firstNarrower_5 rfl (lv_at hl 2 rfl) ?_
  refine rg_iald hE hH (hB1.1) (hB1.2.1) (by omega) (v := nI (tf tab i)) ((hV.1 i (by omega)).1) dX8_firstNarrower_6 ?_
  refine lv_aload_n hE.1 hE.2.1 dX8_firstNarrower_7 rfl (lv_at hl 0 rfl) ?_
  refine rg_getr hE hH cf_X8 fl_X8_20 rfl (mu) (ku) (v := ut + 2) (s1) dX8_firstNarrower_8 ?_
  refine lv_iload_n hE.1 hE.2.1 dX8_firstNarrower_11 rfl (lv_at hl 2 rfl) ?_
  refine rg_iald hE hH (hB2.1) (hB2.2.1) (by omega) (v := nI (st (g1 tab) (tm tab) i)) ((hV.1 i (by omega)).2) dX8_firstNarrower_12 ?_
  refine rn_imul hE dX8_firstNarrower_13 ?_
  refine rn_isub hE dX8_firstNarrower_14 (hnr.1) ?_
  exact rg_iret hE hr rfl hlk hH ⟨rfl, rfl, rfl, rfl⟩ dX8_firstNarrower_15
set_option maxRecDepth 100000 in
set_option maxHeartbeats 4000000 in
theorem c_Tm_onn (l : Launch) (z : ZK) (G : GW) (iv : IV) (jv : JV) (ut : Nat) (tab : Tab) (hk : tabOK tab) (hTm : isTm G ut (tm tab) (tC tab) (tT tab)) (hV : TmV iv ut tab) (q i : Nat) (hq : q < tT tab) (hfa : fA tab q = some i) (hon : ∀ p, p < q → ∃ y, iv (ut + 12) p = y ∧ onR y (AV tab p)) : cI l z yX8_onlyOfNarrower cX8_onlyOfNarrower 6 (some .int) 1 23 0 0 [.ref (G.ad ut), .int (nI q)] G iv jv (fun r' G' iv' jv' => G = G' ∧ iv = iv' ∧ jv = jv' ∧ onR r' (AV tab q)) := by
  intro sz
  refine rg_entry rfl (Nat.le_of_ble_eq_true rfl) ?_
  intro pq eq sq mq bq methq cq ls hE hr hlk hml hnm hl hsz hH
  have hl : lv_has ls 6 [(0, .ref (G.ad ut)), (1, .int (nI q))] := hl
  have hTm0 := hTm
  obtain ⟨⟨mu, ku⟩, hB1, hB2, hB3, hBi, hB10, hB11, hB12, hB13, hB14, s0, s1, s3, s4, s5, s6, s7, s8⟩ := hTm
  have l1 := hB1.2.2
  have l2 := hB2.2.2
  have l3 := hB3.2.2
  have l10 := hB10.2.2
  have l11 := hB11.2.2
  have l12 := hB12.2.2
  have l13 := hB13.2.2
  have l14 := hB14.2.2
  have hm5 := hk.2.1
  have hm1 := hk.1
  have hC4 := hk.2.2.2.1
  have hO6 := hk.2.2.2.2.2.1
  have hT8 := tT_le hk
  have hi := (fA_lt hfa).1
  have hqi := (fA_lt hfa).2
  have hfi := hk.2.2.1 i hi
  refine lv_aload_n hE.1 hE.2.1 dX8_onlyOfNarrower_0 rfl (lv_at hl 0 rfl) ?_
  refine lv_iload_n hE.1 hE.2.1 dX8_onlyOfNarrower_1 rfl (lv_at hl 1 rfl) ?_
  refine rg_VI (As := [.int (nI q)]) (rest := []) hE hml hH mc_X8_62 (c_Tm_any l z G iv jv ut tab hk hTm0 hV q (hq)) (mu) (ku) (by decide) rfl ⟨Nat.le_of_ble_eq_true rfl, Nat.le_of_ble_eq_true rfl⟩ rfl hl.1 (by simp [Value.category]) dX8_onlyOfNarrower_2 ⟨Nat.le_of_ble_eq_true rfl, Nat.le_of_ble_eq_true rfl⟩ (fun r2 G2 iv2 jv2 H locs hp2 hH => ?_)
  obtain ⟨rfl, rfl, rfl, rfl⟩ := hp2
  refine lv_istore_n (lv' := [(2, .int (oI (fA tab q))), (0, .ref (G.ad ut)), (1, .int (nI q))]) hE.1 hE.2.1 dX8_onlyOfNarrower_5 rfl hl (by decide) rfl (fun ls hl => ?_)
  refine lv_iload_n hE.1 hE.2.1 dX8_onlyOfNarrower_6 rfl (lv_at hl 0 rfl) ?_
  refine lv_iconst (v := -1) hE.1 hE.2.1 dX8_onlyOfNarrower_7 (by decide) ?_
  refine lv_icmp_ne (tgt := 13) hE.1 hE.2.1 dX8_onlyOfNarrower_8 (by decide) (fun c8 => ?_) (fun c8 => ?_)
  · have hl : lv_has ls 6 [(2, .int (nI i)), (0, .ref (G.ad ut)), (1, .int (nI q))] := by rw [hfa] at hl; exact hl
    refine lv_iconst (v := -1) hE.1 hE.2.1 dX8_onlyOfNarrower_13 (by decide) ?_
    refine lv_istore_n (lv' := [(3, .int (-1)), (2, .int (nI i)), (0, .ref (G.ad ut)), (1, .int (nI q))]) hE.1 hE.2.1 dX8_onlyOfNarrower_14 rfl hl (by decide) rfl (fun ls hl => ?_)
    refine lv_aload_n hE.1 hE.2.1 dX8_onlyOfNarrower_15 rfl (lv_at hl 2 rfl) ?_
    refine lv_iload_n hE.1 hE.2.1 dX8_onlyOfNarrower_16 rfl (lv_at hl 3 rfl) ?_
    refine lv_iload_n hE.1 hE.2.1 dX8_onlyOfNarrower_17 rfl (lv_at hl 1 rfl) ?_
    refine rg_VI (As := [.int (nI q), .int (nI i)]) (rest := []) hE hml hH mc_X8_65 (c_Tm_nar l z G iv jv ut tab hk hTm0 hV q i hi hqi) (mu) (ku) (by decide) rfl ⟨Nat.le_of_ble_eq_true rfl, Nat.le_of_ble_eq_true rfl⟩ rfl hl.1 (by simp [Value.category]) dX8_onlyOfNarrower_18 ⟨Nat.le_of_ble_eq_true rfl, Nat.le_of_ble_eq_true rfl⟩ (fun r18 G18 iv18 jv18 H locs hp18 hH => ?_)
    obtain ⟨rfl, rfl, rfl, rfl⟩ := hp18
    refine lv_istore (lv' := [(4, .int (nI (nrw tab q i 0))), (3, .int (-1)), (2, .int (nI i)), (0, .ref (G.ad ut)), (1, .int (nI q))]) hE.1 hE.2.1 dX8_onlyOfNarrower_21 hl (by decide) rfl (fun ls hl => ?_)
    refine lv_iconst (v := nI 0) hE.1 hE.2.1 dX8_onlyOfNarrower_23 (by decide) ?_
    refine lv_istore (lv' := [(5, .int (nI 0)), (4, .int (nI (nrw tab q i 0))), (3, .int (-1)), (2, .int (nI i)), (0, .ref (G.ad ut)), (1, .int (nI q))]) hE.1 hE.2.1 dX8_onlyOfNarrower_24 hl (by decide) rfl (fun ls hl => ?_)
    refine rg_loop (σ := Nat × Int32) (nL := 6) (fun (u : Nat × Int32) => match u with | (k, x) => tf tab i - k) (fun (u : Nat × Int32) => match u with | (k, x) => [(0, .ref (G.ad ut)), (1, .int (nI q)), (2, .int (nI i)), (3, .int (x)), (4, .int (nI (nrw tab q i k))), (5, .int (nI k))]) (fun (u : Nat × Int32) => match u with | (k, x) => G) (fun (u : Nat × Int32) => match u with | (k, x) => iv) (fun (u : Nat × Int32) => match u with | (k, x) => jv) (fun (u : Nat × Int32) => match u with | (k, x) => k ≤ tf tab i ∧ onR x (fun v => ∃ w, w < k ∧ AV tab (nrw tab q i w) v)) ?_ ((0, -1)) ⟨Nat.zero_le _, Or.inl ⟨rfl, fun v h => by obtain ⟨w, hw, -⟩ := h; exact absurd hw (Nat.not_lt_zero w)⟩⟩ (lv_sub hl [4, 5, 3, 2, 1, 0] rfl) hH
    rintro ⟨k, x⟩ H locs ls ⟨hkf, hx⟩ hl hH ih26
    try dsimp only at hl hH ih26
    try dsimp only at hkf hx
    refine lv_iload hE.1 hE.2.1 dX8_onlyOfNarrower_26 (lv_at hl 5 rfl) ?_
    refine lv_aload_n hE.1 hE.2.1 dX8_onlyOfNarrower_28 rfl (lv_at hl 0 rfl) ?_
    refine rg_getr hE hH cf_X8 fl_X8_15 rfl (mu) (ku) (v := ut + 1) (s0) dX8_onlyOfNarrower_29 ?_
    refine lv_iload_n hE.1 hE.2.1 dX8_onlyOfNarrower_32 rfl (lv_at hl 2 rfl) ?_
    refine rg_iald hE hH (hB1.1) (hB1.2.1) (by omega) (v := nI (tf tab i)) ((hV.1 i (by omega)).1) dX8_onlyOfNarrower_33 ?_
    refine rn_icmp_ge (tgt := 106) hE dX8_onlyOfNarrower_34 (by decide) (by omega) (by omega) (fun c34 => ?_) (fun c34 => ?_)
    · have hke : k = tf tab i := by omega
      subst hke
      refine lv_iload_n hE.1 hE.2.1 dX8_onlyOfNarrower_106 rfl (lv_at hl 3 rfl) ?_
      exact rg_iret hE hr rfl hlk hH ⟨rfl, rfl, rfl, onR_c hx (fun v => (AV_nrw hk hi hqi).symm)⟩ dX8_onlyOfNarrower_107
    · have hnr := nrw_ok hi hqi c34
      obtain ⟨y, hye, hy⟩ := hon (nrw tab q i k) hnr.2.2
      have hcu : ∀ v, ((fun v => ∃ w, w < k ∧ AV tab (nrw tab q i w) v) v ∨ AV tab (nrw tab q i k) v) ↔ (∃ w, w < k + 1 ∧ AV tab (nrw tab q i w) v) := fun v => ⟨fun h => by
        rcases h with ⟨w, hw, h⟩ | h
        · exact ⟨w, by omega, h⟩
        · exact ⟨k, by omega, h⟩, fun ⟨w, hw, h⟩ => by
        by_cases hwk : w = k
        · subst hwk; exact Or.inr h
        · exact Or.inl ⟨w, by omega, h⟩⟩
      refine lv_iload hE.1 hE.2.1 dX8_onlyOfNarrower_37 (lv_at hl 4 rfl) ?_
      refine rn_if_lt (tgt := 106) hE dX8_onlyOfNarrower_39 (by decide) (by omega) (fun c39 => ?_) (fun c39 => ?_)
      · exact c39.elim
      · refine lv_iload hE.1 hE.2.1 dX8_onlyOfNarrower_42 (lv_at hl 4 rfl) ?_
        refine lv_iload_n hE.1 hE.2.1 dX8_onlyOfNarrower_44 rfl (lv_at hl 1 rfl) ?_
        refine rn_icmp_ge (tgt := 106) hE dX8_onlyOfNarrower_45 (by decide) (by omega) (by omega) (fun c45 => ?_) (fun c45 => ?_)
        · omega
        · refine lv_iload_n hE.1 hE.2.1 dX8_onlyOfNarrower_48 rfl (lv_at hl 3 rfl) ?_
          refine lv_iconst (v := -1) hE.1 hE.2.1 dX8_onlyOfNarrower_49 (by decide) ?_
          refine lv_icmp_ne (tgt := 64) hE.1 hE.2.1 dX8_onlyOfNarrower_50 (by decide) (fun c50 => ?_) (fun c50 => ?_)
          · refine lv_aload_n hE.1 hE.2.1 dX8_onlyOfNarrower_64 rfl (lv_at hl 0 rfl) ?_
            refine rg_getr hE hH cf_X8 fl_X8_38 rfl (mu) (ku) (v := ut + 12) (s6) dX8_onlyOfNarrower_65 ?_
            refine lv_iload hE.1 hE.2.1 dX8_onlyOfNarrower_68 (lv_at hl 4 rfl) ?_
            refine rg_iald hE hH (hB12.1) (hB12.2.1) (by omega) (v := y) (hye) dX8_onlyOfNarrower_70 ?_
            refine lv_iconst (v := -1) hE.1 hE.2.1 dX8_onlyOfNarrower_71 (by decide) ?_
            refine lv_icmp_eq (tgt := 89) hE.1 hE.2.1 dX8_onlyOfNarrower_72 (by decide) (fun c72 => ?_) (fun c72 => ?_)
            · refine lv_iload hE.1 hE.2.1 dX8_onlyOfNarrower_89 (lv_at hl 4 rfl) ?_
              refine lv_aload_n hE.1 hE.2.1 dX8_onlyOfNarrower_91 rfl (lv_at hl 0 rfl) ?_
              refine rg_getr hE hH cf_X8 fl_X8_20 rfl (mu) (ku) (v := ut + 2) (s1) dX8_onlyOfNarrower_92 ?_
              refine lv_iload_n hE.1 hE.2.1 dX8_onlyOfNarrower_95 rfl (lv_at hl 2 rfl) ?_
              refine rg_iald hE hH (hB2.1) (hB2.2.1) (by omega) (v := nI (st (g1 tab) (tm tab) i)) ((hV.1 i (by omega)).2) dX8_onlyOfNarrower_96 ?_
              refine rn_iadd hE dX8_onlyOfNarrower_97 ?_
              refine rn_as (v' := nI (nrw tab q i (k + 1))) (by rw [nrw_s hnr.1 c34]) ?_
              refine lv_istore (lv' := [(4, .int (nI (nrw tab q i (k + 1)))), (0, .ref (G.ad ut)), (1, .int (nI q)), (2, .int (nI i)), (3, .int (x)), (5, .int (nI k))]) hE.1 hE.2.1 dX8_onlyOfNarrower_98 hl (by decide) rfl (fun ls hl => ?_)
              refine lv_iinc (v := nI (k + 1)) (lv' := [(5, .int (nI (k + 1))), (4, .int (nI (nrw tab q i (k + 1)))), (0, .ref (G.ad ut)), (1, .int (nI q)), (2, .int (nI i)), (3, .int (x))]) hE.1 hE.2.1 dX8_onlyOfNarrower_100 hl (k := 5) rfl (nI_1 _) (by decide) rfl (fun ls hl => ?_)
              refine lv_goto (tgt := 26) hE.1 hE.2.1 dX8_onlyOfNarrower_103 (by decide) ?_
              exact ih26 (k + 1, x) _ _ _ (show tf tab i - (k + 1) < tf tab i - k by omega) ⟨by show k + 1 ≤ tf tab i; omega, onR_c (onR_2 hx hy c72) hcu⟩ (lv_sub hl [2, 3, 4, 5, 1, 0] rfl) hH
            · refine lv_aload_n hE.1 hE.2.1 dX8_onlyOfNarrower_75 rfl (lv_at hl 0 rfl) ?_
              refine rg_getr hE hH cf_X8 fl_X8_38 rfl (mu) (ku) (v := ut + 12) (s6) dX8_onlyOfNarrower_76 ?_
              refine lv_iload hE.1 hE.2.1 dX8_onlyOfNarrower_79 (lv_at hl 4 rfl) ?_
              refine rg_iald hE hH (hB12.1) (hB12.2.1) (by omega) (v := y) (hye) dX8_onlyOfNarrower_81 ?_
              refine lv_iload_n hE.1 hE.2.1 dX8_onlyOfNarrower_82 rfl (lv_at hl 3 rfl) ?_
              refine lv_icmp_eq (tgt := 89) hE.1 hE.2.1 dX8_onlyOfNarrower_83 (by decide) (fun c83 => ?_) (fun c83 => ?_)
              · refine lv_iload hE.1 hE.2.1 dX8_onlyOfNarrower_89 (lv_at hl 4 rfl) ?_
                refine lv_aload_n hE.1 hE.2.1 dX8_onlyOfNarrower_91 rfl (lv_at hl 0 rfl) ?_
                refine rg_getr hE hH cf_X8 fl_X8_20 rfl (mu) (ku) (v := ut + 2) (s1) dX8_onlyOfNarrower_92 ?_
                refine lv_iload_n hE.1 hE.2.1 dX8_onlyOfNarrower_95 rfl (lv_at hl 2 rfl) ?_
                refine rg_iald hE hH (hB2.1) (hB2.2.1) (by omega) (v := nI (st (g1 tab) (tm tab) i)) ((hV.1 i (by omega)).2) dX8_onlyOfNarrower_96 ?_
                refine rn_iadd hE dX8_onlyOfNarrower_97 ?_
                refine rn_as (v' := nI (nrw tab q i (k + 1))) (by rw [nrw_s hnr.1 c34]) ?_
                refine lv_istore (lv' := [(4, .int (nI (nrw tab q i (k + 1)))), (0, .ref (G.ad ut)), (1, .int (nI q)), (2, .int (nI i)), (3, .int (x)), (5, .int (nI k))]) hE.1 hE.2.1 dX8_onlyOfNarrower_98 hl (by decide) rfl (fun ls hl => ?_)
                refine lv_iinc (v := nI (k + 1)) (lv' := [(5, .int (nI (k + 1))), (4, .int (nI (nrw tab q i (k + 1)))), (0, .ref (G.ad ut)), (1, .int (nI q)), (2, .int (nI i)), (3, .int (x))]) hE.1 hE.2.1 dX8_onlyOfNarrower_100 hl (k := 5) rfl (nI_1 _) (by decide) rfl (fun ls hl => ?_)
                refine lv_goto (tgt := 26) hE.1 hE.2.1 dX8_onlyOfNarrower_103 (by decide) ?_
                exact ih26 (k + 1, x) _ _ _ (show tf tab i - (k + 1) < tf tab i - k by omega) ⟨by show k + 1 ≤ tf tab i; omega, onR_c (onR_4 hx (by rw [← c83]; exact hy)) hcu⟩ (lv_sub hl [2, 3, 4, 5, 1, 0] rfl) hH
              · refine lv_bipush (v := (-2)) hE.1 hE.2.1 dX8_onlyOfNarrower_86 (by decide) ?_
                exact rg_iret hE hr rfl hlk hH ⟨rfl, rfl, rfl, onR_3 hx hy c50 c72 c83 (fun v h => (AV_nrw hk hi hqi).mpr (by
                  rcases h with ⟨w, hw, h⟩ | h
                  · exact ⟨w, by omega, h⟩
                  · exact ⟨k, by omega, h⟩))⟩ dX8_onlyOfNarrower_88
          · refine lv_aload_n hE.1 hE.2.1 dX8_onlyOfNarrower_53 rfl (lv_at hl 0 rfl) ?_
            refine rg_getr hE hH cf_X8 fl_X8_38 rfl (mu) (ku) (v := ut + 12) (s6) dX8_onlyOfNarrower_54 ?_
            refine lv_iload hE.1 hE.2.1 dX8_onlyOfNarrower_57 (lv_at hl 4 rfl) ?_
            refine rg_iald hE hH (hB12.1) (hB12.2.1) (by omega) (v := y) (hye) dX8_onlyOfNarrower_59 ?_
            refine lv_istore_n (lv' := [(3, .int (y)), (0, .ref (G.ad ut)), (1, .int (nI q)), (2, .int (nI i)), (4, .int (nI (nrw tab q i k))), (5, .int (nI k))]) hE.1 hE.2.1 dX8_onlyOfNarrower_60 rfl hl (by decide) rfl (fun ls hl => ?_)
            refine lv_goto (tgt := 89) hE.1 hE.2.1 dX8_onlyOfNarrower_61 (by decide) ?_
            refine lv_iload hE.1 hE.2.1 dX8_onlyOfNarrower_89 (lv_at hl 4 rfl) ?_
            refine lv_aload_n hE.1 hE.2.1 dX8_onlyOfNarrower_91 rfl (lv_at hl 1 rfl) ?_
            refine rg_getr hE hH cf_X8 fl_X8_20 rfl (mu) (ku) (v := ut + 2) (s1) dX8_onlyOfNarrower_92 ?_
            refine lv_iload_n hE.1 hE.2.1 dX8_onlyOfNarrower_95 rfl (lv_at hl 3 rfl) ?_
            refine rg_iald hE hH (hB2.1) (hB2.2.1) (by omega) (v := nI (st (g1 tab) (tm tab) i)) ((hV.1 i (by omega)).2) dX8_onlyOfNarrower_96 ?_
            refine rn_iadd hE dX8_onlyOfNarrower_97 ?_
            refine rn_as (v' := nI (nrw tab q i (k + 1))) (by rw [nrw_s hnr.1 c34]) ?_
            refine lv_istore (lv' := [(4, .int (nI (nrw tab q i (k + 1)))), (3, .int (y)), (0, .ref (G.ad ut)), (1, .int (nI q)), (2, .int (nI i)), (5, .int (nI k))]) hE.1 hE.2.1 dX8_onlyOfNarrower_98 hl (by decide) rfl (fun ls hl => ?_)
            refine lv_iinc (v := nI (k + 1)) (lv' := [(5, .int (nI (k + 1))), (4, .int (nI (nrw tab q i (k + 1)))), (3, .int (y)), (0, .ref (G.ad ut)), (1, .int (nI q)), (2, .int (nI i))]) hE.1 hE.2.1 dX8_onlyOfNarrower_100 hl (k := 5) rfl (nI_1 _) (by decide) rfl (fun ls hl => ?_)
            refine lv_goto (tgt := 26) hE.1 hE.2.1 dX8_onlyOfNarrower_103 (by decide) ?_
            exact ih26 (k + 1, y) _ _ _ (show tf tab i - (k + 1) < tf tab i - k by omega) ⟨by show k + 1 ≤ tf tab i; omega, onR_c (onR_1 hx c50 hy) hcu⟩ (lv_sub hl [3, 4, 5, 2, 1, 0] rfl) hH
  · rw [oI_m1 (fun k hk2 => by have := (fA_lt hk2).1; omega), hfa] at c8; cases c8
set_option maxRecDepth 100000 in
set_option maxHeartbeats 4000000 in
theorem c_Tm_only (l : Launch) (z : ZK) (G : GW) (iv : IV) (jv : JV) (ut : Nat) (tab : Tab) (hk : tabOK tab) (hTm : isTm G ut (tm tab) (tC tab) (tT tab)) (hV : TmV iv ut tab) (an : Nat) (hAn : isA G an 13 (tC tab)) (hne : an ≠ ut + 12) (han : ∀ c, c < tC tab → iv an c = oI (ans tab c)) : cV l z yX8_findOnlyAnswers cX8_findOnlyAnswers 5 none 2 48 0 0 [.ref (G.ad ut), .ref (G.ad an)] G iv jv (fun G' iv' jv' => G = G' ∧ jv = jv' ∧ (∀ p, p < tT tab → ∃ y, iv' (ut + 12) p = y ∧ onR y (AV tab p)) ∧ Fr iv iv' (fun lb j => lb = ut + 12)) := by
  intro sz
  refine rg_entry rfl (Nat.le_of_ble_eq_true rfl) ?_
  intro pq eq sq mq bq methq cq ls hE hr hlk hml hnm hl hsz hH
  have hl : lv_has ls 5 [(0, .ref (G.ad ut)), (1, .ref (G.ad an))] := hl
  have hTm0 := hTm
  obtain ⟨⟨mu, ku⟩, hB1, hB2, hB3, hBi, hB10, hB11, hB12, hB13, hB14, s0, s1, s3, s4, s5, s6, s7, s8⟩ := hTm
  have l1 := hB1.2.2
  have l2 := hB2.2.2
  have l3 := hB3.2.2
  have l10 := hB10.2.2
  have l11 := hB11.2.2
  have l12 := hB12.2.2
  have l13 := hB13.2.2
  have l14 := hB14.2.2
  have hm5 := hk.2.1
  have hm1 := hk.1
  have hC4 := hk.2.2.2.1
  have hO6 := hk.2.2.2.2.2.1
  have hT8 := tT_le hk
  refine lv_iconst (v := nI 0) hE.1 hE.2.1 dX8_findOnlyAnswers_0 (by decide) ?_
  refine lv_istore_n (lv' := [(2, .int (nI 0)), (0, .ref (G.ad ut)), (1, .ref (G.ad an))]) hE.1 hE.2.1 dX8_findOnlyAnswers_1 rfl hl (by decide) rfl (fun ls hl => ?_)
  refine rg_loop (σ := IV × Nat) (nL := 5) (fun (u : IV × Nat) => match u with | (iv2, q) => tT tab - q) (fun (u : IV × Nat) => match u with | (iv2, q) => [(0, .ref (G.ad ut)), (1, .ref (G.ad an)), (2, .int (nI q))]) (fun (u : IV × Nat) => match u with | (iv2, q) => G) (fun (u : IV × Nat) => match u with | (iv2, q) => iv2) (fun (u : IV × Nat) => match u with | (iv2, q) => jv) (fun (u : IV × Nat) => match u with | (iv2, q) => q ≤ tT tab ∧ (∀ p, p < q → ∃ y, iv2 (ut + 12) p = y ∧ onR y (AV tab p)) ∧ Fr iv iv2 (fun lb j => lb = ut + 12)) ?_ ((iv, 0)) ⟨Nat.zero_le _, fun p hp => absurd hp (Nat.not_lt_zero p), Fr.rf⟩ (lv_sub hl [1, 2, 0] rfl) hH
  rintro ⟨iv2, q⟩ H locs ls ⟨hqT, hon, hFr⟩ hl hH ih2
  try dsimp only at hl hH ih2
  try dsimp only at hqT hon hFr
  have hV2 := hV.fr hFr (by omega) (fun lb j _ _ => by omega) hm5
  refine lv_iload_n hE.1 hE.2.1 dX8_findOnlyAnswers_2 rfl (lv_at hl 2 rfl) ?_
  refine lv_aload_n hE.1 hE.2.1 dX8_findOnlyAnswers_3 rfl (lv_at hl 0 rfl) ?_
  refine rg_geti hE hH cf_X8 fl_X8_23 rfl (mu) (ku) (v := nI (tT tab)) (hV2.2.1) dX8_findOnlyAnswers_4 ?_
  refine rn_icmp_ge (tgt := 62) hE dX8_findOnlyAnswers_7 (by decide) (by omega) (by omega) (fun c7 => ?_) (fun c7 => ?_)
  · have hqe : q = tT tab := by omega
    subst hqe
    exact rg_vret hE hr hlk hH ⟨rfl, rfl, hon, hFr⟩ dX8_findOnlyAnswers_62
  · by_cases hfl : fA tab q = none
    · have hkl := kas_lt c7 hfl
      have hnew := AV_kas hk c7 hfl
      refine lv_aload_n hE.1 hE.2.1 dX8_findOnlyAnswers_10 rfl (lv_at hl 0 rfl) ?_
      refine rg_getr hE hH cf_X8 fl_X8_35 rfl (mu) (ku) (v := ut + 11) (s5) dX8_findOnlyAnswers_11 ?_
      refine lv_iload_n hE.1 hE.2.1 dX8_findOnlyAnswers_14 rfl (lv_at hl 2 rfl) ?_
      refine rg_iald hE hH (hB11.1) (hB11.2.1) (by omega) (v := nI (kas tab q)) ((hV2.2.2.2 q c7).2.trans (cof_t (fA_ful hfl))) dX8_findOnlyAnswers_15 ?_
      refine lv_istore_n (lv' := [(3, .int (nI (kas tab q))), (0, .ref (G.ad ut)), (1, .ref (G.ad an)), (2, .int (nI q))]) hE.1 hE.2.1 dX8_findOnlyAnswers_16 rfl hl (by decide) rfl (fun ls hl => ?_)
      refine lv_iload_n hE.1 hE.2.1 dX8_findOnlyAnswers_17 rfl (lv_at hl 0 rfl) ?_
      refine rn_if_lt (tgt := 31) hE dX8_findOnlyAnswers_18 (by decide) (by omega) (fun c18 => ?_) (fun c18 => ?_)
      · exact c18.elim
      · refine lv_iload_n hE.1 hE.2.1 dX8_findOnlyAnswers_21 rfl (lv_at hl 0 rfl) ?_
        refine lv_aload_n hE.1 hE.2.1 dX8_findOnlyAnswers_22 rfl (lv_at hl 2 rfl) ?_
        refine rg_alen hE hH (hAn.1) (hAn.2.1) (by decide) (by decide) dX8_findOnlyAnswers_23 ?_
        rw [hAn.2.2]
        refine rn_icmp_ge (tgt := 31) hE dX8_findOnlyAnswers_24 (by decide) (by omega) (by omega) (fun c24 => ?_) (fun c24 => ?_)
        · omega
        · refine lv_iconst (v := nI 1) hE.1 hE.2.1 dX8_findOnlyAnswers_27 (by decide) ?_
          refine lv_goto (tgt := 32) hE.1 hE.2.1 dX8_findOnlyAnswers_28 (by decide) ?_
          refine lv_istore (lv' := [(4, .int (nI 1)), (3, .int (nI (kas tab q))), (0, .ref (G.ad ut)), (1, .ref (G.ad an)), (2, .int (nI q))]) hE.1 hE.2.1 dX8_findOnlyAnswers_32 hl (by decide) rfl (fun ls hl => ?_)
          refine lv_aload_n hE.1 hE.2.1 dX8_findOnlyAnswers_34 rfl (lv_at hl 2 rfl) ?_
          refine rg_getr hE hH cf_X8 fl_X8_38 rfl (mu) (ku) (v := ut + 12) (s6) dX8_findOnlyAnswers_35 ?_
          refine lv_iload_n hE.1 hE.2.1 dX8_findOnlyAnswers_38 rfl (lv_at hl 4 rfl) ?_
          refine lv_iload hE.1 hE.2.1 dX8_findOnlyAnswers_39 (lv_at hl 0 rfl) ?_
          refine rn_if_eq (tgt := 50) hE dX8_findOnlyAnswers_41 (by decide) (by omega) (fun c41 => ?_) (fun c41 => ?_)
          · omega
          · refine lv_aload_n hE.1 hE.2.1 dX8_findOnlyAnswers_44 rfl (lv_at hl 3 rfl) ?_
            refine lv_iload_n hE.1 hE.2.1 dX8_findOnlyAnswers_45 rfl (lv_at hl 1 rfl) ?_
            refine rg_iald hE hH (hAn.1) (hAn.2.1) (by rw [hAn.2.2]; exact hkl) (v := oI (ans tab (kas tab q))) ((hFr _ _ (by omega)).trans (han _ hkl)) dX8_findOnlyAnswers_46 ?_
            refine lv_goto (tgt := 55) hE.1 hE.2.1 dX8_findOnlyAnswers_47 (by decide) ?_
            refine rg_iast hE hH (hB12.1) (hB12.2.1) (by omega) (v := oI (ans tab (kas tab q))) dX8_findOnlyAnswers_55 (fun H locs hH => ?_)
            refine lv_iinc (v := nI (q + 1)) (lv' := [(2, .int (nI (q + 1))), (4, .int (nI 1)), (3, .int (nI (kas tab q))), (0, .ref (G.ad ut)), (1, .ref (G.ad an))]) hE.1 hE.2.1 dX8_findOnlyAnswers_56 hl (k := 4) rfl (nI_1 _) (by decide) rfl (fun ls hl => ?_)
            refine lv_goto (tgt := 2) hE.1 hE.2.1 dX8_findOnlyAnswers_59 (by decide) ?_
            exact ih2 (up2 iv2 (ut + 12) q (oI (ans tab (kas tab q))), q + 1) _ _ _ (show tT tab - (q + 1) < tT tab - q by omega) ⟨by show q + 1 ≤ tT tab; omega, fun p hp => by
              dsimp only at hp ⊢
              by_cases hpq : p = q
              · subst hpq; exact ⟨_, up2_s, hnew⟩
              · obtain ⟨y, hy, hy2⟩ := hon p (by omega)
                exact ⟨y, by rw [up2_k (by omega)]; exact hy, hy2⟩, Fr.up hFr rfl⟩ (lv_sub hl [3, 4, 0] rfl) hH
    · obtain ⟨i, hfi⟩ := Option.ne_none_iff_exists'.mp hfl
      refine lv_aload_n hE.1 hE.2.1 dX8_findOnlyAnswers_10 rfl (lv_at hl 0 rfl) ?_
      refine rg_getr hE hH cf_X8 fl_X8_35 rfl (mu) (ku) (v := ut + 11) (s5) dX8_findOnlyAnswers_11 ?_
      refine lv_iload_n hE.1 hE.2.1 dX8_findOnlyAnswers_14 rfl (lv_at hl 2 rfl) ?_
      refine rg_iald hE hH (hB11.1) (hB11.2.1) (by omega) (v := -1) ((hV2.2.2.2 q c7).2.trans (cof_f (fA_nful hfi))) dX8_findOnlyAnswers_15 ?_
      refine lv_istore_n (lv' := [(3, .int (-1)), (0, .ref (G.ad ut)), (1, .ref (G.ad an)), (2, .int (nI q))]) hE.1 hE.2.1 dX8_findOnlyAnswers_16 rfl hl (by decide) rfl (fun ls hl => ?_)
      refine lv_iload_n hE.1 hE.2.1 dX8_findOnlyAnswers_17 rfl (lv_at hl 0 rfl) ?_
      refine lv_if_lt (tgt := 31) hE.1 hE.2.1 dX8_findOnlyAnswers_18 (by decide) (fun c18 => ?_) (fun c18 => ?_)
      · refine lv_iconst (v := nI 0) hE.1 hE.2.1 dX8_findOnlyAnswers_31 (by decide) ?_
        refine lv_istore (lv' := [(4, .int (nI 0)), (3, .int (-1)), (0, .ref (G.ad ut)), (1, .ref (G.ad an)), (2, .int (nI q))]) hE.1 hE.2.1 dX8_findOnlyAnswers_32 hl (by decide) rfl (fun ls hl => ?_)
        refine lv_aload_n hE.1 hE.2.1 dX8_findOnlyAnswers_34 rfl (lv_at hl 2 rfl) ?_
        refine rg_getr hE hH cf_X8 fl_X8_38 rfl (mu) (ku) (v := ut + 12) (s6) dX8_findOnlyAnswers_35 ?_
        refine lv_iload_n hE.1 hE.2.1 dX8_findOnlyAnswers_38 rfl (lv_at hl 4 rfl) ?_
        refine lv_iload hE.1 hE.2.1 dX8_findOnlyAnswers_39 (lv_at hl 0 rfl) ?_
        refine rn_if_eq (tgt := 50) hE dX8_findOnlyAnswers_41 (by decide) (by omega) (fun c41 => ?_) (fun c41 => ?_)
        · refine lv_aload_n hE.1 hE.2.1 dX8_findOnlyAnswers_50 rfl (lv_at hl 2 rfl) ?_
          refine lv_iload_n hE.1 hE.2.1 dX8_findOnlyAnswers_51 rfl (lv_at hl 4 rfl) ?_
          refine rg_VI (As := [.int (nI q)]) (rest := [.int (nI q), .ref (G.ad (ut + 12))]) hE hml hH mc_X8_58 (c_Tm_onn l z G iv2 jv ut tab hk hTm0 hV2 q i c7 hfi hon) (mu) (ku) (by decide) rfl ⟨Nat.le_of_ble_eq_true rfl, Nat.le_of_ble_eq_true rfl⟩ rfl hl.1 (by simp [Value.category]) dX8_findOnlyAnswers_52 ⟨Nat.le_of_ble_eq_true rfl, Nat.le_of_ble_eq_true rfl⟩ (fun r52 G52 iv52 jv52 H locs hp52 hH => ?_)
          obtain ⟨rfl, rfl, rfl, hon52⟩ := hp52
          have hnew := hon52
          refine rg_iast hE hH (hB12.1) (hB12.2.1) (by omega) (v := r52) dX8_findOnlyAnswers_55 (fun H locs hH => ?_)
          refine lv_iinc (v := nI (q + 1)) (lv' := [(2, .int (nI (q + 1))), (4, .int (nI 0)), (3, .int (-1)), (0, .ref (G.ad ut)), (1, .ref (G.ad an))]) hE.1 hE.2.1 dX8_findOnlyAnswers_56 hl (k := 4) rfl (nI_1 _) (by decide) rfl (fun ls hl => ?_)
          refine lv_goto (tgt := 2) hE.1 hE.2.1 dX8_findOnlyAnswers_59 (by decide) ?_
          exact ih2 (up2 iv2 (ut + 12) q r52, q + 1) _ _ _ (show tT tab - (q + 1) < tT tab - q by omega) ⟨by show q + 1 ≤ tT tab; omega, fun p hp => by
            dsimp only at hp ⊢
            by_cases hpq : p = q
            · subst hpq; exact ⟨_, up2_s, hnew⟩
            · obtain ⟨y, hy, hy2⟩ := hon p (by omega)
              exact ⟨y, by rw [up2_k (by omega)]; exact hy, hy2⟩, Fr.up hFr rfl⟩ (lv_sub hl [3, 4, 0] rfl) hH
        · omega
      · exact absurd (by decide) c18
set_option maxRecDepth 100000 in
set_option maxHeartbeats 4000000 in
theorem c_Tm_holds (l : Launch) (z : ZK) (G : GW) (iv : IV) (jv : JV) (ut : Nat) (tab : Tab) (hk : tabOK tab) (hTm : isTm G ut (tm tab) (tC tab) (tT tab)) (hV : TmV iv ut tab) (q : Nat) (hq : q < tT tab) (t : Nat) (hCa : isCa G t (tm tab) (tC tab)) (hCV : CVl iv t tab) (c : Nat) (hc : c < tC tab) : cI l z yX8_holds cX8_holds 5 (some .boolean) 0 0 0 0 [.ref (G.ad ut), .int (nI q), .ref (G.ad (t + 1)), .int (nI c)] G iv jv (fun r' G' iv' jv' => G = G' ∧ iv = iv' ∧ jv = jv' ∧ r' = bI (hld tab q c)) := by
  intro sz
  refine rg_entry rfl (Nat.le_of_ble_eq_true rfl) ?_
  intro pq eq sq mq bq methq cq ls hE hr hlk hml hnm hl hsz hH
  have hl : lv_has ls 5 [(0, .ref (G.ad ut)), (1, .int (nI q)), (2, .ref (G.ad (t + 1))), (3, .int (nI c))] := hl
  have hTm0 := hTm
  obtain ⟨⟨mu, ku⟩, hB1, hB2, hB3, hBi, hB10, hB11, hB12, hB13, hB14, s0, s1, s3, s4, s5, s6, s7, s8⟩ := hTm
  have l1 := hB1.2.2
  have l2 := hB2.2.2
  have l3 := hB3.2.2
  have l10 := hB10.2.2
  have l11 := hB11.2.2
  have l12 := hB12.2.2
  have l13 := hB13.2.2
  have l14 := hB14.2.2
  have hm5 := hk.2.1
  have hm1 := hk.1
  have hC4 := hk.2.2.2.1
  have hO6 := hk.2.2.2.2.2.1
  have hT8 := tT_le hk
  have lCa : G.ln (t + 1) = tm tab := hCa.1.2.2
  refine lv_iconst (v := nI 0) hE.1 hE.2.1 dX8_holds_0 (by decide) ?_
  refine lv_istore (lv' := [(4, .int (nI 0)), (0, .ref (G.ad ut)), (1, .int (nI q)), (2, .ref (G.ad (t + 1))), (3, .int (nI c))]) hE.1 hE.2.1 dX8_holds_1 hl (by decide) rfl (fun ls hl => ?_)
  refine rg_loop (σ := Nat) (nL := 5) (fun (i : Nat) => tm tab - i) (fun (i : Nat) => [(0, .ref (G.ad ut)), (1, .int (nI q)), (2, .ref (G.ad (t + 1))), (3, .int (nI c)), (4, .int (nI i))]) (fun (i : Nat) => G) (fun (i : Nat) => iv) (fun (i : Nat) => jv) (fun (i : Nat) => i ≤ tm tab ∧ ∀ j, j < i → tAt tab q j = none ∨ tAt tab q j = some (vOf (tf tab) (tm tab) c j)) ?_ (0) ⟨Nat.zero_le _, fun j hj => absurd hj (Nat.not_lt_zero j)⟩ (lv_sub hl [1, 2, 3, 4, 0] rfl) hH
  rintro i H locs ls ⟨him, hal⟩ hl hH ih3
  try dsimp only at hl hH ih3
  refine lv_iload hE.1 hE.2.1 dX8_holds_3 (lv_at hl 4 rfl) ?_
  refine lv_aload_n hE.1 hE.2.1 dX8_holds_5 rfl (lv_at hl 0 rfl) ?_
  refine rg_getr hE hH cf_X8 fl_X8_15 rfl (mu) (ku) (v := ut + 1) (s0) dX8_holds_6 ?_
  refine rg_alen hE hH (hB1.1) (hB1.2.1) (by decide) (by decide) dX8_holds_9 ?_
  rw [l1]
  refine rn_icmp_ge (tgt := 65) hE dX8_holds_10 (by decide) (by omega) (by omega) (fun c10 => ?_) (fun c10 => ?_)
  · have hie : i = tm tab := by omega
    subst hie
    refine lv_iconst (v := nI 1) hE.1 hE.2.1 dX8_holds_65 (by decide) ?_
    exact rg_iret hE hr (nz_1) hlk hH ⟨rfl, rfl, rfl, one_bI (hld_t.mpr hal)⟩ dX8_holds_66
  · refine lv_iload hE.1 hE.2.1 dX8_holds_13 (lv_at hl 4 rfl) ?_
    refine lv_aload_n hE.1 hE.2.1 dX8_holds_15 rfl (lv_at hl 2 rfl) ?_
    refine rg_alen hE hH (hCa.1.1) (hCa.1.2.1) (by decide) (by decide) dX8_holds_16 ?_
    rw [hCa.1.2.2]
    refine rn_icmp_ge (tgt := 65) hE dX8_holds_17 (by decide) (by omega) (by omega) (fun c17 => ?_) (fun c17 => ?_)
    · omega
    · have hfi := hk.2.2.1 i (by omega)
      have hdi : vOf (g1 tab) (tm tab) q i < tf tab i + 1 := Nat.mod_lt _ (Nat.succ_pos _)
      have lBi : G.ln (ut + 4 + i) = tT tab := (hBi i (by omega)).1.2.2
      have hvl := vOf_lt hk (c := c) (show i < tm tab by omega)
      have lCi : G.ln (t + 2 + i) = tC tab := (hCa.2 i (by omega)).1.2.2
      refine lv_aload_n hE.1 hE.2.1 dX8_holds_20 rfl (lv_at hl 0 rfl) ?_
      refine rg_getr hE hH cf_X8 fl_X8_29 rfl (mu) (ku) (v := ut + 3) (s3) dX8_holds_21 ?_
      refine lv_iload hE.1 hE.2.1 dX8_holds_24 (lv_at hl 4 rfl) ?_
      refine rg_aldr hE hH (hB3.1) (hB3.2.1) (by decide) (by decide) (by omega) (v := ut + 4 + i) ((hBi i (by omega)).2) dX8_holds_26 ?_
      refine lv_iload_n hE.1 hE.2.1 dX8_holds_27 rfl (lv_at hl 1 rfl) ?_
      refine rg_iald hE hH ((hBi i (by omega)).1.1) ((hBi i (by omega)).1.2.1) (by omega) (v := nI (vOf (g1 tab) (tm tab) q i)) (hV.2.2.1 i (by omega) q hq) dX8_holds_28 ?_
      refine lv_aload_n hE.1 hE.2.1 dX8_holds_29 rfl (lv_at hl 0 rfl) ?_
      refine rg_getr hE hH cf_X8 fl_X8_15 rfl (mu) (ku) (v := ut + 1) (s0) dX8_holds_30 ?_
      refine lv_iload hE.1 hE.2.1 dX8_holds_33 (lv_at hl 4 rfl) ?_
      refine rg_iald hE hH (hB1.1) (hB1.2.1) (by omega) (v := nI (tf tab i)) ((hV.1 i (by omega)).1) dX8_holds_35 ?_
      refine rn_icmp_eq (tgt := 59) hE dX8_holds_36 (by decide) (by omega) (by omega) (fun c36 => ?_) (fun c36 => ?_)
      · refine lv_iinc (v := nI (i + 1)) (lv' := [(4, .int (nI (i + 1))), (0, .ref (G.ad ut)), (1, .int (nI q)), (2, .ref (G.ad (t + 1))), (3, .int (nI c))]) hE.1 hE.2.1 dX8_holds_59 hl (k := 4) rfl (nI_1 _) (by decide) rfl (fun ls hl => ?_)
        refine lv_goto (tgt := 3) hE.1 hE.2.1 dX8_holds_62 (by decide) ?_
        exact ih3 (i + 1) _ _ _ (by omega) ⟨by omega, fun j hj => by
          by_cases hji : j = i
          · subst hji; exact Or.inl (tAt_n.mpr c36)
          · exact hal j (by omega)⟩ (lv_sub hl [1, 2, 3, 4, 0] rfl) hH
      · refine lv_aload_n hE.1 hE.2.1 dX8_holds_39 rfl (lv_at hl 0 rfl) ?_
        refine rg_getr hE hH cf_X8 fl_X8_29 rfl (mu) (ku) (v := ut + 3) (s3) dX8_holds_40 ?_
        refine lv_iload hE.1 hE.2.1 dX8_holds_43 (lv_at hl 4 rfl) ?_
        refine rg_aldr hE hH (hB3.1) (hB3.2.1) (by decide) (by decide) (by omega) (v := ut + 4 + i) ((hBi i (by omega)).2) dX8_holds_45 ?_
        refine lv_iload_n hE.1 hE.2.1 dX8_holds_46 rfl (lv_at hl 1 rfl) ?_
        refine rg_iald hE hH ((hBi i (by omega)).1.1) ((hBi i (by omega)).1.2.1) (by omega) (v := nI (vOf (g1 tab) (tm tab) q i)) (hV.2.2.1 i (by omega) q hq) dX8_holds_47 ?_
        refine lv_aload_n hE.1 hE.2.1 dX8_holds_48 rfl (lv_at hl 2 rfl) ?_
        refine lv_iload hE.1 hE.2.1 dX8_holds_49 (lv_at hl 4 rfl) ?_
        refine rg_aldr hE hH (hCa.1.1) (hCa.1.2.1) (by decide) (by decide) (by omega) (v := t + 2 + i) ((hCa.2 i (by omega)).2) dX8_holds_51 ?_
        refine lv_iload_n hE.1 hE.2.1 dX8_holds_52 rfl (lv_at hl 3 rfl) ?_
        refine rg_iald hE hH ((hCa.2 i (by omega)).1.1) ((hCa.2 i (by omega)).1.2.1) (by omega) (v := nI (vOf (tf tab) (tm tab) c i)) (hCV i (by omega) c hc) dX8_holds_53 ?_
        refine rn_icmp_eq (tgt := 59) hE dX8_holds_54 (by decide) (by omega) (by omega) (fun c54 => ?_) (fun c54 => ?_)
        · refine lv_iinc (v := nI (i + 1)) (lv' := [(4, .int (nI (i + 1))), (0, .ref (G.ad ut)), (1, .int (nI q)), (2, .ref (G.ad (t + 1))), (3, .int (nI c))]) hE.1 hE.2.1 dX8_holds_59 hl (k := 4) rfl (nI_1 _) (by decide) rfl (fun ls hl => ?_)
          refine lv_goto (tgt := 3) hE.1 hE.2.1 dX8_holds_62 (by decide) ?_
          exact ih3 (i + 1) _ _ _ (by omega) ⟨by omega, fun j hj => by
            by_cases hji : j = i
            · subst hji; exact Or.inr (by rw [tAt_v c36, c54])
            · exact hal j (by omega)⟩ (lv_sub hl [1, 2, 3, 4, 0] rfl) hH
        · refine lv_iconst (v := nI 0) hE.1 hE.2.1 dX8_holds_57 (by decide) ?_
          exact rg_iret hE hr (nz_0) hlk hH ⟨rfl, rfl, rfl, zero_bI (by
            cases h : hld tab q c with
            | false => rfl
            | true =>
              exfalso
              rcases hld_t.mp h i (by omega) with h1 | h1
              · exact c36 (tAt_n.mp h1)
              · rw [tAt_v c36] at h1; exact c54 (Option.some.inj h1))⟩ dX8_holds_58
set_option maxRecDepth 100000 in
set_option maxHeartbeats 4000000 in
theorem c_Tm_told (l : Launch) (z : ZK) (G : GW) (iv : IV) (jv : JV) (ut : Nat) (tab : Tab) (hk : tabOK tab) (hTm : isTm G ut (tm tab) (tC tab) (tT tab)) (hV : TmV iv ut tab) (q : Nat) (hq : q < tT tab) (i : Nat) (hi : i < tm tab) : cI l z yX8_valueTold cX8_valueTold 4 (some .int) 0 0 0 0 [.ref (G.ad ut), .int (nI q), .int (nI i)] G iv jv (fun r' G' iv' jv' => G = G' ∧ iv = iv' ∧ jv = jv' ∧ r' = oI (tAt tab q i)) := by
  intro sz
  refine rg_entry rfl (Nat.le_of_ble_eq_true rfl) ?_
  intro pq eq sq mq bq methq cq ls hE hr hlk hml hnm hl hsz hH
  have hl : lv_has ls 4 [(0, .ref (G.ad ut)), (1, .int (nI q)), (2, .int (nI i))] := hl
  have hTm0 := hTm
  obtain ⟨⟨mu, ku⟩, hB1, hB2, hB3, hBi, hB10, hB11, hB12, hB13, hB14, s0, s1, s3, s4, s5, s6, s7, s8⟩ := hTm
  have l1 := hB1.2.2
  have l2 := hB2.2.2
  have l3 := hB3.2.2
  have l10 := hB10.2.2
  have l11 := hB11.2.2
  have l12 := hB12.2.2
  have l13 := hB13.2.2
  have l14 := hB14.2.2
  have hm5 := hk.2.1
  have hm1 := hk.1
  have hC4 := hk.2.2.2.1
  have hO6 := hk.2.2.2.2.2.1
  have hT8 := tT_le hk
  have hfi := hk.2.2.1 i (by omega)
  have hdi : vOf (g1 tab) (tm tab) q i < tf tab i + 1 := Nat.mod_lt _ (Nat.succ_pos _)
  have lBi : G.ln (ut + 4 + i) = tT tab := (hBi i (by omega)).1.2.2
  refine lv_aload_n hE.1 hE.2.1 dX8_valueTold_0 rfl (lv_at hl 0 rfl) ?_
  refine rg_getr hE hH cf_X8 fl_X8_29 rfl (mu) (ku) (v := ut + 3) (s3) dX8_valueTold_1 ?_
  refine lv_iload_n hE.1 hE.2.1 dX8_valueTold_4 rfl (lv_at hl 2 rfl) ?_
  refine rg_aldr hE hH (hB3.1) (hB3.2.1) (by decide) (by decide) (by omega) (v := ut + 4 + i) ((hBi i (by omega)).2) dX8_valueTold_5 ?_
  refine lv_iload_n hE.1 hE.2.1 dX8_valueTold_6 rfl (lv_at hl 1 rfl) ?_
  refine rg_iald hE hH ((hBi i (by omega)).1.1) ((hBi i (by omega)).1.2.1) (by omega) (v := nI (vOf (g1 tab) (tm tab) q i)) (hV.2.2.1 i hi q hq) dX8_valueTold_7 ?_
  refine lv_istore_n (lv' := [(3, .int (nI (vOf (g1 tab) (tm tab) q i))), (0, .ref (G.ad ut)), (1, .int (nI q)), (2, .int (nI i))]) hE.1 hE.2.1 dX8_valueTold_8 rfl hl (by decide) rfl (fun ls hl => ?_)
  refine lv_iload_n hE.1 hE.2.1 dX8_valueTold_9 rfl (lv_at hl 0 rfl) ?_
  refine lv_aload_n hE.1 hE.2.1 dX8_valueTold_10 rfl (lv_at hl 1 rfl) ?_
  refine rg_getr hE hH cf_X8 fl_X8_15 rfl (mu) (ku) (v := ut + 1) (s0) dX8_valueTold_11 ?_
  refine lv_iload_n hE.1 hE.2.1 dX8_valueTold_14 rfl (lv_at hl 3 rfl) ?_
  refine rg_iald hE hH (hB1.1) (hB1.2.1) (by omega) (v := nI (tf tab i)) ((hV.1 i (by omega)).1) dX8_valueTold_15 ?_
  refine rn_icmp_ne (tgt := 23) hE dX8_valueTold_16 (by decide) (by omega) (by omega) (fun c16 => ?_) (fun c16 => ?_)
  · refine lv_iload_n hE.1 hE.2.1 dX8_valueTold_23 rfl (lv_at hl 0 rfl) ?_
    exact rg_iret hE hr rfl hlk hH ⟨rfl, rfl, rfl, by rw [tAt_v c16]; rfl⟩ dX8_valueTold_24
  · refine lv_iconst (v := -1) hE.1 hE.2.1 dX8_valueTold_19 (by decide) ?_
    refine lv_goto (tgt := 24) hE.1 hE.2.1 dX8_valueTold_20 (by decide) ?_
    exact rg_iret hE hr rfl hlk hH ⟨rfl, rfl, rfl, by rw [tAt_n.mpr c16]; rfl⟩ dX8_valueTold_24
set_option maxRecDepth 100000 in
set_option maxHeartbeats 4000000 in
theorem c_Tm_held (l : Launch) (z : ZK) (G : GW) (iv : IV) (jv : JV) (ut : Nat) (tab : Tab) (hk : tabOK tab) (hTm : isTm G ut (tm tab) (tC tab) (tT tab)) (hV : TmV iv ut tab) (q : Nat) (hq : q < tT tab) : cI l z yX8_casesHeld cX8_casesHeld 4 (some .int) 0 0 0 0 [.ref (G.ad ut), .int (nI q)] G iv jv (fun r' G' iv' jv' => G = G' ∧ iv = iv' ∧ jv = jv' ∧ r' = nI (held tab q)) := by
  intro sz
  refine rg_entry rfl (Nat.le_of_ble_eq_true rfl) ?_
  intro pq eq sq mq bq methq cq ls hE hr hlk hml hnm hl hsz hH
  have hl : lv_has ls 4 [(0, .ref (G.ad ut)), (1, .int (nI q))] := hl
  have hTm0 := hTm
  obtain ⟨⟨mu, ku⟩, hB1, hB2, hB3, hBi, hB10, hB11, hB12, hB13, hB14, s0, s1, s3, s4, s5, s6, s7, s8⟩ := hTm
  have l1 := hB1.2.2
  have l2 := hB2.2.2
  have l3 := hB3.2.2
  have l10 := hB10.2.2
  have l11 := hB11.2.2
  have l12 := hB12.2.2
  have l13 := hB13.2.2
  have l14 := hB14.2.2
  have hm5 := hk.2.1
  have hm1 := hk.1
  have hC4 := hk.2.2.2.1
  have hO6 := hk.2.2.2.2.2.1
  have hT8 := tT_le hk
  refine lv_iconst (v := nI 1) hE.1 hE.2.1 dX8_casesHeld_0 (by decide) ?_
  refine lv_istore_n (lv' := [(2, .int (nI 1)), (0, .ref (G.ad ut)), (1, .int (nI q))]) hE.1 hE.2.1 dX8_casesHeld_1 rfl hl (by decide) rfl (fun ls hl => ?_)
  refine lv_iconst (v := nI 0) hE.1 hE.2.1 dX8_casesHeld_2 (by decide) ?_
  refine lv_istore_n (lv' := [(3, .int (nI 0)), (2, .int (nI 1)), (0, .ref (G.ad ut)), (1, .int (nI q))]) hE.1 hE.2.1 dX8_casesHeld_3 rfl hl (by decide) rfl (fun ls hl => ?_)
  refine rg_loop (σ := Nat) (nL := 4) (fun (i : Nat) => tm tab - i) (fun (i : Nat) => [(0, .ref (G.ad ut)), (1, .int (nI q)), (2, .int (nI (prd (fun k => if tAt tab q k = none then tf tab k else 1) i))), (3, .int (nI i))]) (fun (i : Nat) => G) (fun (i : Nat) => iv) (fun (i : Nat) => jv) (fun (i : Nat) => i ≤ tm tab) ?_ (0) (Nat.zero_le _) (lv_sub hl [2, 3, 1, 0] rfl) hH
  rintro i H locs ls him hl hH ih4
  try dsimp only at hl hH ih4
  refine lv_iload_n hE.1 hE.2.1 dX8_casesHeld_4 rfl (lv_at hl 3 rfl) ?_
  refine lv_aload_n hE.1 hE.2.1 dX8_casesHeld_5 rfl (lv_at hl 0 rfl) ?_
  refine rg_getr hE hH cf_X8 fl_X8_15 rfl (mu) (ku) (v := ut + 1) (s0) dX8_casesHeld_6 ?_
  refine rg_alen hE hH (hB1.1) (hB1.2.1) (by decide) (by decide) dX8_casesHeld_9 ?_
  rw [l1]
  refine rn_icmp_ge (tgt := 45) hE dX8_casesHeld_10 (by decide) (by omega) (by omega) (fun c10 => ?_) (fun c10 => ?_)
  · have hie : i = tm tab := by omega
    subst hie
    refine lv_iload_n hE.1 hE.2.1 dX8_casesHeld_45 rfl (lv_at hl 2 rfl) ?_
    exact rg_iret hE hr rfl hlk hH ⟨rfl, rfl, rfl, rfl⟩ dX8_casesHeld_46
  · have hfi := hk.2.2.1 i (by omega)
    have hdi : vOf (g1 tab) (tm tab) q i < tf tab i + 1 := Nat.mod_lt _ (Nat.succ_pos _)
    have lBi : G.ln (ut + 4 + i) = tT tab := (hBi i (by omega)).1.2.2
    refine lv_aload_n hE.1 hE.2.1 dX8_casesHeld_13 rfl (lv_at hl 0 rfl) ?_
    refine rg_getr hE hH cf_X8 fl_X8_29 rfl (mu) (ku) (v := ut + 3) (s3) dX8_casesHeld_14 ?_
    refine lv_iload_n hE.1 hE.2.1 dX8_casesHeld_17 rfl (lv_at hl 3 rfl) ?_
    refine rg_aldr hE hH (hB3.1) (hB3.2.1) (by decide) (by decide) (by omega) (v := ut + 4 + i) ((hBi i (by omega)).2) dX8_casesHeld_18 ?_
    refine lv_iload_n hE.1 hE.2.1 dX8_casesHeld_19 rfl (lv_at hl 1 rfl) ?_
    refine rg_iald hE hH ((hBi i (by omega)).1.1) ((hBi i (by omega)).1.2.1) (by omega) (v := nI (vOf (g1 tab) (tm tab) q i)) (hV.2.2.1 i (by omega) q hq) dX8_casesHeld_20 ?_
    refine lv_aload_n hE.1 hE.2.1 dX8_casesHeld_21 rfl (lv_at hl 0 rfl) ?_
    refine rg_getr hE hH cf_X8 fl_X8_15 rfl (mu) (ku) (v := ut + 1) (s0) dX8_casesHeld_22 ?_
    refine lv_iload_n hE.1 hE.2.1 dX8_casesHeld_25 rfl (lv_at hl 3 rfl) ?_
    refine rg_iald hE hH (hB1.1) (hB1.2.1) (by omega) (v := nI (tf tab i)) ((hV.1 i (by omega)).1) dX8_casesHeld_26 ?_
    refine rn_icmp_ne (tgt := 39) hE dX8_casesHeld_27 (by decide) (by omega) (by omega) (fun c27 => ?_) (fun c27 => ?_)
    · have hl : lv_has ls 4 [(0, .ref (G.ad ut)), (1, .int (nI q)), (2, .int (nI (prd (fun k => if tAt tab q k = none then tf tab k else 1) (i + 1)))), (3, .int (nI i))] := by rw [prd, if_neg (fun h => c27 (tAt_n.mp h)), Nat.mul_one]; exact hl
      refine lv_iinc (v := nI (i + 1)) (lv' := [(3, .int (nI (i + 1))), (0, .ref (G.ad ut)), (1, .int (nI q)), (2, .int (nI (prd (fun k => if tAt tab q k = none then tf tab k else 1) (i + 1))))]) hE.1 hE.2.1 dX8_casesHeld_39 hl (k := 3) rfl (nI_1 _) (by decide) rfl (fun ls hl => ?_)
      refine lv_goto (tgt := 4) hE.1 hE.2.1 dX8_casesHeld_42 (by decide) ?_
      exact ih4 (i + 1) _ _ _ (by omega) (by omega) (lv_sub hl [1, 2, 3, 0] rfl) hH
    · refine lv_iload_n hE.1 hE.2.1 dX8_casesHeld_30 rfl (lv_at hl 2 rfl) ?_
      refine lv_aload_n hE.1 hE.2.1 dX8_casesHeld_31 rfl (lv_at hl 0 rfl) ?_
      refine rg_getr hE hH cf_X8 fl_X8_15 rfl (mu) (ku) (v := ut + 1) (s0) dX8_casesHeld_32 ?_
      refine lv_iload_n hE.1 hE.2.1 dX8_casesHeld_35 rfl (lv_at hl 3 rfl) ?_
      refine rg_iald hE hH (hB1.1) (hB1.2.1) (by omega) (v := nI (tf tab i)) ((hV.1 i (by omega)).1) dX8_casesHeld_36 ?_
      refine rn_imul hE dX8_casesHeld_37 ?_
      refine lv_istore_n (lv' := [(2, .int (nI ((prd (fun k => if tAt tab q k = none then tf tab k else 1) i) * (tf tab i)))), (0, .ref (G.ad ut)), (1, .int (nI q)), (3, .int (nI i))]) hE.1 hE.2.1 dX8_casesHeld_38 rfl hl (by decide) rfl (fun ls hl => ?_)
      have hl : lv_has ls 4 [(2, .int (nI (prd (fun k => if tAt tab q k = none then tf tab k else 1) (i + 1)))), (0, .ref (G.ad ut)), (1, .int (nI q)), (3, .int (nI i))] := by rw [prd, if_pos (tAt_n.mpr c27)]; exact hl
      refine lv_iinc (v := nI (i + 1)) (lv' := [(3, .int (nI (i + 1))), (2, .int (nI (prd (fun k => if tAt tab q k = none then tf tab k else 1) (i + 1)))), (0, .ref (G.ad ut)), (1, .int (nI q))]) hE.1 hE.2.1 dX8_casesHeld_39 hl (k := 3) rfl (nI_1 _) (by decide) rfl (fun ls hl => ?_)
      refine lv_goto (tgt := 4) hE.1 hE.2.1 dX8_casesHeld_42 (by decide) ?_
      exact ih4 (i + 1) _ _ _ (by omega) (by omega) (lv_sub hl [2, 3, 1, 0] rfl) hH
