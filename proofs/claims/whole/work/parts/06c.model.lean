set_option maxRecDepth 100000 in
set_option maxHeartbeats 4000000 in
theorem c_Ro_fits (l : Launch) (z : ZK) (G : GW) (iv : IV) (jv : JV) (r : Nat) (hR : isRo G r) (k : Nat) (hk : k < 40) (t m C c : Nat) (hCa : isCa G t m C) (hm : m ≤ 5) (hc : c < C) (v : Nat → Nat) (hv : ∀ i, i < m → iv (t + 2 + i) c = nI (v i) ∧ v i < 6) (p : Nat → Bool) (hp : msk iv r m v k p) : cI l z yX6_fits cX6_fits 5 (some .boolean) 1 23 0 0 [.ref (G.ad r), .int (nI k), .ref (G.ad (t + 1)), .int (nI c)] G iv jv (fun r' G' iv' jv' => G = G' ∧ iv = iv' ∧ jv = jv' ∧ r' = bI (allI p m)) := by
  intro sz
  refine rg_entry rfl (Nat.le_of_ble_eq_true rfl) ?_
  intro pq eq sq mq bq methq cq ls hE hr hlk hml hnm hl hsz hH
  have hl : lv_has ls 5 [(0, .ref (G.ad r)), (1, .int (nI k)), (2, .ref (G.ad (t + 1))), (3, .int (nI c))] := hl
  have hl1 : G.ln (r + 1) = 200 := hR.2.1.2.2
  have hl2 : G.ln (r + 2) = 40 := hR.2.2.1.2.2
  have hlm : G.ln (t + 1) = m := hCa.1.2.2
  refine lv_iconst (v := nI 0) hE.1 hE.2.1 dX6_fits_0 (by decide) ?_
  refine lv_istore (lv' := [(4, .int (nI 0)), (0, .ref (G.ad r)), (1, .int (nI k)), (2, .ref (G.ad (t + 1))), (3, .int (nI c))]) hE.1 hE.2.1 dX6_fits_1 hl (by decide) rfl (fun ls hl => ?_)
  refine rg_loop (σ := Nat) (nL := 5) (fun (i : Nat) => m - i) (fun (i : Nat) => [(0, .ref (G.ad r)), (1, .int (nI k)), (2, .ref (G.ad (t + 1))), (3, .int (nI c)), (4, .int (nI i))]) (fun (i : Nat) => G) (fun (i : Nat) => iv) (fun (i : Nat) => jv) (fun (i : Nat) => i ≤ m ∧ allI p i = true) ?_ (0) ⟨Nat.zero_le _, rfl⟩ (lv_sub hl [1, 2, 3, 4, 0] rfl) hH
  rintro i H locs ls ⟨him, hal⟩ hl hH ih3
  try dsimp only at hl hH ih3
  refine lv_iload hE.1 hE.2.1 dX6_fits_3 (lv_at hl 4 rfl) ?_
  refine lv_aload_n hE.1 hE.2.1 dX6_fits_5 rfl (lv_at hl 2 rfl) ?_
  refine rg_alen hE hH (hCa.1.1) (hCa.1.2.1) (by decide) (by decide) dX6_fits_6 ?_
  rw [hlm]
  refine rn_icmp_ge (tgt := 37) hE dX6_fits_7 (by decide) (by omega) (by omega) (fun c7 => ?_) (fun c7 => ?_)
  · have hie : i = m := by omega
    subst hie
    refine lv_iconst (v := nI 1) hE.1 hE.2.1 dX6_fits_37 (by decide) ?_
    exact rg_iret hE hr (nz_1) hlk hH ⟨rfl, rfl, rfl, one_bI hal⟩ dX6_fits_38
  · obtain ⟨a, ha, ha64, hap⟩ := hp i (by omega)
    have hvi := hv i (by omega)
    have hlC : G.ln (t + 2 + i) = C := (hCa.2 i (by omega)).1.2.2
    refine lv_aload_n hE.1 hE.2.1 dX6_fits_10 rfl (lv_at hl 0 rfl) ?_
    refine lv_iload_n hE.1 hE.2.1 dX6_fits_11 rfl (lv_at hl 1 rfl) ?_
    refine lv_iload hE.1 hE.2.1 dX6_fits_12 (lv_at hl 4 rfl) ?_
    refine rg_VI (As := [.int (nI k), .int (nI i)]) (rest := []) hE hml hH mc_X6_22 (c_Ro_cell l z G iv jv r hR k i (by omega) (by omega)) (hR.1.1) (hR.1.2) (by decide) rfl ⟨Nat.le_of_ble_eq_true rfl, Nat.le_of_ble_eq_true rfl⟩ rfl hl.1 (by simp [Value.category]) dX6_fits_14 ⟨Nat.le_of_ble_eq_true rfl, Nat.le_of_ble_eq_true rfl⟩ (fun r14 G14 iv14 jv14 H locs hp14 hH => ?_)
    obtain ⟨rfl, rfl, rfl, rfl⟩ := hp14
    refine rn_as (v' := nI a) (ha) ?_
    refine lv_aload_n hE.1 hE.2.1 dX6_fits_17 rfl (lv_at hl 2 rfl) ?_
    refine lv_iload hE.1 hE.2.1 dX6_fits_18 (lv_at hl 4 rfl) ?_
    refine rg_aldr hE hH (hCa.1.1) (hCa.1.2.1) (by decide) (by decide) (by omega) (v := t + 2 + i) ((hCa.2 i (by omega)).2) dX6_fits_20 ?_
    refine lv_iload_n hE.1 hE.2.1 dX6_fits_21 rfl (lv_at hl 3 rfl) ?_
    refine rg_iald hE hH ((hCa.2 i (by omega)).1.1) ((hCa.2 i (by omega)).1.2.1) (by omega) (v := nI (v i)) (hvi.1) dX6_fits_22 ?_
    refine lv_ishr hE.1 hE.2.1 dX6_fits_23 ?_
    refine lv_iconst (v := nI 1) hE.1 hE.2.1 dX6_fits_24 (by decide) ?_
    refine lv_iand hE.1 hE.2.1 dX6_fits_25 ?_
    refine lv_if_ne (tgt := 31) hE.1 hE.2.1 dX6_fits_26 (by decide) (fun c26 => ?_) (fun c26 => ?_)
    · rw [bit_t0 a ha64 _ hvi.2, hap, Bool.not_eq_false] at c26
      have hpi := c26
      refine lv_iinc (v := nI (i + 1)) (lv' := [(4, .int (nI (i + 1))), (0, .ref (G.ad r)), (1, .int (nI k)), (2, .ref (G.ad (t + 1))), (3, .int (nI c))]) hE.1 hE.2.1 dX6_fits_31 hl (k := 4) rfl (nI_1 _) (by decide) rfl (fun ls hl => ?_)
      refine lv_goto (tgt := 3) hE.1 hE.2.1 dX6_fits_34 (by decide) ?_
      exact ih3 (i + 1) _ _ _ (by omega) ⟨by omega, by rw [allI, hal, hpi]; rfl⟩ (lv_sub hl [1, 2, 3, 4, 0] rfl) hH
    · rw [bit_t0 a ha64 _ hvi.2, hap] at c26
      have hpf : allI p m = false := by
        have h1 : allI p (i + 1) = false := by rw [allI, c26, Bool.and_false]
        have h2 := allI_f h1 (m - (i + 1))
        rwa [show i + 1 + (m - (i + 1)) = m by omega] at h2
      refine lv_iconst (v := nI 0) hE.1 hE.2.1 dX6_fits_29 (by decide) ?_
      exact rg_iret hE hr (nz_0) hlk hH ⟨rfl, rfl, rfl, zero_bI hpf⟩ dX6_fits_30
set_option maxRecDepth 100000 in
set_option maxHeartbeats 4000000 in
theorem c_Ro_first (l : Launch) (z : ZK) (G : GW) (iv : IV) (jv : JV) (r : Nat) (hR : isRo G r) (a S : Nat) (ha : a ≤ 40) (hS : S ≤ 40) (h0 : iv r 0 = nI S) (t m C c : Nat) (hCa : isCa G t m C) (hm : m ≤ 5) (hc : c < C) (v : Nat → Nat) (hv : ∀ i, i < m → iv (t + 2 + i) c = nI (v i) ∧ v i < 6) (p : Nat → Nat → Bool) (hp : ∀ k, k < S → msk iv r m v k (p k)) : cI l z yX6_firstFitting cX6_firstFitting 5 (some .int) 2 47 0 0 [.ref (G.ad r), .int (nI a), .ref (G.ad (t + 1)), .int (nI c)] G iv jv (fun r' G' iv' jv' => G = G' ∧ iv = iv' ∧ jv = jv' ∧ r' = oI (fnF (fun k => allI (p k) m) a S)) := by
  intro sz
  refine rg_entry rfl (Nat.le_of_ble_eq_true rfl) ?_
  intro pq eq sq mq bq methq cq ls hE hr hlk hml hnm hl hsz hH
  have hl : lv_has ls 5 [(0, .ref (G.ad r)), (1, .int (nI a)), (2, .ref (G.ad (t + 1))), (3, .int (nI c))] := hl
  have hl1 : G.ln (r + 1) = 200 := hR.2.1.2.2
  have hl2 : G.ln (r + 2) = 40 := hR.2.2.1.2.2
  refine lv_iload_n hE.1 hE.2.1 dX6_firstFitting_0 rfl (lv_at hl 1 rfl) ?_
  refine lv_istore (lv' := [(4, .int (nI a)), (0, .ref (G.ad r)), (1, .int (nI a)), (2, .ref (G.ad (t + 1))), (3, .int (nI c))]) hE.1 hE.2.1 dX6_firstFitting_1 hl (by decide) rfl (fun ls hl => ?_)
  refine rg_loop (σ := Nat) (nL := 5) (fun (k : Nat) => S - k) (fun (k : Nat) => [(0, .ref (G.ad r)), (1, .int (nI a)), (2, .ref (G.ad (t + 1))), (3, .int (nI c)), (4, .int (nI k))]) (fun (k : Nat) => G) (fun (k : Nat) => iv) (fun (k : Nat) => jv) (fun (k : Nat) => a ≤ k ∧ k ≤ max a S ∧ ∀ j, a ≤ j → j < k → allI (p j) m = false) ?_ (a) ⟨Nat.le_refl _, Nat.le_max_left _ _, fun j h1 h2 => by omega⟩ (lv_sub hl [1, 2, 3, 4, 0] rfl) hH
  rintro k H locs ls ⟨hak, hkS, hno⟩ hl hH ih3
  try dsimp only at hl hH ih3
  refine lv_iload hE.1 hE.2.1 dX6_firstFitting_3 (lv_at hl 4 rfl) ?_
  refine lv_aload_n hE.1 hE.2.1 dX6_firstFitting_5 rfl (lv_at hl 0 rfl) ?_
  refine rg_geti hE hH cf_X6 fl_X6_9 rfl (hR.1.1) (hR.1.2) (v := nI S) (h0) dX6_firstFitting_6 ?_
  refine rn_icmp_ge (tgt := 32) hE dX6_firstFitting_9 (by decide) (by omega) (by omega) (fun c9 => ?_) (fun c9 => ?_)
  · refine lv_iconst (v := -1) hE.1 hE.2.1 dX6_firstFitting_32 (by decide) ?_
    exact rg_iret hE hr rfl hlk hH ⟨rfl, rfl, rfl, by rw [fnF_none (fun j h1 h2 => hno j h1 (by omega))]; rfl⟩ dX6_firstFitting_33
  · refine lv_aload_n hE.1 hE.2.1 dX6_firstFitting_12 rfl (lv_at hl 0 rfl) ?_
    refine lv_iload hE.1 hE.2.1 dX6_firstFitting_13 (lv_at hl 4 rfl) ?_
    refine lv_aload_n hE.1 hE.2.1 dX6_firstFitting_15 rfl (lv_at hl 2 rfl) ?_
    refine lv_iload_n hE.1 hE.2.1 dX6_firstFitting_16 rfl (lv_at hl 3 rfl) ?_
    refine rg_VI (As := [.int (nI k), .ref (G.ad (t + 1)), .int (nI c)]) (rest := []) hE hml hH mc_X6_26 (c_Ro_fits l z G iv jv r hR k (by omega) t m C c hCa hm hc v hv (p k) (hp k (by omega))) (hR.1.1) (hR.1.2) (by decide) rfl ⟨Nat.le_of_ble_eq_true rfl, Nat.le_of_ble_eq_true rfl⟩ rfl hl.1 (by simp [Value.category]) dX6_firstFitting_17 ⟨Nat.le_of_ble_eq_true rfl, Nat.le_of_ble_eq_true rfl⟩ (fun r17 G17 iv17 jv17 H locs hp17 hH => ?_)
    obtain ⟨rfl, rfl, rfl, rfl⟩ := hp17
    refine rn_ifb_eq (tgt := 26) hE dX6_firstFitting_20 (by decide) (fun c20 => ?_) (fun c20 => ?_)
    · refine lv_iinc (v := nI (k + 1)) (lv' := [(4, .int (nI (k + 1))), (0, .ref (G.ad r)), (1, .int (nI a)), (2, .ref (G.ad (t + 1))), (3, .int (nI c))]) hE.1 hE.2.1 dX6_firstFitting_26 hl (k := 4) rfl (nI_1 _) (by decide) rfl (fun ls hl => ?_)
      refine lv_goto (tgt := 3) hE.1 hE.2.1 dX6_firstFitting_29 (by decide) ?_
      exact ih3 (k + 1) _ _ _ (by omega) ⟨by omega, by omega, fun j h1 h2 => by
        by_cases hjk : j = k
        · rw [hjk]; exact c20
        · exact hno j h1 (by omega)⟩ (lv_sub hl [1, 2, 3, 4, 0] rfl) hH
    · refine lv_iload hE.1 hE.2.1 dX6_firstFitting_23 (lv_at hl 4 rfl) ?_
      exact rg_iret hE hr rfl hlk hH ⟨rfl, rfl, rfl, by rw [fnF_some (k := k) (by omega) hak c20 hno]; rfl⟩ dX6_firstFitting_25
set_option maxRecDepth 100000 in
set_option maxHeartbeats 4000000 in
theorem c_Tb_many (l : Launch) (z : ZK) (G : GW) (iv : IV) (jv : JV) (t b : Nat) (tab : Tab) (hk : tabOK tab) (hTb : isTb G t b (tm tab) (tC tab) (tR tab) (tT tab)) (ht : 3000 ≤ t) (hb : 1000 ≤ b) (hbt : b + 40 ≤ t) (hLy : LAY iv jv b tab) (h1 : iv t 1 = nI (tC tab)) (hCV : CVl iv t tab) (c : Nat) (hc : c < tC tab) : cI l z yX7_howManyFit cX7_howManyFit 5 (some .int) 2 47 0 0 [.ref (G.ad t), .int (oI (frow tab c)), .int (nI c)] G iv jv (fun r' G' iv' jv' => G = G' ∧ iv = iv' ∧ jv = jv' ∧ r' = nI (cntN (fun r => fit tab r c) (tR tab))) := by
  intro sz
  refine rg_entry rfl (Nat.le_of_ble_eq_true rfl) ?_
  intro pq eq sq mq bq methq cq ls hE hr hlk hml hnm hl hsz hH
  have hl : lv_has ls 5 [(0, .ref (G.ad t)), (1, .int (oI (frow tab c))), (2, .int (nI c))] := hl
  have hTb0 := hTb
  obtain ⟨⟨mt, kt⟩, hL, hCa, hA10, hA11, hA12, hA13, hA14, hA15, hA16, hA17, hTm, r0, r2, r3, r4, r5, r6, r8, r9, r11, r13, r14⟩ := hTb
  have l10 := hA10.2.2
  have l11 := hA11.2.2
  have l12 := hA12.2.2
  have l13 := hA13.2.2
  have l14 := hA14.2.2
  have l15 := hA15.2.2
  have l16 := hA16.2.2
  have l17 := hA17.2.2
  have hm5 := hk.2.1
  have hm1 := hk.1
  have hC4 := hk.2.2.2.1
  have hR40 := hk.2.2.2.2.2.2.1
  have hO6 := hk.2.2.2.2.2.1
  have hR0 := hLy.2.2.1
  have l32 : G.ln (b + 30 + 2) = 40 := hL.2.2.2.1.2.2.1.2.2
  refine lv_iload_n hE.1 hE.2.1 dX7_howManyFit_0 rfl (lv_at hl 1 rfl) ?_
  refine lv_iconst (v := -1) hE.1 hE.2.1 dX7_howManyFit_1 (by decide) ?_
  refine lv_icmp_ne (tgt := 7) hE.1 hE.2.1 dX7_howManyFit_2 (by decide) (fun c2 => ?_) (fun c2 => ?_)
  · obtain ⟨a, ha⟩ := oI_som c2
    have hal := frow_lt ha
    have haf := fnd_lt ha
    have hl : lv_has ls 5 [(0, .ref (G.ad t)), (1, .int (nI a)), (2, .int (nI c))] := by rw [ha] at hl; exact hl
    refine lv_iconst (v := nI 1) hE.1 hE.2.1 dX7_howManyFit_7 (by decide) ?_
    refine lv_istore_n (lv' := [(3, .int (nI 1)), (0, .ref (G.ad t)), (1, .int (nI a)), (2, .int (nI c))]) hE.1 hE.2.1 dX7_howManyFit_8 rfl hl (by decide) rfl (fun ls hl => ?_)
    have hl : lv_has ls 5 [(3, .int (nI (cntN (fun r => fit tab r c) (a + 1)))), (0, .ref (G.ad t)), (1, .int (nI a)), (2, .int (nI c))] := by rw [cntN_one (p := fun r => fit tab r c) haf.2.1 haf.2.2]; exact hl
    refine lv_iload_n hE.1 hE.2.1 dX7_howManyFit_9 rfl (lv_at hl 2 rfl) ?_
    refine lv_iconst (v := nI 1) hE.1 hE.2.1 dX7_howManyFit_10 (by decide) ?_
    refine rn_iadd hE dX7_howManyFit_11 ?_
    refine lv_istore (lv' := [(4, .int (nI (a + 1))), (3, .int (nI (cntN (fun r => fit tab r c) (a + 1)))), (0, .ref (G.ad t)), (1, .int (nI a)), (2, .int (nI c))]) hE.1 hE.2.1 dX7_howManyFit_12 hl (by decide) rfl (fun ls hl => ?_)
    refine rg_loop (σ := Nat) (nL := 5) (fun (r : Nat) => tR tab - r) (fun (r : Nat) => [(0, .ref (G.ad t)), (2, .int (nI c)), (3, .int (nI (cntN (fun r => fit tab r c) r))), (4, .int (nI r))]) (fun (r : Nat) => G) (fun (r : Nat) => iv) (fun (r : Nat) => jv) (fun (r : Nat) => r ≤ tR tab) ?_ ((a + 1)) (by omega) (lv_sub hl [2, 4, 1, 0] rfl) hH
    rintro r H locs ls hrR hl hH ih14
    try dsimp only at hl hH ih14
    refine lv_iload hE.1 hE.2.1 dX7_howManyFit_14 (lv_at hl 3 rfl) ?_
    refine lv_aload_n hE.1 hE.2.1 dX7_howManyFit_16 rfl (lv_at hl 0 rfl) ?_
    refine rg_getr hE hH cf_X7 fl_X7_9 rfl (mt) (kt) (v := b) (r0) dX7_howManyFit_17 ?_
    refine rg_getr hE hH cf_X1 fl_X7_43 rfl (hL.1.1) (hL.1.2) (v := b + 30) (hL.2.2.2.2.2.2.2) dX7_howManyFit_20 ?_
    refine rg_geti hE hH cf_X6 fl_X7_47 rfl (hL.2.2.2.1.1.1) (hL.2.2.2.1.1.2) (v := nI (tR tab)) (hLy.2.2.1) dX7_howManyFit_23 ?_
    refine rn_icmp_ge (tgt := 58) hE dX7_howManyFit_26 (by decide) (by omega) (by omega) (fun c26 => ?_) (fun c26 => ?_)
    · have hre : r = tR tab := by omega
      subst hre
      refine lv_iload_n hE.1 hE.2.1 dX7_howManyFit_58 rfl (lv_at hl 2 rfl) ?_
      exact rg_iret hE hr rfl hlk hH ⟨rfl, rfl, rfl, rfl⟩ dX7_howManyFit_59
    · refine lv_aload_n hE.1 hE.2.1 dX7_howManyFit_29 rfl (lv_at hl 0 rfl) ?_
      refine rg_getr hE hH cf_X7 fl_X7_9 rfl (mt) (kt) (v := b) (r0) dX7_howManyFit_30 ?_
      refine rg_getr hE hH cf_X1 fl_X7_43 rfl (hL.1.1) (hL.1.2) (v := b + 30) (hL.2.2.2.2.2.2.2) dX7_howManyFit_33 ?_
      refine lv_iload hE.1 hE.2.1 dX7_howManyFit_36 (lv_at hl 3 rfl) ?_
      refine lv_aload_n hE.1 hE.2.1 dX7_howManyFit_38 rfl (lv_at hl 0 rfl) ?_
      refine rg_getr hE hH cf_X7 fl_X7_27 rfl (mt) (kt) (v := t + 1) (r2) dX7_howManyFit_39 ?_
      refine lv_iload_n hE.1 hE.2.1 dX7_howManyFit_42 rfl (lv_at hl 1 rfl) ?_
      refine rg_VI (As := [.int (nI r), .ref (G.ad (t + 1)), .int (nI c)]) (rest := []) hE hml hH mc_X7_118 (c_Ro_fits l z G iv jv (b + 30) hL.2.2.2.1 r (by omega) t (tm tab) (tC tab) c hCa hm5 hc (vOf (tf tab) (tm tab) c) (fun i hi => ⟨hCV i hi c (by omega), vOf_lt hk hi⟩) ((fun k i => (tce tab k i).testBit (vOf (tf tab) (tm tab) c i)) r) (hLy.msk hk (by omega))) (hL.2.2.2.1.1.1) (hL.2.2.2.1.1.2) (by decide) rfl ⟨Nat.le_of_ble_eq_true rfl, Nat.le_of_ble_eq_true rfl⟩ rfl hl.1 (by simp [Value.category]) dX7_howManyFit_43 ⟨Nat.le_of_ble_eq_true rfl, Nat.le_of_ble_eq_true rfl⟩ (fun r43 G43 iv43 jv43 H locs hp43 hH => ?_)
      obtain ⟨rfl, rfl, rfl, rfl⟩ := hp43
      refine rn_as (v' := bI (fit tab r c)) (by rw [fit_all]) ?_
      refine rn_ifb_eq (tgt := 52) hE dX7_howManyFit_46 (by decide) (fun c46 => ?_) (fun c46 => ?_)
      · have hl : lv_has ls 5 [(0, .ref (G.ad t)), (2, .int (nI c)), (3, .int (nI (cntN (fun r => fit tab r c) (r + 1)))), (4, .int (nI r))] := by rw [cntN]; simp only [c46]; exact hl
        refine lv_iinc (v := nI (r + 1)) (lv' := [(4, .int (nI (r + 1))), (0, .ref (G.ad t)), (2, .int (nI c)), (3, .int (nI (cntN (fun r => fit tab r c) (r + 1))))]) hE.1 hE.2.1 dX7_howManyFit_52 hl (k := 3) rfl (nI_1 _) (by decide) rfl (fun ls hl => ?_)
        refine lv_goto (tgt := 14) hE.1 hE.2.1 dX7_howManyFit_55 (by decide) ?_
        exact ih14 (r + 1) _ _ _ (by omega) (by omega) (lv_sub hl [1, 2, 3, 0] rfl) hH
      · refine lv_iinc (v := nI (cntN (fun r => fit tab r c) r + 1)) (lv' := [(3, .int (nI (cntN (fun r => fit tab r c) r + 1))), (0, .ref (G.ad t)), (2, .int (nI c)), (4, .int (nI r))]) hE.1 hE.2.1 dX7_howManyFit_49 hl (k := 2) rfl (nI_1 _) (by decide) rfl (fun ls hl => ?_)
        have hl : lv_has ls 5 [(3, .int (nI (cntN (fun r => fit tab r c) (r + 1)))), (0, .ref (G.ad t)), (2, .int (nI c)), (4, .int (nI r))] := by rw [cntN]; simp only [c46]; exact hl
        refine lv_iinc (v := nI (r + 1)) (lv' := [(4, .int (nI (r + 1))), (3, .int (nI (cntN (fun r => fit tab r c) (r + 1)))), (0, .ref (G.ad t)), (2, .int (nI c))]) hE.1 hE.2.1 dX7_howManyFit_52 hl (k := 3) rfl (nI_1 _) (by decide) rfl (fun ls hl => ?_)
        refine lv_goto (tgt := 14) hE.1 hE.2.1 dX7_howManyFit_55 (by decide) ?_
        exact ih14 (r + 1) _ _ _ (by omega) (by omega) (lv_sub hl [2, 3, 1, 0] rfl) hH
  · rw [oI_m1 (fun k hk2 => by have := frow_lt hk2; omega)] at c2
    refine lv_iconst (v := nI 0) hE.1 hE.2.1 dX7_howManyFit_5 (by decide) ?_
    exact rg_iret hE hr rfl hlk hH ⟨rfl, rfl, rfl, by rw [cntN_zero (fun r hr => (show fit tab r c = false from by
      unfold frow fnd at c2
      rw [List.find?_eq_none] at c2
      simpa using c2 r (List.mem_range.mpr hr)))]⟩ dX7_howManyFit_6
