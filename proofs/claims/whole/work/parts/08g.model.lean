set_option maxRecDepth 100000 in
set_option maxHeartbeats 4000000 in
theorem c_x_first (l : Launch) (z : ZK) (G : GW) (iv : IV) (jv : JV) (p q t b : Nat) (tab : Tab) (hk : tabOK tab) (hTb : isTb G t b (tm tab) (tC tab) (tR tab) (tT tab)) (hp : isPg G p t (tC tab)) (hq : isPg G q t (tC tab)) (g h : Prg) (hg : prgOK tab g) (hh : prgOK tab h) (hpa : ∀ d, d < tC tab → iv (p + 1) d = nI (pAns tab g d)) (hqa : ∀ d, d < tC tab → iv (q + 1) d = nI (pAns tab h d)) (h1 : iv t 1 = nI (tC tab)) : cI l z yX10_firstChanged cX10_firstChanged 3 (some .int) 0 0 0 0 [.ref (G.ad p), .ref (G.ad q)] G iv jv (fun r G' iv' jv' => G = G' ∧ iv = iv' ∧ jv = jv' ∧ r = oI (fnd (pDif tab g h) (tC tab))) := by
  intro sz
  refine rg_entry rfl (Nat.le_of_ble_eq_true rfl) ?_
  intro pq eq sq mq bq methq cq ls hE hr hlk hml hnm hl hsz hH
  have hl : lv_has ls 3 [(0, .ref (G.ad p)), (1, .ref (G.ad q))] := hl
  have hTb0 := hTb
  obtain ⟨⟨mt, kt⟩, hL, hCa, hA10, hA11, hA12, hA13, hA14, hA15, hA16, hA17, hTm, r0, r2, r3, r4, r5, r6, r8, r9, r11, r13, r14⟩ := hTb
  have l10 := hA10.2.2
  have l11 := hA11.2.2
  have l12 := hA12.2.2
  have l13 := hA13.2.2
  have l14 := hA14.2.2
  have l15 := hA15.2.2
  have l16 := hA16.2.2
  have l17 := hA17.2.2
  have hm5 := hk.2.1
  have hm1 := hk.1
  have hC4 := hk.2.2.2.1
  have hR40 := hk.2.2.2.2.2.2.1
  have hO6 := hk.2.2.2.2.2.1
  have l32 : G.ln (b + 30 + 2) = 40 := hL.2.2.2.1.2.2.1.2.2
  obtain ⟨wp, hP1, p0, p1⟩ := hp
  obtain ⟨wq, hQ1, q0, q1⟩ := hq
  have lP1 := hP1.2.2
  have lQ1 := hQ1.2.2
  refine lv_iconst (v := nI 0) hE.1 hE.2.1 dX10_firstChanged_0 (by decide) ?_
  refine lv_istore_n (lv' := [(2, .int (nI 0)), (0, .ref (G.ad p)), (1, .ref (G.ad q))]) hE.1 hE.2.1 dX10_firstChanged_1 rfl hl (by decide) rfl (fun ls hl => ?_)
  refine rg_loop (σ := Nat) (nL := 3) (fun (c : Nat) => tC tab - c) (fun (c : Nat) => [(0, .ref (G.ad p)), (1, .ref (G.ad q)), (2, .int (nI c))]) (fun (c : Nat) => G) (fun (c : Nat) => iv) (fun (c : Nat) => jv) (fun (c : Nat) => c ≤ tC tab ∧ ∀ d, d < c → pDif tab g h d = false) ?_ (0) ⟨Nat.zero_le _, fun d hd => absurd hd (Nat.not_lt_zero d)⟩ (lv_sub hl [1, 2, 0] rfl) hH
  rintro c H locs ls ⟨hcC, hno⟩ hl hH ih2
  try dsimp only at hl hH ih2
  refine lv_iload_n hE.1 hE.2.1 dX10_firstChanged_2 rfl (lv_at hl 2 rfl) ?_
  refine lv_aload_n hE.1 hE.2.1 dX10_firstChanged_3 rfl (lv_at hl 0 rfl) ?_
  refine rg_getr hE hH cf_X5 fl_X10_221 rfl (wp.1) (wp.2) (v := t) (p0) dX10_firstChanged_4 ?_
  refine rg_geti hE hH cf_X7 fl_X10_106 rfl (mt) (kt) (v := nI (tC tab)) (h1) dX10_firstChanged_7 ?_
  refine rn_icmp_ge (tgt := 36) hE dX10_firstChanged_10 (by decide) (by omega) (by omega) (fun c10 => ?_) (fun c10 => ?_)
  · refine lv_iconst (v := -1) hE.1 hE.2.1 dX10_firstChanged_36 (by decide) ?_
    exact rg_iret hE hr rfl hlk hH ⟨rfl, rfl, rfl, by rw [fnd_none (p := pDif tab g h) (fun d hd => hno d (by omega))]; rfl⟩ dX10_firstChanged_37
  · have hgl := pAns_lt hg (c := c)
    have hhl := pAns_lt hh (c := c)
    refine lv_aload_n hE.1 hE.2.1 dX10_firstChanged_13 rfl (lv_at hl 0 rfl) ?_
    refine rg_getr hE hH cf_X5 fl_X10_225 rfl (wp.1) (wp.2) (v := p + 1) (p1) dX10_firstChanged_14 ?_
    refine lv_iload_n hE.1 hE.2.1 dX10_firstChanged_17 rfl (lv_at hl 2 rfl) ?_
    refine rg_iald hE hH (hP1.1) (hP1.2.1) (by omega) (v := nI (pAns tab g c)) (hpa c (by omega)) dX10_firstChanged_18 ?_
    refine lv_aload_n hE.1 hE.2.1 dX10_firstChanged_19 rfl (lv_at hl 1 rfl) ?_
    refine rg_getr hE hH cf_X5 fl_X10_225 rfl (wq.1) (wq.2) (v := q + 1) (q1) dX10_firstChanged_20 ?_
    refine lv_iload_n hE.1 hE.2.1 dX10_firstChanged_23 rfl (lv_at hl 2 rfl) ?_
    refine rg_iald hE hH (hQ1.1) (hQ1.2.1) (by omega) (v := nI (pAns tab h c)) (hqa c (by omega)) dX10_firstChanged_24 ?_
    refine rn_icmp_eq (tgt := 30) hE dX10_firstChanged_25 (by decide) (by omega) (by omega) (fun c25 => ?_) (fun c25 => ?_)
    · refine lv_iinc (v := nI (c + 1)) (lv' := [(2, .int (nI (c + 1))), (0, .ref (G.ad p)), (1, .ref (G.ad q))]) hE.1 hE.2.1 dX10_firstChanged_30 hl (k := 2) rfl (nI_1 _) (by decide) rfl (fun ls hl => ?_)
      refine lv_goto (tgt := 2) hE.1 hE.2.1 dX10_firstChanged_33 (by decide) ?_
      exact ih2 (c + 1) _ _ _ (by omega) ⟨by omega, fun d hd => by
        by_cases hdc : d = c
        · subst hdc; exact decide_eq_false (fun hne => hne c25)
        · exact hno d (by omega)⟩ (lv_sub hl [1, 2, 0] rfl) hH
    · refine lv_iload_n hE.1 hE.2.1 dX10_firstChanged_28 rfl (lv_at hl 2 rfl) ?_
      exact rg_iret hE hr rfl hlk hH ⟨rfl, rfl, rfl, by rw [fnd_some (p := pDif tab g h) (k := c) (by omega) (decide_eq_true c25) hno]; rfl⟩ dX10_firstChanged_29
set_option maxRecDepth 100000 in
set_option maxHeartbeats 4000000 in
theorem c_x_many (l : Launch) (z : ZK) (G : GW) (iv : IV) (jv : JV) (p q t b : Nat) (tab : Tab) (hk : tabOK tab) (hTb : isTb G t b (tm tab) (tC tab) (tR tab) (tT tab)) (hp : isPg G p t (tC tab)) (hq : isPg G q t (tC tab)) (g h : Prg) (hg : prgOK tab g) (hh : prgOK tab h) (hpa : ∀ d, d < tC tab → iv (p + 1) d = nI (pAns tab g d)) (hqa : ∀ d, d < tC tab → iv (q + 1) d = nI (pAns tab h d)) (h1 : iv t 1 = nI (tC tab)) (han : ∀ c, c < tC tab → iv (t + 10) c = oI (ans tab c)) (ho : Bool) : cI l z yX10_howManyChanged cX10_howManyChanged 6 (some .int) 0 0 0 0 [.ref (G.ad p), .ref (G.ad q), .int (bI ho)] G iv jv (fun r G' iv' jv' => G = G' ∧ iv = iv' ∧ jv = jv' ∧ r = nI (cntN (fun c => pDif tab g h c && (!ho || (frow tab c).isNone)) (tC tab))) := by
  intro sz
  refine rg_entry rfl (Nat.le_of_ble_eq_true rfl) ?_
  intro pq eq sq mq bq methq cq ls hE hr hlk hml hnm hl hsz hH
  have hl : lv_has ls 6 [(0, .ref (G.ad p)), (1, .ref (G.ad q)), (2, .int (bI ho))] := hl
  have hTb0 := hTb
  obtain ⟨⟨mt, kt⟩, hL, hCa, hA10, hA11, hA12, hA13, hA14, hA15, hA16, hA17, hTm, r0, r2, r3, r4, r5, r6, r8, r9, r11, r13, r14⟩ := hTb
  have l10 := hA10.2.2
  have l11 := hA11.2.2
  have l12 := hA12.2.2
  have l13 := hA13.2.2
  have l14 := hA14.2.2
  have l15 := hA15.2.2
  have l16 := hA16.2.2
  have l17 := hA17.2.2
  have hm5 := hk.2.1
  have hm1 := hk.1
  have hC4 := hk.2.2.2.1
  have hR40 := hk.2.2.2.2.2.2.1
  have hO6 := hk.2.2.2.2.2.1
  have l32 : G.ln (b + 30 + 2) = 40 := hL.2.2.2.1.2.2.1.2.2
  obtain ⟨wp, hP1, p0, p1⟩ := hp
  obtain ⟨wq, hQ1, q0, q1⟩ := hq
  have lP1 := hP1.2.2
  have lQ1 := hQ1.2.2
  refine lv_iconst (v := nI 0) hE.1 hE.2.1 dX10_howManyChanged_0 (by decide) ?_
  refine lv_istore_n (lv' := [(3, .int (nI 0)), (0, .ref (G.ad p)), (1, .ref (G.ad q)), (2, .int (bI ho))]) hE.1 hE.2.1 dX10_howManyChanged_1 rfl hl (by decide) rfl (fun ls hl => ?_)
  refine lv_iconst (v := nI 0) hE.1 hE.2.1 dX10_howManyChanged_2 (by decide) ?_
  refine lv_istore (lv' := [(4, .int (nI 0)), (3, .int (nI 0)), (0, .ref (G.ad p)), (1, .ref (G.ad q)), (2, .int (bI ho))]) hE.1 hE.2.1 dX10_howManyChanged_3 hl (by decide) rfl (fun ls hl => ?_)
  refine rg_loop (σ := Nat) (nL := 6) (fun (c : Nat) => tC tab - c) (fun (c : Nat) => [(0, .ref (G.ad p)), (1, .ref (G.ad q)), (2, .int (bI ho)), (3, .int (nI (cntN (fun c => pDif tab g h c && (!ho || (frow tab c).isNone)) c))), (4, .int (nI c))]) (fun (c : Nat) => G) (fun (c : Nat) => iv) (fun (c : Nat) => jv) (fun (c : Nat) => c ≤ tC tab) ?_ (0) (Nat.zero_le _) (lv_sub hl [2, 3, 4, 1, 0] rfl) hH
  rintro c H locs ls hcC hl hH ih5
  try dsimp only at hl hH ih5
  refine lv_iload hE.1 hE.2.1 dX10_howManyChanged_5 (lv_at hl 4 rfl) ?_
  refine lv_aload_n hE.1 hE.2.1 dX10_howManyChanged_7 rfl (lv_at hl 0 rfl) ?_
  refine rg_getr hE hH cf_X5 fl_X10_221 rfl (wp.1) (wp.2) (v := t) (p0) dX10_howManyChanged_8 ?_
  refine rg_geti hE hH cf_X7 fl_X10_106 rfl (mt) (kt) (v := nI (tC tab)) (h1) dX10_howManyChanged_11 ?_
  refine rn_icmp_ge (tgt := 73) hE dX10_howManyChanged_14 (by decide) (by omega) (by omega) (fun c14 => ?_) (fun c14 => ?_)
  · have hce : c = tC tab := by omega
    subst hce
    refine lv_iload_n hE.1 hE.2.1 dX10_howManyChanged_73 rfl (lv_at hl 3 rfl) ?_
    exact rg_iret hE hr rfl hlk hH ⟨rfl, rfl, rfl, rfl⟩ dX10_howManyChanged_74
  · have hgl := pAns_lt hg (c := c)
    have hhl := pAns_lt hh (c := c)
    refine lv_iload_n hE.1 hE.2.1 dX10_howManyChanged_17 rfl (lv_at hl 2 rfl) ?_
    refine rn_ifb_eq (tgt := 35) hE dX10_howManyChanged_18 (by decide) (fun c18 => ?_) (fun c18 => ?_)
    · refine lv_iconst (v := nI 1) hE.1 hE.2.1 dX10_howManyChanged_35 (by decide) ?_
      refine lv_goto (tgt := 40) hE.1 hE.2.1 dX10_howManyChanged_36 (by decide) ?_
      refine lv_istore (lv' := [(5, .int (nI 1)), (0, .ref (G.ad p)), (1, .ref (G.ad q)), (2, .int (bI ho)), (3, .int (nI (cntN (fun c => pDif tab g h c && (!ho || (frow tab c).isNone)) c))), (4, .int (nI c))]) hE.1 hE.2.1 dX10_howManyChanged_40 hl (by decide) rfl (fun ls hl => ?_)
      refine lv_iload hE.1 hE.2.1 dX10_howManyChanged_42 (lv_at hl 0 rfl) ?_
      refine rn_if_eq (tgt := 67) hE dX10_howManyChanged_44 (by decide) (by omega) (fun c44 => ?_) (fun c44 => ?_)
      · omega
      · refine lv_aload_n hE.1 hE.2.1 dX10_howManyChanged_47 rfl (lv_at hl 1 rfl) ?_
        refine rg_getr hE hH cf_X5 fl_X10_225 rfl (wp.1) (wp.2) (v := p + 1) (p1) dX10_howManyChanged_48 ?_
        refine lv_iload hE.1 hE.2.1 dX10_howManyChanged_51 (lv_at hl 5 rfl) ?_
        refine rg_iald hE hH (hP1.1) (hP1.2.1) (by omega) (v := nI (pAns tab g c)) (hpa c (by omega)) dX10_howManyChanged_53 ?_
        refine lv_aload_n hE.1 hE.2.1 dX10_howManyChanged_54 rfl (lv_at hl 2 rfl) ?_
        refine rg_getr hE hH cf_X5 fl_X10_225 rfl (wq.1) (wq.2) (v := q + 1) (q1) dX10_howManyChanged_55 ?_
        refine lv_iload hE.1 hE.2.1 dX10_howManyChanged_58 (lv_at hl 5 rfl) ?_
        refine rg_iald hE hH (hQ1.1) (hQ1.2.1) (by omega) (v := nI (pAns tab h c)) (hqa c (by omega)) dX10_howManyChanged_60 ?_
        refine rn_icmp_eq (tgt := 67) hE dX10_howManyChanged_61 (by decide) (by omega) (by omega) (fun c61 => ?_) (fun c61 => ?_)
        · have hl : lv_has ls 6 [(5, .int (nI 1)), (0, .ref (G.ad p)), (1, .ref (G.ad q)), (2, .int (bI ho)), (3, .int (nI (cntN (fun c => pDif tab g h c && (!ho || (frow tab c).isNone)) (c + 1)))), (4, .int (nI c))] := by rw [cntN, if_neg (by rw [show pDif tab g h c = false from decide_eq_false (fun hne => hne c61)]; simp)]; exact hl
          refine lv_iinc (v := nI (c + 1)) (lv' := [(4, .int (nI (c + 1))), (5, .int (nI 1)), (0, .ref (G.ad p)), (1, .ref (G.ad q)), (2, .int (bI ho)), (3, .int (nI (cntN (fun c => pDif tab g h c && (!ho || (frow tab c).isNone)) (c + 1))))]) hE.1 hE.2.1 dX10_howManyChanged_67 hl (k := 5) rfl (nI_1 _) (by decide) rfl (fun ls hl => ?_)
          refine lv_goto (tgt := 5) hE.1 hE.2.1 dX10_howManyChanged_70 (by decide) ?_
          exact ih5 (c + 1) _ _ _ (by omega) (by omega) (lv_sub hl [2, 3, 4, 5, 0] rfl) hH
        · refine lv_iinc (v := nI (cntN (fun c => pDif tab g h c && (!ho || (frow tab c).isNone)) c + 1)) (lv' := [(3, .int (nI (cntN (fun c => pDif tab g h c && (!ho || (frow tab c).isNone)) c + 1))), (5, .int (nI 1)), (0, .ref (G.ad p)), (1, .ref (G.ad q)), (2, .int (bI ho)), (4, .int (nI c))]) hE.1 hE.2.1 dX10_howManyChanged_64 hl (k := 4) rfl (nI_1 _) (by decide) rfl (fun ls hl => ?_)
          have hl : lv_has ls 6 [(3, .int (nI (cntN (fun c => pDif tab g h c && (!ho || (frow tab c).isNone)) (c + 1)))), (5, .int (nI 1)), (0, .ref (G.ad p)), (1, .ref (G.ad q)), (2, .int (bI ho)), (4, .int (nI c))] := by rw [cntN, if_pos (by rw [show pDif tab g h c = true from decide_eq_true c61, c18]; rfl)]; exact hl
          refine lv_iinc (v := nI (c + 1)) (lv' := [(4, .int (nI (c + 1))), (3, .int (nI (cntN (fun c => pDif tab g h c && (!ho || (frow tab c).isNone)) (c + 1)))), (5, .int (nI 1)), (0, .ref (G.ad p)), (1, .ref (G.ad q)), (2, .int (bI ho))]) hE.1 hE.2.1 dX10_howManyChanged_67 hl (k := 5) rfl (nI_1 _) (by decide) rfl (fun ls hl => ?_)
          refine lv_goto (tgt := 5) hE.1 hE.2.1 dX10_howManyChanged_70 (by decide) ?_
          exact ih5 (c + 1) _ _ _ (by omega) (by omega) (lv_sub hl [3, 4, 5, 1, 0] rfl) hH
    · refine lv_aload_n hE.1 hE.2.1 dX10_howManyChanged_21 rfl (lv_at hl 0 rfl) ?_
      refine rg_getr hE hH cf_X5 fl_X10_221 rfl (wp.1) (wp.2) (v := t) (p0) dX10_howManyChanged_22 ?_
      refine rg_getr hE hH cf_X7 fl_X10_151 rfl (mt) (kt) (v := t + 10) (r3) dX10_howManyChanged_25 ?_
      refine lv_iload hE.1 hE.2.1 dX10_howManyChanged_28 (lv_at hl 4 rfl) ?_
      refine rg_iald hE hH (hA10.1) (hA10.2.1) (by omega) (v := oI (ans tab c)) (han c (by omega)) dX10_howManyChanged_30 ?_
      refine lv_iconst (v := -1) hE.1 hE.2.1 dX10_howManyChanged_31 (by decide) ?_
      refine lv_icmp_ne (tgt := 39) hE.1 hE.2.1 dX10_howManyChanged_32 (by decide) (fun c32 => ?_) (fun c32 => ?_)
      · have hns : (frow tab c).isNone = false := by
          cases hf : frow tab c with
          | none => rw [ans, hf] at c32; exact absurd rfl c32
          | some f => rfl
        refine lv_iconst (v := nI 0) hE.1 hE.2.1 dX10_howManyChanged_39 (by decide) ?_
        refine lv_istore (lv' := [(5, .int (nI 0)), (0, .ref (G.ad p)), (1, .ref (G.ad q)), (2, .int (bI ho)), (3, .int (nI (cntN (fun c => pDif tab g h c && (!ho || (frow tab c).isNone)) c))), (4, .int (nI c))]) hE.1 hE.2.1 dX10_howManyChanged_40 hl (by decide) rfl (fun ls hl => ?_)
        refine lv_iload hE.1 hE.2.1 dX10_howManyChanged_42 (lv_at hl 0 rfl) ?_
        refine rn_if_eq (tgt := 67) hE dX10_howManyChanged_44 (by decide) (by omega) (fun c44 => ?_) (fun c44 => ?_)
        · have hl : lv_has ls 6 [(5, .int (nI 0)), (0, .ref (G.ad p)), (1, .ref (G.ad q)), (2, .int (bI ho)), (3, .int (nI (cntN (fun c => pDif tab g h c && (!ho || (frow tab c).isNone)) (c + 1)))), (4, .int (nI c))] := by rw [cntN, if_neg (by rw [c18, hns]; simp)]; exact hl
          refine lv_iinc (v := nI (c + 1)) (lv' := [(4, .int (nI (c + 1))), (5, .int (nI 0)), (0, .ref (G.ad p)), (1, .ref (G.ad q)), (2, .int (bI ho)), (3, .int (nI (cntN (fun c => pDif tab g h c && (!ho || (frow tab c).isNone)) (c + 1))))]) hE.1 hE.2.1 dX10_howManyChanged_67 hl (k := 5) rfl (nI_1 _) (by decide) rfl (fun ls hl => ?_)
          refine lv_goto (tgt := 5) hE.1 hE.2.1 dX10_howManyChanged_70 (by decide) ?_
          exact ih5 (c + 1) _ _ _ (by omega) (by omega) (lv_sub hl [2, 3, 4, 5, 0] rfl) hH
        · omega
      · rw [oI_m1 (ans_s hk)] at c32
        have hns : (frow tab c).isNone = true := by
          cases hf : frow tab c with
          | none => rfl
          | some f => rw [ans, hf] at c32; cases c32
        refine lv_iconst (v := nI 1) hE.1 hE.2.1 dX10_howManyChanged_35 (by decide) ?_
        refine lv_goto (tgt := 40) hE.1 hE.2.1 dX10_howManyChanged_36 (by decide) ?_
        refine lv_istore (lv' := [(5, .int (nI 1)), (0, .ref (G.ad p)), (1, .ref (G.ad q)), (2, .int (bI ho)), (3, .int (nI (cntN (fun c => pDif tab g h c && (!ho || (frow tab c).isNone)) c))), (4, .int (nI c))]) hE.1 hE.2.1 dX10_howManyChanged_40 hl (by decide) rfl (fun ls hl => ?_)
        refine lv_iload hE.1 hE.2.1 dX10_howManyChanged_42 (lv_at hl 0 rfl) ?_
        refine rn_if_eq (tgt := 67) hE dX10_howManyChanged_44 (by decide) (by omega) (fun c44 => ?_) (fun c44 => ?_)
        · omega
        · refine lv_aload_n hE.1 hE.2.1 dX10_howManyChanged_47 rfl (lv_at hl 1 rfl) ?_
          refine rg_getr hE hH cf_X5 fl_X10_225 rfl (wp.1) (wp.2) (v := p + 1) (p1) dX10_howManyChanged_48 ?_
          refine lv_iload hE.1 hE.2.1 dX10_howManyChanged_51 (lv_at hl 5 rfl) ?_
          refine rg_iald hE hH (hP1.1) (hP1.2.1) (by omega) (v := nI (pAns tab g c)) (hpa c (by omega)) dX10_howManyChanged_53 ?_
          refine lv_aload_n hE.1 hE.2.1 dX10_howManyChanged_54 rfl (lv_at hl 2 rfl) ?_
          refine rg_getr hE hH cf_X5 fl_X10_225 rfl (wq.1) (wq.2) (v := q + 1) (q1) dX10_howManyChanged_55 ?_
          refine lv_iload hE.1 hE.2.1 dX10_howManyChanged_58 (lv_at hl 5 rfl) ?_
          refine rg_iald hE hH (hQ1.1) (hQ1.2.1) (by omega) (v := nI (pAns tab h c)) (hqa c (by omega)) dX10_howManyChanged_60 ?_
          refine rn_icmp_eq (tgt := 67) hE dX10_howManyChanged_61 (by decide) (by omega) (by omega) (fun c61 => ?_) (fun c61 => ?_)
          · have hl : lv_has ls 6 [(5, .int (nI 1)), (0, .ref (G.ad p)), (1, .ref (G.ad q)), (2, .int (bI ho)), (3, .int (nI (cntN (fun c => pDif tab g h c && (!ho || (frow tab c).isNone)) (c + 1)))), (4, .int (nI c))] := by rw [cntN, if_neg (by rw [show pDif tab g h c = false from decide_eq_false (fun hne => hne c61)]; simp)]; exact hl
            refine lv_iinc (v := nI (c + 1)) (lv' := [(4, .int (nI (c + 1))), (5, .int (nI 1)), (0, .ref (G.ad p)), (1, .ref (G.ad q)), (2, .int (bI ho)), (3, .int (nI (cntN (fun c => pDif tab g h c && (!ho || (frow tab c).isNone)) (c + 1))))]) hE.1 hE.2.1 dX10_howManyChanged_67 hl (k := 5) rfl (nI_1 _) (by decide) rfl (fun ls hl => ?_)
            refine lv_goto (tgt := 5) hE.1 hE.2.1 dX10_howManyChanged_70 (by decide) ?_
            exact ih5 (c + 1) _ _ _ (by omega) (by omega) (lv_sub hl [2, 3, 4, 5, 0] rfl) hH
          · refine lv_iinc (v := nI (cntN (fun c => pDif tab g h c && (!ho || (frow tab c).isNone)) c + 1)) (lv' := [(3, .int (nI (cntN (fun c => pDif tab g h c && (!ho || (frow tab c).isNone)) c + 1))), (5, .int (nI 1)), (0, .ref (G.ad p)), (1, .ref (G.ad q)), (2, .int (bI ho)), (4, .int (nI c))]) hE.1 hE.2.1 dX10_howManyChanged_64 hl (k := 4) rfl (nI_1 _) (by decide) rfl (fun ls hl => ?_)
            have hl : lv_has ls 6 [(3, .int (nI (cntN (fun c => pDif tab g h c && (!ho || (frow tab c).isNone)) (c + 1)))), (5, .int (nI 1)), (0, .ref (G.ad p)), (1, .ref (G.ad q)), (2, .int (bI ho)), (4, .int (nI c))] := by rw [cntN, if_pos (by rw [show pDif tab g h c = true from decide_eq_true c61, hns]; simp)]; exact hl
            refine lv_iinc (v := nI (c + 1)) (lv' := [(4, .int (nI (c + 1))), (3, .int (nI (cntN (fun c => pDif tab g h c && (!ho || (frow tab c).isNone)) (c + 1)))), (5, .int (nI 1)), (0, .ref (G.ad p)), (1, .ref (G.ad q)), (2, .int (bI ho))]) hE.1 hE.2.1 dX10_howManyChanged_67 hl (k := 5) rfl (nI_1 _) (by decide) rfl (fun ls hl => ?_)
            refine lv_goto (tgt := 5) hE.1 hE.2.1 dX10_howManyChanged_70 (by decide) ?_
            exact ih5 (c + 1) _ _ _ (by omega) (by omega) (lv_sub hl [3, 4, 5, 1, 0] rfl) hH
set_option maxRecDepth 100000 in
set_option maxHeartbeats 4000000 in
theorem c_x_changed (l : Launch) (z : ZK) (hlt : l.stackTraces = false) (G : GW) (iv : IV) (jv : JV) (a : AS) (hX : CSt G iv jv a) (x y w : Int32) : cXI l z yX10_changed cX10_changed 6 (some .int) 8 130 4 24 [.ref (G.ad 100), .int (x), .int (y), .int (w)] G iv jv (fun r G' iv' jv' => G = G' ∧ iv = iv' ∧ jv = jv' ∧ spChanged a x y w = ok r a) (fun E G' iv' jv' => G = G' ∧ iv = iv' ∧ jv = jv' ∧ ((E = nNSE ∧ spChanged a x y w = no 1 a) ∨ (E = nIAE ∧ spChanged a x y w = no 2 a))) := by
  intro sz
  refine rx_entry rfl (Nat.le_of_ble_eq_true rfl) ?_
  intro pq eq sq mq bq methq cq ls hE hr hlk hml hnm hl hsz hxt hH
  have hl : lv_has ls 6 [(0, .ref (G.ad 100)), (1, .int (x)), (2, .int (y)), (3, .int (w))] := hl
  refine lv_aload_n hE.1 hE.2.1 dX10_changed_0 rfl (lv_at hl 0 rfl) ?_
  refine lv_iload_n hE.1 hE.2.1 dX10_changed_1 rfl (lv_at hl 1 rfl) ?_
  refine rx_VR (As := [.int (x)]) (rest := []) hE hml hH mc_X10_217 (c_x_prg l z hlt G iv jv a hX x) (hX.1.1.1) (hX.1.1.2) (by decide) rfl ⟨Nat.le_of_ble_eq_true rfl, Nat.le_of_ble_eq_true rfl⟩ rfl hl.1 (by simp [Value.category]) dX10_changed_2 ⟨Nat.le_of_ble_eq_true rfl, Nat.le_of_ble_eq_true rfl⟩ (fun E ce q G' iv' jv' H locs hpx hH hce hcv hcl => rx_out hE hH hxt hlk hce hcv hcl (Nat.le_of_ble_eq_true rfl) (Nat.le_of_ble_eq_true rfl) (by obtain ⟨rfl, rfl, rfl, rfl, hcx⟩ := hpx; exact ⟨rfl, rfl, rfl, Or.inl ⟨rfl, by rw [spChanged, onK_f hcx]⟩⟩)) (fun r2 G2 iv2 jv2 H locs hp2 hH => ?_)
  obtain ⟨rfl, rfl, rfl, hin2, rfl⟩ := hp2
  obtain ⟨P, hP, rfl⟩ := inI_of (n := (aP a).length) (by have := hX.2.2.2.2.1.2.1; have := hX.2.2.2.2.2.1.2.1; omega) hin2
  rw [cl_nI (by have := hX.2.2.2.2.1.2.1; have := hX.2.2.2.2.2.1.2.1; omega)]
  have hPr1 := hX.2.2.2.2.2.1.2.2 P hP
  obtain ⟨-, hT1, hPg1, hg1, hpa1⟩ := hPr1
  have hP6 : (aP a).length < 2147483648 := by have := hX.2.2.2.2.2.1.2.1; omega
  refine lv_astore (lv' := [(4, .ref (G.ad (gL P))), (0, .ref (G.ad 100)), (1, .int (nI P)), (2, .int (y)), (3, .int (w))]) hE.1 hE.2.1 dX10_changed_5 hl (by decide) rfl (fun ls hl => ?_)
  refine lv_aload_n hE.1 hE.2.1 dX10_changed_7 rfl (lv_at hl 1 rfl) ?_
  refine lv_iload_n hE.1 hE.2.1 dX10_changed_8 rfl (lv_at hl 3 rfl) ?_
  refine rx_VR (As := [.int (y)]) (rest := []) hE hml hH mc_X10_217 (c_x_prg l z hlt G iv jv a hX y) (hX.1.1.1) (hX.1.1.2) (by decide) rfl ⟨Nat.le_of_ble_eq_true rfl, Nat.le_of_ble_eq_true rfl⟩ rfl hl.1 (by simp [Value.category]) dX10_changed_9 ⟨Nat.le_of_ble_eq_true rfl, Nat.le_of_ble_eq_true rfl⟩ (fun E ce q G' iv' jv' H locs hpx hH hce hcv hcl => rx_out hE hH hxt hlk hce hcv hcl (Nat.le_of_ble_eq_true rfl) (Nat.le_of_ble_eq_true rfl) (by obtain ⟨rfl, rfl, rfl, rfl, hcx⟩ := hpx; exact ⟨rfl, rfl, rfl, Or.inl ⟨rfl, by rw [spChanged, onK_t hP hP6, onK_f hcx]⟩⟩)) (fun r9 G9 iv9 jv9 H locs hp9 hH => ?_)
  obtain ⟨rfl, rfl, rfl, hin9, rfl⟩ := hp9
  obtain ⟨Q, hQ, rfl⟩ := inI_of (n := (aP a).length) (by have := hX.2.2.2.2.1.2.1; have := hX.2.2.2.2.2.1.2.1; omega) hin9
  rw [cl_nI (by have := hX.2.2.2.2.1.2.1; have := hX.2.2.2.2.2.1.2.1; omega)]
  have hPr2 := hX.2.2.2.2.2.1.2.2 Q hQ
  obtain ⟨-, hT2, hPg2, hg2, hpa2⟩ := hPr2
  have hP6 : (aP a).length < 2147483648 := by have := hX.2.2.2.2.2.1.2.1; omega
  refine lv_astore (lv' := [(5, .ref (G.ad (gL Q))), (4, .ref (G.ad (gL P))), (0, .ref (G.ad 100)), (1, .int (nI P)), (2, .int (nI Q)), (3, .int (w))]) hE.1 hE.2.1 dX10_changed_12 hl (by decide) rfl (fun ls hl => ?_)
  refine lv_iload_n hE.1 hE.2.1 dX10_changed_14 rfl (lv_at hl 5 rfl) ?_
  refine lv_if_lt (tgt := 23) hE.1 hE.2.1 dX10_changed_15 (by decide) (fun c15 => ?_) (fun c15 => ?_)
  · exact rx_throw (i := 9) hlt hE hH xw_N (by decide) rfl hml hl.1 dX10_changed_23 dX10_changed_26 dX10_changed_27 dX10_changed_29 dX10_changed_32 hxt (Nat.le_of_ble_eq_true rfl) (by first | exact Nat.le_of_ble_eq_true rfl | (simp [Value.category])) (Nat.le_of_ble_eq_true rfl) (Nat.le_of_ble_eq_true rfl) hlk (Nat.le_of_ble_eq_true rfl) (Nat.le_of_ble_eq_true rfl) ⟨rfl, rfl, rfl, Or.inl ⟨rfl, by rw [spChanged, onK_t hP hP6, onK_t hQ hP6, onK_f (inI_lt c15)]⟩⟩
  · refine lv_iload_n hE.1 hE.2.1 dX10_changed_18 rfl (lv_at hl 5 rfl) ?_
    refine lv_iconst (v := nI 2) hE.1 hE.2.1 dX10_changed_19 (by decide) ?_
    refine lv_icmp_le (tgt := 33) hE.1 hE.2.1 dX10_changed_20 (by decide) (fun c20 => ?_) (fun c20 => ?_)
    · obtain ⟨k, hk3, rfl⟩ := inI_of (n := 3) (by decide) (inI_le (by decide) c15 c20)
      refine lv_aload hE.1 hE.2.1 dX10_changed_33 (lv_at hl 1 rfl) ?_
      refine rg_getr hE hH cf_X5 fl_X10_221 rfl (hPg1.1.1) (hPg1.1.2) (v := tL (aPg a P).1) (hPg1.2.2.1) dX10_changed_35 ?_
      refine lv_aload hE.1 hE.2.1 dX10_changed_38 (lv_at hl 0 rfl) ?_
      refine rg_getr hE hH cf_X5 fl_X10_221 rfl (hPg2.1.1) (hPg2.1.2) (v := tL (aPg a Q).1) (hPg2.2.2.1) dX10_changed_40 ?_
      refine lv_acmp_eq (rx := some (G.ad (tL (aPg a P).1))) (ry := some (G.ad (tL (aPg a Q).1))) (tgt := 56) hE.1 hE.2.1 dX10_changed_43 (by decide) (fun c43 => ?_) (fun c43 => ?_)
      · have heq : (aPg a P).1 = (aPg a Q).1 := by
          have h2 := inj_of_map hH.2.2.2.2.1.1 (hX.2.2.2.2.1.2.2 _ hT1).2.1.1.1 (hX.2.2.2.2.1.2.2 _ hT2).2.1.1.1 (Option.some.inj c43)
          unfold tL at h2; omega
        obtain ⟨-, hTb0, hLy, hTd, hk, hW⟩ := hX.2.2.2.2.1.2.2 (aPg a P).1 hT1
        obtain ⟨h1, hCV, ⟨h7, hdn, hho⟩, -⟩ := hTd
        rw [← heq] at hPg2 hg2 hpa2 hT2
        have hC4 := hk.2.2.2.1
        refine lv_iload_n hE.1 hE.2.1 dX10_changed_56 rfl (lv_at hl 5 rfl) ?_
        refine lv_iconst (v := nI 2) hE.1 hE.2.1 dX10_changed_57 (by decide) ?_
        refine rn_icmp_ne (tgt := 69) hE dX10_changed_58 (by decide) (by omega) (by omega) (fun c58 => ?_) (fun c58 => ?_)
        · refine lv_aload hE.1 hE.2.1 dX10_changed_69 (lv_at hl 1 rfl) ?_
          refine lv_aload hE.1 hE.2.1 dX10_changed_71 (lv_at hl 0 rfl) ?_
          refine lv_iload_n hE.1 hE.2.1 dX10_changed_73 rfl (lv_at hl 5 rfl) ?_
          refine lv_iconst (v := nI 1) hE.1 hE.2.1 dX10_changed_74 (by decide) ?_
          refine rb_icmp_ne (t1 := 82) (t2 := 83) hE dX10_changed_75 (by decide) dX10_changed_78 dX10_changed_79 (by decide) dX10_changed_82 rfl (by omega) (by omega) ?_
          refine rg_SI (As := [.ref (G.ad (gL P)), .ref (G.ad (gL Q)), .int (bI (decide (k = 1)))]) (rest := []) hE hml hH mc_X10_242 (c_x_many l z G iv jv (gL P) (gL Q) (tL (aPg a P).1) (bL (aPg a P).1) (aTb a (aPg a P).1) hk hTb0 hPg1 hPg2 (aPg a P).2 (aPg a Q).2 hg1 hg2 hpa1 hpa2 h1 (fun c hc => (hdn c hc).1) (decide (k = 1))) rfl ⟨Nat.le_of_ble_eq_true rfl, Nat.le_of_ble_eq_true rfl⟩ rfl hl.1 (by simp [Value.category]) dX10_changed_83 ⟨Nat.le_of_ble_eq_true rfl, Nat.le_of_ble_eq_true rfl⟩ (fun r83 G83 iv83 jv83 H locs hp83 hH => ?_)
          obtain ⟨rfl, rfl, rfl, rfl⟩ := hp83
          refine W.widen (k := 4) (n := 24) (Nat.le_of_ble_eq_true rfl) (Nat.le_of_ble_eq_true rfl) ?_
          exact vx_ret (rg_iret hE hr rfl hlk hH ⟨rfl, rfl, rfl, by
            rw [spChanged, onK_t hP hP6, onK_t hQ hP6, onK_t hk3 (by decide), if_neg (fun h => h heq)]
            rcases (show k = 0 ∨ k = 1 by omega) with h | h <;> subst h
            · rw [if_pos rfl]; congr 2; exact cntN_c (fun c _ => by simp)
            · rw [if_neg (by decide), if_pos rfl]; congr 2⟩ dX10_changed_86)
        · refine lv_aload hE.1 hE.2.1 dX10_changed_61 (lv_at hl 1 rfl) ?_
          refine lv_aload hE.1 hE.2.1 dX10_changed_63 (lv_at hl 0 rfl) ?_
          refine rg_SI (As := [.ref (G.ad (gL P)), .ref (G.ad (gL Q))]) (rest := []) hE hml hH mc_X10_238 (c_x_first l z G iv jv (gL P) (gL Q) (tL (aPg a P).1) (bL (aPg a P).1) (aTb a (aPg a P).1) hk hTb0 hPg1 hPg2 (aPg a P).2 (aPg a Q).2 hg1 hg2 hpa1 hpa2 h1) rfl ⟨Nat.le_of_ble_eq_true rfl, Nat.le_of_ble_eq_true rfl⟩ rfl hl.1 (by simp [Value.category]) dX10_changed_65 ⟨Nat.le_of_ble_eq_true rfl, Nat.le_of_ble_eq_true rfl⟩ (fun r65 G65 iv65 jv65 H locs hp65 hH => ?_)
          obtain ⟨rfl, rfl, rfl, rfl⟩ := hp65
          refine W.widen (k := 4) (n := 24) (Nat.le_of_ble_eq_true rfl) (Nat.le_of_ble_eq_true rfl) ?_
          exact vx_ret (rg_iret hE hr rfl hlk hH ⟨rfl, rfl, rfl, by subst c58; rw [spChanged, onK_t hP hP6, onK_t hQ hP6, onK_t (show 2 < 3 by decide) (by decide), if_neg (fun h => h heq)]; rfl⟩ dX10_changed_68)
      · have hne : (aPg a P).1 ≠ (aPg a Q).1 := fun h => c43 (by rw [h])
        exact rx_throw (i := 18) hlt hE hH xw_I (by decide) rfl hml hl.1 dX10_changed_46 dX10_changed_49 dX10_changed_50 dX10_changed_52 dX10_changed_55 hxt (Nat.le_of_ble_eq_true rfl) (by first | exact Nat.le_of_ble_eq_true rfl | (simp [Value.category])) (Nat.le_of_ble_eq_true rfl) (Nat.le_of_ble_eq_true rfl) hlk (Nat.le_of_ble_eq_true rfl) (Nat.le_of_ble_eq_true rfl) ⟨rfl, rfl, rfl, Or.inr ⟨rfl, by rw [spChanged, onK_t hP hP6, onK_t hQ hP6, onK_t hk3 (by decide), if_pos hne]⟩⟩
    · exact rx_throw (i := 9) hlt hE hH xw_N (by decide) rfl hml hl.1 dX10_changed_23 dX10_changed_26 dX10_changed_27 dX10_changed_29 dX10_changed_32 hxt (Nat.le_of_ble_eq_true rfl) (by first | exact Nat.le_of_ble_eq_true rfl | (simp [Value.category])) (Nat.le_of_ble_eq_true rfl) (Nat.le_of_ble_eq_true rfl) hlk (Nat.le_of_ble_eq_true rfl) (Nat.le_of_ble_eq_true rfl) ⟨rfl, rfl, rfl, Or.inl ⟨rfl, by rw [spChanged, onK_t hP hP6, onK_t hQ hP6, onK_f (inI_gt (by decide) c20)]⟩⟩
