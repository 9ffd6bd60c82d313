set_option maxRecDepth 100000 in
set_option maxHeartbeats 4000000 in
theorem c_La_nm (l : Launch) (z : ZK) (G : GW) (iv : IV) (jv : JV) (b : Nat) (hL : isLa G b) (hb : 1000 ≤ b) (ins : List Col) (hI : LI iv jv b ins) (w : Wd) (hw : wOK w) : cI l z yX1_inputNamed cX1_inputNamed 4 (some .int) 0 0 0 0 [.ref (G.ad b), .long (enc w)] G iv jv (fun r G' iv' jv' => G = G' ∧ iv = iv' ∧ jv = jv' ∧ r = oI (ixW (nmsOf ins) w)) := by
  intro sz
  refine rg_entry rfl (Nat.le_of_ble_eq_true rfl) ?_
  intro pq eq sq mq bq methq cq ls hE hr hlk hml hnm hl hsz hH
  have hl : lv_has ls 4 [(0, .ref (G.ad b)), (1, .long (enc w))] := hl
  have hl1 : G.ln (b + 1) = 5 := hL.2.1.2.2
  have h5 := hI.2.2.1
  refine lv_iconst (v := nI 0) hE.1 hE.2.1 dX1_inputNamed_0 (by decide) ?_
  refine lv_istore_n (lv' := [(3, .int (nI 0)), (0, .ref (G.ad b)), (1, .long (enc w))]) hE.1 hE.2.1 dX1_inputNamed_1 rfl hl (by decide) rfl (fun ls hl => ?_)
  refine rg_loop (σ := Nat) (nL := 4) (fun (k : Nat) => ins.length - k) (fun (k : Nat) => [(0, .ref (G.ad b)), (1, .long (enc w)), (3, .int (nI k))]) (fun (k : Nat) => G) (fun (k : Nat) => iv) (fun (k : Nat) => jv) (fun (k : Nat) => k ≤ ins.length ∧ ∀ u, u < k → (nmsOf ins).getD u [] ≠ w) ?_ (0) ⟨Nat.zero_le _, fun u hu => absurd hu (Nat.not_lt_zero u)⟩ (lv_sub hl [1, 2, 0] rfl) hH
  rintro k H locs ls ⟨hkv, hne⟩ hl hH ih2
  try dsimp only at hl hH ih2
  refine lv_iload_n hE.1 hE.2.1 dX1_inputNamed_2 rfl (lv_at hl 2 rfl) ?_
  refine lv_aload_n hE.1 hE.2.1 dX1_inputNamed_3 rfl (lv_at hl 0 rfl) ?_
  refine rg_geti hE hH cf_X1 fl_X1_9 rfl (hL.1.1) (hL.1.2) (v := nI ins.length) (hI.1) dX1_inputNamed_4 ?_
  refine rn_icmp_ge (tgt := 32) hE dX1_inputNamed_7 (by decide) (by omega) (by omega) (fun c7 => ?_) (fun c7 => ?_)
  · refine lv_iconst (v := -1) hE.1 hE.2.1 dX1_inputNamed_32 (by decide) ?_
    exact rg_iret hE hr rfl hlk hH ⟨rfl, rfl, rfl, by rw [ixW_none (fun u hu => hne u (by rw [List.length_map] at hu; omega))]; rfl⟩ dX1_inputNamed_33
  · refine lv_aload_n hE.1 hE.2.1 dX1_inputNamed_10 rfl (lv_at hl 0 rfl) ?_
    refine rg_getr hE hH cf_X1 fl_X1_20 rfl (hL.1.1) (hL.1.2) (v := b + 1) (hL.2.2.2.2.1) dX1_inputNamed_11 ?_
    refine lv_iload_n hE.1 hE.2.1 dX1_inputNamed_14 rfl (lv_at hl 2 rfl) ?_
    refine rg_aldr hE hH (hL.2.1.1) (hL.2.1.2.1) (by decide) (by decide) (by omega) (v := b + 10 + 2 * k) (hL.2.2.2.2.2.1 k (by omega)) dX1_inputNamed_15 ?_
    refine rg_getj hE hH cf_X0 fl_X1_40 rfl ((hL.2.2.1 k (by omega)).1.1) ((hL.2.2.1 k (by omega)).1.2) (v := enc (ins.getD k dC0).1) ((hI.2.2.2 k (by omega)).1) dX1_inputNamed_16 ?_
    refine lv_lload_n hE.1 hE.2.1 dX1_inputNamed_19 rfl (lv_at hl 1 rfl) ?_
    refine lv_lcmp hE.1 hE.2.1 dX1_inputNamed_20 ?_
    refine lv_if_ne (tgt := 26) hE.1 hE.2.1 dX1_inputNamed_21 (by decide) (fun c21 => ?_) (fun c21 => ?_)
    · rw [lc_0] at c21
      refine lv_iinc (v := nI (k + 1)) (lv' := [(3, .int (nI (k + 1))), (0, .ref (G.ad b)), (1, .long (enc w))]) hE.1 hE.2.1 dX1_inputNamed_26 hl (k := 2) rfl (nI_1 _) (by decide) rfl (fun ls hl => ?_)
      refine lv_goto (tgt := 2) hE.1 hE.2.1 dX1_inputNamed_29 (by decide) ?_
      exact ih2 (k + 1) _ _ _ (by omega) ⟨by omega, fun u hu => by
        by_cases huk : u = k
        · rw [huk, nm_get (by omega)]; exact fun h => c21 (by rw [h])
        · exact hne u (by omega)⟩ (lv_sub hl [1, 2, 0] rfl) hH
    · rw [lc_0, enc_inj (wOK_e (hI.2.2.2 k (by omega)).2.1) (wOK_e hw)] at c21
      refine lv_iload_n hE.1 hE.2.1 dX1_inputNamed_24 rfl (lv_at hl 2 rfl) ?_
      exact rg_iret hE hr rfl hlk hH ⟨rfl, rfl, rfl, by rw [ixW_some (v := k) (by rw [List.length_map]; omega) (by rw [nm_get (by omega)]; exact c21) hne]; rfl⟩ dX1_inputNamed_25
set_option maxRecDepth 100000 in
set_option maxHeartbeats 4000000 in
theorem c_La_clear (l : Launch) (z : ZK) (G : GW) (iv : IV) (jv : JV) (b : Nat) (hL : isLa G b) (hb : 1000 ≤ b) : cV l z yX1_clear cX1_clear 2 none 0 0 0 0 [.ref (G.ad b)] G iv jv (fun G' iv' jv' => G = G' ∧ jv = jv' ∧ (iv' b 0 = nI 0 ∧ iv' b 1 = nI 1 ∧ (∀ i, i < 6 → iv' (b + 10 + 2 * i) 1 = nI 0) ∧ iv' (b + 30) 0 = nI 0) ∧ Fr iv iv' (fun lb _ => b ≤ lb ∧ lb < b + 40)) := by
  intro sz
  refine rg_entry rfl (Nat.le_of_ble_eq_true rfl) ?_
  intro pq eq sq mq bq methq cq ls hE hr hlk hml hnm hl hsz hH
  have hl : lv_has ls 2 [(0, .ref (G.ad b))] := hl
  have hl1 : G.ln (b + 1) = 5 := hL.2.1.2.2
  refine lv_aload_n hE.1 hE.2.1 dX1_clear_0 rfl (lv_at hl 0 rfl) ?_
  refine lv_iconst (v := nI 0) hE.1 hE.2.1 dX1_clear_1 (by decide) ?_
  refine rg_puti hE hH cf_X1 fl_X1_9 rfl fn_X1_0 (hL.1.1) (hL.1.2) (v := nI 0) dX1_clear_2 (fun H locs hH => ?_)
  refine lv_aload_n hE.1 hE.2.1 dX1_clear_5 rfl (lv_at hl 0 rfl) ?_
  refine lv_iconst (v := nI 1) hE.1 hE.2.1 dX1_clear_6 (by decide) ?_
  refine rg_puti hE hH cf_X1 fl_X1_15 rfl fn_X1_1 (hL.1.1) (hL.1.2) (v := nI 1) dX1_clear_7 (fun H locs hH => ?_)
  have hFr : Fr iv (up2 (up2 iv b 0 (nI 0)) b 1 (nI 1)) (fun lb _ => b ≤ lb ∧ lb < b + 40) := Fr.up (Fr.up Fr.rf (by omega)) (by omega)
  have h0 : (up2 (up2 iv b 0 (nI 0)) b 1 (nI 1)) b 0 = nI 0 := by rw [up2_k (by decide)]; exact up2_s
  have h1 : (up2 (up2 iv b 0 (nI 0)) b 1 (nI 1)) b 1 = nI 1 := up2_s
  refine lv_iconst (v := nI 0) hE.1 hE.2.1 dX1_clear_10 (by decide) ?_
  refine lv_istore_n (lv' := [(1, .int (nI 0)), (0, .ref (G.ad b))]) hE.1 hE.2.1 dX1_clear_11 rfl hl (by decide) rfl (fun ls hl => ?_)
  refine rg_loop (σ := IV × Nat) (nL := 2) (fun (u : IV × Nat) => match u with | (iv2, i) => 5 - i) (fun (u : IV × Nat) => match u with | (iv2, i) => [(0, .ref (G.ad b)), (1, .int (nI i))]) (fun (u : IV × Nat) => match u with | (iv2, i) => G) (fun (u : IV × Nat) => match u with | (iv2, i) => iv2) (fun (u : IV × Nat) => match u with | (iv2, i) => jv) (fun (u : IV × Nat) => match u with | (iv2, i) => i ≤ 5 ∧ iv2 b 0 = nI 0 ∧ iv2 b 1 = nI 1 ∧ (∀ j, j < i → iv2 (b + 10 + 2 * j) 1 = nI 0) ∧ Fr iv iv2 (fun lb _ => b ≤ lb ∧ lb < b + 40)) ?_ ((up2 (up2 iv b 0 (nI 0)) b 1 (nI 1), 0)) ⟨Nat.zero_le _, h0, h1, fun j hj => absurd hj (Nat.not_lt_zero j), hFr⟩ (lv_sub hl [1, 0] rfl) hH
  rintro ⟨iv2, i⟩ H locs ls ⟨hi5, h0, h1, hz, hFr⟩ hl hH ih12
  try dsimp only at hl hH ih12
  try dsimp only at hi5 h0 h1 hz hFr
  refine lv_iload_n hE.1 hE.2.1 dX1_clear_12 rfl (lv_at hl 1 rfl) ?_
  refine lv_iconst (v := nI 5) hE.1 hE.2.1 dX1_clear_13 (by decide) ?_
  refine rn_icmp_ge (tgt := 33) hE dX1_clear_14 (by decide) (by omega) (by omega) (fun c14 => ?_) (fun c14 => ?_)
  · refine lv_aload_n hE.1 hE.2.1 dX1_clear_33 rfl (lv_at hl 0 rfl) ?_
    refine rg_getr hE hH cf_X1 fl_X1_25 rfl (hL.1.1) (hL.1.2) (v := b + 20) (hL.2.2.2.2.2.2.1) dX1_clear_34 ?_
    refine lv_iconst (v := nI 0) hE.1 hE.2.1 dX1_clear_37 (by decide) ?_
    refine rg_puti hE hH cf_X0 fl_X1_36 rfl fn_X0_1 ((hL.2.2.1 5 (by decide)).1.1) ((hL.2.2.1 5 (by decide)).1.2) (v := nI 0) dX1_clear_38 (fun H locs hH => ?_)
    refine lv_aload_n hE.1 hE.2.1 dX1_clear_41 rfl (lv_at hl 0 rfl) ?_
    refine rg_getr hE hH cf_X1 fl_X1_32 rfl (hL.1.1) (hL.1.2) (v := b + 30) (hL.2.2.2.2.2.2.2) dX1_clear_42 ?_
    refine lv_iconst (v := nI 0) hE.1 hE.2.1 dX1_clear_45 (by decide) ?_
    refine rg_puti hE hH cf_X6 fl_X1_39 rfl fn_X6_0 (hL.2.2.2.1.1.1) (hL.2.2.2.1.1.2) (v := nI 0) dX1_clear_46 (fun H locs hH => ?_)
    exact rg_vret hE hr hlk hH ⟨rfl, rfl, ⟨by rw [up2_l (by omega), up2_l (by omega)]; exact h0, by rw [up2_l (by omega), up2_l (by omega)]; exact h1, fun i hi => by
      by_cases hi5 : i = 5
      · subst hi5; rw [up2_l (by omega)]; exact up2_s
      · rw [up2_l (by omega), up2_l (by omega)]; exact hz i (by omega), up2_s⟩, Fr.up (Fr.up hFr (by omega)) (by omega)⟩ dX1_clear_49
  · refine lv_aload_n hE.1 hE.2.1 dX1_clear_17 rfl (lv_at hl 0 rfl) ?_
    refine rg_getr hE hH cf_X1 fl_X1_20 rfl (hL.1.1) (hL.1.2) (v := b + 1) (hL.2.2.2.2.1) dX1_clear_18 ?_
    refine lv_iload_n hE.1 hE.2.1 dX1_clear_21 rfl (lv_at hl 1 rfl) ?_
    refine rg_aldr hE hH (hL.2.1.1) (hL.2.1.2.1) (by decide) (by decide) (by omega) (v := b + 10 + 2 * i) (hL.2.2.2.2.2.1 i (by omega)) dX1_clear_22 ?_
    refine lv_iconst (v := nI 0) hE.1 hE.2.1 dX1_clear_23 (by decide) ?_
    refine rg_puti hE hH cf_X0 fl_X1_36 rfl fn_X0_1 ((hL.2.2.1 i (by omega)).1.1) ((hL.2.2.1 i (by omega)).1.2) (v := nI 0) dX1_clear_24 (fun H locs hH => ?_)
    refine lv_iinc (v := nI (i + 1)) (lv' := [(1, .int (nI (i + 1))), (0, .ref (G.ad b))]) hE.1 hE.2.1 dX1_clear_27 hl (k := 1) rfl (nI_1 _) (by decide) rfl (fun ls hl => ?_)
    refine lv_goto (tgt := 12) hE.1 hE.2.1 dX1_clear_30 (by decide) ?_
    exact ih12 (up2 iv2 (b + 10 + 2 * i) 1 (nI 0), i + 1) _ _ _ (show 5 - (i + 1) < 5 - i by omega) ⟨by show i + 1 ≤ 5; omega, by dsimp only; rw [up2_l (by omega)]; exact h0, by dsimp only; rw [up2_l (by omega)]; exact h1, fun j hj => by
      dsimp only at hj ⊢
      by_cases hji : j = i
      · subst hji; exact up2_s
      · rw [up2_l (by omega)]; exact hz j (by omega), Fr.up hFr (by omega)⟩ (lv_sub hl [1, 0] rfl) hH
set_option maxRecDepth 100000 in
set_option maxHeartbeats 4000000 in
theorem c_Pa_col (l : Launch) (z : ZK) (G : GW) (hX : isPx G) (iv : IV) (jv : JV) (B : Nat → Nat) (n : Nat) (t : Tok) (htv : TV B n t) (hR : LR iv jv B n (nx B n t)) (b : Nat) (hL : isLa G b) (hb : 1000 ≤ b) (ins : List Col) (hI : LI iv jv b ins) (c : Nat) (hC : isCo G c) (hc : 1000 ≤ c) (hV : CV iv jv c []) (a : Nat) (ha : a ≤ 400) : cI l z yX4_readColumn cX4_readColumn 4 (some .boolean) 3 67 0 0 [.ref (G.ad 102), .ref (G.ad b), .ref (G.ad c), .int (nI a)] G iv jv (fun r G' iv' jv' => G = G' ∧ r = bI (decide ((rdCol B n (nmsOf ins) a t).1 = 0)) ∧ LR iv' jv' B n (rdCol B n (nmsOf ins) a t).2.2.2 ∧ ((rdCol B n (nmsOf ins) a t).1 ≠ 0 → iv' 102 1 = nI (rdCol B n (nmsOf ins) a t).1) ∧ ((rdCol B n (nmsOf ins) a t).1 = 0 → jv' c 0 = enc (rdCol B n (nmsOf ins) a t).2.1 ∧ CV iv' jv' c (rdCol B n (nmsOf ins) a t).2.2.1) ∧ Fr iv iv' (pCo c) ∧ FrJ jv jv' (qCo c)) := by
  intro sz
  refine rg_entry rfl (Nat.le_of_ble_eq_true rfl) ?_
  intro pq eq sq mq bq methq cq ls hE hr hlk hml hnm hl hsz hH
  have hl : lv_has ls 4 [(0, .ref (G.ad 102)), (1, .ref (G.ad b)), (2, .ref (G.ad c)), (3, .int (nI a))] := hl
  have hFr : Fr iv iv (pCo c) := Fr.rf
  have hFj : FrJ jv jv (qCo c) := FrJ.rf
  refine lv_aload_n hE.1 hE.2.1 dX4_readColumn_0 rfl (lv_at hl 0 rfl) ?_
  refine rg_VI (As := []) (rest := []) hE hml hH mc_X4_95 (c_Pa_word l z G hX iv jv B n (nx B n t) hR) (hX.1.1) (hX.1.2) (by decide) rfl ⟨Nat.le_of_ble_eq_true rfl, Nat.le_of_ble_eq_true rfl⟩ rfl hl.1 (by simp [Value.category]) dX4_readColumn_1 ⟨Nat.le_of_ble_eq_true rfl, Nat.le_of_ble_eq_true rfl⟩ (fun r1 G1 iv1 jv1 H locs hp1 hH => ?_)
  obtain ⟨rfl, rfl, hR, hfd1, hF1, hJ1⟩ := hp1
  have hFr := hFr.tr (hF1.mono (fun _ _ h => Or.inl h))
  have hFj := hFj.tr (hJ1.mono (fun _ _ h => Or.inl h))
  refine rn_ifb_ne (tgt := 9) hE dX4_readColumn_4 (by decide) (fun c4 => ?_) (fun c4 => ?_)
  · have hf := of_decide_eq_true c4
    have hI := hI.frZ hb hF1 hJ1
    have hV := hV.fr hF1 hJ1 (by simp only [pZ]; omega) (fun v => by simp only [qZ]; omega)
    refine lv_aload_n hE.1 hE.2.1 dX4_readColumn_9 rfl (lv_at hl 1 rfl) ?_
    refine lv_aload_n hE.1 hE.2.1 dX4_readColumn_10 rfl (lv_at hl 0 rfl) ?_
    refine rg_getr hE hH cf_X4 fl_X4_12 rfl (hX.1.1) (hX.1.2) (v := 103) (hX.2.2.2.2.2.2.1) dX4_readColumn_11 ?_
    refine rg_getj hE hH cf_X2 fl_X4_99 rfl (hX.2.1.1) (hX.2.1.2) (v := enc (wd B (nx B n t))) (hR.wf hf) dX4_readColumn_14 ?_
    refine rg_VI (As := [.long (enc (wd B (nx B n t)))]) (rest := []) hE hml hH mc_X4_103 (c_La_nm l z G iv1 jv1 b hL hb ins hI (wd B (nx B n t)) (wOK_wd hR.tv hf)) (hL.1.1) (hL.1.2) (by decide) rfl ⟨Nat.le_of_ble_eq_true rfl, Nat.le_of_ble_eq_true rfl⟩ rfl hl.1 (by simp [Value.category]) dX4_readColumn_17 ⟨Nat.le_of_ble_eq_true rfl, Nat.le_of_ble_eq_true rfl⟩ (fun r17 G17 iv17 jv17 H locs hp17 hH => ?_)
    obtain ⟨rfl, rfl, rfl, rfl⟩ := hp17
    refine lv_iconst (v := -1) hE.1 hE.2.1 dX4_readColumn_20 (by decide) ?_
    refine lv_icmp_eq (tgt := 30) hE.1 hE.2.1 dX4_readColumn_21 (by decide) (fun c21 => ?_) (fun c21 => ?_)
    · rw [oI_m1 (fun k hk => by have := (ixW_lt hk).1; rw [List.length_map] at this; have := hI.2.2.1; omega), ixW_eq_none] at c21
      refine lv_aload_n hE.1 hE.2.1 dX4_readColumn_30 rfl (lv_at hl 2 rfl) ?_
      refine lv_aload_n hE.1 hE.2.1 dX4_readColumn_31 rfl (lv_at hl 0 rfl) ?_
      refine rg_getr hE hH cf_X4 fl_X4_12 rfl (hX.1.1) (hX.1.2) (v := 103) (hX.2.2.2.2.2.2.1) dX4_readColumn_32 ?_
      refine rg_getj hE hH cf_X2 fl_X4_99 rfl (hX.2.1.1) (hX.2.1.2) (v := enc (wd B (nx B n t))) (hR.wf hf) dX4_readColumn_35 ?_
      refine rg_putj hE hH cf_X0 fl_X4_107 rfl fn_X0_0 (hC.1.1) (hC.1.2) (v := enc (wd B (nx B n t))) dX4_readColumn_38 (fun H locs hH => ?_)
      have hFj : FrJ jv (up2 jv1 c 0 (enc (wd B (nx B n t)))) (qCo c) := FrJ.up hFj (Or.inr (Or.inr ⟨rfl, rfl⟩))
      have hR : LR iv1 (up2 jv1 c 0 (enc (wd B (nx B n t)))) B n (nx B n t) := hR.upj (by omega) (by omega)
      have hV : CV iv1 (up2 jv1 c 0 (enc (wd B (nx B n t)))) c [] := CV.nil hV.1
      have hn0 : (up2 jv1 c 0 (enc (wd B (nx B n t)))) c 0 = enc (wd B (nx B n t)) := up2_s
      refine lv_aload_n hE.1 hE.2.1 dX4_readColumn_41 rfl (lv_at hl 0 rfl) ?_
      refine rg_getr hE hH cf_X4 fl_X4_12 rfl (hX.1.1) (hX.1.2) (v := 103) (hX.2.2.2.2.2.2.1) dX4_readColumn_42 ?_
      refine rg_VV (As := []) (rest := []) hE hml hH mc_X4_66 (c_Lx_next l z G hX iv1 (up2 jv1 c 0 (enc (wd B (nx B n t)))) B n (nx B n t) hR (fr_ne hf)) (hX.2.1.1) (hX.2.1.2) (by decide) rfl ⟨Nat.le_of_ble_eq_true rfl, Nat.le_of_ble_eq_true rfl⟩ rfl hl.1 (by simp [Value.category]) dX4_readColumn_45 ⟨Nat.le_of_ble_eq_true rfl, Nat.le_of_ble_eq_true rfl⟩ (fun G45 iv45 jv45 H locs hp45 hH => ?_)
      obtain ⟨rfl, hR, hF45, hJ45⟩ := hp45
      have hJ45 : FrJ (up2 jv1 c 0 (enc (wd B (nx B n t)))) jv45 qZ := hJ45
      have hF45 : Fr iv1 iv45 pZ := hF45.mono (fun _ _ h => Or.inr h)
      have hFr := hFr.tr (hF45.mono (fun _ _ h => Or.inl h))
      have hFj := hFj.tr (hJ45.mono (fun _ _ h => Or.inl h))
      have hV := hV.fr hF45 hJ45 (by simp only [pZ]; omega) (fun v => by simp only [qZ]; omega)
      have hn0 : jv45 c 0 = enc (wd B (nx B n t)) := (hJ45 _ _ (by simp only [qZ]; omega)).trans hn0
      refine lv_aload_n hE.1 hE.2.1 dX4_readColumn_48 rfl (lv_at hl 0 rfl) ?_
      refine lv_bipush (v := nI 12) hE.1 hE.2.1 dX4_readColumn_49 (by decide) ?_
      refine rg_VI (As := [.int (nI 12)]) (rest := []) hE hml hH mc_X4_88 (c_Pa_pass l z G hX iv45 jv45 B n (nx B n (nx B n t)) hR 12 (by decide)) (hX.1.1) (hX.1.2) (by decide) rfl ⟨Nat.le_of_ble_eq_true rfl, Nat.le_of_ble_eq_true rfl⟩ rfl hl.1 (by simp [Value.category]) dX4_readColumn_51 ⟨Nat.le_of_ble_eq_true rfl, Nat.le_of_ble_eq_true rfl⟩ (fun r51 G51 iv51 jv51 H locs hp51 hH => ?_)
      obtain ⟨rfl, rfl, hR, hfd51, hF51, hJ51⟩ := hp51
      have hFr := hFr.tr (hF51.mono (fun _ _ h => Or.inl h))
      have hFj := hFj.tr (hJ51.mono (fun _ _ h => Or.inl h))
      refine rn_ifb_eq (tgt := 70) hE dX4_readColumn_54 (by decide) (fun c54 => ?_) (fun c54 => ?_)
      · have hn12 := of_decide_eq_false c54
        rw [if_neg hn12] at hR
        have hn58 : ¬ (tk (nx B n (nx B n t)) = 2 ∧ ts (nx B n (nx B n t)) = 58) := fun h => hn12 ((kd_sg (c := 58) hR.tv (by decide)).mpr h)
        refine lv_iconst (v := nI 0) hE.1 hE.2.1 dX4_readColumn_70 (by decide) ?_
        exact rg_iret hE hr (nz_0) hlk hH ⟨rfl, zero_bI (by rw [rdCol_3 hf c21 hn58]; exact decide_eq_false (by simp)), by rw [rdCol_3 hf c21 hn58]; exact hR, fun _ => by rw [rdCol_3 hf c21 hn58]; exact hfd51 hn12, fun h => absurd (by rw [rdCol_3 hf c21 hn58] at h; exact h) (by simp), hFr, hFj⟩ dX4_readColumn_71
      · have h12 := of_decide_eq_true c54
        rw [if_pos h12] at hR
        have h58 : tk (nx B n (nx B n t)) = 2 ∧ ts (nx B n (nx B n t)) = 58 := (kd_sg (c := 58) (TV_nx (TV_nx htv)) (by decide)).mp h12
        have hV := hV.fr hF51 hJ51 (by simp only [pZ]; omega) (fun v => by simp only [qZ]; omega)
        have hn0 : jv51 c 0 = enc (wd B (nx B n t)) := (hJ51 _ _ (by simp only [qZ]; omega)).trans hn0
        refine lv_aload_n hE.1 hE.2.1 dX4_readColumn_57 rfl (lv_at hl 0 rfl) ?_
        refine lv_aload_n hE.1 hE.2.1 dX4_readColumn_58 rfl (lv_at hl 2 rfl) ?_
        refine lv_iload_n hE.1 hE.2.1 dX4_readColumn_59 rfl (lv_at hl 3 rfl) ?_
        refine rg_VI (As := [.ref (G.ad c), .int (nI a)]) (rest := []) hE hml hH mc_X4_110 (c_Pa_vals l z G hX iv51 jv51 B n (nx B n (nx B n (nx B n t))) hR c hC hc hV a ha) (hX.1.1) (hX.1.2) (by decide) rfl ⟨Nat.le_of_ble_eq_true rfl, Nat.le_of_ble_eq_true rfl⟩ rfl hl.1 (by simp [Value.category]) dX4_readColumn_60 ⟨Nat.le_of_ble_eq_true rfl, Nat.le_of_ble_eq_true rfl⟩ (fun r60 G60 iv60 jv60 H locs hp60 hH => ?_)
        obtain ⟨rfl, rfl, hR, hfd60, hVv, hF60, hJ60⟩ := hp60
        have hFr := hFr.tr hF60
        have hFj := hFj.tr (hJ60.mono (fun _ _ h => h.elim Or.inl (fun h => Or.inr (Or.inl h))))
        have hn0 : jv60 c 0 = enc (wd B (nx B n t)) := (hJ60 _ _ (by simp only [qCv, qZ]; omega)).trans hn0
        refine rn_ifb_eq (tgt := 70) hE dX4_readColumn_63 (by decide) (fun c63 => ?_) (fun c63 => ?_)
        · refine lv_iconst (v := nI 0) hE.1 hE.2.1 dX4_readColumn_70 (by decide) ?_
          exact rg_iret hE hr (nz_0) hlk hH ⟨rfl, zero_bI (by rw [rdCol_4 hf c21 h58]; exact decide_eq_false (of_decide_eq_false c63)), by rw [rdCol_4 hf c21 h58]; exact hR, fun _ => by rw [rdCol_4 hf c21 h58]; exact hfd60 (of_decide_eq_false c63), fun h => absurd (by rw [rdCol_4 hf c21 h58] at h; exact h) (of_decide_eq_false c63), hFr, hFj⟩ dX4_readColumn_71
        · refine lv_iconst (v := nI 1) hE.1 hE.2.1 dX4_readColumn_66 (by decide) ?_
          refine lv_goto (tgt := 71) hE.1 hE.2.1 dX4_readColumn_67 (by decide) ?_
          exact rg_iret hE hr (nz_1) hlk hH ⟨rfl, one_bI (by rw [rdCol_4 hf c21 h58]; exact c63), by rw [rdCol_4 hf c21 h58]; exact hR, fun h => absurd (by rw [rdCol_4 hf c21 h58]; exact of_decide_eq_true c63) h, fun _ => by rw [rdCol_4 hf c21 h58]; exact ⟨hn0, hVv (of_decide_eq_true c63)⟩, hFr, hFj⟩ dX4_readColumn_71
    · rw [oI_m1 (fun k hk => by have := (ixW_lt hk).1; rw [List.length_map] at this; have := hI.2.2.1; omega), ixW_eq_none, Classical.not_not] at c21
      refine lv_aload_n hE.1 hE.2.1 dX4_readColumn_24 rfl (lv_at hl 0 rfl) ?_
      refine lv_iconst (v := nI 4) hE.1 hE.2.1 dX4_readColumn_25 (by decide) ?_
      refine rg_VI (As := [.int (nI 4)]) (rest := []) hE hml hH mc_X4_62 (c_Pa_refuse l z G hX iv1 jv1 4) (hX.1.1) (hX.1.2) (by decide) rfl ⟨Nat.le_of_ble_eq_true rfl, Nat.le_of_ble_eq_true rfl⟩ rfl hl.1 (by simp [Value.category]) dX4_readColumn_26 ⟨Nat.le_of_ble_eq_true rfl, Nat.le_of_ble_eq_true rfl⟩ (fun r26 G26 iv26 jv26 H locs hp26 hH => ?_)
      obtain ⟨rfl, hiv26, rfl, rfl⟩ := hp26
      have hF26 : Fr iv1 iv26 pZ := by rw [hiv26]; exact Fr.up Fr.rf (Or.inl ⟨rfl, rfl⟩)
      have hFr := hFr.tr (hF26.mono (fun _ _ h => Or.inl h))
      have hR : LR iv26 jv1 B n (nx B n t) := by rw [hiv26]; exact hR.up (by decide) (by decide) (by decide)
      have hfd : iv26 102 1 = nI 4 := by rw [hiv26]; rfl
      exact rg_iret hE hr (nz_0) hlk hH ⟨rfl, zero_bI (by rw [rdCol_2 hf c21]; exact decide_eq_false (by simp)), by rw [rdCol_2 hf c21]; exact hR, fun _ => by rw [rdCol_2 hf c21]; exact hfd, fun h => absurd (by rw [rdCol_2 hf c21] at h; exact h) (by simp), hFr, hFj⟩ dX4_readColumn_29
  · have hf := of_decide_eq_false c4
    refine lv_iconst (v := nI 0) hE.1 hE.2.1 dX4_readColumn_7 (by decide) ?_
    exact rg_iret hE hr (nz_0) hlk hH ⟨rfl, zero_bI (by rw [rdCol_1 hf]; exact decide_eq_false hf), by rw [rdCol_1 hf]; exact hR, fun _ => by rw [rdCol_1 hf]; exact hfd1 hf, fun h => absurd (by rw [rdCol_1 hf] at h; exact h) hf, hFr, hFj⟩ dX4_readColumn_8
