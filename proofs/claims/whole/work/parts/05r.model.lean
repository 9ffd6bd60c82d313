set_option maxRecDepth 100000 in
set_option maxHeartbeats 4000000 in
theorem c_Pa_table (l : Launch) (z : ZK) (G : GW) (hX : isPx G) (iv : IV) (jv : JV) (B : Nat → Nat) (n : Nat) (hTx : TXc iv B n) (b : Nat) (hL : isLa G b) (hb : 1000 ≤ b) : cI l z yX4_readTable cX4_readTable 5 (some .int) 8 183 0 0 [.ref (G.ad 102), .ref (G.ad 101), .int (nI n), .ref (G.ad b)] G iv jv (fun r' G' iv' jv' => G = G' ∧ r' = nI (rdTable B n).1 ∧ LR iv' jv' B n (rdTable B n).2.2 ∧ ((rdTable B n).1 = 0 → LAY iv' jv' b (rdTable B n).2.1) ∧ Fr iv iv' (pT2 b) ∧ FrJ jv jv' (qT2 b)) := by
  intro sz
  refine rg_entry rfl (Nat.le_of_ble_eq_true rfl) ?_
  intro pq eq sq mq bq methq cq ls hE hr hlk hml hnm hl hsz hH
  have hl : lv_has ls 5 [(0, .ref (G.ad 102)), (1, .ref (G.ad 101)), (2, .int (nI n)), (3, .ref (G.ad b))] := hl
  refine lv_aload_n hE.1 hE.2.1 dX4_readTable_0 rfl (lv_at hl 3 rfl) ?_
  refine rg_VV (As := []) (rest := []) hE hml hH mc_X4_25 (c_La_clear l z G iv jv b hL hb) (hL.1.1) (hL.1.2) (by decide) rfl ⟨Nat.le_of_ble_eq_true rfl, Nat.le_of_ble_eq_true rfl⟩ rfl hl.1 (by simp [Value.category]) dX4_readTable_1 ⟨Nat.le_of_ble_eq_true rfl, Nat.le_of_ble_eq_true rfl⟩ (fun G1 iv1 jv1 H locs hp1 hH => ?_)
  obtain ⟨rfl, rfl, ⟨h0, h1, hz, h30⟩, hF1⟩ := hp1
  refine lv_aload_n hE.1 hE.2.1 dX4_readTable_4 rfl (lv_at hl 0 rfl) ?_
  refine lv_iconst (v := nI 0) hE.1 hE.2.1 dX4_readTable_5 (by decide) ?_
  refine rg_puti hE hH cf_X4 fl_X4_18 rfl fn_X4_1 (hX.1.1) (hX.1.2) (v := nI 0) dX4_readTable_6 (fun H locs hH => ?_)
  have hU : Fr iv1 (up2 iv1 102 1 (nI 0)) (fun lb j => lb = 102 ∧ j = 1) := Fr.up Fr.rf ⟨rfl, rfl⟩
  have hTx := (hTx.fr hF1 (fun k => by omega)).fr hU (fun k => by omega)
  have h0 := (hU _ 0 (by omega)).trans h0
  have h1 := (hU _ 1 (by omega)).trans h1
  have hz : ∀ i, i < 6 → (up2 iv1 102 1 (nI 0)) (b + 10 + 2 * i) 1 = nI 0 := fun i hi => (hU _ _ (by omega)).trans (hz i hi)
  have h30 := (hU _ 0 (by omega)).trans h30
  have hFr : Fr iv (up2 iv1 102 1 (nI 0)) (pT2 b) := (hF1.mono (fun lb j h => Or.inr (Or.inr (Or.inr (Or.inr h))))).tr (hU.mono (fun lb j h => Or.inl h))
  refine lv_aload_n hE.1 hE.2.1 dX4_readTable_9 rfl (lv_at hl 0 rfl) ?_
  refine rg_getr hE hH cf_X4 fl_X4_12 rfl (hX.1.1) (hX.1.2) (v := 103) (hX.2.2.2.2.2.2.1) dX4_readTable_10 ?_
  refine lv_aload_n hE.1 hE.2.1 dX4_readTable_13 rfl (lv_at hl 1 rfl) ?_
  refine lv_iload_n hE.1 hE.2.1 dX4_readTable_14 rfl (lv_at hl 2 rfl) ?_
  refine rg_VV (As := [.ref (G.ad 101), .int (nI n)]) (rest := []) hE hml hH mc_X4_30 (c_Lx_open l z G hX (up2 iv1 102 1 (nI 0)) jv B n hTx) (hX.2.1.1) (hX.2.1.2) (by decide) rfl ⟨Nat.le_of_ble_eq_true rfl, Nat.le_of_ble_eq_true rfl⟩ rfl hl.1 (by simp [Value.category]) dX4_readTable_15 ⟨Nat.le_of_ble_eq_true rfl, Nat.le_of_ble_eq_true rfl⟩ (fun G15 iv15 jv15 H locs hp15 hH => ?_)
  obtain ⟨rfl, hR, hF15, hJ15⟩ := hp15
  have hR : LR iv15 jv15 B n (tokAt B n 0) := hR
  have hFr := hFr.tr (hF15.mono (P' := pT2 b) (fun lb j h => h.elim (fun h => Or.inr (Or.inl h)) (fun h => h.elim (fun h => Or.inr (Or.inr (Or.inl h))) (fun h => Or.inr (Or.inr (Or.inr (Or.inl h)))))))
  have hFj : FrJ jv jv15 (qT2 b) := hJ15.mono (fun lb j h => h.elim Or.inl (fun h => Or.inr (Or.inl h)))
  have h0 : iv15 b 0 = nI 0 := (hF15 _ _ (by simp only [pL]; omega)).trans h0
  have h1 : iv15 b 1 = nI 1 := (hF15 _ _ (by simp only [pL]; omega)).trans h1
  have hz : ∀ i, i < 6 → iv15 (b + 10 + 2 * i) 1 = nI 0 := fun i hi => (hF15 _ _ (by simp only [pL]; omega)).trans (hz i hi)
  have h30 : iv15 (b + 30) 0 = nI 0 := (hF15 _ _ (by simp only [pL]; omega)).trans h30
  refine lv_aload_n hE.1 hE.2.1 dX4_readTable_18 rfl (lv_at hl 0 rfl) ?_
  refine lv_aload_n hE.1 hE.2.1 dX4_readTable_19 rfl (lv_at hl 3 rfl) ?_
  refine rg_VI (As := [.ref (G.ad b)]) (rest := []) hE hml hH mc_X4_34 (c_Pa_ins l z G hX iv15 jv15 B n (tokAt B n 0) hR b hL hb h0 h1 hz h30) (hX.1.1) (hX.1.2) (by decide) rfl ⟨Nat.le_of_ble_eq_true rfl, Nat.le_of_ble_eq_true rfl⟩ rfl hl.1 (by simp [Value.category]) dX4_readTable_20 ⟨Nat.le_of_ble_eq_true rfl, Nat.le_of_ble_eq_true rfl⟩ (fun r20 G20 iv20 jv20 H locs hp20 hH => ?_)
  obtain ⟨rfl, rfl, hR, hfd20, hin20, hF20, hJ20, h30⟩ := hp20
  have hFr := hFr.tr (hF20.mono (fun lb j h => pB_T2 h))
  have hFj := hFj.tr (hJ20.mono (fun lb j h => qB_T2 h))
  generalize hbA : decide ((rdInputs B n 6 [] (tokAt B n 0)).1 = 0) = bA
  have hrok := rdInputs_ok (B := B) (n := n) 6 [] (tokAt B n 0)
  have hRT : rdTable B n = (if (rdInputs B n 6 [] (tokAt B n 0)).1 ≠ 0 then ((rdInputs B n 6 [] (tokAt B n 0)).1, ((rdInputs B n 6 [] (tokAt B n 0)).2.1, [], []), (rdInputs B n 6 [] (tokAt B n 0)).2.2) else if (rdCol B n (nmsOf (rdInputs B n 6 [] (tokAt B n 0)).2.1) 0 (rdInputs B n 6 [] (tokAt B n 0)).2.2).1 ≠ 0 then ((rdCol B n (nmsOf (rdInputs B n 6 [] (tokAt B n 0)).2.1) 0 (rdInputs B n 6 [] (tokAt B n 0)).2.2).1, ((rdInputs B n 6 [] (tokAt B n 0)).2.1, [], []), (rdCol B n (nmsOf (rdInputs B n 6 [] (tokAt B n 0)).2.1) 0 (rdInputs B n 6 [] (tokAt B n 0)).2.2).2.2.2) else ((rdRows B n (rdInputs B n 6 [] (tokAt B n 0)).2.1 (rdCol B n (nmsOf (rdInputs B n 6 [] (tokAt B n 0)).2.1) 0 (rdInputs B n 6 [] (tokAt B n 0)).2.2).2.2.1 41 [] (rdCol B n (nmsOf (rdInputs B n 6 [] (tokAt B n 0)).2.1) 0 (rdInputs B n 6 [] (tokAt B n 0)).2.2).2.2.2).1, ((rdInputs B n 6 [] (tokAt B n 0)).2.1, (rdCol B n (nmsOf (rdInputs B n 6 [] (tokAt B n 0)).2.1) 0 (rdInputs B n 6 [] (tokAt B n 0)).2.2).2.2.1, (rdRows B n (rdInputs B n 6 [] (tokAt B n 0)).2.1 (rdCol B n (nmsOf (rdInputs B n 6 [] (tokAt B n 0)).2.1) 0 (rdInputs B n 6 [] (tokAt B n 0)).2.2).2.2.1 41 [] (rdCol B n (nmsOf (rdInputs B n 6 [] (tokAt B n 0)).2.1) 0 (rdInputs B n 6 [] (tokAt B n 0)).2.2).2.2.2).2.1), (rdRows B n (rdInputs B n 6 [] (tokAt B n 0)).2.1 (rdCol B n (nmsOf (rdInputs B n 6 [] (tokAt B n 0)).2.1) 0 (rdInputs B n 6 [] (tokAt B n 0)).2.2).2.2.1 41 [] (rdCol B n (nmsOf (rdInputs B n 6 [] (tokAt B n 0)).2.1) 0 (rdInputs B n 6 [] (tokAt B n 0)).2.2).2.2.2).2.2)) := rfl
  generalize rdInputs B n 6 [] (tokAt B n 0) = A at hR hfd20 hin20 hrok hRT hbA
  refine rn_ifb_eq (tgt := 46) hE dX4_readTable_23 (by decide) (fun c23 => ?_) (fun c23 => ?_)
  · rw [c23] at hbA
    have hA1 := of_decide_eq_false hbA
    rw [if_pos hA1] at hRT
    refine lv_iconst (v := nI 0) hE.1 hE.2.1 dX4_readTable_46 (by decide) ?_
    refine lv_istore (lv' := [(4, .int (nI 0)), (0, .ref (G.ad 102)), (1, .ref (G.ad 101)), (2, .int (nI n)), (3, .ref (G.ad b))]) hE.1 hE.2.1 dX4_readTable_47 hl (by decide) rfl (fun ls hl => ?_)
    refine lv_iload hE.1 hE.2.1 dX4_readTable_49 (lv_at hl 0 rfl) ?_
    refine rn_if_eq (tgt := 58) hE dX4_readTable_51 (by decide) (by omega) (fun c51 => ?_) (fun c51 => ?_)
    · refine lv_aload_n hE.1 hE.2.1 dX4_readTable_58 rfl (lv_at hl 1 rfl) ?_
      refine rg_geti hE hH cf_X4 fl_X4_18 rfl (hX.1.1) (hX.1.2) (v := nI A.1) (hfd20 hA1) dX4_readTable_59 ?_
      exact rg_iret hE hr rfl hlk hH ⟨rfl, by rw [hRT], by rw [hRT]; exact hR, fun h => absurd (by rw [hRT] at h; exact h) hA1, hFr, hFj⟩ dX4_readTable_62
    · omega
  · rw [c23] at hbA
    have hA1 := of_decide_eq_true hbA
    rw [if_neg (by simp [hA1])] at hRT
    obtain ⟨hI, h20⟩ := hin20 hA1
    have hrok := hrok hA1 (TV_at (Nat.zero_le _)) ⟨Nat.zero_le _, fun i hi => absurd hi (Nat.not_lt_zero i), by decide, List.nodup_nil, fun i hi => absurd hi (Nat.not_lt_zero i)⟩
    have hk2 : kdT B A.2.2 = 2 := (kd_kw (i := 19) hrok.2.2.1 (by decide)).mpr hrok.2.2.2
    refine lv_aload_n hE.1 hE.2.1 dX4_readTable_26 rfl (lv_at hl 0 rfl) ?_
    refine lv_aload_n hE.1 hE.2.1 dX4_readTable_27 rfl (lv_at hl 3 rfl) ?_
    refine rg_VI (As := [.ref (G.ad b)]) (rest := []) hE hml hH mc_X4_38 (c_Pa_out l z G hX iv20 jv20 B n A.2.2 hR b hL hb A.2.1 hI hk2 h20 h30) (hX.1.1) (hX.1.2) (by decide) rfl ⟨Nat.le_of_ble_eq_true rfl, Nat.le_of_ble_eq_true rfl⟩ rfl hl.1 (by simp [Value.category]) dX4_readTable_28 ⟨Nat.le_of_ble_eq_true rfl, Nat.le_of_ble_eq_true rfl⟩ (fun r28 G28 iv28 jv28 H locs hp28 hH => ?_)
    obtain ⟨rfl, rfl, hR, hfd28, hou28, hF28, hJ28, h30⟩ := hp28
    have hFr := hFr.tr (hF28.mono (fun lb j h => pB_T2 h))
    have hFj := hFj.tr (hJ28.mono (fun lb j h => qB_T2 h))
    generalize hbO : decide ((rdCol B n (nmsOf A.2.1) 0 A.2.2).1 = 0) = bO
    generalize rdCol B n (nmsOf A.2.1) 0 A.2.2 = O at hR hfd28 hou28 hRT hbO
    refine rn_ifb_eq (tgt := 46) hE dX4_readTable_31 (by decide) (fun c31 => ?_) (fun c31 => ?_)
    · rw [c31] at hbO
      have hO1 := of_decide_eq_false hbO
      rw [if_pos hO1] at hRT
      refine lv_iconst (v := nI 0) hE.1 hE.2.1 dX4_readTable_46 (by decide) ?_
      refine lv_istore (lv' := [(4, .int (nI 0)), (0, .ref (G.ad 102)), (1, .ref (G.ad 101)), (2, .int (nI n)), (3, .ref (G.ad b))]) hE.1 hE.2.1 dX4_readTable_47 hl (by decide) rfl (fun ls hl => ?_)
      refine lv_iload hE.1 hE.2.1 dX4_readTable_49 (lv_at hl 0 rfl) ?_
      refine rn_if_eq (tgt := 58) hE dX4_readTable_51 (by decide) (by omega) (fun c51 => ?_) (fun c51 => ?_)
      · refine lv_aload_n hE.1 hE.2.1 dX4_readTable_58 rfl (lv_at hl 1 rfl) ?_
        refine rg_geti hE hH cf_X4 fl_X4_18 rfl (hX.1.1) (hX.1.2) (v := nI O.1) (hfd28 hO1) dX4_readTable_59 ?_
        exact rg_iret hE hr rfl hlk hH ⟨rfl, by rw [hRT], by rw [hRT]; exact hR, fun h => absurd (by rw [hRT] at h; exact h) hO1, hFr, hFj⟩ dX4_readTable_62
      · omega
    · rw [c31] at hbO
      have hO1 := of_decide_eq_true hbO
      rw [if_neg (by simp [hO1])] at hRT
      obtain ⟨hI, hV⟩ := hou28 hO1
      refine lv_aload_n hE.1 hE.2.1 dX4_readTable_34 rfl (lv_at hl 0 rfl) ?_
      refine lv_aload_n hE.1 hE.2.1 dX4_readTable_35 rfl (lv_at hl 3 rfl) ?_
      refine rg_VI (As := [.ref (G.ad b)]) (rest := []) hE hml hH mc_X4_41 (c_Pa_rows l z G hX iv28 jv28 B n O.2.2.2 hR b hL hb A.2.1 hI O.2.2.1 hV h30) (hX.1.1) (hX.1.2) (by decide) rfl ⟨Nat.le_of_ble_eq_true rfl, Nat.le_of_ble_eq_true rfl⟩ rfl hl.1 (by simp [Value.category]) dX4_readTable_36 ⟨Nat.le_of_ble_eq_true rfl, Nat.le_of_ble_eq_true rfl⟩ (fun r36 G36 iv36 jv36 H locs hp36 hH => ?_)
      obtain ⟨rfl, rfl, hR, hfd36, hro36, hF36, hJ36⟩ := hp36
      have hFr := hFr.tr (hF36.mono (fun lb j h => pB_T2 h))
      have hFj := hFj.tr (hJ36.mono (fun lb j h => qB_T2 h))
      generalize hbS : decide ((rdRows B n A.2.1 O.2.2.1 41 [] O.2.2.2).1 = 0) = bS
      generalize rdRows B n A.2.1 O.2.2.1 41 [] O.2.2.2 = S at hR hfd36 hro36 hRT hbS
      refine rn_ifb_eq (tgt := 46) hE dX4_readTable_39 (by decide) (fun c39 => ?_) (fun c39 => ?_)
      · rw [c39] at hbS
        have hS1 := of_decide_eq_false hbS
        refine lv_iconst (v := nI 0) hE.1 hE.2.1 dX4_readTable_46 (by decide) ?_
        refine lv_istore (lv' := [(4, .int (nI 0)), (0, .ref (G.ad 102)), (1, .ref (G.ad 101)), (2, .int (nI n)), (3, .ref (G.ad b))]) hE.1 hE.2.1 dX4_readTable_47 hl (by decide) rfl (fun ls hl => ?_)
        refine lv_iload hE.1 hE.2.1 dX4_readTable_49 (lv_at hl 0 rfl) ?_
        refine rn_if_eq (tgt := 58) hE dX4_readTable_51 (by decide) (by omega) (fun c51 => ?_) (fun c51 => ?_)
        · refine lv_aload_n hE.1 hE.2.1 dX4_readTable_58 rfl (lv_at hl 1 rfl) ?_
          refine rg_geti hE hH cf_X4 fl_X4_18 rfl (hX.1.1) (hX.1.2) (v := nI S.1) (hfd36 hS1) dX4_readTable_59 ?_
          exact rg_iret hE hr rfl hlk hH ⟨rfl, by rw [hRT], by rw [hRT]; exact hR, fun h => absurd (by rw [hRT] at h; exact h) hS1, hFr, hFj⟩ dX4_readTable_62
        · omega
      · rw [c39] at hbS
        have hS1 := of_decide_eq_true hbS
        refine lv_iconst (v := nI 1) hE.1 hE.2.1 dX4_readTable_42 (by decide) ?_
        refine lv_goto (tgt := 47) hE.1 hE.2.1 dX4_readTable_43 (by decide) ?_
        refine lv_istore (lv' := [(4, .int (nI 1)), (0, .ref (G.ad 102)), (1, .ref (G.ad 101)), (2, .int (nI n)), (3, .ref (G.ad b))]) hE.1 hE.2.1 dX4_readTable_47 hl (by decide) rfl (fun ls hl => ?_)
        refine lv_iload hE.1 hE.2.1 dX4_readTable_49 (lv_at hl 0 rfl) ?_
        refine rn_if_eq (tgt := 58) hE dX4_readTable_51 (by decide) (by omega) (fun c51 => ?_) (fun c51 => ?_)
        · omega
        · refine lv_iconst (v := nI 0) hE.1 hE.2.1 dX4_readTable_54 (by decide) ?_
          refine lv_goto (tgt := 62) hE.1 hE.2.1 dX4_readTable_55 (by decide) ?_
          exact rg_iret hE hr rfl hlk hH ⟨rfl, by rw [hRT]; exact congrArg nI hS1.symm, by rw [hRT]; exact hR, fun _ => by
            rw [hRT]
            have h := hro36 hS1
            refine ⟨h.1, h.2.1, ?_⟩
            have e : (fun i => (colsOf A.2.1 i).length) = tf (A.2.1, O.2.2.1, S.2.1) := funext fun i => cols_tf
            have h2 := h.2.2
            rw [e] at h2
            exact h2, hFr, hFj⟩ dX4_readTable_62
set_option maxRecDepth 100000 in
set_option maxHeartbeats 4000000 in
theorem c_Wh_clear (l : Launch) (z : ZK) (G : GW) (iv : IV) (jv : JV) (w : Nat) (hWh : isWh G w) (hw : 1000 ≤ w) : cV l z yX9_clear cX9_clear 1 none 0 0 0 0 [.ref (G.ad w)] G iv jv (fun G' iv' jv' => G = G' ∧ iv' (w + 1) 0 = nI 0 ∧ Fr iv iv' (fun lb j => (lb = w ∧ j = 1) ∨ (lb = w + 1 ∧ j = 0)) ∧ jv = jv') := by
  intro sz
  refine rg_entry rfl (Nat.le_of_ble_eq_true rfl) ?_
  intro pq eq sq mq bq methq cq ls hE hr hlk hml hnm hl hsz hH
  have hl : lv_has ls 1 [(0, .ref (G.ad w))] := hl
  refine lv_aload_n hE.1 hE.2.1 dX9_clear_0 rfl (lv_at hl 0 rfl) ?_
  refine rg_getr hE hH cf_X9 fl_X9_10 rfl (hWh.1.1) (hWh.1.2) (v := w + 1) (hWh.2.2) dX9_clear_1 ?_
  refine lv_iconst (v := nI 0) hE.1 hE.2.1 dX9_clear_4 (by decide) ?_
  refine rg_puti hE hH cf_X6 fl_X9_20 rfl fn_X6_0 (hWh.2.1.1.1) (hWh.2.1.1.2) (v := nI 0) dX9_clear_5 (fun H locs hH => ?_)
  refine lv_aload_n hE.1 hE.2.1 dX9_clear_8 rfl (lv_at hl 0 rfl) ?_
  refine lv_iconst (v := nI 0) hE.1 hE.2.1 dX9_clear_9 (by decide) ?_
  refine rg_puti hE hH cf_X9 fl_X9_16 rfl fn_X9_1 (hWh.1.1) (hWh.1.2) (v := nI 0) dX9_clear_10 (fun H locs hH => ?_)
  exact rg_vret hE hr hlk hH ⟨rfl, by rw [up2_l (by omega)]; exact up2_s, Fr.up (Fr.up Fr.rf (Or.inr ⟨rfl, rfl⟩)) (Or.inl ⟨rfl, rfl⟩), rfl⟩ dX9_clear_13
