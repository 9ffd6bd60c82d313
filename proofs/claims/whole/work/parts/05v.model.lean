set_option maxRecDepth 100000 in
set_option maxHeartbeats 4000000 in
theorem c_Pa_prog (l : Launch) (z : ZK) (G : GW) (hX : isPx G) (iv : IV) (jv : JV) (B : Nat → Nat) (n : Nat) (hTx : TXc iv B n) (b : Nat) (hL : isLa G b) (hb : 1000 ≤ b) (tab : Tab) (hLy : LAY iv jv b tab) (hTW : tabW tab) (w : Nat) (hWh : isWh G w) (hw : 1000 ≤ w) (hdis : w + 4 ≤ b ∨ b + 40 ≤ w) : cI l z yX4_readProgram cX4_readProgram 6 (some .int) 8 183 0 0 [.ref (G.ad 102), .ref (G.ad 101), .int (nI n), .ref (G.ad b), .ref (G.ad w)] G iv jv (fun r' G' iv' jv' => G = G' ∧ r' = nI (rdProg B n tab).1 ∧ LR iv' jv' B n (rdProg B n tab).2.2 ∧ ((rdProg B n tab).1 = 0 → WHc iv' w tab (rdProg B n tab).2.1) ∧ Fr iv iv' (pT3 w) ∧ FrJ jv jv' qT3) := by
  intro sz
  refine rg_entry rfl (Nat.le_of_ble_eq_true rfl) ?_
  intro pq eq sq mq bq methq cq ls hE hr hlk hml hnm hl hsz hH
  have hl : lv_has ls 6 [(0, .ref (G.ad 102)), (1, .ref (G.ad 101)), (2, .int (nI n)), (3, .ref (G.ad b)), (4, .ref (G.ad w))] := hl
  refine lv_aload hE.1 hE.2.1 dX4_readProgram_0 (lv_at hl 4 rfl) ?_
  refine rg_VV (As := []) (rest := []) hE hml hH mc_X4_44 (c_Wh_clear l z G iv jv w hWh hw) (hWh.1.1) (hWh.1.2) (by decide) rfl ⟨Nat.le_of_ble_eq_true rfl, Nat.le_of_ble_eq_true rfl⟩ rfl hl.1 (by simp [Value.category]) dX4_readProgram_2 ⟨Nat.le_of_ble_eq_true rfl, Nat.le_of_ble_eq_true rfl⟩ (fun G2 iv2 jv2 H locs hp2 hH => ?_)
  obtain ⟨rfl, h0, hF2, rfl⟩ := hp2
  refine lv_aload_n hE.1 hE.2.1 dX4_readProgram_5 rfl (lv_at hl 0 rfl) ?_
  refine lv_iconst (v := nI 0) hE.1 hE.2.1 dX4_readProgram_6 (by decide) ?_
  refine rg_puti hE hH cf_X4 fl_X4_18 rfl fn_X4_1 (hX.1.1) (hX.1.2) (v := nI 0) dX4_readProgram_7 (fun H locs hH => ?_)
  have hU : Fr iv2 (up2 iv2 102 1 (nI 0)) (fun lb j => lb = 102 ∧ j = 1) := Fr.up Fr.rf ⟨rfl, rfl⟩
  have hTx := (hTx.fr hF2 (fun k => by omega)).fr hU (fun k => by omega)
  have h0 := (hU _ 0 (by omega)).trans h0
  have hFr : Fr iv (up2 iv2 102 1 (nI 0)) (pT3 w) := (hF2.mono (fun lb j h => Or.inr (Or.inr (Or.inr (Or.inr (by omega)))))).tr (hU.mono (fun lb j h => Or.inl h))
  refine lv_aload_n hE.1 hE.2.1 dX4_readProgram_10 rfl (lv_at hl 0 rfl) ?_
  refine rg_getr hE hH cf_X4 fl_X4_12 rfl (hX.1.1) (hX.1.2) (v := 103) (hX.2.2.2.2.2.2.1) dX4_readProgram_11 ?_
  refine lv_aload_n hE.1 hE.2.1 dX4_readProgram_14 rfl (lv_at hl 1 rfl) ?_
  refine lv_iload_n hE.1 hE.2.1 dX4_readProgram_15 rfl (lv_at hl 2 rfl) ?_
  refine rg_VV (As := [.ref (G.ad 101), .int (nI n)]) (rest := []) hE hml hH mc_X4_30 (c_Lx_open l z G hX (up2 iv2 102 1 (nI 0)) jv B n hTx) (hX.2.1.1) (hX.2.1.2) (by decide) rfl ⟨Nat.le_of_ble_eq_true rfl, Nat.le_of_ble_eq_true rfl⟩ rfl hl.1 (by simp [Value.category]) dX4_readProgram_16 ⟨Nat.le_of_ble_eq_true rfl, Nat.le_of_ble_eq_true rfl⟩ (fun G16 iv16 jv16 H locs hp16 hH => ?_)
  obtain ⟨rfl, hR, hF16, hJ16⟩ := hp16
  have hR : LR iv16 jv16 B n (tokAt B n 0) := hR
  have hFr := hFr.tr (hF16.mono (P' := pT3 w) (fun lb j h => h.elim (fun h => Or.inr (Or.inl h)) (fun h => h.elim (fun h => Or.inr (Or.inr (Or.inl h))) (fun h => Or.inr (Or.inr (Or.inr (Or.inl h)))))))
  have hFj : FrJ jv jv16 qT3 := hJ16
  have h0 : iv16 (w + 1) 0 = nI 0 := (hF16 _ _ (by simp only [pL]; omega)).trans h0
  have hI : LI iv16 jv16 b tab.1 := hLy.1.fr hFr hFj (fun j => by simp only [pT3]; omega) (fun i hi => ⟨fun j => by have := hLy.1.2.2.1; simp only [pT3]; omega, fun j => by simp only [qT3]; omega, fun j => by simp only [qT3]; omega⟩)
  have hV : CV iv16 jv16 (b + 20) tab.2.1 := hLy.2.1.fr hFr hFj (by simp only [pT3]; omega) (fun v => by simp only [qT3]; omega)
  refine lv_aload_n hE.1 hE.2.1 dX4_readProgram_19 rfl (lv_at hl 0 rfl) ?_
  refine lv_aload_n hE.1 hE.2.1 dX4_readProgram_20 rfl (lv_at hl 3 rfl) ?_
  refine lv_aload hE.1 hE.2.1 dX4_readProgram_21 (lv_at hl 4 rfl) ?_
  refine rg_getr hE hH cf_X9 fl_X4_47 rfl (hWh.1.1) (hWh.1.2) (v := w + 1) (hWh.2.2) dX4_readProgram_23 ?_
  refine rg_VI (As := [.ref (G.ad b), .ref (G.ad (w + 1))]) (rest := []) hE hml hH mc_X4_51 (c_Pa_whens l z G hX iv16 jv16 B n (tokAt B n 0) hR b hL hb tab.1 hI hTW.1 tab.2.1 hV (w + 1) hWh.2.1 (by omega) (by omega) h0) (hX.1.1) (hX.1.2) (by decide) rfl ⟨Nat.le_of_ble_eq_true rfl, Nat.le_of_ble_eq_true rfl⟩ rfl hl.1 (by simp [Value.category]) dX4_readProgram_26 ⟨Nat.le_of_ble_eq_true rfl, Nat.le_of_ble_eq_true rfl⟩ (fun r26 G26 iv26 jv26 H locs hp26 hH => ?_)
  obtain ⟨rfl, rfl, hR, hfd26, hin26, hF26, hJ26⟩ := hp26
  have hFr := hFr.tr (hF26.mono (fun lb j h => pWh_3 (h.elim Or.inl (fun h => Or.inr (by omega)))))
  have hFj := hFj.tr (hJ26.mono (fun lb j h => Or.inr h))
  generalize hbA : decide ((rdWhens B n tab.1 tab.2.1 41 [] [] (tokAt B n 0)).1 = 0) = bA
  have hRT : rdProg B n tab = (if (rdWhens B n tab.1 tab.2.1 41 [] [] (tokAt B n 0)).1 ≠ 0 then ((rdWhens B n tab.1 tab.2.1 41 [] [] (tokAt B n 0)).1, ((rdWhens B n tab.1 tab.2.1 41 [] [] (tokAt B n 0)).2.1.1, (rdWhens B n tab.1 tab.2.1 41 [] [] (tokAt B n 0)).2.1.2, 0), (rdWhens B n tab.1 tab.2.1 41 [] [] (tokAt B n 0)).2.2) else if (nd B n (rdV B n tab.2.1 0 (nx B n (rdWhens B n tab.1 tab.2.1 41 [] [] (tokAt B n 0)).2.2)).1 (rdV B n tab.2.1 0 (nx B n (rdWhens B n tab.1 tab.2.1 41 [] [] (tokAt B n 0)).2.2)).2.2 59).1 ≠ 0 then ((nd B n (rdV B n tab.2.1 0 (nx B n (rdWhens B n tab.1 tab.2.1 41 [] [] (tokAt B n 0)).2.2)).1 (rdV B n tab.2.1 0 (nx B n (rdWhens B n tab.1 tab.2.1 41 [] [] (tokAt B n 0)).2.2)).2.2 59).1, ((rdWhens B n tab.1 tab.2.1 41 [] [] (tokAt B n 0)).2.1.1, (rdWhens B n tab.1 tab.2.1 41 [] [] (tokAt B n 0)).2.1.2, 0), (nd B n (rdV B n tab.2.1 0 (nx B n (rdWhens B n tab.1 tab.2.1 41 [] [] (tokAt B n 0)).2.2)).1 (rdV B n tab.2.1 0 (nx B n (rdWhens B n tab.1 tab.2.1 41 [] [] (tokAt B n 0)).2.2)).2.2 59).2) else if tk (nd B n (rdV B n tab.2.1 0 (nx B n (rdWhens B n tab.1 tab.2.1 41 [] [] (tokAt B n 0)).2.2)).1 (rdV B n tab.2.1 0 (nx B n (rdWhens B n tab.1 tab.2.1 41 [] [] (tokAt B n 0)).2.2)).2.2 59).2 ≠ 0 then (1, ((rdWhens B n tab.1 tab.2.1 41 [] [] (tokAt B n 0)).2.1.1, (rdWhens B n tab.1 tab.2.1 41 [] [] (tokAt B n 0)).2.1.2, 0), (nd B n (rdV B n tab.2.1 0 (nx B n (rdWhens B n tab.1 tab.2.1 41 [] [] (tokAt B n 0)).2.2)).1 (rdV B n tab.2.1 0 (nx B n (rdWhens B n tab.1 tab.2.1 41 [] [] (tokAt B n 0)).2.2)).2.2 59).2) else (0, ((rdWhens B n tab.1 tab.2.1 41 [] [] (tokAt B n 0)).2.1.1, (rdWhens B n tab.1 tab.2.1 41 [] [] (tokAt B n 0)).2.1.2, (rdV B n tab.2.1 0 (nx B n (rdWhens B n tab.1 tab.2.1 41 [] [] (tokAt B n 0)).2.2)).2.1), (nd B n (rdV B n tab.2.1 0 (nx B n (rdWhens B n tab.1 tab.2.1 41 [] [] (tokAt B n 0)).2.2)).1 (rdV B n tab.2.1 0 (nx B n (rdWhens B n tab.1 tab.2.1 41 [] [] (tokAt B n 0)).2.2)).2.2 59).2)) := rfl
  generalize rdWhens B n tab.1 tab.2.1 41 [] [] (tokAt B n 0) = A at hR hfd26 hin26 hRT hbA
  refine rn_ifb_eq (tgt := 46) hE dX4_readProgram_29 (by decide) (fun c29 => ?_) (fun c29 => ?_)
  · rw [c29] at hbA
    have hA1 := of_decide_eq_false hbA
    rw [if_pos hA1] at hRT
    refine lv_iconst (v := nI 0) hE.1 hE.2.1 dX4_readProgram_46 (by decide) ?_
    refine lv_istore (lv' := [(5, .int (nI 0)), (0, .ref (G.ad 102)), (1, .ref (G.ad 101)), (2, .int (nI n)), (3, .ref (G.ad b)), (4, .ref (G.ad w))]) hE.1 hE.2.1 dX4_readProgram_47 hl (by decide) rfl (fun ls hl => ?_)
    refine lv_iload hE.1 hE.2.1 dX4_readProgram_49 (lv_at hl 0 rfl) ?_
    refine rn_if_eq (tgt := 58) hE dX4_readProgram_51 (by decide) (by omega) (fun c51 => ?_) (fun c51 => ?_)
    · refine lv_aload_n hE.1 hE.2.1 dX4_readProgram_58 rfl (lv_at hl 1 rfl) ?_
      refine rg_geti hE hH cf_X4 fl_X4_18 rfl (hX.1.1) (hX.1.2) (v := nI A.1) (hfd26 hA1) dX4_readProgram_59 ?_
      exact rg_iret hE hr rfl hlk hH ⟨rfl, by rw [hRT], by rw [hRT]; exact hR, fun h => absurd (by rw [hRT] at h; exact h) hA1, hFr, hFj⟩ dX4_readProgram_62
    · omega
  · rw [c29] at hbA
    have hA1 := of_decide_eq_true hbA
    rw [if_neg (by simp [hA1])] at hRT
    obtain ⟨hI, hV, hRw, hk7⟩ := hin26 hA1
    obtain ⟨F, hFE⟩ : ∃ F, F = (if (nd B n (rdV B n tab.2.1 0 (nx B n A.2.2)).1 (rdV B n tab.2.1 0 (nx B n A.2.2)).2.2 59).1 ≠ 0 then ((nd B n (rdV B n tab.2.1 0 (nx B n A.2.2)).1 (rdV B n tab.2.1 0 (nx B n A.2.2)).2.2 59).1, 0, (nd B n (rdV B n tab.2.1 0 (nx B n A.2.2)).1 (rdV B n tab.2.1 0 (nx B n A.2.2)).2.2 59).2) else if tk (nd B n (rdV B n tab.2.1 0 (nx B n A.2.2)).1 (rdV B n tab.2.1 0 (nx B n A.2.2)).2.2 59).2 ≠ 0 then (1, 0, (nd B n (rdV B n tab.2.1 0 (nx B n A.2.2)).1 (rdV B n tab.2.1 0 (nx B n A.2.2)).2.2 59).2) else (0, (rdV B n tab.2.1 0 (nx B n A.2.2)).2.1, (nd B n (rdV B n tab.2.1 0 (nx B n A.2.2)).1 (rdV B n tab.2.1 0 (nx B n A.2.2)).2.2 59).2)) := ⟨_, rfl⟩
    have hRT2 : (rdProg B n tab).1 = F.1 ∧ (rdProg B n tab).2.2 = F.2.2 ∧ (F.1 = 0 → (rdProg B n tab).2.1 = (A.2.1.1, A.2.1.2, F.2.1)) := by
      rw [hRT, hFE]
      by_cases g1 : (nd B n (rdV B n tab.2.1 0 (nx B n A.2.2)).1 (rdV B n tab.2.1 0 (nx B n A.2.2)).2.2 59).1 ≠ 0
      · rw [if_pos g1, if_pos g1]; exact ⟨rfl, rfl, fun h => absurd h g1⟩
      · rw [if_neg g1, if_neg g1]
        by_cases g2 : tk (nd B n (rdV B n tab.2.1 0 (nx B n A.2.2)).1 (rdV B n tab.2.1 0 (nx B n A.2.2)).2.2 59).2 ≠ 0
        · rw [if_pos g2, if_pos g2]; exact ⟨rfl, rfl, fun h => absurd h (by simp)⟩
        · rw [if_neg g2, if_neg g2]; exact ⟨rfl, rfl, fun _ => rfl⟩
    refine lv_aload_n hE.1 hE.2.1 dX4_readProgram_32 rfl (lv_at hl 0 rfl) ?_
    refine lv_aload_n hE.1 hE.2.1 dX4_readProgram_33 rfl (lv_at hl 3 rfl) ?_
    refine lv_aload hE.1 hE.2.1 dX4_readProgram_34 (lv_at hl 4 rfl) ?_
    refine rg_VI (As := [.ref (G.ad b), .ref (G.ad w)]) (rest := []) hE hml hH mc_X4_55 (c_Pa_else l z G hX iv26 jv26 B n A.2.2 hR b hL hb tab.2.1 hV hk7 w hWh hw F hFE) (hX.1.1) (hX.1.2) (by decide) rfl ⟨Nat.le_of_ble_eq_true rfl, Nat.le_of_ble_eq_true rfl⟩ rfl hl.1 (by simp [Value.category]) dX4_readProgram_36 ⟨Nat.le_of_ble_eq_true rfl, Nat.le_of_ble_eq_true rfl⟩ (fun r36 G36 iv36 jv36 H locs hp36 hH => ?_)
    obtain ⟨rfl, rfl, hR, hfd36, hel36, hF36, hJ36⟩ := hp36
    have hFr := hFr.tr (hF36.mono (fun lb j h => pWh_3 (h.elim Or.inl (fun h => Or.inr (by omega)))))
    have hFj := hFj.tr (hJ36.mono (fun lb j h => Or.inr h))
    refine rn_ifb_eq (tgt := 46) hE dX4_readProgram_39 (by decide) (fun c39 => ?_) (fun c39 => ?_)
    · refine lv_iconst (v := nI 0) hE.1 hE.2.1 dX4_readProgram_46 (by decide) ?_
      refine lv_istore (lv' := [(5, .int (nI 0)), (0, .ref (G.ad 102)), (1, .ref (G.ad 101)), (2, .int (nI n)), (3, .ref (G.ad b)), (4, .ref (G.ad w))]) hE.1 hE.2.1 dX4_readProgram_47 hl (by decide) rfl (fun ls hl => ?_)
      refine lv_iload hE.1 hE.2.1 dX4_readProgram_49 (lv_at hl 0 rfl) ?_
      refine rn_if_eq (tgt := 58) hE dX4_readProgram_51 (by decide) (by omega) (fun c51 => ?_) (fun c51 => ?_)
      · refine lv_aload_n hE.1 hE.2.1 dX4_readProgram_58 rfl (lv_at hl 1 rfl) ?_
        refine rg_geti hE hH cf_X4 fl_X4_18 rfl (hX.1.1) (hX.1.2) (v := nI F.1) (hfd36 (of_decide_eq_false c39)) dX4_readProgram_59 ?_
        exact rg_iret hE hr rfl hlk hH ⟨rfl, by rw [hRT2.1], by rw [hRT2.2.1]; exact hR, fun h => absurd (by rw [hRT2.1] at h; exact h) (of_decide_eq_false c39), hFr, hFj⟩ dX4_readProgram_62
      · omega
    · refine lv_iconst (v := nI 1) hE.1 hE.2.1 dX4_readProgram_42 (by decide) ?_
      refine lv_goto (tgt := 47) hE.1 hE.2.1 dX4_readProgram_43 (by decide) ?_
      refine lv_istore (lv' := [(5, .int (nI 1)), (0, .ref (G.ad 102)), (1, .ref (G.ad 101)), (2, .int (nI n)), (3, .ref (G.ad b)), (4, .ref (G.ad w))]) hE.1 hE.2.1 dX4_readProgram_47 hl (by decide) rfl (fun ls hl => ?_)
      refine lv_iload hE.1 hE.2.1 dX4_readProgram_49 (lv_at hl 0 rfl) ?_
      refine rn_if_eq (tgt := 58) hE dX4_readProgram_51 (by decide) (by omega) (fun c51 => ?_) (fun c51 => ?_)
      · omega
      · refine lv_iconst (v := nI 0) hE.1 hE.2.1 dX4_readProgram_54 (by decide) ?_
        refine lv_goto (tgt := 62) hE.1 hE.2.1 dX4_readProgram_55 (by decide) ?_
        exact rg_iret hE hr rfl hlk hH ⟨rfl, by rw [hRT2.1]; exact congrArg nI (of_decide_eq_true c39).symm, by rw [hRT2.2.1]; exact hR, fun _ => by
          rw [hRT2.2.2 (of_decide_eq_true c39)]
          have e : (fun i => (colsOf tab.1 i).length) = tf tab := funext fun i => cols_tf (outs := tab.2.1) (rows := tab.2.2)
          rw [e] at hRw
          exact ⟨hRw.fr hI.2.2.1 hF36 (by simp only [pZ]; omega) (fun j hj => by simp only [pZ]; omega) (fun j hj => by simp only [pZ]; omega), hel36 (of_decide_eq_true c39)⟩, hFr, hFj⟩ dX4_readProgram_62
