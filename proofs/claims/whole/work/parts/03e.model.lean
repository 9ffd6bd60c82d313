set_option maxRecDepth 100000 in
set_option maxHeartbeats 4000000 in
theorem c_isSame (l : Launch) (z : ZK) (G : GW) (hG : isM G) (iv : IV) (jv : JV) (B : Nat → Nat) (n bad : Nat) (t : Tok) (hM : MP iv B n bad t) (w : Nat) (hw : w < 252) (ws : Wd) (hS : SW iv w ws) : cI l z yX11_isSame cX11_isSame 4 (some .boolean) 0 0 0 0 [.ref (G.ad 0), .int (nI w)] G iv jv (fun r G' iv' jv' => G = G' ∧ iv = iv' ∧ jv = jv' ∧ r = bI (decide (wd B t = ws))) := by
  intro sz
  refine rg_entry rfl (Nat.le_of_ble_eq_true rfl) ?_
  intro pq eq sq mq bq methq cq ls hE hr hlk hml hnm hl hsz hH
  have hl : lv_has ls 4 [(0, .ref (G.ad 0)), (1, .int (nI w))] := hl
  obtain ⟨hbn, hbe, hen, hk3, hs256, hb4⟩ := hM.b
  have hl8 := hS.2.1
  refine lv_aload_n hE.1 hE.2.1 dX11_isSame_0 rfl (lv_at hl 0 rfl) ?_
  refine rm_getr hE hH hG fl_X11_29 rfl (by decide) dX11_isSame_1 ?_
  refine lv_iload_n hE.1 hE.2.1 dX11_isSame_4 rfl (lv_at hl 1 rfl) ?_
  refine rm_iald hE hH hG (k := 11) (by decide) rfl (N := 252) rfl (n := w) (by omega) (v := nI ws.length) (hS.1) dX11_isSame_5 ?_
  refine lv_aload_n hE.1 hE.2.1 dX11_isSame_6 rfl (lv_at hl 0 rfl) ?_
  refine rm_geti hE hH hG fl_X11_128 rfl (v := nI (te t)) (hM.2.1.2.2.2.2) dX11_isSame_7 ?_
  refine lv_aload_n hE.1 hE.2.1 dX11_isSame_10 rfl (lv_at hl 0 rfl) ?_
  refine rm_geti hE hH hG fl_X11_115 rfl (v := nI (tb t)) (hM.2.1.2.2.2.1) dX11_isSame_11 ?_
  refine rn_isub hE dX11_isSame_14 (by omega) ?_
  refine rb_icmp_ne (t1 := 22) (t2 := 23) hE dX11_isSame_15 (by decide) dX11_isSame_18 dX11_isSame_19 (by decide) dX11_isSame_22 rfl (by omega) (by omega) ?_
  refine lv_istore_n (lv' := [(2, .int (bI (decide (ws.length = (te t) - (tb t))))), (0, .ref (G.ad 0)), (1, .int (nI w))]) hE.1 hE.2.1 dX11_isSame_23 rfl hl (by decide) rfl (fun ls hl => ?_)
  refine lv_iconst (v := nI 0) hE.1 hE.2.1 dX11_isSame_24 (by decide) ?_
  refine lv_istore_n (lv' := [(3, .int (nI 0)), (2, .int (bI (decide (ws.length = (te t) - (tb t))))), (0, .ref (G.ad 0)), (1, .int (nI w))]) hE.1 hE.2.1 dX11_isSame_25 rfl hl (by decide) rfl (fun ls hl => ?_)
  refine rg_loop (σ := Bool × Nat) (nL := 4) (fun (u : Bool × Nat) => match u with | (b, k) => ws.length - k) (fun (u : Bool × Nat) => match u with | (b, k) => [(0, .ref (G.ad 0)), (1, .int (nI w)), (2, .int (bI b)), (3, .int (nI k))]) (fun (u : Bool × Nat) => match u with | (b, k) => G) (fun (u : Bool × Nat) => match u with | (b, k) => iv) (fun (u : Bool × Nat) => match u with | (b, k) => jv) (fun (u : Bool × Nat) => match u with | (b, k) => k ≤ ws.length ∧ b = decide (ws.length = te t - tb t ∧ ∀ j, j < k → B (tb t + j) = ws.getD j 0)) ?_ ((_, 0)) ⟨Nat.zero_le _, by simp⟩ (lv_sub hl [2, 3, 1, 0] rfl) hH
  rintro ⟨b, k⟩ H locs ls ⟨hki, hb⟩ hl hH ih26
  try dsimp only at hl hH ih26
  refine lv_iload_n hE.1 hE.2.1 dX11_isSame_26 rfl (lv_at hl 2 rfl) ?_
  refine rn_ifb_eq (tgt := 77) hE dX11_isSame_27 (by decide) (fun c27 => ?_) (fun c27 => ?_)
  · try dsimp only at hb
    rw [c27] at hb
    have hres : decide (wd B t = ws) = false := by
      rw [decide_eq_false_iff_not, wd_eq]
      exact fun h => (of_decide_eq_false hb.symm) ⟨h.1.symm, fun j hj => h.2 j (by omega)⟩
    refine lv_iload_n hE.1 hE.2.1 dX11_isSame_77 rfl (lv_at hl 2 rfl) ?_
    exact rg_iret hE hr nz_bI hlk hH ⟨rfl, rfl, rfl, by rw [hres, c27]⟩ dX11_isSame_78
  · try dsimp only at hb
    rw [c27] at hb
    obtain ⟨hb3, hb5⟩ := of_decide_eq_true hb.symm
    refine lv_iload_n hE.1 hE.2.1 dX11_isSame_30 rfl (lv_at hl 3 rfl) ?_
    refine lv_aload_n hE.1 hE.2.1 dX11_isSame_31 rfl (lv_at hl 0 rfl) ?_
    refine rm_getr hE hH hG fl_X11_29 rfl (by decide) dX11_isSame_32 ?_
    refine lv_iload_n hE.1 hE.2.1 dX11_isSame_35 rfl (lv_at hl 1 rfl) ?_
    refine rm_iald hE hH hG (k := 11) (by decide) rfl (N := 252) rfl (n := w) (by omega) (v := nI ws.length) (hS.1) dX11_isSame_36 ?_
    refine rn_icmp_ge (tgt := 77) hE dX11_isSame_37 (by decide) (by omega) (by omega) (fun c37 => ?_) (fun c37 => ?_)
    · have hres : decide (wd B t = ws) = true := by
        rw [decide_eq_true_eq, wd_eq]
        exact ⟨hb3.symm, fun j hj => hb5 j (by omega)⟩
      refine lv_iload_n hE.1 hE.2.1 dX11_isSame_77 rfl (lv_at hl 2 rfl) ?_
      exact rg_iret hE hr nz_bI hlk hH ⟨rfl, rfl, rfl, by rw [hres, c27]⟩ dX11_isSame_78
    · refine lv_aload_n hE.1 hE.2.1 dX11_isSame_40 rfl (lv_at hl 0 rfl) ?_
      refine rm_getr hE hH hG fl_X11_32 rfl (by decide) dX11_isSame_41 ?_
      refine lv_bipush (v := nI 8) hE.1 hE.2.1 dX11_isSame_44 (by decide) ?_
      refine lv_iload_n hE.1 hE.2.1 dX11_isSame_46 rfl (lv_at hl 1 rfl) ?_
      refine rn_imul hE dX11_isSame_47 ?_
      refine lv_iload_n hE.1 hE.2.1 dX11_isSame_48 rfl (lv_at hl 3 rfl) ?_
      refine rn_iadd hE dX11_isSame_49 ?_
      refine rm_iald hE hH hG (k := 12) (by decide) rfl (N := 2016) rfl (n := 8 * w + k) (by omega) (v := nI (ws.getD k 0)) (hS.2.2.1 k (by omega)) dX11_isSame_50 ?_
      refine lv_aload_n hE.1 hE.2.1 dX11_isSame_51 rfl (lv_at hl 0 rfl) ?_
      refine rm_getr hE hH hG fl_X11_9 rfl (by decide) dX11_isSame_52 ?_
      refine lv_aload_n hE.1 hE.2.1 dX11_isSame_55 rfl (lv_at hl 0 rfl) ?_
      refine rm_geti hE hH hG fl_X11_115 rfl (v := nI (tb t)) (hM.2.1.2.2.2.1) dX11_isSame_56 ?_
      refine lv_iload_n hE.1 hE.2.1 dX11_isSame_59 rfl (lv_at hl 3 rfl) ?_
      refine rn_iadd hE dX11_isSame_60 ?_
      refine rm_iald hE hH hG (k := 1) (by decide) rfl (N := 1000) rfl (n := tb t + k) (by omega) (v := nI (B (tb t + k))) (hM.1.2.2.1 _ (by omega)) dX11_isSame_61 ?_
      refine rb_icmp_ne (t1 := 69) (t2 := 70) hE dX11_isSame_62 (by decide) dX11_isSame_65 dX11_isSame_66 (by decide) dX11_isSame_69 rfl (by have := hS.2.2.2 k (by omega); omega) (by have := hM.1.2.2.2 (tb t + k) (by omega); omega) ?_
      refine lv_istore_n (lv' := [(2, .int (bI (decide (ws.getD k 0 = B (tb t + k))))), (0, .ref (G.ad 0)), (1, .int (nI w)), (3, .int (nI k))]) hE.1 hE.2.1 dX11_isSame_70 rfl hl (by decide) rfl (fun ls hl => ?_)
      refine lv_iinc (v := nI (k + 1)) (lv' := [(3, .int (nI (k + 1))), (2, .int (bI (decide (ws.getD k 0 = B (tb t + k))))), (0, .ref (G.ad 0)), (1, .int (nI w))]) hE.1 hE.2.1 dX11_isSame_71 hl (k := 3) rfl (nI_1 _) (by decide) rfl (fun ls hl => ?_)
      refine lv_goto (tgt := 26) hE.1 hE.2.1 dX11_isSame_74 (by decide) ?_
      exact ih26 (decide (ws.getD k 0 = B (tb t + k)), k + 1) _ _ _ (show ws.length - (k + 1) < ws.length - k by omega) ⟨by show k + 1 ≤ ws.length; omega, by
        dsimp only
        rw [decide_eq_decide]
        refine ⟨fun h => ⟨hb3, fun j hj => ?_⟩, fun h => (h.2 k (Nat.lt_succ_self k)).symm⟩
        by_cases hjk : j = k
        · rw [hjk]; exact h.symm
        · exact hb5 j (by omega)⟩ (lv_sub hl [2, 3, 1, 0] rfl) hH
set_option maxRecDepth 100000 in
set_option maxHeartbeats 4000000 in
theorem c_keepWord (l : Launch) (z : ZK) (G : GW) (hG : isM G) (iv : IV) (jv : JV) (B : Nat → Nat) (n : Nat) (t : Tok) (hM : MP iv B n 0 t) (h8 : te t - tb t ≤ 8) (w : Nat) (hw : w < 252) : cV l z yX11_keepWord cX11_keepWord 3 none 2 42 0 0 [.ref (G.ad 0), .int (nI w)] G iv jv (fun G' iv' jv' => G = G' ∧ jv = jv' ∧ MP iv' B n 0 (nx B n t) ∧ SW iv' w (wd B t) ∧ Fr iv iv' (pK w)) := by
  intro sz
  refine rg_entry rfl (Nat.le_of_ble_eq_true rfl) ?_
  intro pq eq sq mq bq methq cq ls hE hr hlk hml hnm hl hsz hH
  have hl : lv_has ls 3 [(0, .ref (G.ad 0)), (1, .int (nI w))] := hl
  obtain ⟨hbn, hbe, hen, hk3, hs256, hb4⟩ := hM.b
  have hB := hM.1.2.2.2
  refine lv_aload_n hE.1 hE.2.1 dX11_keepWord_0 rfl (lv_at hl 0 rfl) ?_
  refine rm_getr hE hH hG fl_X11_29 rfl (by decide) dX11_keepWord_1 ?_
  refine lv_iload_n hE.1 hE.2.1 dX11_keepWord_4 rfl (lv_at hl 1 rfl) ?_
  refine lv_aload_n hE.1 hE.2.1 dX11_keepWord_5 rfl (lv_at hl 0 rfl) ?_
  refine rm_geti hE hH hG fl_X11_128 rfl (v := nI (te t)) (hM.2.1.2.2.2.2) dX11_keepWord_6 ?_
  refine lv_aload_n hE.1 hE.2.1 dX11_keepWord_9 rfl (lv_at hl 0 rfl) ?_
  refine rm_geti hE hH hG fl_X11_115 rfl (v := nI (tb t)) (hM.2.1.2.2.2.1) dX11_keepWord_10 ?_
  refine rn_isub hE dX11_keepWord_13 (by omega) ?_
  refine rm_iast hE hH hG (k := 11) (by decide) rfl (N := 252) rfl (n := w) (by omega) (v := nI ((te t) - (tb t))) dX11_keepWord_14 (fun H locs hH => ?_)
  have hM := hM.up 11 w (nI (te t - tb t)) (by decide) (by decide)
  refine lv_iconst (v := nI 0) hE.1 hE.2.1 dX11_keepWord_15 (by decide) ?_
  refine lv_istore_n (lv' := [(2, .int (nI 0)), (0, .ref (G.ad 0)), (1, .int (nI w))]) hE.1 hE.2.1 dX11_keepWord_16 rfl hl (by decide) rfl (fun ls hl => ?_)
  refine rg_loop (σ := IV × Nat) (nL := 3) (fun (u : IV × Nat) => match u with | (iv1, k) => te t - tb t - k) (fun (u : IV × Nat) => match u with | (iv1, k) => [(0, .ref (G.ad 0)), (1, .int (nI w)), (2, .int (nI k))]) (fun (u : IV × Nat) => match u with | (iv1, k) => G) (fun (u : IV × Nat) => match u with | (iv1, k) => iv1) (fun (u : IV × Nat) => match u with | (iv1, k) => jv) (fun (u : IV × Nat) => match u with | (iv1, k) => k ≤ te t - tb t ∧ iv1 11 w = nI (te t - tb t) ∧ (∀ j, j < k → iv1 12 (8 * w + j) = nI (B (tb t + j))) ∧ Fr iv iv1 (pK w) ∧ MP iv1 B n 0 t) ?_ ((up2 iv 11 w (nI ((te t) - (tb t))), 0)) ⟨Nat.zero_le _, by simp [up2], fun j hj => absurd hj (Nat.not_lt_zero j), Fr.up Fr.rf (Or.inr (Or.inl ⟨rfl, rfl⟩)), hM⟩ (lv_sub hl [1, 2, 0] rfl) hH
  rintro ⟨iv1, k⟩ H locs ls ⟨hk, h11, h12, hFr, hM⟩ hl hH ih17
  try dsimp only at hl hH ih17
  try dsimp only at hk h11 h12 hFr hM
  refine lv_iload_n hE.1 hE.2.1 dX11_keepWord_17 rfl (lv_at hl 2 rfl) ?_
  refine lv_aload_n hE.1 hE.2.1 dX11_keepWord_18 rfl (lv_at hl 0 rfl) ?_
  refine rm_getr hE hH hG fl_X11_29 rfl (by decide) dX11_keepWord_19 ?_
  refine lv_iload_n hE.1 hE.2.1 dX11_keepWord_22 rfl (lv_at hl 1 rfl) ?_
  refine rm_iald hE hH hG (k := 11) (by decide) rfl (N := 252) rfl (n := w) (by omega) (v := nI (te t - tb t)) (h11) dX11_keepWord_23 ?_
  refine rn_icmp_ge (tgt := 55) hE dX11_keepWord_24 (by decide) (by omega) (by omega) (fun c24 => ?_) (fun c24 => ?_)
  · refine lv_aload_n hE.1 hE.2.1 dX11_keepWord_55 rfl (lv_at hl 0 rfl) ?_
    refine rg_VV (As := []) (rest := []) hE hml hH mc_X11_172 (c_step l z G hG iv1 jv B n (te t) hM.1 (TV_b hM.2.2.1).2.1 hM.2.1.1) hG.1.1 hG.1.2 (by decide) rfl ⟨Nat.le_of_ble_eq_true rfl, Nat.le_of_ble_eq_true rfl⟩ rfl hl.1 (by simp [Value.category]) dX11_keepWord_56 ⟨Nat.le_of_ble_eq_true rfl, Nat.le_of_ble_eq_true rfl⟩ (fun G56 iv56 jv56 H locs hp56 hH => ?_)
    obtain ⟨rfl, rfl, hTR56, hF56⟩ := hp56
    have hM := MP.step hM hTR56 hF56
    have hFr := hFr.tr ((pS_pQ hF56).mono (fun _ _ h => Or.inl h))
    exact rg_vret hE hr hlk hH ⟨rfl, rfl, hM, ⟨by rw [wd_len]; exact (hF56 11 w (by simp)).trans h11, by rw [wd_len]; exact h8, fun j hj => by rw [wd_len] at hj; rw [wd_get hj]; exact (hF56 12 _ (by simp)).trans (h12 j (by omega)), fun j hj => by rw [wd_len] at hj; rw [wd_get hj]; exact hB _ (by omega)⟩, hFr⟩ dX11_keepWord_59
  · refine lv_aload_n hE.1 hE.2.1 dX11_keepWord_27 rfl (lv_at hl 0 rfl) ?_
    refine rm_getr hE hH hG fl_X11_32 rfl (by decide) dX11_keepWord_28 ?_
    refine lv_bipush (v := nI 8) hE.1 hE.2.1 dX11_keepWord_31 (by decide) ?_
    refine lv_iload_n hE.1 hE.2.1 dX11_keepWord_33 rfl (lv_at hl 1 rfl) ?_
    refine rn_imul hE dX11_keepWord_34 ?_
    refine lv_iload_n hE.1 hE.2.1 dX11_keepWord_35 rfl (lv_at hl 2 rfl) ?_
    refine rn_iadd hE dX11_keepWord_36 ?_
    refine lv_aload_n hE.1 hE.2.1 dX11_keepWord_37 rfl (lv_at hl 0 rfl) ?_
    refine rm_getr hE hH hG fl_X11_9 rfl (by decide) dX11_keepWord_38 ?_
    refine lv_aload_n hE.1 hE.2.1 dX11_keepWord_41 rfl (lv_at hl 0 rfl) ?_
    refine rm_geti hE hH hG fl_X11_115 rfl (v := nI (tb t)) (hM.2.1.2.2.2.1) dX11_keepWord_42 ?_
    refine lv_iload_n hE.1 hE.2.1 dX11_keepWord_45 rfl (lv_at hl 2 rfl) ?_
    refine rn_iadd hE dX11_keepWord_46 ?_
    refine rm_iald hE hH hG (k := 1) (by decide) rfl (N := 1000) rfl (n := tb t + k) (by omega) (v := nI (B (tb t + k))) (hM.1.2.2.1 _ (by omega)) dX11_keepWord_47 ?_
    refine rm_iast hE hH hG (k := 12) (by decide) rfl (N := 2016) rfl (n := 8 * w + k) (by omega) (v := nI (B (tb t + k))) dX11_keepWord_48 (fun H locs hH => ?_)
    refine lv_iinc (v := nI (k + 1)) (lv' := [(2, .int (nI (k + 1))), (0, .ref (G.ad 0)), (1, .int (nI w))]) hE.1 hE.2.1 dX11_keepWord_49 hl (k := 2) rfl (nI_1 _) (by decide) rfl (fun ls hl => ?_)
    refine lv_goto (tgt := 17) hE.1 hE.2.1 dX11_keepWord_52 (by decide) ?_
    exact ih17 (up2 iv1 12 (8 * w + k) (nI (B (tb t + k))), k + 1) _ _ _ (show te t - tb t - (k + 1) < te t - tb t - k by omega) ⟨by show k + 1 ≤ te t - tb t; omega, h11, fun j hj => by
      by_cases hjk : j = k
      · subst hjk; dsimp only; exact up2_s
      · dsimp only; rw [up2_k (by omega)]; exact h12 j (by dsimp only at hj; omega), Fr.up hFr (Or.inr (Or.inr ⟨rfl, by omega, by omega⟩)), hM.up 12 _ _ (by decide) (by decide)⟩ (lv_sub hl [1, 2, 0] rfl) hH
set_option maxRecDepth 100000 in
set_option maxHeartbeats 4000000 in
theorem c_valueNow (l : Launch) (z : ZK) (G : GW) (hG : isM G) (iv : IV) (jv : JV) (B : Nat → Nat) (n bad : Nat) (t : Tok) (hM : MP iv B n bad t) (T i : Nat) (hT : T < 6) (hi : i ≤ 5) (vs : List Wd) (hV : VS iv T i vs) : cI l z yX11_valueNow cX11_valueNow 4 (some .int) 1 23 0 0 [.ref (G.ad 0), .int (nI T), .int (nI i)] G iv jv (fun r G' iv' jv' => G = G' ∧ iv = iv' ∧ jv = jv' ∧ r = oI (ixW vs (wd B t))) := by
  intro sz
  refine rg_entry rfl (Nat.le_of_ble_eq_true rfl) ?_
  intro pq eq sq mq bq methq cq ls hE hr hlk hml hnm hl hsz hH
  have hl : lv_has ls 4 [(0, .ref (G.ad 0)), (1, .int (nI T)), (2, .int (nI i))] := hl
  obtain ⟨hbn, hbe, hen, hk3, hs256, hb4⟩ := hM.b
  have h6 := hV.2.1
  refine lv_iconst (v := nI 0) hE.1 hE.2.1 dX11_valueNow_0 (by decide) ?_
  refine lv_istore_n (lv' := [(3, .int (nI 0)), (0, .ref (G.ad 0)), (1, .int (nI T)), (2, .int (nI i))]) hE.1 hE.2.1 dX11_valueNow_1 rfl hl (by decide) rfl (fun ls hl => ?_)
  refine rg_loop (σ := Nat) (nL := 4) (fun (k : Nat) => vs.length - k) (fun (k : Nat) => [(0, .ref (G.ad 0)), (1, .int (nI T)), (2, .int (nI i)), (3, .int (nI k))]) (fun (k : Nat) => G) (fun (k : Nat) => iv) (fun (k : Nat) => jv) (fun (k : Nat) => k ≤ vs.length ∧ ∀ u, u < k → vs.getD u [] ≠ wd B t) ?_ (0) ⟨Nat.zero_le _, fun u hu => absurd hu (Nat.not_lt_zero u)⟩ (lv_sub hl [1, 2, 3, 0] rfl) hH
  rintro k H locs ls ⟨hk, hne⟩ hl hH ih2
  try dsimp only at hl hH ih2
  refine lv_iload_n hE.1 hE.2.1 dX11_valueNow_2 rfl (lv_at hl 3 rfl) ?_
  refine lv_aload_n hE.1 hE.2.1 dX11_valueNow_3 rfl (lv_at hl 0 rfl) ?_
  refine rm_getr hE hH hG fl_X11_26 rfl (by decide) dX11_valueNow_4 ?_
  refine lv_bipush (v := nI 6) hE.1 hE.2.1 dX11_valueNow_7 (by decide) ?_
  refine lv_iload_n hE.1 hE.2.1 dX11_valueNow_9 rfl (lv_at hl 1 rfl) ?_
  refine rn_imul hE dX11_valueNow_10 ?_
  refine lv_iload_n hE.1 hE.2.1 dX11_valueNow_11 rfl (lv_at hl 2 rfl) ?_
  refine rn_iadd hE dX11_valueNow_12 ?_
  refine rm_iald hE hH hG (k := 10) (by decide) rfl (N := 36) rfl (n := 6 * T + i) (by omega) (v := nI vs.length) (hV.1) dX11_valueNow_13 ?_
  refine rn_icmp_ge (tgt := 40) hE dX11_valueNow_14 (by decide) (by omega) (by omega) (fun c14 => ?_) (fun c14 => ?_)
  · refine lv_iconst (v := -1) hE.1 hE.2.1 dX11_valueNow_40 (by decide) ?_
    exact rg_iret hE hr rfl hlk hH ⟨rfl, rfl, rfl, by rw [ixW_none (fun u hu => hne u (by omega))]; rfl⟩ dX11_valueNow_41
  · refine lv_aload_n hE.1 hE.2.1 dX11_valueNow_17 rfl (lv_at hl 0 rfl) ?_
    refine lv_iload_n hE.1 hE.2.1 dX11_valueNow_18 rfl (lv_at hl 1 rfl) ?_
    refine lv_iload_n hE.1 hE.2.1 dX11_valueNow_19 rfl (lv_at hl 2 rfl) ?_
    refine lv_iconst (v := nI 1) hE.1 hE.2.1 dX11_valueNow_20 (by decide) ?_
    refine lv_iload_n hE.1 hE.2.1 dX11_valueNow_21 rfl (lv_at hl 3 rfl) ?_
    refine rn_iadd hE dX11_valueNow_22 ?_
    refine rg_SI (As := [.int (nI T), .int (nI i), .int (nI (1 + k))]) (rest := [.ref (G.ad 0)]) hE hml hH mc_X11_179 (c_wordAt l z G hG iv jv T i (1 + k)) rfl ⟨Nat.le_of_ble_eq_true rfl, Nat.le_of_ble_eq_true rfl⟩ rfl hl.1 (by simp [Value.category]) dX11_valueNow_23 ⟨Nat.le_of_ble_eq_true rfl, Nat.le_of_ble_eq_true rfl⟩ (fun r23 G23 iv23 jv23 H locs hp23 hH => ?_)
    obtain ⟨rfl, rfl, rfl, rfl⟩ := hp23
    refine rg_VI (As := [.int (nI (42 * T + 7 * i + (1 + k)))]) (rest := []) hE hml hH mc_X11_183 (c_isSame l z G hG iv jv B n bad t hM (42 * T + 7 * i + (1 + k)) (by omega) (vs.getD k []) (hV.2.2 k (by omega))) hG.1.1 hG.1.2 (by decide) rfl ⟨Nat.le_of_ble_eq_true rfl, Nat.le_of_ble_eq_true rfl⟩ rfl hl.1 (by simp [Value.category]) dX11_valueNow_26 ⟨Nat.le_of_ble_eq_true rfl, Nat.le_of_ble_eq_true rfl⟩ (fun r26 G26 iv26 jv26 H locs hp26 hH => ?_)
    obtain ⟨rfl, rfl, rfl, rfl⟩ := hp26
    refine rn_ifb_eq (tgt := 34) hE dX11_valueNow_29 (by decide) (fun c29 => ?_) (fun c29 => ?_)
    · refine lv_iinc (v := nI (k + 1)) (lv' := [(3, .int (nI (k + 1))), (0, .ref (G.ad 0)), (1, .int (nI T)), (2, .int (nI i))]) hE.1 hE.2.1 dX11_valueNow_34 hl (k := 3) rfl (nI_1 _) (by decide) rfl (fun ls hl => ?_)
      refine lv_goto (tgt := 2) hE.1 hE.2.1 dX11_valueNow_37 (by decide) ?_
      exact ih2 (k + 1) _ _ _ (by omega) ⟨by omega, fun u hu => by
        by_cases huk : u = k
        · rw [huk]; exact fun h => (of_decide_eq_false c29) h.symm
        · exact hne u (by omega)⟩ (lv_sub hl [1, 2, 3, 0] rfl) hH
    · refine lv_iload_n hE.1 hE.2.1 dX11_valueNow_32 rfl (lv_at hl 3 rfl) ?_
      exact rg_iret hE hr rfl hlk hH ⟨rfl, rfl, rfl, by rw [ixW_some (by omega) (of_decide_eq_true c29).symm hne]; rfl⟩ dX11_valueNow_33
set_option maxRecDepth 100000 in
set_option maxHeartbeats 4000000 in
theorem c_all (l : Launch) (z : ZK) (G : GW) (hG : isM G) (iv : IV) (jv : JV) (T i : Nat) (hT : T < 6) (hi : i ≤ 5) (k : Nat) (hk : k ≤ 6) (hV : iv 10 (6 * T + i) = nI k) : cI l z yX11_all cX11_all 3 (some .int) 0 0 0 0 [.ref (G.ad 0), .int (nI T), .int (nI i)] G iv jv (fun r G' iv' jv' => G = G' ∧ iv = iv' ∧ jv = jv' ∧ r = nI (2 ^ k - 1)) := by
  intro sz
  refine rg_entry rfl (Nat.le_of_ble_eq_true rfl) ?_
  intro pq eq sq mq bq methq cq ls hE hr hlk hml hnm hl hsz hH
  have hl : lv_has ls 3 [(0, .ref (G.ad 0)), (1, .int (nI T)), (2, .int (nI i))] := hl
  refine lv_iconst (v := nI 1) hE.1 hE.2.1 dX11_all_0 (by decide) ?_
  refine lv_aload_n hE.1 hE.2.1 dX11_all_1 rfl (lv_at hl 0 rfl) ?_
  refine rm_getr hE hH hG fl_X11_26 rfl (by decide) dX11_all_2 ?_
  refine lv_bipush (v := nI 6) hE.1 hE.2.1 dX11_all_5 (by decide) ?_
  refine lv_iload_n hE.1 hE.2.1 dX11_all_7 rfl (lv_at hl 1 rfl) ?_
  refine rn_imul hE dX11_all_8 ?_
  refine lv_iload_n hE.1 hE.2.1 dX11_all_9 rfl (lv_at hl 2 rfl) ?_
  refine rn_iadd hE dX11_all_10 ?_
  refine rm_iald hE hH hG (k := 10) (by decide) rfl (N := 36) rfl (n := 6 * T + i) (by omega) (v := nI k) (hV) dX11_all_11 ?_
  refine lv_ishl hE.1 hE.2.1 dX11_all_12 ?_
  refine lv_iconst (v := nI 1) hE.1 hE.2.1 dX11_all_13 (by decide) ?_
  refine lv_isub hE.1 hE.2.1 dX11_all_14 ?_
  exact rg_iret hE hr rfl hlk hH ⟨rfl, rfl, rfl, all_eq k hk⟩ dX11_all_15
set_option maxRecDepth 100000 in
set_option maxHeartbeats 4000000 in
theorem c_casesOf (l : Launch) (z : ZK) (G : GW) (hG : isM G) (iv : IV) (jv : JV) (T m : Nat) (hT : T < 6) (hm : m ≤ 5) (f : Nat → Nat) (h8 : iv 8 T = nI m) (h10 : ∀ i, i < m → iv 10 (6 * T + i) = nI (f i)) : cI l z yX11_casesOf cX11_casesOf 4 (some .int) 0 0 0 0 [.ref (G.ad 0), .int (nI T)] G iv jv (fun r G' iv' jv' => G = G' ∧ iv = iv' ∧ jv = jv' ∧ r = nI (prd f m)) := by
  intro sz
  refine rg_entry rfl (Nat.le_of_ble_eq_true rfl) ?_
  intro pq eq sq mq bq methq cq ls hE hr hlk hml hnm hl hsz hH
  have hl : lv_has ls 4 [(0, .ref (G.ad 0)), (1, .int (nI T))] := hl
  refine lv_iconst (v := nI 1) hE.1 hE.2.1 dX11_casesOf_0 (by decide) ?_
  refine lv_istore_n (lv' := [(2, .int (nI 1)), (0, .ref (G.ad 0)), (1, .int (nI T))]) hE.1 hE.2.1 dX11_casesOf_1 rfl hl (by decide) rfl (fun ls hl => ?_)
  refine lv_iconst (v := nI 0) hE.1 hE.2.1 dX11_casesOf_2 (by decide) ?_
  refine lv_istore_n (lv' := [(3, .int (nI 0)), (2, .int (nI 1)), (0, .ref (G.ad 0)), (1, .int (nI T))]) hE.1 hE.2.1 dX11_casesOf_3 rfl hl (by decide) rfl (fun ls hl => ?_)
  refine rg_loop (σ := Nat) (nL := 4) (fun (i : Nat) => m - i) (fun (i : Nat) => [(0, .ref (G.ad 0)), (1, .int (nI T)), (2, .int (nI (prd f i))), (3, .int (nI i))]) (fun (i : Nat) => G) (fun (i : Nat) => iv) (fun (i : Nat) => jv) (fun (i : Nat) => i ≤ m) ?_ (0) (Nat.zero_le _) (lv_sub hl [2, 3, 1, 0] rfl) hH
  rintro i H locs ls hi hl hH ih4
  try dsimp only at hl hH ih4
  refine lv_iload_n hE.1 hE.2.1 dX11_casesOf_4 rfl (lv_at hl 3 rfl) ?_
  refine lv_aload_n hE.1 hE.2.1 dX11_casesOf_5 rfl (lv_at hl 0 rfl) ?_
  refine rm_getr hE hH hG fl_X11_20 rfl (by decide) dX11_casesOf_6 ?_
  refine lv_iload_n hE.1 hE.2.1 dX11_casesOf_9 rfl (lv_at hl 1 rfl) ?_
  refine rm_iald hE hH hG (k := 8) (by decide) rfl (N := 6) rfl (n := T) (by omega) (v := nI m) (h8) dX11_casesOf_10 ?_
  refine rn_icmp_ge (tgt := 34) hE dX11_casesOf_11 (by decide) (by omega) (by omega) (fun c11 => ?_) (fun c11 => ?_)
  · refine lv_iload_n hE.1 hE.2.1 dX11_casesOf_34 rfl (lv_at hl 2 rfl) ?_
    exact rg_iret hE hr rfl hlk hH ⟨rfl, rfl, rfl, by rw [show m = i by omega]⟩ dX11_casesOf_35
  · refine lv_iload_n hE.1 hE.2.1 dX11_casesOf_14 rfl (lv_at hl 2 rfl) ?_
    refine lv_aload_n hE.1 hE.2.1 dX11_casesOf_15 rfl (lv_at hl 0 rfl) ?_
    refine rm_getr hE hH hG fl_X11_26 rfl (by decide) dX11_casesOf_16 ?_
    refine lv_bipush (v := nI 6) hE.1 hE.2.1 dX11_casesOf_19 (by decide) ?_
    refine lv_iload_n hE.1 hE.2.1 dX11_casesOf_21 rfl (lv_at hl 1 rfl) ?_
    refine rn_imul hE dX11_casesOf_22 ?_
    refine lv_iload_n hE.1 hE.2.1 dX11_casesOf_23 rfl (lv_at hl 3 rfl) ?_
    refine rn_iadd hE dX11_casesOf_24 ?_
    refine rm_iald hE hH hG (k := 10) (by decide) rfl (N := 36) rfl (n := 6 * T + i) (by omega) (v := nI (f i)) (h10 i (by omega)) dX11_casesOf_25 ?_
    refine rn_imul hE dX11_casesOf_26 ?_
    refine lv_istore_n (lv' := [(2, .int (nI ((prd f i) * (f i)))), (0, .ref (G.ad 0)), (1, .int (nI T)), (3, .int (nI i))]) hE.1 hE.2.1 dX11_casesOf_27 rfl hl (by decide) rfl (fun ls hl => ?_)
    refine lv_iinc (v := nI (i + 1)) (lv' := [(3, .int (nI (i + 1))), (2, .int (nI ((prd f i) * (f i)))), (0, .ref (G.ad 0)), (1, .int (nI T))]) hE.1 hE.2.1 dX11_casesOf_28 hl (k := 3) rfl (nI_1 _) (by decide) rfl (fun ls hl => ?_)
    refine lv_goto (tgt := 4) hE.1 hE.2.1 dX11_casesOf_31 (by decide) ?_
    exact ih4 (i + 1) _ _ _ (by omega) (by omega) (lv_sub hl [2, 3, 1, 0] rfl) hH
