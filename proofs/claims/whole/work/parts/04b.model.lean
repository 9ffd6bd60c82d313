set_option maxRecDepth 100000 in
set_option maxHeartbeats 4000000 in
theorem c_feed (l : Launch) (z : ZK) (G : GW) (hG : isM G) (iv : IV) (jv : JV) (a : AS) (hS : MSt iv a) (w0 w1 w2 w3 w4 : Int32) : cI l z yX11_feed cX11_feed 8 (some .int) 0 0 0 0 [.ref (G.ad 0), .int (w0), .int (w1), .int (w2), .int (w3), .int (w4)] G iv jv (fun r G' iv' jv' => G = G' ∧ jv = jv' ∧ (iv' 0 0 = nI (spFeed a (fW w0 w1 w2 w3 w4)).1 ∧ r = (spFeed a (fW w0 w1 w2 w3 w4)).2.1 ∧ MSt iv' (spFeed a (fW w0 w1 w2 w3 w4)).2.2) ∧ Fr iv iv' pM) := by
  intro sz
  refine rg_entry rfl (Nat.le_of_ble_eq_true rfl) ?_
  intro pq eq sq mq bq methq cq ls hE hr hlk hml hnm hl hsz hH
  have hl : lv_has ls 8 [(0, .ref (G.ad 0)), (1, .int (w0)), (2, .int (w1)), (3, .int (w2)), (4, .int (w3)), (5, .int (w4))] := hl
  refine lv_aload_n hE.1 hE.2.1 dX11_feed_0 rfl (lv_at hl 0 rfl) ?_
  refine lv_iconst (v := nI 0) hE.1 hE.2.1 dX11_feed_1 (by decide) ?_
  refine rm_puti hE hH hG fl_X11_96 rfl fn_X11_0 (v := nI 0) dX11_feed_2 (fun H locs hH => ?_)
  have hF0 : Fr iv (up2 iv 0 0 (nI 0)) pM := up0_M
  have hS : MSt (up2 iv 0 0 (nI 0)) a := hS.c0
  have h00 : (up2 iv 0 0 (nI 0)) 0 0 = nI 0 := rfl
  generalize up2 iv 0 0 (nI 0) = iv1 at hH hS hF0 h00
  have hS6 := hS.2.2.1.2.1
  have hS12 := hS.2.2.2.1.2.1
  have hS3 := hS.1.2.1
  have hSo := hS.2.2.2.2.2.1
  refine lv_aload_n hE.1 hE.2.1 dX11_feed_5 rfl (lv_at hl 0 rfl) ?_
  refine rm_geti hE hH hG fl_X11_102 rfl (v := nI (aN a)) (hS.1.1) dX11_feed_6 ?_
  refine lv_bipush (v := nI 20) hE.1 hE.2.1 dX11_feed_9 (by decide) ?_
  refine rn_iadd hE dX11_feed_11 ?_
  refine lv_sipush (v := nI 1000) hE.1 hE.2.1 dX11_feed_12 (by decide) ?_
  refine rn_icmp_le (tgt := 20) hE dX11_feed_15 (by decide) (by omega) (by omega) (fun c15 => ?_) (fun c15 => ?_)
  · refine lv_iconst (v := nI 0) hE.1 hE.2.1 dX11_feed_20 (by decide) ?_
    refine lv_istore (lv' := [(6, .int (nI 0)), (0, .ref (G.ad 0)), (1, .int (w0)), (2, .int (w1)), (3, .int (w2)), (4, .int (w3)), (5, .int (w4))]) hE.1 hE.2.1 dX11_feed_21 hl (by decide) rfl (fun ls hl => ?_)
    refine rg_loop (σ := IV × Nat) (nL := 8) (fun (u : IV × Nat) => match u with | (iv2, k) => 20 - k) (fun (u : IV × Nat) => match u with | (iv2, k) => [(0, .ref (G.ad 0)), (1, .int (w0)), (2, .int (w1)), (3, .int (w2)), (4, .int (w3)), (5, .int (w4)), (6, .int (nI k))]) (fun (u : IV × Nat) => match u with | (iv2, k) => G) (fun (u : IV × Nat) => match u with | (iv2, k) => iv2) (fun (u : IV × Nat) => match u with | (iv2, k) => jv) (fun (u : IV × Nat) => match u with | (iv2, k) => k ≤ 20 ∧ mTp iv2 (aN a + k) (fun j => if j < aN a then aY a j else fby (fW w0 w1 w2 w3 w4) (j - aN a)) ∧ Fr iv1 iv2 (fun lb j => (lb = 0 ∧ j = 3) ∨ lb = 1)) ?_ ((iv1, 0)) ⟨Nat.zero_le _, ⟨hS.1.1, hS.1.2.1, fun j hj => by have hj : j < aN a := hj; dsimp only; rw [if_pos hj]; exact hS.1.2.2.1 j hj, fun j hj => by have hj : j < aN a := hj; dsimp only; rw [if_pos hj]; exact hS.1.2.2.2 j hj⟩, Fr.rf⟩ (lv_sub hl [1, 2, 3, 4, 5, 6, 0] rfl) hH
    rintro ⟨iv2, k⟩ H locs ls ⟨hk20, hTp, hFr⟩ hl hH ih23
    try dsimp only at hl hH ih23
    try dsimp only at hk20 hTp hFr
    refine lv_iload hE.1 hE.2.1 dX11_feed_23 (lv_at hl 6 rfl) ?_
    refine lv_bipush (v := nI 20) hE.1 hE.2.1 dX11_feed_25 (by decide) ?_
    refine rn_icmp_ge (tgt := 120) hE dX11_feed_27 (by decide) (by omega) (by omega) (fun c27 => ?_) (fun c27 => ?_)
    · refine lv_aload_n hE.1 hE.2.1 dX11_feed_120 rfl (lv_at hl 0 rfl) ?_
      refine rm_geti hE hH hG fl_X11_102 rfl (v := nI (aN a + k)) (hTp.1) dX11_feed_121 ?_
      exact rg_iret hE hr rfl hlk hH ⟨rfl, rfl, by rw [show spFeed a (fW w0 w1 w2 w3 w4) = ok (nI (aN a + 20)) (aN a + 20, fun k => if k < aN a then aY a k else fby (fW w0 w1 w2 w3 w4) (k - aN a), aF a, aT a, aP a, aO a) by rw [spFeed, if_neg (by omega)]]; exact ⟨(hFr 0 0 (by decide)).trans h00, by rw [show k = 20 by omega]; rfl, ⟨by rw [show k = 20 by omega] at hTp; exact hTp, (hFr 0 5 (by decide)).trans hS.2.1, hS.2.2.1.fr hFr (by decide) (fun lb j _ _ => by omega) (fun lb j _ _ => by omega), hS.2.2.2.1.fr hFr (by decide) (fun lb j _ _ => by omega), hS.2.2.2.2.fr hFr (by decide) (fun k => by omega)⟩⟩, hF0.tr (hFr.mono (fun lb j h => by simp only [pM]; omega))⟩ dX11_feed_124
    · refine rg_join (σ := Int32) (nL := 8) (pcJ := 76) hH (fun (w : Int32) => [(0, .ref (G.ad 0)), (1, .int (w0)), (2, .int (w1)), (3, .int (w2)), (4, .int (w3)), (5, .int (w4)), (6, .int (nI k))]) (fun (w : Int32) => [.int (w)]) (fun (w : Int32) => G) (fun (w : Int32) => iv2) (fun (w : Int32) => jv) (fun (w : Int32) => w = (fW w0 w1 w2 w3 w4) (k / 4)) ?_ (fun J76 => ?_)
      · rintro w H locs ls hwk hl hH
        try dsimp only at hl hH
        refine lv_istore (lv' := [(7, .int (w)), (0, .ref (G.ad 0)), (1, .int (w0)), (2, .int (w1)), (3, .int (w2)), (4, .int (w3)), (5, .int (w4)), (6, .int (nI k))]) hE.1 hE.2.1 dX11_feed_76 hl (by decide) rfl (fun ls hl => ?_)
        subst hwk
        refine lv_aload_n hE.1 hE.2.1 dX11_feed_78 rfl (lv_at hl 1 rfl) ?_
        refine rm_getr hE hH hG fl_X11_9 rfl (by decide) dX11_feed_79 ?_
        refine lv_aload_n hE.1 hE.2.1 dX11_feed_82 rfl (lv_at hl 1 rfl) ?_
        refine rm_geti hE hH hG fl_X11_102 rfl (v := nI (aN a + k)) (hTp.1) dX11_feed_83 ?_
        refine lv_iload hE.1 hE.2.1 dX11_feed_86 (lv_at hl 0 rfl) ?_
        refine lv_bipush (v := nI 24) hE.1 hE.2.1 dX11_feed_88 (by decide) ?_
        refine lv_bipush (v := nI 8) hE.1 hE.2.1 dX11_feed_90 (by decide) ?_
        refine lv_iload hE.1 hE.2.1 dX11_feed_92 (lv_at hl 7 rfl) ?_
        refine lv_iconst (v := nI 4) hE.1 hE.2.1 dX11_feed_94 (by decide) ?_
        refine rn_irem hE dX11_feed_95 (by omega) (by omega) (by omega) ?_
        refine rn_imul hE dX11_feed_96 ?_
        refine rn_isub hE dX11_feed_97 (by omega) ?_
        refine lv_ishr hE.1 hE.2.1 dX11_feed_98 ?_
        refine lv_sipush (v := nI 255) hE.1 hE.2.1 dX11_feed_99 (by decide) ?_
        refine lv_iand hE.1 hE.2.1 dX11_feed_102 ?_
        refine rn_as (v' := nI (fby (fW w0 w1 w2 w3 w4) k)) ((and255 _).1) ?_
        refine rm_iast hE hH hG (k := 1) (by decide) rfl (N := 1000) rfl (n := aN a + k) (by omega) (v := nI (fby (fW w0 w1 w2 w3 w4) k)) dX11_feed_103 (fun H locs hH => ?_)
        have h3b : (up2 iv2 1 (aN a + k) (nI (fby (fW w0 w1 w2 w3 w4) k))) 0 3 = nI (aN a + k) := hTp.1
        refine lv_aload_n hE.1 hE.2.1 dX11_feed_104 rfl (lv_at hl 1 rfl) ?_
        refine lv_dup hE.1 hE.2.1 dX11_feed_105 rfl ?_
        refine rm_geti hE hH hG fl_X11_102 rfl (v := nI (aN a + k)) (h3b) dX11_feed_106 ?_
        refine lv_iconst (v := nI 1) hE.1 hE.2.1 dX11_feed_109 (by decide) ?_
        refine rn_iadd hE dX11_feed_110 ?_
        refine rm_puti hE hH hG fl_X11_102 rfl fn_X11_3 (v := nI (aN a + k + 1)) dX11_feed_111 (fun H locs hH => ?_)
        have hFr2 : Fr iv1 (up2 (up2 iv2 1 (aN a + k) (nI (fby (fW w0 w1 w2 w3 w4) k))) 0 3 (nI (aN a + k + 1))) (fun lb j => (lb = 0 ∧ j = 3) ∨ lb = 1) := Fr.up (Fr.up hFr (Or.inr rfl)) (Or.inl ⟨rfl, rfl⟩)
        have hTp2 : mTp (up2 (up2 iv2 1 (aN a + k) (nI (fby (fW w0 w1 w2 w3 w4) k))) 0 3 (nI (aN a + k + 1))) (aN a + (k + 1)) (fun j => if j < aN a then aY a j else fby (fW w0 w1 w2 w3 w4) (j - aN a)) := by
          refine ⟨rfl, by omega, fun j hj => ?_, fun j hj => ?_⟩
          · rw [up2_l (by decide)]
            by_cases hjk : j = aN a + k
            · subst hjk; rw [up2_s]; dsimp only; rw [if_neg (by omega), show aN a + k - aN a = k by omega]
            · rw [up2_k hjk]; exact hTp.2.2.1 j (by omega)
          · by_cases hjk : j = aN a + k
            · subst hjk; simp only; rw [if_neg (by omega)]; exact (and255 _).2
            · exact hTp.2.2.2 j (by omega)
        refine lv_iinc (v := nI (k + 1)) (lv' := [(6, .int (nI (k + 1))), (7, .int ((fW w0 w1 w2 w3 w4) (k / 4))), (0, .ref (G.ad 0)), (1, .int (w0)), (2, .int (w1)), (3, .int (w2)), (4, .int (w3)), (5, .int (w4))]) hE.1 hE.2.1 dX11_feed_114 hl (k := 7) rfl (nI_1 _) (by decide) rfl (fun ls hl => ?_)
        refine lv_goto (tgt := 23) hE.1 hE.2.1 dX11_feed_117 (by decide) ?_
        exact ih23 (up2 (up2 iv2 1 (aN a + k) (nI (fby (fW w0 w1 w2 w3 w4) k))) 0 3 (nI (aN a + k + 1)), k + 1) _ _ _ (show 20 - (k + 1) < 20 - k by omega) ⟨by show k + 1 ≤ 20; omega, hTp2, hFr2⟩ (lv_sub hl [2, 3, 4, 5, 6, 7, 0] rfl) hH
      · refine lv_iload hE.1 hE.2.1 dX11_feed_30 (lv_at hl 6 rfl) ?_
        refine lv_iconst (v := nI 4) hE.1 hE.2.1 dX11_feed_32 (by decide) ?_
        refine rn_icmp_ge (tgt := 40) hE dX11_feed_33 (by decide) (by omega) (by omega) (fun c33 => ?_) (fun c33 => ?_)
        · refine lv_iload hE.1 hE.2.1 dX11_feed_40 (lv_at hl 6 rfl) ?_
          refine lv_bipush (v := nI 8) hE.1 hE.2.1 dX11_feed_42 (by decide) ?_
          refine rn_icmp_ge (tgt := 51) hE dX11_feed_44 (by decide) (by omega) (by omega) (fun c44 => ?_) (fun c44 => ?_)
          · refine lv_iload hE.1 hE.2.1 dX11_feed_51 (lv_at hl 6 rfl) ?_
            refine lv_bipush (v := nI 12) hE.1 hE.2.1 dX11_feed_53 (by decide) ?_
            refine rn_icmp_ge (tgt := 62) hE dX11_feed_55 (by decide) (by omega) (by omega) (fun c55 => ?_) (fun c55 => ?_)
            · refine lv_iload hE.1 hE.2.1 dX11_feed_62 (lv_at hl 6 rfl) ?_
              refine lv_bipush (v := nI 16) hE.1 hE.2.1 dX11_feed_64 (by decide) ?_
              refine rn_icmp_ge (tgt := 74) hE dX11_feed_66 (by decide) (by omega) (by omega) (fun c66 => ?_) (fun c66 => ?_)
              · refine lv_iload hE.1 hE.2.1 dX11_feed_74 (lv_at hl 5 rfl) ?_
                exact J76 w4 _ _ _ (by rw [show k / 4 = 4 by omega]; rfl) (lv_sub hl [0, 1, 2, 3, 4, 5, 6] rfl) hH
              · refine lv_iload hE.1 hE.2.1 dX11_feed_69 (lv_at hl 4 rfl) ?_
                refine lv_goto (tgt := 76) hE.1 hE.2.1 dX11_feed_71 (by decide) ?_
                exact J76 w3 _ _ _ (by rw [show k / 4 = 3 by omega]; rfl) (lv_sub hl [0, 1, 2, 3, 4, 5, 6] rfl) hH
            · refine lv_iload_n hE.1 hE.2.1 dX11_feed_58 rfl (lv_at hl 3 rfl) ?_
              refine lv_goto (tgt := 76) hE.1 hE.2.1 dX11_feed_59 (by decide) ?_
              exact J76 w2 _ _ _ (by rw [show k / 4 = 2 by omega]; rfl) (lv_sub hl [0, 1, 2, 3, 4, 5, 6] rfl) hH
          · refine lv_iload_n hE.1 hE.2.1 dX11_feed_47 rfl (lv_at hl 2 rfl) ?_
            refine lv_goto (tgt := 76) hE.1 hE.2.1 dX11_feed_48 (by decide) ?_
            exact J76 w1 _ _ _ (by rw [show k / 4 = 1 by omega]; rfl) (lv_sub hl [0, 1, 2, 3, 4, 5, 6] rfl) hH
        · refine lv_iload_n hE.1 hE.2.1 dX11_feed_36 rfl (lv_at hl 1 rfl) ?_
          refine lv_goto (tgt := 76) hE.1 hE.2.1 dX11_feed_37 (by decide) ?_
          exact J76 w0 _ _ _ (by rw [show k / 4 = 0 by omega]; rfl) (lv_sub hl [0, 1, 2, 3, 4, 5, 6] rfl) hH
  · have hfl : 1000 < aN a + 20 := by omega
    refine lv_iconst (v := -1) hE.1 hE.2.1 dX11_feed_18 (by decide) ?_
    exact rg_iret hE hr rfl hlk hH ⟨rfl, rfl, by rw [show spFeed a (fW w0 w1 w2 w3 w4) = ok (-1) a by rw [spFeed, if_pos hfl]]; exact ⟨h00, rfl, hS⟩, hF0⟩ dX11_feed_19
