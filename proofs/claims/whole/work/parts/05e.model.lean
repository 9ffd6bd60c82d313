set_option maxRecDepth 100000 in
set_option maxHeartbeats 4000000 in
theorem c_Lx_open (l : Launch) (z : ZK) (G : GW) (hX : isPx G) (iv : IV) (jv : JV) (B : Nat → Nat) (n : Nat) (hTx : TXc iv B n) : cV l z yX2_open cX2_open 7 none 7 157 0 0 [.ref (G.ad 103), .ref (G.ad 101), .int (nI n)] G iv jv (fun G' iv' jv' => G = G' ∧ LR iv' jv' B n (tkN B n 0) ∧ Fr iv iv' pL ∧ FrJ jv jv' qL') := by
  intro sz
  refine rg_entry rfl (Nat.le_of_ble_eq_true rfl) ?_
  intro pq eq sq mq bq methq cq ls hE hr hlk hml hnm hl hsz hH
  have hl : lv_has ls 7 [(0, .ref (G.ad 103)), (1, .ref (G.ad 101)), (2, .int (nI n))] := hl
  have hl104 : G.ln 104 = 1001 := hX.2.2.1.2.2
  have hl105 : G.ln 105 = 1001 := hX.2.2.2.1.2.2
  have hl106 : G.ln 106 = 1001 := hX.2.2.2.2.1.2.2
  have hl101 : G.ln 101 = 1000 := hX.2.2.2.2.2.1.2.2
  have hn1 := hTx.1
  refine lv_iload_n hE.1 hE.2.1 dX2_open_0 rfl (lv_at hl 2 rfl) ?_
  refine lv_aload_n hE.1 hE.2.1 dX2_open_1 rfl (lv_at hl 1 rfl) ?_
  refine rg_alen hE hH (hX.2.2.2.2.2.1.1) (hX.2.2.2.2.2.1.2.1) (by decide) (by decide) dX2_open_2 ?_
  rw [hl101]
  refine rg_min (x := n) (y := 1000) (rest := []) hE hml hl.1 mc_X2_39 ⟨Nat.le_of_ble_eq_true rfl, Nat.le_of_ble_eq_true rfl⟩ ⟨Nat.le_of_ble_eq_true rfl, Nat.le_of_ble_eq_true rfl⟩ (by simp [Value.category]) (by omega) (by omega) dX2_open_3 ?_
  refine rn_as (v' := nI n) (by rw [Nat.min_eq_left (by omega)]) ?_
  refine lv_istore_n (lv' := [(3, .int (nI n)), (0, .ref (G.ad 103)), (1, .ref (G.ad 101)), (2, .int (nI n))]) hE.1 hE.2.1 dX2_open_6 rfl hl (by decide) rfl (fun ls hl => ?_)
  refine lv_iconst (v := nI 0) hE.1 hE.2.1 dX2_open_7 (by decide) ?_
  refine lv_istore (lv' := [(4, .int (nI 0)), (3, .int (nI n)), (0, .ref (G.ad 103)), (1, .ref (G.ad 101)), (2, .int (nI n))]) hE.1 hE.2.1 dX2_open_8 hl (by decide) rfl (fun ls hl => ?_)
  refine lv_aload_n hE.1 hE.2.1 dX2_open_10 rfl (lv_at hl 2 rfl) ?_
  refine lv_iconst (v := nI 0) hE.1 hE.2.1 dX2_open_11 (by decide) ?_
  refine rg_puti hE hH cf_X2 fl_X2_22 rfl fn_X2_3 (hX.2.1.1) (hX.2.1.2) (v := nI 0) dX2_open_12 (fun H locs hH => ?_)
  have hFr : Fr iv (up2 iv 103 3 (nI 0)) pL := Fr.up Fr.rf (Or.inl rfl)
  refine rg_loop (σ := IV × JV × Nat × Nat) (nL := 7) (fun (u : IV × JV × Nat × Nat) => match u with | (iv2, jv2, p, k) => n - p) (fun (u : IV × JV × Nat × Nat) => match u with | (iv2, jv2, p, k) => [(0, .ref (G.ad 103)), (1, .ref (G.ad 101)), (2, .int (nI n)), (3, .int (nI n)), (4, .int (nI p))]) (fun (u : IV × JV × Nat × Nat) => match u with | (iv2, jv2, p, k) => G) (fun (u : IV × JV × Nat × Nat) => match u with | (iv2, jv2, p, k) => iv2) (fun (u : IV × JV × Nat × Nat) => match u with | (iv2, jv2, p, k) => jv2) (fun (u : IV × JV × Nat × Nat) => match u with | (iv2, jv2, p, k) => p ≤ n ∧ k ≤ p ∧ iv2 103 3 = nI k ∧ LXT iv2 jv2 B n k ∧ tkN B n k = tokAt B n p ∧ Fr iv iv2 pL ∧ FrJ jv jv2 qL') ?_ ((up2 iv 103 3 (nI 0), jv, 0, 0)) ⟨Nat.zero_le _, Nat.le_refl _, rfl, fun j hj => absurd hj (Nat.not_lt_zero j), rfl, hFr, FrJ.rf⟩ (lv_sub hl [2, 3, 4, 1, 0] rfl) hH
  rintro ⟨iv2, jv2, p, k⟩ H locs ls ⟨hpn, hkp, h3, hLT, htk, hFr, hFj⟩ hl hH ih15
  try dsimp only at hl hH ih15
  try dsimp only at hpn hkp h3 hLT htk hFr hFj
  have hTx2 := hTx.fr hFr (fun k => by simp)
  refine lv_iload hE.1 hE.2.1 dX2_open_15 (lv_at hl 4 rfl) ?_
  refine lv_iload_n hE.1 hE.2.1 dX2_open_17 rfl (lv_at hl 3 rfl) ?_
  refine rn_icmp_ge (tgt := 148) hE dX2_open_18 (by decide) (by omega) (by omega) (fun c18 => ?_) (fun c18 => ?_)
  · have hpe : p = n := by omega
    refine lv_aload_n hE.1 hE.2.1 dX2_open_148 rfl (lv_at hl 0 rfl) ?_
    refine lv_bipush (v := nI 15) hE.1 hE.2.1 dX2_open_149 (by decide) ?_
    refine lv_iload_n hE.1 hE.2.1 dX2_open_151 rfl (lv_at hl 3 rfl) ?_
    refine lv_lconst (v := 0) hE.1 hE.2.1 dX2_open_152 (by decide) ?_
    refine rg_VV (As := [.int (nI 15), .int (nI n), .long (0)]) (rest := []) hE hml hH mc_X2_60 (c_Lx_add l z G hX iv2 jv2 k 15 n 0 (by omega) h3) (hX.2.1.1) (hX.2.1.2) (by decide) rfl ⟨Nat.le_of_ble_eq_true rfl, Nat.le_of_ble_eq_true rfl⟩ rfl hl.1 (by simp [Value.category]) dX2_open_153 ⟨Nat.le_of_ble_eq_true rfl, Nat.le_of_ble_eq_true rfl⟩ (fun G153 iv153 jv153 H locs hp153 hH => ?_)
    obtain ⟨rfl, hiv153, hjv153⟩ := hp153
    have htt : tkN B n k = (0, 0, n, n) := by rw [htk, hpe, tokAt, rowE_end (Nat.le_refl _), tok_end (Nat.le_refl _)]
    have hFr2 : Fr iv iv153 pL := by rw [hiv153]; exact Fr.up (Fr.up (Fr.up hFr (Or.inr (Or.inl rfl))) (Or.inr (Or.inr rfl))) (Or.inl rfl)
    have hFj2 : FrJ jv jv153 qL' := by rw [hjv153]; exact FrJ.up hFj (Or.inl rfl)
    have hLT2 : LXT iv153 jv153 B n (k + 1) := by
      refine LXT.add hLT (fun j => ?_) (fun j => ?_) (fun j => ?_)
      · rw [hiv153, up2_l (by decide), up2_l (by decide), htt]; rfl
      · rw [hiv153, up2_l (by decide), htt]; by_cases h : j = k
        · subst h; rw [up2_s, up2_s]; rfl
        · rw [up2_k h, up2_k h, up2_k h]
      · rw [hjv153, htt]; rfl
    have h3b : iv153 103 3 = nI (k + 1) := by rw [hiv153]; rfl
    refine lv_aload_n hE.1 hE.2.1 dX2_open_156 rfl (lv_at hl 0 rfl) ?_
    refine lv_iconst (v := -1) hE.1 hE.2.1 dX2_open_157 (by decide) ?_
    refine rg_puti hE hH cf_X2 fl_X2_26 rfl fn_X2_4 (hX.2.1.1) (hX.2.1.2) (v := -1) dX2_open_158 (fun H locs hH => ?_)
    have hLT3 : LXT (up2 iv153 103 4 (-1)) jv153 B n (k + 1) := hLT2
    have h3c : (up2 iv153 103 4 (-1)) 103 3 = nI (k + 1) := h3b
    have hFr3 : Fr iv (up2 iv153 103 4 (-1)) pL := Fr.up hFr2 (Or.inl rfl)
    refine lv_aload_n hE.1 hE.2.1 dX2_open_161 rfl (lv_at hl 0 rfl) ?_
    refine rg_VV (As := []) (rest := []) hE hml hH mc_X2_64 (c_Lx_next0 l z G hX (up2 iv153 103 4 (-1)) jv153 B n k hTx.1 (by omega) (by rw [htt]; rfl) h3c hLT3 rfl) (hX.2.1.1) (hX.2.1.2) (by decide) rfl ⟨Nat.le_of_ble_eq_true rfl, Nat.le_of_ble_eq_true rfl⟩ rfl hl.1 (by simp [Value.category]) dX2_open_162 ⟨Nat.le_of_ble_eq_true rfl, Nat.le_of_ble_eq_true rfl⟩ (fun G162 iv162 jv162 H locs hp162 hH => ?_)
    obtain ⟨rfl, hLR, hF162, hJ162⟩ := hp162
    exact rg_vret hE hr hlk hH ⟨rfl, hLR, hFr3.tr (hF162.mono (fun lb j h => Or.inl h.1)), hFj2.tr (hJ162.mono (fun lb j h => Or.inr h))⟩ dX2_open_165
  · have hB := hTx.2.2 p (by omega)
    refine lv_aload_n hE.1 hE.2.1 dX2_open_21 rfl (lv_at hl 1 rfl) ?_
    refine lv_iload hE.1 hE.2.1 dX2_open_22 (lv_at hl 4 rfl) ?_
    refine rg_bald hE hH (hX.2.2.2.2.2.1.1) (hX.2.2.2.2.2.1.2.1) (by omega) (v := sbI (B p)) (hTx2.2.1 p (by omega)) dX2_open_24 ?_
    refine lv_istore (lv' := [(5, .int (sbI (B p))), (0, .ref (G.ad 103)), (1, .ref (G.ad 101)), (2, .int (nI n)), (3, .int (nI n)), (4, .int (nI p))]) hE.1 hE.2.1 dX2_open_25 hl (by decide) rfl (fun ls hl => ?_)
    refine lv_iload hE.1 hE.2.1 dX2_open_27 (lv_at hl 0 rfl) ?_
    refine rg_SI (As := [.int (sbI (B p))]) (rest := []) hE hml hH mc_X2_45 (c_Lx_ws l z G iv2 jv2 (sbI (B p))) rfl ⟨Nat.le_of_ble_eq_true rfl, Nat.le_of_ble_eq_true rfl⟩ rfl hl.1 (by simp [Value.category]) dX2_open_29 ⟨Nat.le_of_ble_eq_true rfl, Nat.le_of_ble_eq_true rfl⟩ (fun r29 G29 iv29 jv29 H locs hp29 hH => ?_)
    obtain ⟨rfl, rfl, rfl, rfl⟩ := hp29
    refine rn_as (v' := bI (isWS (B p))) (by rw [ws_sb _ hB]) ?_
    refine rn_ifb_eq (tgt := 55) hE dX2_open_32 (by decide) (fun c32 => ?_) (fun c32 => ?_)
    · have hnw := c32
      refine lv_iload hE.1 hE.2.1 dX2_open_55 (lv_at hl 0 rfl) ?_
      refine lv_bipush (v := nI 32) hE.1 hE.2.1 dX2_open_57 (by decide) ?_
      refine lv_icmp_eq (tgt := 69) hE.1 hE.2.1 dX2_open_59 (by decide) (fun c59 => ?_) (fun c59 => ?_)
      · rw [sb_eq _ hB 32 (by decide)] at c59
        have hbl : isBl (B p) = true := by simp [isBl, c59]
        refine lv_iinc (v := nI (p + 1)) (lv' := [(4, .int (nI (p + 1))), (5, .int (sbI (B p))), (0, .ref (G.ad 103)), (1, .ref (G.ad 101)), (2, .int (nI n)), (3, .int (nI n))]) hE.1 hE.2.1 dX2_open_69 hl (k := 5) rfl (nI_1 _) (by decide) rfl (fun ls hl => ?_)
        refine lv_goto (tgt := 145) hE.1 hE.2.1 dX2_open_72 (by decide) ?_
        refine lv_goto (tgt := 15) hE.1 hE.2.1 dX2_open_145 (by decide) ?_
        exact ih15 (iv2, jv2, p + 1, k) _ _ _ (show n - (p + 1) < n - p by omega) ⟨by show p + 1 ≤ n; omega, by show k ≤ p + 1; omega, h3, hLT, by dsimp only; rw [htk, tokAt_bl (by omega) hbl], hFr, hFj⟩ (lv_sub hl [2, 3, 4, 5, 0] rfl) hH
      · rw [sb_eq _ hB 32 (by decide)] at c59
        refine lv_iload hE.1 hE.2.1 dX2_open_62 (lv_at hl 0 rfl) ?_
        refine lv_bipush (v := nI 10) hE.1 hE.2.1 dX2_open_64 (by decide) ?_
        refine lv_icmp_ne (tgt := 75) hE.1 hE.2.1 dX2_open_66 (by decide) (fun c66 => ?_) (fun c66 => ?_)
        · rw [sb_eq _ hB 10 (by decide)] at c66
          have hnb : isBl (B p) = false := by simp [isBl, c59, c66]
          refine lv_iload hE.1 hE.2.1 dX2_open_75 (lv_at hl 0 rfl) ?_
          refine lv_bipush (v := nI 45) hE.1 hE.2.1 dX2_open_77 (by decide) ?_
          refine lv_icmp_ne (tgt := 105) hE.1 hE.2.1 dX2_open_79 (by decide) (fun c79 => ?_) (fun c79 => ?_)
          · rw [sb_eq _ hB 45 (by decide)] at c79
            have hna : ¬ (B p = 45 ∧ p + 1 < n ∧ B (p + 1) = 62) := fun h => c79 h.1
            refine lv_iconst (v := nI 0) hE.1 hE.2.1 dX2_open_105 (by decide) ?_
            refine lv_istore (lv' := [(6, .int (nI 0)), (5, .int (sbI (B p))), (0, .ref (G.ad 103)), (1, .ref (G.ad 101)), (2, .int (nI n)), (3, .int (nI n)), (4, .int (nI p))]) hE.1 hE.2.1 dX2_open_106 hl (by decide) rfl (fun ls hl => ?_)
            refine lv_aload_n hE.1 hE.2.1 dX2_open_108 rfl (lv_at hl 2 rfl) ?_
            refine lv_iload hE.1 hE.2.1 dX2_open_109 (lv_at hl 0 rfl) ?_
            refine rn_if_eq (tgt := 119) hE dX2_open_111 (by decide) (by omega) (fun c111 => ?_) (fun c111 => ?_)
            · refine lv_iload hE.1 hE.2.1 dX2_open_119 (lv_at hl 1 rfl) ?_
              refine rg_SI (As := [.int (sbI (B p))]) (rest := [.ref (G.ad 103)]) hE hml hH mc_X2_56 (c_Lx_sg l z G iv2 jv2 (B p) (hB)) rfl ⟨Nat.le_of_ble_eq_true rfl, Nat.le_of_ble_eq_true rfl⟩ rfl hl.1 (by simp [Value.category]) dX2_open_121 ⟨Nat.le_of_ble_eq_true rfl, Nat.le_of_ble_eq_true rfl⟩ (fun r121 G121 iv121 jv121 H locs hp121 hH => ?_)
              obtain ⟨rfl, rfl, rfl, rfl⟩ := hp121
              refine lv_iload hE.1 hE.2.1 dX2_open_124 (lv_at hl 6 rfl) ?_
              refine lv_lconst (v := 0) hE.1 hE.2.1 dX2_open_126 (by decide) ?_
              refine rg_VV (As := [.int (nI (sgk (B p))), .int (nI p), .long (0)]) (rest := []) hE hml hH mc_X2_60 (c_Lx_add l z G hX iv2 jv2 k (sgk (B p)) p 0 (by omega) h3) (hX.2.1.1) (hX.2.1.2) (by decide) rfl ⟨Nat.le_of_ble_eq_true rfl, Nat.le_of_ble_eq_true rfl⟩ rfl hl.1 (by simp [Value.category]) dX2_open_127 ⟨Nat.le_of_ble_eq_true rfl, Nat.le_of_ble_eq_true rfl⟩ (fun G127 iv127 jv127 H locs hp127 hH => ?_)
              obtain ⟨rfl, hiv127, hjv127⟩ := hp127
              have hFr2 : Fr iv iv127 pL := by rw [hiv127]; exact Fr.up (Fr.up (Fr.up hFr (Or.inr (Or.inl rfl))) (Or.inr (Or.inr rfl))) (Or.inl rfl)
              have hFj2 : FrJ jv jv127 qL' := by rw [hjv127]; exact FrJ.up hFj (Or.inl rfl)
              obtain ⟨q, htt, hkq⟩ : ∃ q, tkN B n k = (q, B p, p, p + 1) ∧ kdT B (q, B p, p, p + 1) = sgk (B p) ∧ q ≠ 1 := by
                rw [htk, tokB_nb hnb]
                by_cases hs : B p = 42 ∨ B p = 47 ∨ B p = 33 ∨ B p = 59 ∨ B p = 58
                · exact ⟨2, tok_sign (by omega) hnw hs, by rw [kdT_2 rfl, sgk_s (by omega)]; rfl, by decide⟩
                · exact ⟨3, tok_bad (by omega) hnw hs hna, by rw [kdT_3 rfl, sgk_16 hs], by decide⟩
              have htk2 : tkN B n (k + 1) = tokAt B n (p + 1) := by show nx B n (tkN B n k) = _; rw [htt]; rfl
              have hLT2 : LXT iv127 jv127 B n (k + 1) := by
                refine LXT.add hLT (fun j => ?_) (fun j => ?_) (fun j => ?_)
                · rw [hiv127, up2_l (by decide), up2_l (by decide), htt, hkq.1]
                · rw [hiv127, up2_l (by decide), htt]; by_cases h : j = k
                  · subst h; rw [up2_s, up2_s]; rfl
                  · rw [up2_k h, up2_k h, up2_k h]
                · rw [hjv127, htt, show encT B (q, B p, p, p + 1) = 0 from if_neg hkq.2]
              refine lv_iload hE.1 hE.2.1 dX2_open_130 (lv_at hl 6 rfl) ?_
              refine lv_iload hE.1 hE.2.1 dX2_open_132 (lv_at hl 0 rfl) ?_
              refine rn_if_eq (tgt := 141) hE dX2_open_134 (by decide) (by omega) (fun c134 => ?_) (fun c134 => ?_)
              · refine lv_iconst (v := nI 1) hE.1 hE.2.1 dX2_open_141 (by decide) ?_
                refine rn_iadd hE dX2_open_142 ?_
                refine lv_istore (lv' := [(4, .int (nI (p + 1))), (6, .int (nI 0)), (5, .int (sbI (B p))), (0, .ref (G.ad 103)), (1, .ref (G.ad 101)), (2, .int (nI n)), (3, .int (nI n))]) hE.1 hE.2.1 dX2_open_143 hl (by decide) rfl (fun ls hl => ?_)
                refine lv_goto (tgt := 15) hE.1 hE.2.1 dX2_open_145 (by decide) ?_
                exact ih15 (iv127, jv127, p + 1, k + 1) _ _ _ (show n - (p + 1) < n - p by omega) ⟨by show p + 1 ≤ n; omega, by show k + 1 ≤ p + 1; omega, by dsimp only; rw [hiv127]; rfl, hLT2, htk2, hFr2, hFj2⟩ (lv_sub hl [3, 4, 5, 6, 0] rfl) hH
              · omega
            · omega
          · rw [sb_eq _ hB 45 (by decide)] at c79
            refine lv_iload hE.1 hE.2.1 dX2_open_82 (lv_at hl 5 rfl) ?_
            refine lv_iconst (v := nI 1) hE.1 hE.2.1 dX2_open_84 (by decide) ?_
            refine rn_iadd hE dX2_open_85 ?_
            refine lv_iload_n hE.1 hE.2.1 dX2_open_86 rfl (lv_at hl 4 rfl) ?_
            refine rn_icmp_ge (tgt := 105) hE dX2_open_87 (by decide) (by omega) (by omega) (fun c87 => ?_) (fun c87 => ?_)
            · have hna : ¬ (B p = 45 ∧ p + 1 < n ∧ B (p + 1) = 62) := fun h => by omega
              refine lv_iconst (v := nI 0) hE.1 hE.2.1 dX2_open_105 (by decide) ?_
              refine lv_istore (lv' := [(6, .int (nI 0)), (5, .int (sbI (B p))), (0, .ref (G.ad 103)), (1, .ref (G.ad 101)), (2, .int (nI n)), (3, .int (nI n)), (4, .int (nI p))]) hE.1 hE.2.1 dX2_open_106 hl (by decide) rfl (fun ls hl => ?_)
              refine lv_aload_n hE.1 hE.2.1 dX2_open_108 rfl (lv_at hl 2 rfl) ?_
              refine lv_iload hE.1 hE.2.1 dX2_open_109 (lv_at hl 0 rfl) ?_
              refine rn_if_eq (tgt := 119) hE dX2_open_111 (by decide) (by omega) (fun c111 => ?_) (fun c111 => ?_)
              · refine lv_iload hE.1 hE.2.1 dX2_open_119 (lv_at hl 1 rfl) ?_
                refine rg_SI (As := [.int (sbI (B p))]) (rest := [.ref (G.ad 103)]) hE hml hH mc_X2_56 (c_Lx_sg l z G iv2 jv2 (B p) (hB)) rfl ⟨Nat.le_of_ble_eq_true rfl, Nat.le_of_ble_eq_true rfl⟩ rfl hl.1 (by simp [Value.category]) dX2_open_121 ⟨Nat.le_of_ble_eq_true rfl, Nat.le_of_ble_eq_true rfl⟩ (fun r121 G121 iv121 jv121 H locs hp121 hH => ?_)
                obtain ⟨rfl, rfl, rfl, rfl⟩ := hp121
                refine lv_iload hE.1 hE.2.1 dX2_open_124 (lv_at hl 6 rfl) ?_
                refine lv_lconst (v := 0) hE.1 hE.2.1 dX2_open_126 (by decide) ?_
                refine rg_VV (As := [.int (nI (sgk (B p))), .int (nI p), .long (0)]) (rest := []) hE hml hH mc_X2_60 (c_Lx_add l z G hX iv2 jv2 k (sgk (B p)) p 0 (by omega) h3) (hX.2.1.1) (hX.2.1.2) (by decide) rfl ⟨Nat.le_of_ble_eq_true rfl, Nat.le_of_ble_eq_true rfl⟩ rfl hl.1 (by simp [Value.category]) dX2_open_127 ⟨Nat.le_of_ble_eq_true rfl, Nat.le_of_ble_eq_true rfl⟩ (fun G127 iv127 jv127 H locs hp127 hH => ?_)
                obtain ⟨rfl, hiv127, hjv127⟩ := hp127
                have hFr2 : Fr iv iv127 pL := by rw [hiv127]; exact Fr.up (Fr.up (Fr.up hFr (Or.inr (Or.inl rfl))) (Or.inr (Or.inr rfl))) (Or.inl rfl)
                have hFj2 : FrJ jv jv127 qL' := by rw [hjv127]; exact FrJ.up hFj (Or.inl rfl)
                obtain ⟨q, htt, hkq⟩ : ∃ q, tkN B n k = (q, B p, p, p + 1) ∧ kdT B (q, B p, p, p + 1) = sgk (B p) ∧ q ≠ 1 := by
                  rw [htk, tokB_nb hnb]
                  by_cases hs : B p = 42 ∨ B p = 47 ∨ B p = 33 ∨ B p = 59 ∨ B p = 58
                  · exact ⟨2, tok_sign (by omega) hnw hs, by rw [kdT_2 rfl, sgk_s (by omega)]; rfl, by decide⟩
                  · exact ⟨3, tok_bad (by omega) hnw hs hna, by rw [kdT_3 rfl, sgk_16 hs], by decide⟩
                have htk2 : tkN B n (k + 1) = tokAt B n (p + 1) := by show nx B n (tkN B n k) = _; rw [htt]; rfl
                have hLT2 : LXT iv127 jv127 B n (k + 1) := by
                  refine LXT.add hLT (fun j => ?_) (fun j => ?_) (fun j => ?_)
                  · rw [hiv127, up2_l (by decide), up2_l (by decide), htt, hkq.1]
                  · rw [hiv127, up2_l (by decide), htt]; by_cases h : j = k
                    · subst h; rw [up2_s, up2_s]; rfl
                    · rw [up2_k h, up2_k h, up2_k h]
                  · rw [hjv127, htt, show encT B (q, B p, p, p + 1) = 0 from if_neg hkq.2]
                refine lv_iload hE.1 hE.2.1 dX2_open_130 (lv_at hl 6 rfl) ?_
                refine lv_iload hE.1 hE.2.1 dX2_open_132 (lv_at hl 0 rfl) ?_
                refine rn_if_eq (tgt := 141) hE dX2_open_134 (by decide) (by omega) (fun c134 => ?_) (fun c134 => ?_)
                · refine lv_iconst (v := nI 1) hE.1 hE.2.1 dX2_open_141 (by decide) ?_
                  refine rn_iadd hE dX2_open_142 ?_
                  refine lv_istore (lv' := [(4, .int (nI (p + 1))), (6, .int (nI 0)), (5, .int (sbI (B p))), (0, .ref (G.ad 103)), (1, .ref (G.ad 101)), (2, .int (nI n)), (3, .int (nI n))]) hE.1 hE.2.1 dX2_open_143 hl (by decide) rfl (fun ls hl => ?_)
                  refine lv_goto (tgt := 15) hE.1 hE.2.1 dX2_open_145 (by decide) ?_
                  exact ih15 (iv127, jv127, p + 1, k + 1) _ _ _ (show n - (p + 1) < n - p by omega) ⟨by show p + 1 ≤ n; omega, by show k + 1 ≤ p + 1; omega, by dsimp only; rw [hiv127]; rfl, hLT2, htk2, hFr2, hFj2⟩ (lv_sub hl [3, 4, 5, 6, 0] rfl) hH
                · omega
              · omega
            · refine lv_aload_n hE.1 hE.2.1 dX2_open_90 rfl (lv_at hl 2 rfl) ?_
              refine lv_iload hE.1 hE.2.1 dX2_open_91 (lv_at hl 5 rfl) ?_
              refine lv_iconst (v := nI 1) hE.1 hE.2.1 dX2_open_93 (by decide) ?_
              refine rn_iadd hE dX2_open_94 ?_
              refine rg_bald hE hH (hX.2.2.2.2.2.1.1) (hX.2.2.2.2.2.1.2.1) (by omega) (v := sbI (B (p + 1))) (hTx2.2.1 (p + 1) (by omega)) dX2_open_95 ?_
              refine lv_bipush (v := nI 62) hE.1 hE.2.1 dX2_open_96 (by decide) ?_
              refine rb_raw_ne (t1 := 105) (t2 := 106) hE dX2_open_98 (by decide) dX2_open_101 dX2_open_102 (by decide) dX2_open_105 rfl ?_
              refine lv_istore (lv' := [(6, .int (bI (decide (sbI (B (p + 1)) = nI 62)))), (5, .int (sbI (B p))), (0, .ref (G.ad 103)), (1, .ref (G.ad 101)), (2, .int (nI n)), (3, .int (nI n)), (4, .int (nI p))]) hE.1 hE.2.1 dX2_open_106 hl (by decide) rfl (fun ls hl => ?_)
              refine lv_aload_n hE.1 hE.2.1 dX2_open_108 rfl (lv_at hl 2 rfl) ?_
              refine lv_iload hE.1 hE.2.1 dX2_open_109 (lv_at hl 0 rfl) ?_
              refine rn_ifb_eq (tgt := 119) hE dX2_open_111 (by decide) (fun c111 => ?_) (fun c111 => ?_)
              · have hna : ¬ (B p = 45 ∧ p + 1 < n ∧ B (p + 1) = 62) := fun h => (of_decide_eq_false c111) ((sb_eq _ (hTx.2.2 _ (by omega)) 62 (by decide)).mpr h.2.2)
                refine lv_iload hE.1 hE.2.1 dX2_open_119 (lv_at hl 1 rfl) ?_
                refine rg_SI (As := [.int (sbI (B p))]) (rest := [.ref (G.ad 103)]) hE hml hH mc_X2_56 (c_Lx_sg l z G iv2 jv2 (B p) (hB)) rfl ⟨Nat.le_of_ble_eq_true rfl, Nat.le_of_ble_eq_true rfl⟩ rfl hl.1 (by simp [Value.category]) dX2_open_121 ⟨Nat.le_of_ble_eq_true rfl, Nat.le_of_ble_eq_true rfl⟩ (fun r121 G121 iv121 jv121 H locs hp121 hH => ?_)
                obtain ⟨rfl, rfl, rfl, rfl⟩ := hp121
                refine lv_iload hE.1 hE.2.1 dX2_open_124 (lv_at hl 6 rfl) ?_
                refine lv_lconst (v := 0) hE.1 hE.2.1 dX2_open_126 (by decide) ?_
                refine rg_VV (As := [.int (nI (sgk (B p))), .int (nI p), .long (0)]) (rest := []) hE hml hH mc_X2_60 (c_Lx_add l z G hX iv2 jv2 k (sgk (B p)) p 0 (by omega) h3) (hX.2.1.1) (hX.2.1.2) (by decide) rfl ⟨Nat.le_of_ble_eq_true rfl, Nat.le_of_ble_eq_true rfl⟩ rfl hl.1 (by simp [Value.category]) dX2_open_127 ⟨Nat.le_of_ble_eq_true rfl, Nat.le_of_ble_eq_true rfl⟩ (fun G127 iv127 jv127 H locs hp127 hH => ?_)
                obtain ⟨rfl, hiv127, hjv127⟩ := hp127
                have hFr2 : Fr iv iv127 pL := by rw [hiv127]; exact Fr.up (Fr.up (Fr.up hFr (Or.inr (Or.inl rfl))) (Or.inr (Or.inr rfl))) (Or.inl rfl)
                have hFj2 : FrJ jv jv127 qL' := by rw [hjv127]; exact FrJ.up hFj (Or.inl rfl)
                obtain ⟨q, htt, hkq⟩ : ∃ q, tkN B n k = (q, B p, p, p + 1) ∧ kdT B (q, B p, p, p + 1) = sgk (B p) ∧ q ≠ 1 := by
                  rw [htk, tokB_nb hnb]
                  by_cases hs : B p = 42 ∨ B p = 47 ∨ B p = 33 ∨ B p = 59 ∨ B p = 58
                  · exact ⟨2, tok_sign (by omega) hnw hs, by rw [kdT_2 rfl, sgk_s (by omega)]; rfl, by decide⟩
                  · exact ⟨3, tok_bad (by omega) hnw hs hna, by rw [kdT_3 rfl, sgk_16 hs], by decide⟩
                have htk2 : tkN B n (k + 1) = tokAt B n (p + 1) := by show nx B n (tkN B n k) = _; rw [htt]; rfl
                have hLT2 : LXT iv127 jv127 B n (k + 1) := by
                  refine LXT.add hLT (fun j => ?_) (fun j => ?_) (fun j => ?_)
                  · rw [hiv127, up2_l (by decide), up2_l (by decide), htt, hkq.1]
                  · rw [hiv127, up2_l (by decide), htt]; by_cases h : j = k
                    · subst h; rw [up2_s, up2_s]; rfl
                    · rw [up2_k h, up2_k h, up2_k h]
                  · rw [hjv127, htt, show encT B (q, B p, p, p + 1) = 0 from if_neg hkq.2]
                refine lv_iload hE.1 hE.2.1 dX2_open_130 (lv_at hl 6 rfl) ?_
                refine lv_iload hE.1 hE.2.1 dX2_open_132 (lv_at hl 0 rfl) ?_
                refine rn_ifb_eq (tgt := 141) hE dX2_open_134 (by decide) (fun c134 => ?_) (fun c134 => ?_)
                · refine lv_iconst (v := nI 1) hE.1 hE.2.1 dX2_open_141 (by decide) ?_
                  refine rn_iadd hE dX2_open_142 ?_
                  refine lv_istore (lv' := [(4, .int (nI (p + 1))), (6, .int (bI (decide (sbI (B (p + 1)) = nI 62)))), (5, .int (sbI (B p))), (0, .ref (G.ad 103)), (1, .ref (G.ad 101)), (2, .int (nI n)), (3, .int (nI n))]) hE.1 hE.2.1 dX2_open_143 hl (by decide) rfl (fun ls hl => ?_)
                  refine lv_goto (tgt := 15) hE.1 hE.2.1 dX2_open_145 (by decide) ?_
                  exact ih15 (iv127, jv127, p + 1, k + 1) _ _ _ (show n - (p + 1) < n - p by omega) ⟨by show p + 1 ≤ n; omega, by show k + 1 ≤ p + 1; omega, by dsimp only; rw [hiv127]; rfl, hLT2, htk2, hFr2, hFj2⟩ (lv_sub hl [3, 4, 5, 6, 0] rfl) hH
                · rw [c111] at c134; cases c134
              · have h62 := (sb_eq _ (hTx.2.2 (p + 1) (by omega)) 62 (by decide)).mp (of_decide_eq_true c111)
                have htt : tkN B n k = (2, 256, p, p + 2) := by rw [htk, tokB_nb hnb, tok_arrow (by omega) hnw c79 (by omega) h62]
                refine lv_bipush (v := nI 13) hE.1 hE.2.1 dX2_open_114 (by decide) ?_
                refine lv_goto (tgt := 124) hE.1 hE.2.1 dX2_open_116 (by decide) ?_
                refine lv_iload hE.1 hE.2.1 dX2_open_124 (lv_at hl 6 rfl) ?_
                refine lv_lconst (v := 0) hE.1 hE.2.1 dX2_open_126 (by decide) ?_
                refine rg_VV (As := [.int (nI 13), .int (nI p), .long (0)]) (rest := []) hE hml hH mc_X2_60 (c_Lx_add l z G hX iv2 jv2 k 13 p 0 (by omega) h3) (hX.2.1.1) (hX.2.1.2) (by decide) rfl ⟨Nat.le_of_ble_eq_true rfl, Nat.le_of_ble_eq_true rfl⟩ rfl hl.1 (by simp [Value.category]) dX2_open_127 ⟨Nat.le_of_ble_eq_true rfl, Nat.le_of_ble_eq_true rfl⟩ (fun G127 iv127 jv127 H locs hp127 hH => ?_)
                obtain ⟨rfl, hiv127, hjv127⟩ := hp127
                have hFr2 : Fr iv iv127 pL := by rw [hiv127]; exact Fr.up (Fr.up (Fr.up hFr (Or.inr (Or.inl rfl))) (Or.inr (Or.inr rfl))) (Or.inl rfl)
                have hFj2 : FrJ jv jv127 qL' := by rw [hjv127]; exact FrJ.up hFj (Or.inl rfl)
                have htk2 : tkN B n (k + 1) = tokAt B n (p + 2) := by show nx B n (tkN B n k) = _; rw [htt]; rfl
                have hLT2 : LXT iv127 jv127 B n (k + 1) := by
                  refine LXT.add hLT (fun j => ?_) (fun j => ?_) (fun j => ?_)
                  · rw [hiv127, up2_l (by decide), up2_l (by decide), htt]; rfl
                  · rw [hiv127, up2_l (by decide), htt]; by_cases h : j = k
                    · subst h; rw [up2_s, up2_s]; rfl
                    · rw [up2_k h, up2_k h, up2_k h]
                  · rw [hjv127, htt]; rfl
                refine lv_iload hE.1 hE.2.1 dX2_open_130 (lv_at hl 6 rfl) ?_
                refine lv_iload hE.1 hE.2.1 dX2_open_132 (lv_at hl 0 rfl) ?_
                refine rn_ifb_eq (tgt := 141) hE dX2_open_134 (by decide) (fun c134 => ?_) (fun c134 => ?_)
                · rw [c111] at c134; cases c134
                · refine lv_iconst (v := nI 2) hE.1 hE.2.1 dX2_open_137 (by decide) ?_
                  refine lv_goto (tgt := 142) hE.1 hE.2.1 dX2_open_138 (by decide) ?_
                  refine rn_iadd hE dX2_open_142 ?_
                  refine lv_istore (lv' := [(4, .int (nI (p + 2))), (6, .int (bI (decide (sbI (B (p + 1)) = nI 62)))), (5, .int (sbI (B p))), (0, .ref (G.ad 103)), (1, .ref (G.ad 101)), (2, .int (nI n)), (3, .int (nI n))]) hE.1 hE.2.1 dX2_open_143 hl (by decide) rfl (fun ls hl => ?_)
                  refine lv_goto (tgt := 15) hE.1 hE.2.1 dX2_open_145 (by decide) ?_
                  exact ih15 (iv127, jv127, p + 2, k + 1) _ _ _ (show n - (p + 2) < n - p by omega) ⟨by show p + 2 ≤ n; omega, by show k + 1 ≤ p + 2; omega, by dsimp only; rw [hiv127]; rfl, hLT2, htk2, hFr2, hFj2⟩ (lv_sub hl [3, 4, 5, 6, 0] rfl) hH
        · rw [sb_eq _ hB 10 (by decide)] at c66
          have hbl : isBl (B p) = true := by simp [isBl, c66]
          refine lv_iinc (v := nI (p + 1)) (lv' := [(4, .int (nI (p + 1))), (5, .int (sbI (B p))), (0, .ref (G.ad 103)), (1, .ref (G.ad 101)), (2, .int (nI n)), (3, .int (nI n))]) hE.1 hE.2.1 dX2_open_69 hl (k := 5) rfl (nI_1 _) (by decide) rfl (fun ls hl => ?_)
          refine lv_goto (tgt := 145) hE.1 hE.2.1 dX2_open_72 (by decide) ?_
          refine lv_goto (tgt := 15) hE.1 hE.2.1 dX2_open_145 (by decide) ?_
          exact ih15 (iv2, jv2, p + 1, k) _ _ _ (show n - (p + 1) < n - p by omega) ⟨by show p + 1 ≤ n; omega, by show k ≤ p + 1; omega, h3, hLT, by dsimp only; rw [htk, tokAt_bl (by omega) hbl], hFr, hFj⟩ (lv_sub hl [2, 3, 4, 5, 0] rfl) hH
    · have htt : tkN B n k = (1, 0, p, rowE (fun i => isWS (B i)) n p) := by rw [htk, tokB_nb (ws_nb c32), tok_word (by omega) c32]
      have hre1 := rowE_ge (fun i => isWS (B i)) n (p + 1)
      have hre2 := rowE_le (q := (fun i => isWS (B i))) (n := n) (p := p) (by omega)
      have hre3 : rowE (fun i => isWS (B i)) n p = rowE (fun i => isWS (B i)) n (p + 1) := rowE_go (q := (fun i => isWS (B i))) (by omega) c32
      refine lv_iload hE.1 hE.2.1 dX2_open_35 (lv_at hl 5 rfl) ?_
      refine lv_iconst (v := nI 1) hE.1 hE.2.1 dX2_open_37 (by decide) ?_
      refine rn_iadd hE dX2_open_38 ?_
      refine lv_aload_n hE.1 hE.2.1 dX2_open_39 rfl (lv_at hl 1 rfl) ?_
      refine lv_aload_n hE.1 hE.2.1 dX2_open_40 rfl (lv_at hl 2 rfl) ?_
      refine lv_iload hE.1 hE.2.1 dX2_open_41 (lv_at hl 5 rfl) ?_
      refine lv_iload_n hE.1 hE.2.1 dX2_open_43 rfl (lv_at hl 4 rfl) ?_
      refine rg_VI (As := [.ref (G.ad 101), .int (nI p), .int (nI n)]) (rest := [.int (nI (p + 1))]) hE hml hH mc_X2_49 (c_Lx_cut l z G hX iv2 jv2 B n p k _ hTx2 (by omega) (by omega) h3 rfl) (hX.2.1.1) (hX.2.1.2) (by decide) rfl ⟨Nat.le_of_ble_eq_true rfl, Nat.le_of_ble_eq_true rfl⟩ rfl hl.1 (by simp [Value.category]) dX2_open_44 ⟨Nat.le_of_ble_eq_true rfl, Nat.le_of_ble_eq_true rfl⟩ (fun r44 G44 iv44 jv44 H locs hp44 hH => ?_)
      obtain ⟨rfl, rfl, hiv44, hjv44⟩ := hp44
      have hFr2 : Fr iv iv44 pL := by rw [hiv44]; exact Fr.up (Fr.up (Fr.up hFr (Or.inr (Or.inl rfl))) (Or.inr (Or.inr rfl))) (Or.inl rfl)
      have hFj2 : FrJ jv jv44 qL' := by rw [hjv44]; exact FrJ.up hFj (Or.inl rfl)
      have htk2 : tkN B n (k + 1) = tokAt B n (rowE (fun i => isWS (B i)) n p) := by show nx B n (tkN B n k) = _; rw [htt]; rfl
      have hLT2 : LXT iv44 jv44 B n (k + 1) := by
        refine LXT.add hLT (fun j => ?_) (fun j => ?_) (fun j => ?_)
        · rw [hiv44, up2_l (by decide), up2_l (by decide), htt, kdT_1 rfl]; rfl
        · rw [hiv44, up2_l (by decide), htt]; by_cases h : j = k
          · subst h; rw [up2_s, up2_s]; rfl
          · rw [up2_k h, up2_k h, up2_k h]
        · rw [hjv44, htt]; rfl
      refine rg_max (x := p + 1) (y := rowE (fun i => isWS (B i)) n p) (rest := []) hE hml hl.1 mc_X2_53 ⟨Nat.le_of_ble_eq_true rfl, Nat.le_of_ble_eq_true rfl⟩ ⟨Nat.le_of_ble_eq_true rfl, Nat.le_of_ble_eq_true rfl⟩ (by simp [Value.category]) (by omega) (by omega) dX2_open_47 ?_
      refine rn_as (v' := nI (rowE (fun i => isWS (B i)) n p)) (by rw [Nat.max_eq_right (by omega)]) ?_
      refine lv_istore (lv' := [(4, .int (nI (rowE (fun i => isWS (B i)) n p))), (5, .int (sbI (B p))), (0, .ref (G.ad 103)), (1, .ref (G.ad 101)), (2, .int (nI n)), (3, .int (nI n))]) hE.1 hE.2.1 dX2_open_50 hl (by decide) rfl (fun ls hl => ?_)
      refine lv_goto (tgt := 145) hE.1 hE.2.1 dX2_open_52 (by decide) ?_
      refine lv_goto (tgt := 15) hE.1 hE.2.1 dX2_open_145 (by decide) ?_
      exact ih15 (iv44, jv44, rowE (fun i => isWS (B i)) n p, k + 1) _ _ _ (show n - rowE (fun i => isWS (B i)) n p < n - p by omega) ⟨by show rowE (fun i => isWS (B i)) n p ≤ n; omega, by show k + 1 ≤ rowE (fun i => isWS (B i)) n p; omega, by dsimp only; rw [hiv44]; rfl, hLT2, htk2, hFr2, hFj2⟩ (lv_sub hl [2, 3, 4, 5, 0] rfl) hH
