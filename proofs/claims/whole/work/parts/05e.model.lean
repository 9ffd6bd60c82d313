set_option maxRecDepth 100000 in
set_option maxHeartbeats 4000000 in
theorem c_Lx_open (l : Launch) (z : ZK) (G : GW) (hX : isPx G) (iv : IV) (jv : JV) (B : Nat → Nat) (n : Nat) (hTx : TXc iv B n) : cV l z yX2_open cX2_open 7 none 7 157 0 0 [.ref (G.ad 103), .ref (G.ad 101), .int (nI n)] G iv jv (fun G' iv' jv' => G = G' ∧ LR iv' jv' B n (tkN B n 0) ∧ Fr iv iv' pL ∧ FrJ jv jv' qL') := by
  intro sz
  refine rg_entry rfl (Nat.le_of_ble_eq_true rfl) ?_
  intro pq eq sq mq bq methq cq ls hE hr hlk hml hnm hl hsz hH
  have hl : lv_has ls 7 [(0, .ref (G.ad 103)), (1, .ref (G.ad 101)), (2, .int (nI n))] := hl
  have hl104 : G.ln 104 = 1001 := hX.2.2.1.2.2
  have hl105 : G.ln 105 = 1001 := hX.2.2.2.1.2.2
  have hl106 : G.ln 106 = 1001 := hX.2.2.2.2.1.2.2
  have hl101 : G.ln 101 = 1000 := hX.2.2.2.2.2.1.2.2
  have hn1 := hTx.1
  refine lv_iload_n hE.1 hE.2.1 dX2_open_0 rfl (lv_at hl 2 rfl) ?_
  refine lv_aload_n hE.1 hE.2.1 dX2_open_1 rfl (lv_at hl 1 rfl) ?_
  refine rg_alen hE hH (hX.2.2.2.2.2.1.1) (hX.2.2.2.2.2.1.2.1) (by decide) (by decide) dX2_open_2 ?_
  rw [hl101]
  refine rg_min (x := n) (y := 1000) (rest := []) hE hml hl.1 mc_X2_39 ⟨Nat.le_of_ble_eq_true rfl, Nat.le_of_ble_eq_true rfl⟩ ⟨Nat.le_of_ble_eq_true rfl, Nat.le_of_ble_eq_true rfl⟩ (by simp [Value.category]) (by omega) (by omega) dX2_open_3 ?_
  refine rn_as (v' := nI n) (by rw [Nat.min_eq_left (by omega)]) ?_
  refine lv_istore_n (lv' := [(3, .int (nI n)), (0, .ref (G.ad 103)), (1, .ref (G.ad 101)), (2, .int (nI n))]) hE.1 hE.2.1 dX2_open_6 rfl hl (by decide) rfl (fun ls hl => ?_)
  refine lv_iconst (v := nI 0) hE.1 hE.2.1 dX2_open_7 (by decide) ?_
  refine lv_istore (lv' := [(4, .int (nI 0)), (3, .int (nI n)), (0, .ref (G.ad 103)), (1, .ref (G.ad 101)), (2, .int (nI n))]) hE.1 hE.2.1 dX2_open_8 hl (by decide) rfl (fun ls hl => ?_)
  refine lv_aload_n hE.1 hE.2.1 dX2_open_10 rfl (lv_at hl 2 rfl) ?_
  refine lv_iconst (v := nI 0) hE.1 hE.2.1 dX2_open_11 (by decide) ?_
  refine rg_puti hE hH cf_X2 fl_X2_22 rfl fn_X2_3 (hX.2.1.1) (hX.2.1.2) (v := nI 0) dX2_open_12 (fun H locs hH => ?_)
  have hFr : Fr iv (up2 iv 103 3 (nI 0)) pL := Fr.up Fr.rf (Or.inl rfl)
  refine rg_loop (σ := IV × JV × Nat × Nat) (nL := 7) (fun (u : IV × JV × Nat × Nat) => match u with | (iv2, jv2, p, k) => n - p) (fun (u : IV × JV × Nat × Nat) => match u with | (iv2, jv2, p, k) => [(0, .ref (G.ad 103)), (1, .ref (G.ad 101)), (2, .int (nI n)), (3, .int (nI n)), (4, .int (nI p))]) (fun (u : IV × JV × Nat × Nat) => match u with | (iv2, jv2, p, k) => G) (fun (u : IV × JV × Nat × Nat) => match u with | (iv2, jv2, p, k) => iv2) (fun (u : IV × JV × Nat × Nat) => match u with | (iv2, jv2, p, k) => jv2) (fun (u : IV × JV × Nat × Nat) => match u with | (iv2, jv2, p, k) => p ≤ n ∧ k ≤ p ∧ iv2 103 3 = nI k ∧ LXT iv2 jv2 B n k ∧ tkN B n k = tokAt B n p ∧ Fr iv iv2 pL ∧ FrJ jv jv2 qL') ?_ ((up2 iv 103 3 (nI 0), jv, 0, 0)) ⟨Nat.zero_le _, Nat.le_refl _, rfl, fun j hj => absurd hj (Nat.not_lt_zero j), rfl, hFr, FrJ.rf⟩ (lv_sub hl [2, 3, 4, 1, 0] rfl) hH
  rintro ⟨iv2, jv2, p, k⟩ H locs ls ⟨hpn, hkp, h3, hLT, htk, hFr, hFj⟩ hl hH ih15
  try dsimp only at hl hH ih15
  try dsimp only at hpn hkp h3 hLT htk hFr hFj
  have hTx2 := hTx.fr hFr (fun k => by simp)
  refine lv_iload hE.1 hE.2.1 dX2_open_15 (lv_at hl 4 rfl) ?_
  refine lv_iload_n hE.1 hE.2.1 dX2_open_17 rfl (lv_at hl 3 rfl) ?_
  refine rn_icmp_ge (tgt := 141) hE dX2_open_18 (by decide) (by omega) (by omega) (fun c18 => ?_) (fun c18 => ?_)
  · have hpe : p = n := by omega
    refine lv_aload_n hE.1 hE.2.1 dX2_open_141 rfl (lv_at hl 0 rfl) ?_
    refine lv_bipush (v := nI 15) hE.1 hE.2.1 dX2_open_142 (by decide) ?_
    refine lv_iload_n hE.1 hE.2.1 dX2_open_144 rfl (lv_at hl 3 rfl) ?_
    refine lv_lconst (v := 0) hE.1 hE.2.1 dX2_open_145 (by decide) ?_
    refine rg_VV (As := [.int (nI 15), .int (nI n), .long (0)]) (rest := []) hE hml hH mc_X2_57 (c_Lx_add l z G hX iv2 jv2 k 15 n 0 (by omega) h3) (hX.2.1.1) (hX.2.1.2) (by decide) rfl ⟨Nat.le_of_ble_eq_true rfl, Nat.le_of_ble_eq_true rfl⟩ rfl hl.1 (by simp [Value.category]) dX2_open_146 ⟨Nat.le_of_ble_eq_true rfl, Nat.le_of_ble_eq_true rfl⟩ (fun G146 iv146 jv146 H locs hp146 hH => ?_)
    obtain ⟨rfl, hiv146, hjv146⟩ := hp146
    have htt : tkN B n k = (0, 0, n, n) := by rw [htk, hpe, tokAt, rowE_end (Nat.le_refl _), tok_end (Nat.le_refl _)]
    have hFr2 : Fr iv iv146 pL := by rw [hiv146]; exact Fr.up (Fr.up (Fr.up hFr (Or.inr (Or.inl rfl))) (Or.inr (Or.inr rfl))) (Or.inl rfl)
    have hFj2 : FrJ jv jv146 qL' := by rw [hjv146]; exact FrJ.up hFj (Or.inl rfl)
    have hLT2 : LXT iv146 jv146 B n (k + 1) := by
      refine LXT.add hLT (fun j => ?_) (fun j => ?_) (fun j => ?_)
      · rw [hiv146, up2_l (by decide), up2_l (by decide), htt]; rfl
      · rw [hiv146, up2_l (by decide), htt]; by_cases h : j = k
        · subst h; rw [up2_s, up2_s]; rfl
        · rw [up2_k h, up2_k h, up2_k h]
      · rw [hjv146, htt]; rfl
    have h3b : iv146 103 3 = nI (k + 1) := by rw [hiv146]; rfl
    refine lv_aload_n hE.1 hE.2.1 dX2_open_149 rfl (lv_at hl 0 rfl) ?_
    refine lv_iconst (v := -1) hE.1 hE.2.1 dX2_open_150 (by decide) ?_
    refine rg_puti hE hH cf_X2 fl_X2_26 rfl fn_X2_4 (hX.2.1.1) (hX.2.1.2) (v := -1) dX2_open_151 (fun H locs hH => ?_)
    have hLT3 : LXT (up2 iv146 103 4 (-1)) jv146 B n (k + 1) := hLT2
    have h3c : (up2 iv146 103 4 (-1)) 103 3 = nI (k + 1) := h3b
    have hFr3 : Fr iv (up2 iv146 103 4 (-1)) pL := Fr.up hFr2 (Or.inl rfl)
    refine lv_aload_n hE.1 hE.2.1 dX2_open_154 rfl (lv_at hl 0 rfl) ?_
    refine rg_VV (As := []) (rest := []) hE hml hH mc_X2_61 (c_Lx_next0 l z G hX (up2 iv146 103 4 (-1)) jv146 B n k hTx.1 (by omega) (by rw [htt]; rfl) h3c hLT3 rfl) (hX.2.1.1) (hX.2.1.2) (by decide) rfl ⟨Nat.le_of_ble_eq_true rfl, Nat.le_of_ble_eq_true rfl⟩ rfl hl.1 (by simp [Value.category]) dX2_open_155 ⟨Nat.le_of_ble_eq_true rfl, Nat.le_of_ble_eq_true rfl⟩ (fun G155 iv155 jv155 H locs hp155 hH => ?_)
    obtain ⟨rfl, hLR, hF155, hJ155⟩ := hp155
    exact rg_vret hE hr hlk hH ⟨rfl, hLR, hFr3.tr (hF155.mono (fun lb j h => Or.inl h.1)), hFj2.tr (hJ155.mono (fun lb j h => Or.inr h))⟩ dX2_open_158
  · have hB := hTx.2.2 p (by omega)
    refine lv_aload_n hE.1 hE.2.1 dX2_open_21 rfl (lv_at hl 1 rfl) ?_
    refine lv_iload hE.1 hE.2.1 dX2_open_22 (lv_at hl 4 rfl) ?_
    refine rg_bald hE hH (hX.2.2.2.2.2.1.1) (hX.2.2.2.2.2.1.2.1) (by omega) (v := sbI (B p)) (hTx2.2.1 p (by omega)) dX2_open_24 ?_
    refine lv_istore (lv' := [(5, .int (sbI (B p))), (0, .ref (G.ad 103)), (1, .ref (G.ad 101)), (2, .int (nI n)), (3, .int (nI n)), (4, .int (nI p))]) hE.1 hE.2.1 dX2_open_25 hl (by decide) rfl (fun ls hl => ?_)
    refine lv_iload hE.1 hE.2.1 dX2_open_27 (lv_at hl 0 rfl) ?_
    refine rg_SI (As := [.int (sbI (B p))]) (rest := []) hE hml hH mc_X2_45 (c_Lx_ws l z G iv2 jv2 (sbI (B p))) rfl ⟨Nat.le_of_ble_eq_true rfl, Nat.le_of_ble_eq_true rfl⟩ rfl hl.1 (by simp [Value.category]) dX2_open_29 ⟨Nat.le_of_ble_eq_true rfl, Nat.le_of_ble_eq_true rfl⟩ (fun r29 G29 iv29 jv29 H locs hp29 hH => ?_)
    obtain ⟨rfl, rfl, rfl, rfl⟩ := hp29
    refine rn_as (v' := bI (isWS (B p))) (by rw [ws_sb _ hB]) ?_
    refine rn_ifb_eq (tgt := 48) hE dX2_open_32 (by decide) (fun c32 => ?_) (fun c32 => ?_)
    · have hnw := c32
      refine lv_iload hE.1 hE.2.1 dX2_open_48 (lv_at hl 0 rfl) ?_
      refine lv_bipush (v := nI 32) hE.1 hE.2.1 dX2_open_50 (by decide) ?_
      refine lv_icmp_eq (tgt := 62) hE.1 hE.2.1 dX2_open_52 (by decide) (fun c52 => ?_) (fun c52 => ?_)
      · rw [sb_eq _ hB 32 (by decide)] at c52
        have hbl : isBl (B p) = true := by simp [isBl, c52]
        refine lv_iinc (v := nI (p + 1)) (lv' := [(4, .int (nI (p + 1))), (5, .int (sbI (B p))), (0, .ref (G.ad 103)), (1, .ref (G.ad 101)), (2, .int (nI n)), (3, .int (nI n))]) hE.1 hE.2.1 dX2_open_62 hl (k := 5) rfl (nI_1 _) (by decide) rfl (fun ls hl => ?_)
        refine lv_goto (tgt := 138) hE.1 hE.2.1 dX2_open_65 (by decide) ?_
        refine lv_goto (tgt := 15) hE.1 hE.2.1 dX2_open_138 (by decide) ?_
        exact ih15 (iv2, jv2, p + 1, k) _ _ _ (show n - (p + 1) < n - p by omega) ⟨by show p + 1 ≤ n; omega, by show k ≤ p + 1; omega, h3, hLT, by dsimp only; rw [htk, tokAt_bl (by omega) hbl], hFr, hFj⟩ (lv_sub hl [2, 3, 4, 5, 0] rfl) hH
      · rw [sb_eq _ hB 32 (by decide)] at c52
        refine lv_iload hE.1 hE.2.1 dX2_open_55 (lv_at hl 0 rfl) ?_
        refine lv_bipush (v := nI 10) hE.1 hE.2.1 dX2_open_57 (by decide) ?_
        refine lv_icmp_ne (tgt := 68) hE.1 hE.2.1 dX2_open_59 (by decide) (fun c59 => ?_) (fun c59 => ?_)
        · rw [sb_eq _ hB 10 (by decide)] at c59
          have hnb : isBl (B p) = false := by simp [isBl, c52, c59]
          refine lv_iload hE.1 hE.2.1 dX2_open_68 (lv_at hl 0 rfl) ?_
          refine lv_bipush (v := nI 45) hE.1 hE.2.1 dX2_open_70 (by decide) ?_
          refine lv_icmp_ne (tgt := 98) hE.1 hE.2.1 dX2_open_72 (by decide) (fun c72 => ?_) (fun c72 => ?_)
          · rw [sb_eq _ hB 45 (by decide)] at c72
            have hna : ¬ (B p = 45 ∧ p + 1 < n ∧ B (p + 1) = 62) := fun h => c72 h.1
            refine lv_iconst (v := nI 0) hE.1 hE.2.1 dX2_open_98 (by decide) ?_
            refine lv_istore (lv' := [(6, .int (nI 0)), (5, .int (sbI (B p))), (0, .ref (G.ad 103)), (1, .ref (G.ad 101)), (2, .int (nI n)), (3, .int (nI n)), (4, .int (nI p))]) hE.1 hE.2.1 dX2_open_99 hl (by decide) rfl (fun ls hl => ?_)
            refine lv_aload_n hE.1 hE.2.1 dX2_open_101 rfl (lv_at hl 2 rfl) ?_
            refine lv_iload hE.1 hE.2.1 dX2_open_102 (lv_at hl 0 rfl) ?_
            refine rn_if_eq (tgt := 112) hE dX2_open_104 (by decide) (by omega) (fun c104 => ?_) (fun c104 => ?_)
            · refine lv_iload hE.1 hE.2.1 dX2_open_112 (lv_at hl 1 rfl) ?_
              refine rg_SI (As := [.int (sbI (B p))]) (rest := [.ref (G.ad 103)]) hE hml hH mc_X2_53 (c_Lx_sg l z G iv2 jv2 (B p) (hB)) rfl ⟨Nat.le_of_ble_eq_true rfl, Nat.le_of_ble_eq_true rfl⟩ rfl hl.1 (by simp [Value.category]) dX2_open_114 ⟨Nat.le_of_ble_eq_true rfl, Nat.le_of_ble_eq_true rfl⟩ (fun r114 G114 iv114 jv114 H locs hp114 hH => ?_)
              obtain ⟨rfl, rfl, rfl, rfl⟩ := hp114
              refine lv_iload hE.1 hE.2.1 dX2_open_117 (lv_at hl 6 rfl) ?_
              refine lv_lconst (v := 0) hE.1 hE.2.1 dX2_open_119 (by decide) ?_
              refine rg_VV (As := [.int (nI (sgk (B p))), .int (nI p), .long (0)]) (rest := []) hE hml hH mc_X2_57 (c_Lx_add l z G hX iv2 jv2 k (sgk (B p)) p 0 (by omega) h3) (hX.2.1.1) (hX.2.1.2) (by decide) rfl ⟨Nat.le_of_ble_eq_true rfl, Nat.le_of_ble_eq_true rfl⟩ rfl hl.1 (by simp [Value.category]) dX2_open_120 ⟨Nat.le_of_ble_eq_true rfl, Nat.le_of_ble_eq_true rfl⟩ (fun G120 iv120 jv120 H locs hp120 hH => ?_)
              obtain ⟨rfl, hiv120, hjv120⟩ := hp120
              have hFr2 : Fr iv iv120 pL := by rw [hiv120]; exact Fr.up (Fr.up (Fr.up hFr (Or.inr (Or.inl rfl))) (Or.inr (Or.inr rfl))) (Or.inl rfl)
              have hFj2 : FrJ jv jv120 qL' := by rw [hjv120]; exact FrJ.up hFj (Or.inl rfl)
              obtain ⟨q, htt, hkq⟩ : ∃ q, tkN B n k = (q, B p, p, p + 1) ∧ kdT B (q, B p, p, p + 1) = sgk (B p) ∧ q ≠ 1 := by
                rw [htk, tokB_nb hnb]
                by_cases hs : B p = 42 ∨ B p = 47 ∨ B p = 33 ∨ B p = 59 ∨ B p = 58
                · exact ⟨2, tok_sign (by omega) hnw hs, by rw [kdT_2 rfl, sgk_s (by omega)]; rfl, by decide⟩
                · exact ⟨3, tok_bad (by omega) hnw hs hna, by rw [kdT_3 rfl, sgk_16 hs], by decide⟩
              have htk2 : tkN B n (k + 1) = tokAt B n (p + 1) := by show nx B n (tkN B n k) = _; rw [htt]; rfl
              have hLT2 : LXT iv120 jv120 B n (k + 1) := by
                refine LXT.add hLT (fun j => ?_) (fun j => ?_) (fun j => ?_)
                · rw [hiv120, up2_l (by decide), up2_l (by decide), htt, hkq.1]
                · rw [hiv120, up2_l (by decide), htt]; by_cases h : j = k
                  · subst h; rw [up2_s, up2_s]; rfl
                  · rw [up2_k h, up2_k h, up2_k h]
                · rw [hjv120, htt, show encT B (q, B p, p, p + 1) = 0 from if_neg hkq.2]
              refine lv_iload hE.1 hE.2.1 dX2_open_123 (lv_at hl 6 rfl) ?_
              refine lv_iload hE.1 hE.2.1 dX2_open_125 (lv_at hl 0 rfl) ?_
              refine rn_if_eq (tgt := 134) hE dX2_open_127 (by decide) (by omega) (fun c127 => ?_) (fun c127 => ?_)
              · refine lv_iconst (v := nI 1) hE.1 hE.2.1 dX2_open_134 (by decide) ?_
                refine rn_iadd hE dX2_open_135 ?_
                refine lv_istore (lv' := [(4, .int (nI (p + 1))), (6, .int (nI 0)), (5, .int (sbI (B p))), (0, .ref (G.ad 103)), (1, .ref (G.ad 101)), (2, .int (nI n)), (3, .int (nI n))]) hE.1 hE.2.1 dX2_open_136 hl (by decide) rfl (fun ls hl => ?_)
                refine lv_goto (tgt := 15) hE.1 hE.2.1 dX2_open_138 (by decide) ?_
                exact ih15 (iv120, jv120, p + 1, k + 1) _ _ _ (show n - (p + 1) < n - p by omega) ⟨by show p + 1 ≤ n; omega, by show k + 1 ≤ p + 1; omega, by dsimp only; rw [hiv120]; rfl, hLT2, htk2, hFr2, hFj2⟩ (lv_sub hl [3, 4, 5, 6, 0] rfl) hH
              · omega
            · omega
          · rw [sb_eq _ hB 45 (by decide)] at c72
            refine lv_iload hE.1 hE.2.1 dX2_open_75 (lv_at hl 5 rfl) ?_
            refine lv_iconst (v := nI 1) hE.1 hE.2.1 dX2_open_77 (by decide) ?_
            refine rn_iadd hE dX2_open_78 ?_
            refine lv_iload_n hE.1 hE.2.1 dX2_open_79 rfl (lv_at hl 4 rfl) ?_
            refine rn_icmp_ge (tgt := 98) hE dX2_open_80 (by decide) (by omega) (by omega) (fun c80 => ?_) (fun c80 => ?_)
            · have hna : ¬ (B p = 45 ∧ p + 1 < n ∧ B (p + 1) = 62) := fun h => by omega
              refine lv_iconst (v := nI 0) hE.1 hE.2.1 dX2_open_98 (by decide) ?_
              refine lv_istore (lv' := [(6, .int (nI 0)), (5, .int (sbI (B p))), (0, .ref (G.ad 103)), (1, .ref (G.ad 101)), (2, .int (nI n)), (3, .int (nI n)), (4, .int (nI p))]) hE.1 hE.2.1 dX2_open_99 hl (by decide) rfl (fun ls hl => ?_)
              refine lv_aload_n hE.1 hE.2.1 dX2_open_101 rfl (lv_at hl 2 rfl) ?_
              refine lv_iload hE.1 hE.2.1 dX2_open_102 (lv_at hl 0 rfl) ?_
              refine rn_if_eq (tgt := 112) hE dX2_open_104 (by decide) (by omega) (fun c104 => ?_) (fun c104 => ?_)
              · refine lv_iload hE.1 hE.2.1 dX2_open_112 (lv_at hl 1 rfl) ?_
                refine rg_SI (As := [.int (sbI (B p))]) (rest := [.ref (G.ad 103)]) hE hml hH mc_X2_53 (c_Lx_sg l z G iv2 jv2 (B p) (hB)) rfl ⟨Nat.le_of_ble_eq_true rfl, Nat.le_of_ble_eq_true rfl⟩ rfl hl.1 (by simp [Value.category]) dX2_open_114 ⟨Nat.le_of_ble_eq_true rfl, Nat.le_of_ble_eq_true rfl⟩ (fun r114 G114 iv114 jv114 H locs hp114 hH => ?_)
                obtain ⟨rfl, rfl, rfl, rfl⟩ := hp114
                refine lv_iload hE.1 hE.2.1 dX2_open_117 (lv_at hl 6 rfl) ?_
                refine lv_lconst (v := 0) hE.1 hE.2.1 dX2_open_119 (by decide) ?_
                refine rg_VV (As := [.int (nI (sgk (B p))), .int (nI p), .long (0)]) (rest := []) hE hml hH mc_X2_57 (c_Lx_add l z G hX iv2 jv2 k (sgk (B p)) p 0 (by omega) h3) (hX.2.1.1) (hX.2.1.2) (by decide) rfl ⟨Nat.le_of_ble_eq_true rfl, Nat.le_of_ble_eq_true rfl⟩ rfl hl.1 (by simp [Value.category]) dX2_open_120 ⟨Nat.le_of_ble_eq_true rfl, Nat.le_of_ble_eq_true rfl⟩ (fun G120 iv120 jv120 H locs hp120 hH => ?_)
                obtain ⟨rfl, hiv120, hjv120⟩ := hp120
                have hFr2 : Fr iv iv120 pL := by rw [hiv120]; exact Fr.up (Fr.up (Fr.up hFr (Or.inr (Or.inl rfl))) (Or.inr (Or.inr rfl))) (Or.inl rfl)
                have hFj2 : FrJ jv jv120 qL' := by rw [hjv120]; exact FrJ.up hFj (Or.inl rfl)
                obtain ⟨q, htt, hkq⟩ : ∃ q, tkN B n k = (q, B p, p, p + 1) ∧ kdT B (q, B p, p, p + 1) = sgk (B p) ∧ q ≠ 1 := by
                  rw [htk, tokB_nb hnb]
                  by_cases hs : B p = 42 ∨ B p = 47 ∨ B p = 33 ∨ B p = 59 ∨ B p = 58
                  · exact ⟨2, tok_sign (by omega) hnw hs, by rw [kdT_2 rfl, sgk_s (by omega)]; rfl, by decide⟩
                  · exact ⟨3, tok_bad (by omega) hnw hs hna, by rw [kdT_3 rfl, sgk_16 hs], by decide⟩
                have htk2 : tkN B n (k + 1) = tokAt B n (p + 1) := by show nx B n (tkN B n k) = _; rw [htt]; rfl
                have hLT2 : LXT iv120 jv120 B n (k + 1) := by
                  refine LXT.add hLT (fun j => ?_) (fun j => ?_) (fun j => ?_)
                  · rw [hiv120, up2_l (by decide), up2_l (by decide), htt, hkq.1]
                  · rw [hiv120, up2_l (by decide), htt]; by_cases h : j = k
                    · subst h; rw [up2_s, up2_s]; rfl
                    · rw [up2_k h, up2_k h, up2_k h]
                  · rw [hjv120, htt, show encT B (q, B p, p, p + 1) = 0 from if_neg hkq.2]
                refine lv_iload hE.1 hE.2.1 dX2_open_123 (lv_at hl 6 rfl) ?_
                refine lv_iload hE.1 hE.2.1 dX2_open_125 (lv_at hl 0 rfl) ?_
                refine rn_if_eq (tgt := 134) hE dX2_open_127 (by decide) (by omega) (fun c127 => ?_) (fun c127 => ?_)
                · refine lv_iconst (v := nI 1) hE.1 hE.2.1 dX2_open_134 (by decide) ?_
                  refine rn_iadd hE dX2_open_135 ?_
                  refine lv_istore (lv' := [(4, .int (nI (p + 1))), (6, .int (nI 0)), (5, .int (sbI (B p))), (0, .ref (G.ad 103)), (1, .ref (G.ad 101)), (2, .int (nI n)), (3, .int (nI n))]) hE.1 hE.2.1 dX2_open_136 hl (by decide) rfl (fun ls hl => ?_)
                  refine lv_goto (tgt := 15) hE.1 hE.2.1 dX2_open_138 (by decide) ?_
                  exact ih15 (iv120, jv120, p + 1, k + 1) _ _ _ (show n - (p + 1) < n - p by omega) ⟨by show p + 1 ≤ n; omega, by show k + 1 ≤ p + 1; omega, by dsimp only; rw [hiv120]; rfl, hLT2, htk2, hFr2, hFj2⟩ (lv_sub hl [3, 4, 5, 6, 0] rfl) hH
                · omega
              · omega
            · refine lv_aload_n hE.1 hE.2.1 dX2_open_83 rfl (lv_at hl 2 rfl) ?_
              refine lv_iload hE.1 hE.2.1 dX2_open_84 (lv_at hl 5 rfl) ?_
              refine lv_iconst (v := nI 1) hE.1 hE.2.1 dX2_open_86 (by decide) ?_
              refine rn_iadd hE dX2_open_87 ?_
              refine rg_bald hE hH (hX.2.2.2.2.2.1.1) (hX.2.2.2.2.2.1.2.1) (by omega) (v := sbI (B (p + 1))) (hTx2.2.1 (p + 1) (by omega)) dX2_open_88 ?_
              refine lv_bipush (v := nI 62) hE.1 hE.2.1 dX2_open_89 (by decide) ?_
              refine rb_raw_ne (t1 := 98) (t2 := 99) hE dX2_open_91 (by decide) dX2_open_94 dX2_open_95 (by decide) dX2_open_98 rfl ?_
              refine lv_istore (lv' := [(6, .int (bI (decide (sbI (B (p + 1)) = nI 62)))), (5, .int (sbI (B p))), (0, .ref (G.ad 103)), (1, .ref (G.ad 101)), (2, .int (nI n)), (3, .int (nI n)), (4, .int (nI p))]) hE.1 hE.2.1 dX2_open_99 hl (by decide) rfl (fun ls hl => ?_)
              refine lv_aload_n hE.1 hE.2.1 dX2_open_101 rfl (lv_at hl 2 rfl) ?_
              refine lv_iload hE.1 hE.2.1 dX2_open_102 (lv_at hl 0 rfl) ?_
              refine rn_ifb_eq (tgt := 112) hE dX2_open_104 (by decide) (fun c104 => ?_) (fun c104 => ?_)
              · have hna : ¬ (B p = 45 ∧ p + 1 < n ∧ B (p + 1) = 62) := fun h => (of_decide_eq_false c104) ((sb_eq _ (hTx.2.2 _ (by omega)) 62 (by decide)).mpr h.2.2)
                refine lv_iload hE.1 hE.2.1 dX2_open_112 (lv_at hl 1 rfl) ?_
                refine rg_SI (As := [.int (sbI (B p))]) (rest := [.ref (G.ad 103)]) hE hml hH mc_X2_53 (c_Lx_sg l z G iv2 jv2 (B p) (hB)) rfl ⟨Nat.le_of_ble_eq_true rfl, Nat.le_of_ble_eq_true rfl⟩ rfl hl.1 (by simp [Value.category]) dX2_open_114 ⟨Nat.le_of_ble_eq_true rfl, Nat.le_of_ble_eq_true rfl⟩ (fun r114 G114 iv114 jv114 H locs hp114 hH => ?_)
                obtain ⟨rfl, rfl, rfl, rfl⟩ := hp114
                refine lv_iload hE.1 hE.2.1 dX2_open_117 (lv_at hl 6 rfl) ?_
                refine lv_lconst (v := 0) hE.1 hE.2.1 dX2_open_119 (by decide) ?_
                refine rg_VV (As := [.int (nI (sgk (B p))), .int (nI p), .long (0)]) (rest := []) hE hml hH mc_X2_57 (c_Lx_add l z G hX iv2 jv2 k (sgk (B p)) p 0 (by omega) h3) (hX.2.1.1) (hX.2.1.2) (by decide) rfl ⟨Nat.le_of_ble_eq_true rfl, Nat.le_of_ble_eq_true rfl⟩ rfl hl.1 (by simp [Value.category]) dX2_open_120 ⟨Nat.le_of_ble_eq_true rfl, Nat.le_of_ble_eq_true rfl⟩ (fun G120 iv120 jv120 H locs hp120 hH => ?_)
                obtain ⟨rfl, hiv120, hjv120⟩ := hp120
                have hFr2 : Fr iv iv120 pL := by rw [hiv120]; exact Fr.up (Fr.up (Fr.up hFr (Or.inr (Or.inl rfl))) (Or.inr (Or.inr rfl))) (Or.inl rfl)
                have hFj2 : FrJ jv jv120 qL' := by rw [hjv120]; exact FrJ.up hFj (Or.inl rfl)
                obtain ⟨q, htt, hkq⟩ : ∃ q, tkN B n k = (q, B p, p, p + 1) ∧ kdT B (q, B p, p, p + 1) = sgk (B p) ∧ q ≠ 1 := by
                  rw [htk, tokB_nb hnb]
                  by_cases hs : B p = 42 ∨ B p = 47 ∨ B p = 33 ∨ B p = 59 ∨ B p = 58
                  · exact ⟨2, tok_sign (by omega) hnw hs, by rw [kdT_2 rfl, sgk_s (by omega)]; rfl, by decide⟩
                  · exact ⟨3, tok_bad (by omega) hnw hs hna, by rw [kdT_3 rfl, sgk_16 hs], by decide⟩
                have htk2 : tkN B n (k + 1) = tokAt B n (p + 1) := by show nx B n (tkN B n k) = _; rw [htt]; rfl
                have hLT2 : LXT iv120 jv120 B n (k + 1) := by
                  refine LXT.add hLT (fun j => ?_) (fun j => ?_) (fun j => ?_)
                  · rw [hiv120, up2_l (by decide), up2_l (by decide), htt, hkq.1]
                  · rw [hiv120, up2_l (by decide), htt]; by_cases h : j = k
                    · subst h; rw [up2_s, up2_s]; rfl
                    · rw [up2_k h, up2_k h, up2_k h]
                  · rw [hjv120, htt, show encT B (q, B p, p, p + 1) = 0 from if_neg hkq.2]
                refine lv_iload hE.1 hE.2.1 dX2_open_123 (lv_at hl 6 rfl) ?_
                refine lv_iload hE.1 hE.2.1 dX2_open_125 (lv_at hl 0 rfl) ?_
                refine rn_ifb_eq (tgt := 134) hE dX2_open_127 (by decide) (fun c127 => ?_) (fun c127 => ?_)
                · refine lv_iconst (v := nI 1) hE.1 hE.2.1 dX2_open_134 (by decide) ?_
                  refine rn_iadd hE dX2_open_135 ?_
                  refine lv_istore (lv' := [(4, .int (nI (p + 1))), (6, .int (bI (decide (sbI (B (p + 1)) = nI 62)))), (5, .int (sbI (B p))), (0, .ref (G.ad 103)), (1, .ref (G.ad 101)), (2, .int (nI n)), (3, .int (nI n))]) hE.1 hE.2.1 dX2_open_136 hl (by decide) rfl (fun ls hl => ?_)
                  refine lv_goto (tgt := 15) hE.1 hE.2.1 dX2_open_138 (by decide) ?_
                  exact ih15 (iv120, jv120, p + 1, k + 1) _ _ _ (show n - (p + 1) < n - p by omega) ⟨by show p + 1 ≤ n; omega, by show k + 1 ≤ p + 1; omega, by dsimp only; rw [hiv120]; rfl, hLT2, htk2, hFr2, hFj2⟩ (lv_sub hl [3, 4, 5, 6, 0] rfl) hH
                · rw [c104] at c127; cases c127
              · have h62 := (sb_eq _ (hTx.2.2 (p + 1) (by omega)) 62 (by decide)).mp (of_decide_eq_true c104)
                have htt : tkN B n k = (2, 256, p, p + 2) := by rw [htk, tokB_nb hnb, tok_arrow (by omega) hnw c72 (by omega) h62]
                refine lv_bipush (v := nI 13) hE.1 hE.2.1 dX2_open_107 (by decide) ?_
                refine lv_goto (tgt := 117) hE.1 hE.2.1 dX2_open_109 (by decide) ?_
                refine lv_iload hE.1 hE.2.1 dX2_open_117 (lv_at hl 6 rfl) ?_
                refine lv_lconst (v := 0) hE.1 hE.2.1 dX2_open_119 (by decide) ?_
                refine rg_VV (As := [.int (nI 13), .int (nI p), .long (0)]) (rest := []) hE hml hH mc_X2_57 (c_Lx_add l z G hX iv2 jv2 k 13 p 0 (by omega) h3) (hX.2.1.1) (hX.2.1.2) (by decide) rfl ⟨Nat.le_of_ble_eq_true rfl, Nat.le_of_ble_eq_true rfl⟩ rfl hl.1 (by simp [Value.category]) dX2_open_120 ⟨Nat.le_of_ble_eq_true rfl, Nat.le_of_ble_eq_true rfl⟩ (fun G120 iv120 jv120 H locs hp120 hH => ?_)
                obtain ⟨rfl, hiv120, hjv120⟩ := hp120
                have hFr2 : Fr iv iv120 pL := by rw [hiv120]; exact Fr.up (Fr.up (Fr.up hFr (Or.inr (Or.inl rfl))) (Or.inr (Or.inr rfl))) (Or.inl rfl)
                have hFj2 : FrJ jv jv120 qL' := by rw [hjv120]; exact FrJ.up hFj (Or.inl rfl)
                have htk2 : tkN B n (k + 1) = tokAt B n (p + 2) := by show nx B n (tkN B n k) = _; rw [htt]; rfl
                have hLT2 : LXT iv120 jv120 B n (k + 1) := by
                  refine LXT.add hLT (fun j => ?_) (fun j => ?_) (fun j => ?_)
                  · rw [hiv120, up2_l (by decide), up2_l (by decide), htt]; rfl
                  · rw [hiv120, up2_l (by decide), htt]; by_cases h : j = k
                    · subst h; rw [up2_s, up2_s]; rfl
                    · rw [up2_k h, up2_k h, up2_k h]
                  · rw [hjv120, htt]; rfl
                refine lv_iload hE.1 hE.2.1 dX2_open_123 (lv_at hl 6 rfl) ?_
                refine lv_iload hE.1 hE.2.1 dX2_open_125 (lv_at hl 0 rfl) ?_
                refine rn_ifb_eq (tgt := 134) hE dX2_open_127 (by decide) (fun c127 => ?_) (fun c127 => ?_)
                · rw [c104] at c127; cases c127
                · refine lv_iconst (v := nI 2) hE.1 hE.2.1 dX2_open_130 (by decide) ?_
                  refine lv_goto (tgt := 135) hE.1 hE.2.1 dX2_open_131 (by decide) ?_
                  refine rn_iadd hE dX2_open_135 ?_
                  refine lv_istore (lv' := [(4, .int (nI (p + 2))), (6, .int (bI (decide (sbI (B (p + 1)) = nI 62)))), (5, .int (sbI (B p))), (0, .ref (G.ad 103)), (1, .ref (G.ad 101)), (2, .int (nI n)), (3, .int (nI n))]) hE.1 hE.2.1 dX2_open_136 hl (by decide) rfl (fun ls hl => ?_)
                  refine lv_goto (tgt := 15) hE.1 hE.2.1 dX2_open_138 (by decide) ?_
                  exact ih15 (iv120, jv120, p + 2, k + 1) _ _ _ (show n - (p + 2) < n - p by omega) ⟨by show p + 2 ≤ n; omega, by show k + 1 ≤ p + 2; omega, by dsimp only; rw [hiv120]; rfl, hLT2, htk2, hFr2, hFj2⟩ (lv_sub hl [3, 4, 5, 6, 0] rfl) hH
        · rw [sb_eq _ hB 10 (by decide)] at c59
          have hbl : isBl (B p) = true := by simp [isBl, c59]
          refine lv_iinc (v := nI (p + 1)) (lv' := [(4, .int (nI (p + 1))), (5, .int (sbI (B p))), (0, .ref (G.ad 103)), (1, .ref (G.ad 101)), (2, .int (nI n)), (3, .int (nI n))]) hE.1 hE.2.1 dX2_open_62 hl (k := 5) rfl (nI_1 _) (by decide) rfl (fun ls hl => ?_)
          refine lv_goto (tgt := 138) hE.1 hE.2.1 dX2_open_65 (by decide) ?_
          refine lv_goto (tgt := 15) hE.1 hE.2.1 dX2_open_138 (by decide) ?_
          exact ih15 (iv2, jv2, p + 1, k) _ _ _ (show n - (p + 1) < n - p by omega) ⟨by show p + 1 ≤ n; omega, by show k ≤ p + 1; omega, h3, hLT, by dsimp only; rw [htk, tokAt_bl (by omega) hbl], hFr, hFj⟩ (lv_sub hl [2, 3, 4, 5, 0] rfl) hH
    · have htt : tkN B n k = (1, 0, p, rowE (fun i => isWS (B i)) n p) := by rw [htk, tokB_nb (ws_nb c32), tok_word (by omega) c32]
      have hre1 := rowE_ge (fun i => isWS (B i)) n (p + 1)
      have hre2 := rowE_le (q := (fun i => isWS (B i))) (n := n) (p := p) (by omega)
      have hre3 : rowE (fun i => isWS (B i)) n p = rowE (fun i => isWS (B i)) n (p + 1) := rowE_go (q := (fun i => isWS (B i))) (by omega) c32
      refine lv_aload_n hE.1 hE.2.1 dX2_open_35 rfl (lv_at hl 1 rfl) ?_
      refine lv_aload_n hE.1 hE.2.1 dX2_open_36 rfl (lv_at hl 2 rfl) ?_
      refine lv_iload hE.1 hE.2.1 dX2_open_37 (lv_at hl 5 rfl) ?_
      refine lv_iload_n hE.1 hE.2.1 dX2_open_39 rfl (lv_at hl 4 rfl) ?_
      refine rg_VI (As := [.ref (G.ad 101), .int (nI p), .int (nI n)]) (rest := []) hE hml hH mc_X2_49 (c_Lx_cut l z G hX iv2 jv2 B n p k _ hTx2 (by omega) (by omega) h3 rfl) (hX.2.1.1) (hX.2.1.2) (by decide) rfl ⟨Nat.le_of_ble_eq_true rfl, Nat.le_of_ble_eq_true rfl⟩ rfl hl.1 (by simp [Value.category]) dX2_open_40 ⟨Nat.le_of_ble_eq_true rfl, Nat.le_of_ble_eq_true rfl⟩ (fun r40 G40 iv40 jv40 H locs hp40 hH => ?_)
      obtain ⟨rfl, rfl, hiv40, hjv40⟩ := hp40
      have hFr2 : Fr iv iv40 pL := by rw [hiv40]; exact Fr.up (Fr.up (Fr.up hFr (Or.inr (Or.inl rfl))) (Or.inr (Or.inr rfl))) (Or.inl rfl)
      have hFj2 : FrJ jv jv40 qL' := by rw [hjv40]; exact FrJ.up hFj (Or.inl rfl)
      have htk2 : tkN B n (k + 1) = tokAt B n (rowE (fun i => isWS (B i)) n p) := by show nx B n (tkN B n k) = _; rw [htt]; rfl
      have hLT2 : LXT iv40 jv40 B n (k + 1) := by
        refine LXT.add hLT (fun j => ?_) (fun j => ?_) (fun j => ?_)
        · rw [hiv40, up2_l (by decide), up2_l (by decide), htt, kdT_1 rfl]; rfl
        · rw [hiv40, up2_l (by decide), htt]; by_cases h : j = k
          · subst h; rw [up2_s, up2_s]; rfl
          · rw [up2_k h, up2_k h, up2_k h]
        · rw [hjv40, htt]; rfl
      refine lv_istore (lv' := [(4, .int (nI (rowE (fun i => isWS (B i)) n p))), (5, .int (sbI (B p))), (0, .ref (G.ad 103)), (1, .ref (G.ad 101)), (2, .int (nI n)), (3, .int (nI n))]) hE.1 hE.2.1 dX2_open_43 hl (by decide) rfl (fun ls hl => ?_)
      refine lv_goto (tgt := 138) hE.1 hE.2.1 dX2_open_45 (by decide) ?_
      refine lv_goto (tgt := 15) hE.1 hE.2.1 dX2_open_138 (by decide) ?_
      exact ih15 (iv40, jv40, rowE (fun i => isWS (B i)) n p, k + 1) _ _ _ (show n - rowE (fun i => isWS (B i)) n p < n - p by omega) ⟨by show rowE (fun i => isWS (B i)) n p ≤ n; omega, by show k + 1 ≤ rowE (fun i => isWS (B i)) n p; omega, by dsimp only; rw [hiv40]; rfl, hLT2, htk2, hFr2, hFj2⟩ (lv_sub hl [2, 3, 4, 5, 0] rfl) hH
